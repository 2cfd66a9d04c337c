theorem pz_X11_kind_X40 : ∀ x ∈ wsX40, x ∈ wsX11_kind := fun _ h => (List.mem_cons_of_mem _ (List.mem_append_right _ h))
theorem pz_X11_kind_X110 : ∀ x ∈ wsX110, x ∈ wsX11_kind := fun _ h => (List.mem_cons_of_mem _ (List.mem_append_left _ (List.mem_append_right _ h)))
theorem pz_X11_degree_X11_degree_r1 : ∀ x ∈ wsX11_degree_r1, x ∈ wsX11_degree := fun _ h => (List.mem_cons_of_mem _ (List.mem_append_left _ (List.mem_append_left _ (List.mem_append_left _ h))))
theorem pz_X11_degree_X40 : ∀ x ∈ wsX40, x ∈ wsX11_degree := fun _ h => (List.mem_cons_of_mem _ (List.mem_append_right _ h))
theorem pz_X11_degree_X110 : ∀ x ∈ wsX110, x ∈ wsX11_degree := fun _ h => (List.mem_cons_of_mem _ (List.mem_append_left _ (List.mem_append_right _ h)))
theorem pz_X11_degree_X11_degree_r2 : ∀ x ∈ wsX11_degree_r2, x ∈ wsX11_degree := fun _ h => (List.mem_cons_of_mem _ (List.mem_append_left _ (List.mem_append_left _ (List.mem_append_right _ h))))
theorem pz_X11_sound_X11_sound_r2 : ∀ x ∈ wsX11_sound_r2, x ∈ wsX11_sound := fun _ h => (List.mem_cons_of_mem _ (List.mem_append_left _ (List.mem_append_left _ (List.mem_append_left _ (List.mem_append_left _ (List.mem_append_right _ (List.mem_append_left _ h)))))))
theorem pz_X11_sound_X11_sound_r1 : ∀ x ∈ wsX11_sound_r1, x ∈ wsX11_sound := fun _ h => (List.mem_cons_of_mem _ (List.mem_append_left _ (List.mem_append_left _ (List.mem_append_left _ (List.mem_append_left _ (List.mem_append_left _ h))))))
theorem pz_X11_sound_X11_sound_r3 : ∀ x ∈ wsX11_sound_r3, x ∈ wsX11_sound := fun _ h => (List.mem_cons_of_mem _ (List.mem_append_left _ (List.mem_append_left _ (List.mem_append_left _ (List.mem_append_left _ (List.mem_append_right _ (List.mem_append_right _ h)))))))
theorem pz_X11_sound_X90 : ∀ x ∈ wsX90, x ∈ wsX11_sound := fun _ h => (List.mem_cons_of_mem _ (List.mem_append_left _ (List.mem_append_left _ (List.mem_append_right _ h))))
theorem pz_X11_sound_X40 : ∀ x ∈ wsX40, x ∈ wsX11_sound := fun _ h => (List.mem_cons_of_mem _ (List.mem_append_left _ (List.mem_append_right _ h)))
theorem pz_X11_sound_X30 : ∀ x ∈ wsX30, x ∈ wsX11_sound := fun _ h => (List.mem_cons_of_mem _ (List.mem_append_right _ h))
theorem pz_X11_hole_X11_hole_r2 : ∀ x ∈ wsX11_hole_r2, x ∈ wsX11_hole := fun _ h => (List.mem_cons_of_mem _ (List.mem_append_left _ (List.mem_append_left _ (List.mem_append_left _ (List.mem_append_left _ (List.mem_append_right _ (List.mem_append_left _ h)))))))
theorem pz_X11_hole_X11_hole_r1 : ∀ x ∈ wsX11_hole_r1, x ∈ wsX11_hole := fun _ h => (List.mem_cons_of_mem _ (List.mem_append_left _ (List.mem_append_left _ (List.mem_append_left _ (List.mem_append_left _ (List.mem_append_left _ h))))))
theorem pz_X11_hole_X11_hole_r3 : ∀ x ∈ wsX11_hole_r3, x ∈ wsX11_hole := fun _ h => (List.mem_cons_of_mem _ (List.mem_append_left _ (List.mem_append_left _ (List.mem_append_left _ (List.mem_append_left _ (List.mem_append_right _ (List.mem_append_right _ h)))))))
theorem pz_X11_hole_X90 : ∀ x ∈ wsX90, x ∈ wsX11_hole := fun _ h => (List.mem_cons_of_mem _ (List.mem_append_left _ (List.mem_append_left _ (List.mem_append_right _ h))))
theorem pz_X11_hole_X40 : ∀ x ∈ wsX40, x ∈ wsX11_hole := fun _ h => (List.mem_cons_of_mem _ (List.mem_append_left _ (List.mem_append_right _ h)))
theorem pz_X11_hole_X30 : ∀ x ∈ wsX30, x ∈ wsX11_hole := fun _ h => (List.mem_cons_of_mem _ (List.mem_append_right _ h))
theorem pz_X11_fromTable_X11_fromTable_r2 : ∀ x ∈ wsX11_fromTable_r2, x ∈ wsX11_fromTable := fun _ h => (List.mem_cons_of_mem _ (List.mem_append_left _ (List.mem_append_left _ (List.mem_append_left _ (List.mem_append_left _ (List.mem_append_right _ h))))))
theorem pz_X11_fromTable_X11_fromTable_r1 : ∀ x ∈ wsX11_fromTable_r1, x ∈ wsX11_fromTable := fun _ h => (List.mem_cons_of_mem _ (List.mem_append_left _ (List.mem_append_left _ (List.mem_append_left _ (List.mem_append_left _ (List.mem_append_left _ h))))))
theorem pz_X11_fromTable_X110 : ∀ x ∈ wsX110, x ∈ wsX11_fromTable := fun _ h => (List.mem_cons_of_mem _ (List.mem_append_left _ (List.mem_append_left _ (List.mem_append_left _ (List.mem_append_right _ h)))))
theorem pz_X11_fromTable_X40 : ∀ x ∈ wsX40, x ∈ wsX11_fromTable := fun _ h => (List.mem_cons_of_mem _ (List.mem_append_left _ (List.mem_append_right _ h)))
theorem pz_X11_fromTable_X60 : ∀ x ∈ wsX60, x ∈ wsX11_fromTable := fun _ h => (List.mem_cons_of_mem _ (List.mem_append_right _ h))
theorem pz_X11_turn_X11_turn_r1 : ∀ x ∈ wsX11_turn_r1, x ∈ wsX11_turn := fun _ h => (List.mem_cons_of_mem _ (List.mem_append_left _ (List.mem_append_left _ (List.mem_append_left _ (List.mem_append_left _ h)))))
theorem pz_X11_turn_X40 : ∀ x ∈ wsX40, x ∈ wsX11_turn := fun _ h => (List.mem_cons_of_mem _ (List.mem_append_left _ (List.mem_append_right _ h)))
theorem pz_X11_turn_X60 : ∀ x ∈ wsX60, x ∈ wsX11_turn := fun _ h => (List.mem_cons_of_mem _ (List.mem_append_right _ h))
theorem pz_X11_turn_X11_turn_r2 : ∀ x ∈ wsX11_turn_r2, x ∈ wsX11_turn := fun _ h => (List.mem_cons_of_mem _ (List.mem_append_left _ (List.mem_append_left _ (List.mem_append_left _ (List.mem_append_right _ h)))))
theorem pz_X11_draft_X40 : ∀ x ∈ wsX40, x ∈ wsX11_draft := fun _ h => (List.mem_cons_of_mem _ (List.mem_append_right _ h))
theorem pz_X11_draft_X60 : ∀ x ∈ wsX60, x ∈ wsX11_draft := fun _ h => (List.mem_cons_of_mem _ (List.mem_append_left _ (List.mem_append_right _ h)))
theorem pz_X11_take_X11_take_r1 : ∀ x ∈ wsX11_take_r1, x ∈ wsX11_take := fun _ h => (List.mem_cons_of_mem _ (List.mem_append_left _ (List.mem_append_left _ (List.mem_append_left _ (List.mem_append_left _ (List.mem_append_left _ h))))))
theorem pz_X11_take_X60 : ∀ x ∈ wsX60, x ∈ wsX11_take := fun _ h => (List.mem_cons_of_mem _ (List.mem_append_left _ (List.mem_append_left _ (List.mem_append_right _ h))))
theorem pz_X11_take_X40 : ∀ x ∈ wsX40, x ∈ wsX11_take := fun _ h => (List.mem_cons_of_mem _ (List.mem_append_left _ (List.mem_append_right _ h)))
theorem pz_X11_take_X11_take_r2 : ∀ x ∈ wsX11_take_r2, x ∈ wsX11_take := fun _ h => (List.mem_cons_of_mem _ (List.mem_append_left _ (List.mem_append_left _ (List.mem_append_left _ (List.mem_append_left _ (List.mem_append_right _ (List.mem_append_left _ h)))))))
theorem pz_X11_take_X11_take_r3 : ∀ x ∈ wsX11_take_r3, x ∈ wsX11_take := fun _ h => (List.mem_cons_of_mem _ (List.mem_append_left _ (List.mem_append_left _ (List.mem_append_left _ (List.mem_append_left _ (List.mem_append_right _ (List.mem_append_right _ h)))))))
theorem pz_X11_take_X30 : ∀ x ∈ wsX30, x ∈ wsX11_take := fun _ h => (List.mem_cons_of_mem _ (List.mem_append_right _ h))
theorem pz_X11_rule_X11_rule_r2 : ∀ x ∈ wsX11_rule_r2, x ∈ wsX11_rule := fun _ h => (List.mem_cons_of_mem _ (List.mem_append_left _ (List.mem_append_left _ (List.mem_append_left _ (List.mem_append_left _ (List.mem_append_right _ (List.mem_append_left _ h)))))))
theorem pz_X11_rule_X11_rule_r1 : ∀ x ∈ wsX11_rule_r1, x ∈ wsX11_rule := fun _ h => (List.mem_cons_of_mem _ (List.mem_append_left _ (List.mem_append_left _ (List.mem_append_left _ (List.mem_append_left _ (List.mem_append_left _ h))))))
theorem pz_X11_rule_X11_rule_r3 : ∀ x ∈ wsX11_rule_r3, x ∈ wsX11_rule := fun _ h => (List.mem_cons_of_mem _ (List.mem_append_left _ (List.mem_append_left _ (List.mem_append_left _ (List.mem_append_left _ (List.mem_append_right _ (List.mem_append_right _ (List.mem_append_left _ h))))))))
theorem pz_X11_rule_X11_rule_r4 : ∀ x ∈ wsX11_rule_r4, x ∈ wsX11_rule := fun _ h => (List.mem_cons_of_mem _ (List.mem_append_left _ (List.mem_append_left _ (List.mem_append_left _ (List.mem_append_left _ (List.mem_append_right _ (List.mem_append_right _ (List.mem_append_right _ h))))))))
theorem pz_X11_rule_X60 : ∀ x ∈ wsX60, x ∈ wsX11_rule := fun _ h => (List.mem_cons_of_mem _ (List.mem_append_left _ (List.mem_append_left _ (List.mem_append_right _ h))))
theorem pz_X11_rule_X40 : ∀ x ∈ wsX40, x ∈ wsX11_rule := fun _ h => (List.mem_cons_of_mem _ (List.mem_append_left _ (List.mem_append_right _ h)))
theorem pz_X11_rule_X30 : ∀ x ∈ wsX30, x ∈ wsX11_rule := fun _ h => (List.mem_cons_of_mem _ (List.mem_append_right _ h))
theorem pz_X11_least_X11_least_r2 : ∀ x ∈ wsX11_least_r2, x ∈ wsX11_least := fun _ h => (List.mem_cons_of_mem _ (List.mem_append_left _ (List.mem_append_left _ (List.mem_append_left _ (List.mem_append_left _ (List.mem_append_left _ (List.mem_append_right _ (List.mem_append_left _ h))))))))
theorem pz_X11_least_X11_least_r1 : ∀ x ∈ wsX11_least_r1, x ∈ wsX11_least := fun _ h => (List.mem_cons_of_mem _ (List.mem_append_left _ (List.mem_append_left _ (List.mem_append_left _ (List.mem_append_left _ (List.mem_append_left _ (List.mem_append_left _ h)))))))
theorem pz_X11_least_X11_least_r3 : ∀ x ∈ wsX11_least_r3, x ∈ wsX11_least := fun _ h => (List.mem_cons_of_mem _ (List.mem_append_left _ (List.mem_append_left _ (List.mem_append_left _ (List.mem_append_left _ (List.mem_append_left _ (List.mem_append_right _ (List.mem_append_right _ (List.mem_append_left _ h)))))))))
theorem pz_X11_least_X11_least_r4 : ∀ x ∈ wsX11_least_r4, x ∈ wsX11_least := fun _ h => (List.mem_cons_of_mem _ (List.mem_append_left _ (List.mem_append_left _ (List.mem_append_left _ (List.mem_append_left _ (List.mem_append_left _ (List.mem_append_right _ (List.mem_append_right _ (List.mem_append_right _ (List.mem_append_left _ h))))))))))
theorem pz_X11_least_X11_least_r5 : ∀ x ∈ wsX11_least_r5, x ∈ wsX11_least := fun _ h => (List.mem_cons_of_mem _ (List.mem_append_left _ (List.mem_append_left _ (List.mem_append_left _ (List.mem_append_left _ (List.mem_append_left _ (List.mem_append_right _ (List.mem_append_right _ (List.mem_append_right _ (List.mem_append_right _ (List.mem_append_left _ h)))))))))))
theorem pz_X11_least_X11_least_r6 : ∀ x ∈ wsX11_least_r6, x ∈ wsX11_least := fun _ h => (List.mem_cons_of_mem _ (List.mem_append_left _ (List.mem_append_left _ (List.mem_append_left _ (List.mem_append_left _ (List.mem_append_left _ (List.mem_append_right _ (List.mem_append_right _ (List.mem_append_right _ (List.mem_append_right _ (List.mem_append_right _ h)))))))))))
theorem pz_X11_least_X60 : ∀ x ∈ wsX60, x ∈ wsX11_least := fun _ h => (List.mem_cons_of_mem _ (List.mem_append_left _ (List.mem_append_left _ (List.mem_append_left _ (List.mem_append_right _ h)))))
theorem pz_X11_least_X40 : ∀ x ∈ wsX40, x ∈ wsX11_least := fun _ h => (List.mem_cons_of_mem _ (List.mem_append_left _ (List.mem_append_left _ (List.mem_append_right _ h))))
theorem pz_X11_least_X30 : ∀ x ∈ wsX30, x ∈ wsX11_least := fun _ h => (List.mem_cons_of_mem _ (List.mem_append_left _ (List.mem_append_right _ h)))
theorem pz_X11_least_X50 : ∀ x ∈ wsX50, x ∈ wsX11_least := fun _ h => (List.mem_cons_of_mem _ (List.mem_append_right _ h))
theorem pz_X11_order_X60 : ∀ x ∈ wsX60, x ∈ wsX11_order := fun _ h => (List.mem_cons_of_mem _ (List.mem_append_right _ h))
theorem pz_X11_fill_X11_fill_r2 : ∀ x ∈ wsX11_fill_r2, x ∈ wsX11_fill := fun _ h => (List.mem_cons_of_mem _ (List.mem_append_left _ (List.mem_append_left _ (List.mem_append_left _ (List.mem_append_left _ (List.mem_append_right _ h))))))
theorem pz_X11_fill_X11_fill_r1 : ∀ x ∈ wsX11_fill_r1, x ∈ wsX11_fill := fun _ h => (List.mem_cons_of_mem _ (List.mem_append_left _ (List.mem_append_left _ (List.mem_append_left _ (List.mem_append_left _ (List.mem_append_left _ h))))))
theorem pz_X11_fill_X60 : ∀ x ∈ wsX60, x ∈ wsX11_fill := fun _ h => (List.mem_cons_of_mem _ (List.mem_append_left _ (List.mem_append_left _ (List.mem_append_right _ h))))
theorem pz_X11_fill_X30 : ∀ x ∈ wsX30, x ∈ wsX11_fill := fun _ h => (List.mem_cons_of_mem _ (List.mem_append_left _ (List.mem_append_right _ h)))
theorem pz_X11_fill_X40 : ∀ x ∈ wsX40, x ∈ wsX11_fill := fun _ h => (List.mem_cons_of_mem _ (List.mem_append_right _ h))
theorem pz_X11_clique_X11_clique_r2 : ∀ x ∈ wsX11_clique_r2, x ∈ wsX11_clique := fun _ h => (List.mem_cons_of_mem _ (List.mem_append_left _ (List.mem_append_left _ (List.mem_append_left _ (List.mem_append_right _ h)))))
theorem pz_X11_clique_X11_clique_r1 : ∀ x ∈ wsX11_clique_r1, x ∈ wsX11_clique := fun _ h => (List.mem_cons_of_mem _ (List.mem_append_left _ (List.mem_append_left _ (List.mem_append_left _ (List.mem_append_left _ h)))))
theorem pz_X11_clique_X10 : ∀ x ∈ wsX10, x ∈ wsX11_clique := fun _ h => (List.mem_cons_of_mem _ (List.mem_append_left _ (List.mem_append_right _ h)))
theorem pz_X11_clique_X40 : ∀ x ∈ wsX40, x ∈ wsX11_clique := fun _ h => (List.mem_cons_of_mem _ (List.mem_append_right _ h))
theorem pz_X11_greatest_X11_greatest_r2 : ∀ x ∈ wsX11_greatest_r2, x ∈ wsX11_greatest := fun _ h => (List.mem_cons_of_mem _ (List.mem_append_left _ (List.mem_append_left _ (List.mem_append_left _ (List.mem_append_right _ h)))))
theorem pz_X11_greatest_X11_greatest_r1 : ∀ x ∈ wsX11_greatest_r1, x ∈ wsX11_greatest := fun _ h => (List.mem_cons_of_mem _ (List.mem_append_left _ (List.mem_append_left _ (List.mem_append_left _ (List.mem_append_left _ h)))))
theorem pz_X11_greatest_X10 : ∀ x ∈ wsX10, x ∈ wsX11_greatest := fun _ h => (List.mem_cons_of_mem _ (List.mem_append_left _ (List.mem_append_right _ h)))
theorem pz_X11_greatest_X40 : ∀ x ∈ wsX40, x ∈ wsX11_greatest := fun _ h => (List.mem_cons_of_mem _ (List.mem_append_right _ h))
theorem pz_X11_sort_X40 : ∀ x ∈ wsX40, x ∈ wsX11_sort := fun _ h => (List.mem_cons_of_mem _ (List.mem_append_right _ h))
theorem pz_X11_colour_X11_colour_r1 : ∀ x ∈ wsX11_colour_r1, x ∈ wsX11_colour := fun _ h => (List.mem_cons_of_mem _ (List.mem_append_left _ (List.mem_append_left _ (List.mem_append_left _ (List.mem_append_left _ (List.mem_append_left _ h))))))
theorem pz_X11_colour_X40 : ∀ x ∈ wsX40, x ∈ wsX11_colour := fun _ h => (List.mem_cons_of_mem _ (List.mem_append_left _ (List.mem_append_right _ h)))
theorem pz_X11_colour_X11_colour_r2 : ∀ x ∈ wsX11_colour_r2, x ∈ wsX11_colour := fun _ h => (List.mem_cons_of_mem _ (List.mem_append_left _ (List.mem_append_left _ (List.mem_append_left _ (List.mem_append_left _ (List.mem_append_right _ (List.mem_append_left _ h)))))))
theorem pz_X11_colour_X10 : ∀ x ∈ wsX10, x ∈ wsX11_colour := fun _ h => (List.mem_cons_of_mem _ (List.mem_append_right _ h))
theorem pz_X11_colour_X11_colour_r3 : ∀ x ∈ wsX11_colour_r3, x ∈ wsX11_colour := fun _ h => (List.mem_cons_of_mem _ (List.mem_append_left _ (List.mem_append_left _ (List.mem_append_left _ (List.mem_append_left _ (List.mem_append_right _ (List.mem_append_right _ h)))))))
theorem pz_X11_colour_X70 : ∀ x ∈ wsX70, x ∈ wsX11_colour := fun _ h => (List.mem_cons_of_mem _ (List.mem_append_left _ (List.mem_append_left _ (List.mem_append_right _ h))))
theorem pz_X11_apart_X11_apart_r2 : ∀ x ∈ wsX11_apart_r2, x ∈ wsX11_apart := fun _ h => (List.mem_cons_of_mem _ (List.mem_append_left _ (List.mem_append_left _ (List.mem_append_left _ (List.mem_append_right _ h)))))
theorem pz_X11_apart_X11_apart_r1 : ∀ x ∈ wsX11_apart_r1, x ∈ wsX11_apart := fun _ h => (List.mem_cons_of_mem _ (List.mem_append_left _ (List.mem_append_left _ (List.mem_append_left _ (List.mem_append_left _ h)))))
theorem pz_X11_apart_X10 : ∀ x ∈ wsX10, x ∈ wsX11_apart := fun _ h => (List.mem_cons_of_mem _ (List.mem_append_left _ (List.mem_append_right _ h)))
theorem pz_X11_apart_X40 : ∀ x ∈ wsX40, x ∈ wsX11_apart := fun _ h => (List.mem_cons_of_mem _ (List.mem_append_right _ h))
theorem pz_X11_tree_X11_tree_r2 : ∀ x ∈ wsX11_tree_r2, x ∈ wsX11_tree := fun _ h => (List.mem_cons_of_mem _ (List.mem_append_left _ (List.mem_append_left _ (List.mem_append_left _ (List.mem_append_left _ (List.mem_append_left _ (List.mem_append_right _ (List.mem_append_left _ h))))))))
theorem pz_X11_tree_X11_tree_r1 : ∀ x ∈ wsX11_tree_r1, x ∈ wsX11_tree := fun _ h => (List.mem_cons_of_mem _ (List.mem_append_left _ (List.mem_append_left _ (List.mem_append_left _ (List.mem_append_left _ (List.mem_append_left _ (List.mem_append_left _ h)))))))
theorem pz_X11_tree_X10 : ∀ x ∈ wsX10, x ∈ wsX11_tree := fun _ h => (List.mem_cons_of_mem _ (List.mem_append_left _ (List.mem_append_left _ (List.mem_append_right _ h))))
theorem pz_X11_tree_X40 : ∀ x ∈ wsX40, x ∈ wsX11_tree := fun _ h => (List.mem_cons_of_mem _ (List.mem_append_left _ (List.mem_append_right _ h)))
theorem pz_X11_tree_X11_tree_r3 : ∀ x ∈ wsX11_tree_r3, x ∈ wsX11_tree := fun _ h => (List.mem_cons_of_mem _ (List.mem_append_left _ (List.mem_append_left _ (List.mem_append_left _ (List.mem_append_left _ (List.mem_append_left _ (List.mem_append_right _ (List.mem_append_right _ (List.mem_append_left _ h)))))))))
theorem pz_X11_tree_X11_tree_r4 : ∀ x ∈ wsX11_tree_r4, x ∈ wsX11_tree := fun _ h => (List.mem_cons_of_mem _ (List.mem_append_left _ (List.mem_append_left _ (List.mem_append_left _ (List.mem_append_left _ (List.mem_append_left _ (List.mem_append_right _ (List.mem_append_right _ (List.mem_append_right _ (List.mem_append_left _ h))))))))))
theorem pz_X11_tree_X90 : ∀ x ∈ wsX90, x ∈ wsX11_tree := fun _ h => (List.mem_cons_of_mem _ (List.mem_append_left _ (List.mem_append_left _ (List.mem_append_left _ (List.mem_append_right _ h)))))
theorem pz_X11_tree_X30 : ∀ x ∈ wsX30, x ∈ wsX11_tree := fun _ h => (List.mem_cons_of_mem _ (List.mem_append_right _ h))
theorem pz_X11_tree_X11_tree_r5 : ∀ x ∈ wsX11_tree_r5, x ∈ wsX11_tree := fun _ h => (List.mem_cons_of_mem _ (List.mem_append_left _ (List.mem_append_left _ (List.mem_append_left _ (List.mem_append_left _ (List.mem_append_left _ (List.mem_append_right _ (List.mem_append_right _ (List.mem_append_right _ (List.mem_append_right _ h))))))))))
theorem pz_X11_part_X11_part_r1 : ∀ x ∈ wsX11_part_r1, x ∈ wsX11_part := fun _ h => (List.mem_cons_of_mem _ (List.mem_append_left _ (List.mem_append_left _ (List.mem_append_left _ (List.mem_append_left _ h)))))
theorem pz_X11_part_X40 : ∀ x ∈ wsX40, x ∈ wsX11_part := fun _ h => (List.mem_cons_of_mem _ (List.mem_append_right _ h))
theorem pz_X11_part_X11_part_r2 : ∀ x ∈ wsX11_part_r2, x ∈ wsX11_part := fun _ h => (List.mem_cons_of_mem _ (List.mem_append_left _ (List.mem_append_left _ (List.mem_append_left _ (List.mem_append_right _ (List.mem_append_left _ h))))))
theorem pz_X11_part_X11_part_r3 : ∀ x ∈ wsX11_part_r3, x ∈ wsX11_part := fun _ h => (List.mem_cons_of_mem _ (List.mem_append_left _ (List.mem_append_left _ (List.mem_append_left _ (List.mem_append_right _ (List.mem_append_right _ h))))))
theorem pz_X11_part_X80 : ∀ x ∈ wsX80, x ∈ wsX11_part := fun _ h => (List.mem_cons_of_mem _ (List.mem_append_left _ (List.mem_append_right _ h)))
theorem pz_X11_line_X11_line_r2 : ∀ x ∈ wsX11_line_r2, x ∈ wsX11_line := fun _ h => (List.mem_cons_of_mem _ (List.mem_append_left _ (List.mem_append_left _ (List.mem_append_left _ (List.mem_append_left _ (List.mem_append_right _ (List.mem_append_left _ h)))))))
theorem pz_X11_line_X11_line_r1 : ∀ x ∈ wsX11_line_r1, x ∈ wsX11_line := fun _ h => (List.mem_cons_of_mem _ (List.mem_append_left _ (List.mem_append_left _ (List.mem_append_left _ (List.mem_append_left _ (List.mem_append_left _ h))))))
theorem pz_X11_line_X11_line_r3 : ∀ x ∈ wsX11_line_r3, x ∈ wsX11_line := fun _ h => (List.mem_cons_of_mem _ (List.mem_append_left _ (List.mem_append_left _ (List.mem_append_left _ (List.mem_append_left _ (List.mem_append_right _ (List.mem_append_right _ (List.mem_append_left _ h))))))))
theorem pz_X11_line_X11_line_r4 : ∀ x ∈ wsX11_line_r4, x ∈ wsX11_line := fun _ h => (List.mem_cons_of_mem _ (List.mem_append_left _ (List.mem_append_left _ (List.mem_append_left _ (List.mem_append_left _ (List.mem_append_right _ (List.mem_append_right _ (List.mem_append_right _ h))))))))
theorem pz_X11_line_X110 : ∀ x ∈ wsX110, x ∈ wsX11_line := fun _ h => (List.mem_cons_of_mem _ (List.mem_append_left _ (List.mem_append_left _ (List.mem_append_left _ (List.mem_append_right _ h)))))
theorem pz_X11_line_X00 : ∀ x ∈ wsX00, x ∈ wsX11_line := fun _ h => (List.mem_cons_of_mem _ (List.mem_append_left _ (List.mem_append_left _ (List.mem_append_right _ h))))
theorem pz_X11_line_X40 : ∀ x ∈ wsX40, x ∈ wsX11_line := fun _ h => (List.mem_cons_of_mem _ (List.mem_append_left _ (List.mem_append_right _ h)))
theorem pz_X11_line_X10 : ∀ x ∈ wsX10, x ∈ wsX11_line := fun _ h => (List.mem_cons_of_mem _ (List.mem_append_right _ h))
theorem pz_X11_span_X11_span_r1 : ∀ x ∈ wsX11_span_r1, x ∈ wsX11_span := fun _ h => (List.mem_cons_of_mem _ (List.mem_append_left _ (List.mem_append_left _ (List.mem_append_left _ (List.mem_append_left _ (List.mem_append_left _ h))))))
theorem pz_X11_span_X40 : ∀ x ∈ wsX40, x ∈ wsX11_span := fun _ h => (List.mem_cons_of_mem _ (List.mem_append_left _ (List.mem_append_right _ h)))
theorem pz_X11_span_X11_span_r2 : ∀ x ∈ wsX11_span_r2, x ∈ wsX11_span := fun _ h => (List.mem_cons_of_mem _ (List.mem_append_left _ (List.mem_append_left _ (List.mem_append_left _ (List.mem_append_left _ (List.mem_append_right _ (List.mem_append_left _ h)))))))
theorem pz_X11_span_X11_span_r3 : ∀ x ∈ wsX11_span_r3, x ∈ wsX11_span := fun _ h => (List.mem_cons_of_mem _ (List.mem_append_left _ (List.mem_append_left _ (List.mem_append_left _ (List.mem_append_left _ (List.mem_append_right _ (List.mem_append_right _ (List.mem_append_left _ h))))))))
theorem pz_X11_span_X11_span_r4 : ∀ x ∈ wsX11_span_r4, x ∈ wsX11_span := fun _ h => (List.mem_cons_of_mem _ (List.mem_append_left _ (List.mem_append_left _ (List.mem_append_left _ (List.mem_append_left _ (List.mem_append_right _ (List.mem_append_right _ (List.mem_append_right _ h))))))))
theorem pz_X11_span_X110 : ∀ x ∈ wsX110, x ∈ wsX11_span := fun _ h => (List.mem_cons_of_mem _ (List.mem_append_left _ (List.mem_append_left _ (List.mem_append_left _ (List.mem_append_right _ h)))))
theorem pz_X11_span_X00 : ∀ x ∈ wsX00, x ∈ wsX11_span := fun _ h => (List.mem_cons_of_mem _ (List.mem_append_left _ (List.mem_append_left _ (List.mem_append_right _ h))))
theorem pz_X11_span_X10 : ∀ x ∈ wsX10, x ∈ wsX11_span := fun _ h => (List.mem_cons_of_mem _ (List.mem_append_right _ h))
theorem pz_X11_far_X11_far_r2 : ∀ x ∈ wsX11_far_r2, x ∈ wsX11_far := fun _ h => (List.mem_cons_of_mem _ (List.mem_append_left _ (List.mem_append_left _ (List.mem_append_left _ (List.mem_append_right _ h)))))
theorem pz_X11_far_X11_far_r1 : ∀ x ∈ wsX11_far_r1, x ∈ wsX11_far := fun _ h => (List.mem_cons_of_mem _ (List.mem_append_left _ (List.mem_append_left _ (List.mem_append_left _ (List.mem_append_left _ h)))))
theorem pz_X11_far_X20 : ∀ x ∈ wsX20, x ∈ wsX11_far := fun _ h => (List.mem_cons_of_mem _ (List.mem_append_left _ (List.mem_append_right _ h)))
theorem pz_X11_far_X40 : ∀ x ∈ wsX40, x ∈ wsX11_far := fun _ h => (List.mem_cons_of_mem _ (List.mem_append_right _ h))
theorem pz_X11_columns_X110 : ∀ x ∈ wsX110, x ∈ wsX11_columns := fun _ h => (List.mem_cons_of_mem _ (List.mem_append_left _ (List.mem_append_right _ h)))
theorem pz_X11_columns_X100 : ∀ x ∈ wsX100, x ∈ wsX11_columns := fun _ h => (List.mem_cons_of_mem _ (List.mem_append_right _ h))
theorem pz_X11_row_X110 : ∀ x ∈ wsX110, x ∈ wsX11_row := fun _ h => (List.mem_cons_of_mem _ (List.mem_append_left _ (List.mem_append_right _ h)))
theorem pz_X11_row_X100 : ∀ x ∈ wsX100, x ∈ wsX11_row := fun _ h => (List.mem_cons_of_mem _ (List.mem_append_right _ h))
theorem pz_X11_told_X110 : ∀ x ∈ wsX110, x ∈ wsX11_told := fun _ h => (List.mem_cons_of_mem _ (List.mem_append_left _ (List.mem_append_right _ h)))
theorem pz_X11_tear_X110 : ∀ x ∈ wsX110, x ∈ wsX11_tear := fun _ h => (List.mem_cons_of_mem _ (List.mem_append_left _ (List.mem_append_right _ h)))
theorem pz_X11_tear_X100 : ∀ x ∈ wsX100, x ∈ wsX11_tear := fun _ h => (List.mem_cons_of_mem _ (List.mem_append_right _ h))
theorem pz_X11_copy_X110 : ∀ x ∈ wsX110, x ∈ wsX11_copy := fun _ h => (List.mem_cons_of_mem _ (List.mem_append_left _ (List.mem_append_right _ h)))
theorem pz_X11_copy_X100 : ∀ x ∈ wsX100, x ∈ wsX11_copy := fun _ h => (List.mem_cons_of_mem _ (List.mem_append_right _ h))
theorem pz_X11_seatings_X11_seatings_r2 : ∀ x ∈ wsX11_seatings_r2, x ∈ wsX11_seatings := fun _ h => (List.mem_cons_of_mem _ (List.mem_append_left _ (List.mem_append_left _ (List.mem_append_left _ (List.mem_append_right _ h)))))
theorem pz_X11_seatings_X11_seatings_r1 : ∀ x ∈ wsX11_seatings_r1, x ∈ wsX11_seatings := fun _ h => (List.mem_cons_of_mem _ (List.mem_append_left _ (List.mem_append_left _ (List.mem_append_left _ (List.mem_append_left _ h)))))
theorem pz_X11_seatings_X110 : ∀ x ∈ wsX110, x ∈ wsX11_seatings := fun _ h => (List.mem_cons_of_mem _ (List.mem_append_left _ (List.mem_append_left _ (List.mem_append_right _ h))))
theorem pz_X11_seatings_X00 : ∀ x ∈ wsX00, x ∈ wsX11_seatings := fun _ h => (List.mem_cons_of_mem _ (List.mem_append_left _ (List.mem_append_right _ h)))
theorem pz_X11_seatings_X100 : ∀ x ∈ wsX100, x ∈ wsX11_seatings := fun _ h => (List.mem_cons_of_mem _ (List.mem_append_right _ h))
theorem pz_X11_seat_X11_seat_r2 : ∀ x ∈ wsX11_seat_r2, x ∈ wsX11_seat := fun _ h => (List.mem_cons_of_mem _ (List.mem_append_left _ (List.mem_append_left _ (List.mem_append_left _ (List.mem_append_right _ h)))))
theorem pz_X11_seat_X11_seat_r1 : ∀ x ∈ wsX11_seat_r1, x ∈ wsX11_seat := fun _ h => (List.mem_cons_of_mem _ (List.mem_append_left _ (List.mem_append_left _ (List.mem_append_left _ (List.mem_append_left _ h)))))
theorem pz_X11_seat_X110 : ∀ x ∈ wsX110, x ∈ wsX11_seat := fun _ h => (List.mem_cons_of_mem _ (List.mem_append_left _ (List.mem_append_left _ (List.mem_append_right _ h))))
theorem pz_X11_seat_X00 : ∀ x ∈ wsX00, x ∈ wsX11_seat := fun _ h => (List.mem_cons_of_mem _ (List.mem_append_left _ (List.mem_append_right _ h)))
theorem pz_X11_seat_X100 : ∀ x ∈ wsX100, x ∈ wsX11_seat := fun _ h => (List.mem_cons_of_mem _ (List.mem_append_right _ h))
theorem pz_X11_count_X40 : ∀ x ∈ wsX40, x ∈ wsX11_count := fun _ h => (List.mem_cons_of_mem _ (List.mem_append_left _ (List.mem_append_left _ (List.mem_append_right _ h))))
theorem pz_X11_count_X100 : ∀ x ∈ wsX100, x ∈ wsX11_count := fun _ h => (List.mem_cons_of_mem _ (List.mem_append_left _ (List.mem_append_right _ h)))
theorem dX11_joined_24 : decode cX11_joined 24 = .ok (.ireturn, 1) := by decide +kernel
set_option maxRecDepth 20000 in
theorem ggX11_kind_X4_has : GoodIn wsX11_kind wsX4_has := goodIn_sub (gi_c 5 rfl (gi_a (gi_c 6 rfl gi_n) pz_X11_kind_X40)) (by decide +kernel)
set_option maxRecDepth 20000 in
theorem gX11_kind_X4_has_n93 : GoodIn wsX11_kind (wsX4_has) := ggX11_kind_X4_has
set_option maxRecDepth 20000 in
theorem ggX11_kind_X11_isKind : GoodIn wsX11_kind wsX11_isKind := goodIn_sub (gi_c 11 rfl (gi_a (gi_a (gi_c 1 rfl (gi_c 12 rfl (gi_c 3 rfl (gi_c 13 rfl (gi_c 14 rfl (gi_c 6 rfl (gi_c 15 rfl (gi_c 16 rfl (gi_c 10 rfl (gi_c 17 rfl (gi_c 18 rfl (gi_c 19 rfl (gi_c 20 rfl gi_n))))))))))))) pz_X11_kind_X110) pz_X11_kind_X40)) (by decide +kernel)
set_option maxRecDepth 20000 in
theorem gX11_kind_X11_isKind : GoodIn wsX11_kind (wsV RX11 111 RX11 yX11_isKind wsX11_isKind) := goodIn_app (goodIn_of _ (by decide +kernel)) ggX11_kind_X11_isKind
theorem dX11_kind_0 : decode cX11_kind 0 = .ok (.aload_n 0, 1) := by decide +kernel
theorem dX11_kind_1 : decode cX11_kind 1 = .ok (.getfield 10, 3) := by decide +kernel
theorem dX11_kind_4 : decode cX11_kind 4 = .ok (.iload_n 1, 1) := by decide +kernel
theorem dX11_kind_5 : decode cX11_kind 5 = .ok (.invokevirtual 93, 3) := by decide +kernel
theorem dX11_kind_8 : decode cX11_kind 8 = .ok (.ifCond .ne 5, 3) := by decide +kernel
theorem dX11_kind_11 : decode cX11_kind 11 = .ok (.iconst (-1), 1) := by decide +kernel
theorem dX11_kind_12 : decode cX11_kind 12 = .ok (.ireturn, 1) := by decide +kernel
theorem dX11_kind_13 : decode cX11_kind 13 = .ok (.aload_n 0, 1) := by decide +kernel
theorem dX11_kind_14 : decode cX11_kind 14 = .ok (.iload_n 1, 1) := by decide +kernel
theorem dX11_kind_15 : decode cX11_kind 15 = .ok (.iconst 2, 1) := by decide +kernel
theorem dX11_kind_16 : decode cX11_kind 16 = .ok (.invokevirtual 111, 3) := by decide +kernel
theorem dX11_kind_19 : decode cX11_kind 19 = .ok (.ifCond .eq 5, 3) := by decide +kernel
theorem dX11_kind_22 : decode cX11_kind 22 = .ok (.iconst 2, 1) := by decide +kernel
theorem dX11_kind_23 : decode cX11_kind 23 = .ok (.ireturn, 1) := by decide +kernel
theorem dX11_kind_24 : decode cX11_kind 24 = .ok (.aload_n 0, 1) := by decide +kernel
theorem dX11_kind_25 : decode cX11_kind 25 = .ok (.iload_n 1, 1) := by decide +kernel
theorem dX11_kind_26 : decode cX11_kind 26 = .ok (.iconst 1, 1) := by decide +kernel
theorem dX11_kind_27 : decode cX11_kind 27 = .ok (.invokevirtual 111, 3) := by decide +kernel
theorem dX11_kind_30 : decode cX11_kind 30 = .ok (.ifCond .eq 5, 3) := by decide +kernel
theorem dX11_kind_33 : decode cX11_kind 33 = .ok (.iconst 1, 1) := by decide +kernel
theorem dX11_kind_34 : decode cX11_kind 34 = .ok (.ireturn, 1) := by decide +kernel
theorem dX11_kind_35 : decode cX11_kind 35 = .ok (.aload_n 0, 1) := by decide +kernel
theorem dX11_kind_36 : decode cX11_kind 36 = .ok (.iload_n 1, 1) := by decide +kernel
theorem dX11_kind_37 : decode cX11_kind 37 = .ok (.iconst 3, 1) := by decide +kernel
theorem dX11_kind_38 : decode cX11_kind 38 = .ok (.invokevirtual 111, 3) := by decide +kernel
theorem dX11_kind_41 : decode cX11_kind 41 = .ok (.ifCond .eq 7, 3) := by decide +kernel
theorem dX11_kind_44 : decode cX11_kind 44 = .ok (.iconst 3, 1) := by decide +kernel
theorem dX11_kind_45 : decode cX11_kind 45 = .ok (.goto 4, 3) := by decide +kernel
theorem dX11_kind_48 : decode cX11_kind 48 = .ok (.iconst 0, 1) := by decide +kernel
theorem dX11_kind_49 : decode cX11_kind 49 = .ok (.ireturn, 1) := by decide +kernel
set_option maxRecDepth 20000 in
theorem ggX11_degree_X4_has : GoodIn wsX11_degree wsX4_has := goodIn_sub (gi_t pz_X11_degree_X11_degree_r1 4 rfl (gi_a (gi_t pz_X11_degree_X11_degree_r1 5 rfl gi_n) pz_X11_degree_X40)) (by decide +kernel)
set_option maxRecDepth 20000 in
theorem gX11_degree_X4_has_n93 : GoodIn wsX11_degree (wsX4_has) := ggX11_degree_X4_has
set_option maxRecDepth 20000 in
theorem ggX11_degree_X11_isKind : GoodIn wsX11_degree wsX11_isKind := goodIn_sub (gi_t pz_X11_degree_X11_degree_r1 10 rfl (gi_a (gi_a (gi_t pz_X11_degree_X11_degree_r1 0 rfl (gi_t pz_X11_degree_X11_degree_r1 11 rfl (gi_t pz_X11_degree_X11_degree_r1 2 rfl (gi_t pz_X11_degree_X11_degree_r1 12 rfl (gi_t pz_X11_degree_X11_degree_r1 13 rfl (gi_t pz_X11_degree_X11_degree_r1 5 rfl (gi_t pz_X11_degree_X11_degree_r1 14 rfl (gi_t pz_X11_degree_X11_degree_r1 15 rfl (gi_t pz_X11_degree_X11_degree_r1 9 rfl (gi_t pz_X11_degree_X11_degree_r1 16 rfl (gi_t pz_X11_degree_X11_degree_r1 17 rfl (gi_t pz_X11_degree_X11_degree_r1 18 rfl (gi_t pz_X11_degree_X11_degree_r1 19 rfl gi_n))))))))))))) pz_X11_degree_X110) pz_X11_degree_X40)) (by decide +kernel)
set_option maxRecDepth 20000 in
theorem gX11_degree_X11_isKind : GoodIn wsX11_degree (wsV RX11 111 RX11 yX11_isKind wsX11_isKind) := goodIn_app (goodIn_of _ (by decide +kernel)) ggX11_degree_X11_isKind
set_option maxRecDepth 20000 in
theorem ggX11_degree_X11_found : GoodIn wsX11_degree wsX11_found := goodIn_sub (gi_t pz_X11_degree_X11_degree_r1 23 rfl (gi_a (gi_t pz_X11_degree_X11_degree_r2 0 rfl (gi_t pz_X11_degree_X11_degree_r2 1 rfl gi_n)) pz_X11_degree_X110)) (by decide +kernel)
set_option maxRecDepth 20000 in
theorem gX11_degree_X11_found : GoodIn wsX11_degree (wsV RX11 114 RX11 yX11_found wsX11_found) := goodIn_app (goodIn_of _ (by decide +kernel)) ggX11_degree_X11_found
set_option maxRecDepth 20000 in
theorem ggX11_degree_J6_bitCount_0f7a4 : GoodIn wsX11_degree wsJ6_bitCount_0f7a4 := goodIn_sub (gi_t pz_X11_degree_X11_degree_r2 5 rfl (gi_t pz_X11_degree_X11_degree_r2 6 rfl (gi_t pz_X11_degree_X11_degree_r2 7 rfl (gi_t pz_X11_degree_X11_degree_r2 8 rfl gi_n)))) (by decide +kernel)
set_option maxRecDepth 20000 in
theorem gX11_degree_J6_bitCount_0f7a4 : GoodIn wsX11_degree (va_wsS RX11 118 yJ6_bitCount_0f7a4 wsJ6_bitCount_0f7a4) := goodIn_app (goodIn_of _ (by decide +kernel)) ggX11_degree_J6_bitCount_0f7a4
theorem dX11_degree_0 : decode cX11_degree 0 = .ok (.aload_n 0, 1) := by decide +kernel
theorem dX11_degree_1 : decode cX11_degree 1 = .ok (.getfield 10, 3) := by decide +kernel
theorem dX11_degree_4 : decode cX11_degree 4 = .ok (.iload_n 1, 1) := by decide +kernel
theorem dX11_degree_5 : decode cX11_degree 5 = .ok (.invokevirtual 93, 3) := by decide +kernel
theorem dX11_degree_8 : decode cX11_degree 8 = .ok (.ifCond .eq 12, 3) := by decide +kernel
theorem dX11_degree_11 : decode cX11_degree 11 = .ok (.iload_n 2, 1) := by decide +kernel
theorem dX11_degree_12 : decode cX11_degree 12 = .ok (.ifCond .lt 8, 3) := by decide +kernel
theorem dX11_degree_15 : decode cX11_degree 15 = .ok (.iload_n 2, 1) := by decide +kernel
theorem dX11_degree_16 : decode cX11_degree 16 = .ok (.iconst 3, 1) := by decide +kernel
theorem dX11_degree_17 : decode cX11_degree 17 = .ok (.if_icmp .le 5, 3) := by decide +kernel
theorem dX11_degree_20 : decode cX11_degree 20 = .ok (.iconst (-1), 1) := by decide +kernel
theorem dX11_degree_21 : decode cX11_degree 21 = .ok (.ireturn, 1) := by decide +kernel
theorem dX11_degree_22 : decode cX11_degree 22 = .ok (.aload_n 0, 1) := by decide +kernel
theorem dX11_degree_23 : decode cX11_degree 23 = .ok (.iload_n 1, 1) := by decide +kernel
theorem dX11_degree_24 : decode cX11_degree 24 = .ok (.iload_n 2, 1) := by decide +kernel
theorem dX11_degree_25 : decode cX11_degree 25 = .ok (.invokevirtual 111, 3) := by decide +kernel
theorem dX11_degree_28 : decode cX11_degree 28 = .ok (.ifCond .ne 9, 3) := by decide +kernel
theorem dX11_degree_31 : decode cX11_degree 31 = .ok (.aload_n 0, 1) := by decide +kernel
theorem dX11_degree_32 : decode cX11_degree 32 = .ok (.iconst 3, 1) := by decide +kernel
theorem dX11_degree_33 : decode cX11_degree 33 = .ok (.invokevirtual 114, 3) := by decide +kernel
theorem dX11_degree_36 : decode cX11_degree 36 = .ok (.ireturn, 1) := by decide +kernel
theorem dX11_degree_37 : decode cX11_degree 37 = .ok (.aload_n 0, 1) := by decide +kernel
theorem dX11_degree_38 : decode cX11_degree 38 = .ok (.getfield 10, 3) := by decide +kernel
theorem dX11_degree_41 : decode cX11_degree 41 = .ok (.getfield 108, 3) := by decide +kernel
theorem dX11_degree_44 : decode cX11_degree 44 = .ok (.iload_n 1, 1) := by decide +kernel
theorem dX11_degree_45 : decode cX11_degree 45 = .ok (.iaload, 1) := by decide +kernel
theorem dX11_degree_46 : decode cX11_degree 46 = .ok (.invokestatic 118, 3) := by decide +kernel
theorem dX11_degree_49 : decode cX11_degree 49 = .ok (.ireturn, 1) := by decide +kernel
set_option maxRecDepth 20000 in
theorem ggX11_sound_X9_bring : GoodIn wsX11_sound wsX9_bring := goodIn_sub (gi_t pz_X11_sound_X11_sound_r1 5 rfl (gi_a (gi_a (gi_a (gi_a (gi_t pz_X11_sound_X11_sound_r1 6 rfl (gi_t pz_X11_sound_X11_sound_r1 7 rfl (gi_t pz_X11_sound_X11_sound_r1 8 rfl (gi_t pz_X11_sound_X11_sound_r1 9 rfl (gi_t pz_X11_sound_X11_sound_r1 10 rfl (gi_t pz_X11_sound_X11_sound_r1 11 rfl (gi_t pz_X11_sound_X11_sound_r1 12 rfl (gi_t pz_X11_sound_X11_sound_r1 13 rfl (gi_t pz_X11_sound_X11_sound_r1 14 rfl (gi_t pz_X11_sound_X11_sound_r1 15 rfl (gi_t pz_X11_sound_X11_sound_r1 16 rfl (gi_t pz_X11_sound_X11_sound_r1 17 rfl (gi_t pz_X11_sound_X11_sound_r1 18 rfl (gi_t pz_X11_sound_X11_sound_r1 19 rfl (gi_t pz_X11_sound_X11_sound_r1 20 rfl (gi_t pz_X11_sound_X11_sound_r1 21 rfl (gi_t pz_X11_sound_X11_sound_r1 22 rfl (gi_t pz_X11_sound_X11_sound_r1 23 rfl (gi_t pz_X11_sound_X11_sound_r2 0 rfl (gi_t pz_X11_sound_X11_sound_r2 1 rfl (gi_t pz_X11_sound_X11_sound_r2 2 rfl (gi_t pz_X11_sound_X11_sound_r2 3 rfl (gi_t pz_X11_sound_X11_sound_r2 4 rfl (gi_t pz_X11_sound_X11_sound_r2 5 rfl gi_n)))))))))))))))))))))))) (gi_a (gi_t pz_X11_sound_X11_sound_r2 6 rfl (gi_t pz_X11_sound_X11_sound_r2 7 rfl (gi_t pz_X11_sound_X11_sound_r2 8 rfl (gi_t pz_X11_sound_X11_sound_r2 9 rfl (gi_t pz_X11_sound_X11_sound_r2 10 rfl (gi_t pz_X11_sound_X11_sound_r2 11 rfl (gi_t pz_X11_sound_X11_sound_r2 12 rfl (gi_t pz_X11_sound_X11_sound_r2 13 rfl (gi_t pz_X11_sound_X11_sound_r2 14 rfl (gi_t pz_X11_sound_X11_sound_r2 15 rfl (gi_t pz_X11_sound_X11_sound_r2 16 rfl (gi_t pz_X11_sound_X11_sound_r2 17 rfl (gi_t pz_X11_sound_X11_sound_r2 18 rfl (gi_t pz_X11_sound_X11_sound_r2 19 rfl (gi_t pz_X11_sound_X11_sound_r2 20 rfl (gi_t pz_X11_sound_X11_sound_r2 21 rfl (gi_t pz_X11_sound_X11_sound_r2 22 rfl (gi_t pz_X11_sound_X11_sound_r2 23 rfl (gi_t pz_X11_sound_X11_sound_r3 0 rfl (gi_t pz_X11_sound_X11_sound_r3 1 rfl (gi_t pz_X11_sound_X11_sound_r3 2 rfl (gi_t pz_X11_sound_X11_sound_r3 3 rfl (gi_t pz_X11_sound_X11_sound_r3 4 rfl (gi_t pz_X11_sound_X11_sound_r1 3 rfl gi_n)))))))))))))))))))))))) (gi_t pz_X11_sound_X11_sound_r3 5 rfl (gi_t pz_X11_sound_X11_sound_r3 6 rfl (gi_t pz_X11_sound_X11_sound_r3 7 rfl (gi_t pz_X11_sound_X11_sound_r3 8 rfl (gi_t pz_X11_sound_X11_sound_r3 9 rfl (gi_t pz_X11_sound_X11_sound_r3 10 rfl (gi_t pz_X11_sound_X11_sound_r3 11 rfl (gi_t pz_X11_sound_X11_sound_r3 12 rfl (gi_t pz_X11_sound_X11_sound_r3 13 rfl (gi_t pz_X11_sound_X11_sound_r3 14 rfl (gi_t pz_X11_sound_X11_sound_r3 15 rfl (gi_t pz_X11_sound_X11_sound_r3 16 rfl gi_n)))))))))))))) pz_X11_sound_X90) pz_X11_sound_X40) pz_X11_sound_X30)) (by decide +kernel)
set_option maxRecDepth 20000 in
theorem gX11_sound_X9_bring_n123 : GoodIn wsX11_sound (wsX9_bring) := ggX11_sound_X9_bring
theorem dX11_sound_0 : decode cX11_sound 0 = .ok (.aload_n 0, 1) := by decide +kernel
theorem dX11_sound_1 : decode cX11_sound 1 = .ok (.getfield 33, 3) := by decide +kernel
theorem dX11_sound_4 : decode cX11_sound 4 = .ok (.aload_n 0, 1) := by decide +kernel
theorem dX11_sound_5 : decode cX11_sound 5 = .ok (.getfield 10, 3) := by decide +kernel
theorem dX11_sound_8 : decode cX11_sound 8 = .ok (.invokevirtual 123, 3) := by decide +kernel
theorem dX11_sound_11 : decode cX11_sound 11 = .ok (.aload_n 0, 1) := by decide +kernel
theorem dX11_sound_12 : decode cX11_sound 12 = .ok (.getfield 33, 3) := by decide +kernel
theorem dX11_sound_15 : decode cX11_sound 15 = .ok (.getfield 127, 3) := by decide +kernel
theorem dX11_sound_18 : decode cX11_sound 18 = .ok (.ifCond .ne 7, 3) := by decide +kernel
theorem dX11_sound_21 : decode cX11_sound 21 = .ok (.iconst 1, 1) := by decide +kernel
theorem dX11_sound_22 : decode cX11_sound 22 = .ok (.goto 4, 3) := by decide +kernel
theorem dX11_sound_25 : decode cX11_sound 25 = .ok (.iconst 0, 1) := by decide +kernel
theorem dX11_sound_26 : decode cX11_sound 26 = .ok (.ireturn, 1) := by decide +kernel
set_option maxRecDepth 20000 in
theorem ggX11_hole_X9_bring : GoodIn wsX11_hole wsX9_bring := goodIn_sub (gi_t pz_X11_hole_X11_hole_r1 5 rfl (gi_a (gi_a (gi_a (gi_a (gi_t pz_X11_hole_X11_hole_r1 6 rfl (gi_t pz_X11_hole_X11_hole_r1 7 rfl (gi_t pz_X11_hole_X11_hole_r1 8 rfl (gi_t pz_X11_hole_X11_hole_r1 9 rfl (gi_t pz_X11_hole_X11_hole_r1 10 rfl (gi_t pz_X11_hole_X11_hole_r1 11 rfl (gi_t pz_X11_hole_X11_hole_r1 12 rfl (gi_t pz_X11_hole_X11_hole_r1 13 rfl (gi_t pz_X11_hole_X11_hole_r1 14 rfl (gi_t pz_X11_hole_X11_hole_r1 15 rfl (gi_t pz_X11_hole_X11_hole_r1 16 rfl (gi_t pz_X11_hole_X11_hole_r1 17 rfl (gi_t pz_X11_hole_X11_hole_r1 18 rfl (gi_t pz_X11_hole_X11_hole_r1 19 rfl (gi_t pz_X11_hole_X11_hole_r1 20 rfl (gi_t pz_X11_hole_X11_hole_r1 21 rfl (gi_t pz_X11_hole_X11_hole_r1 22 rfl (gi_t pz_X11_hole_X11_hole_r1 23 rfl (gi_t pz_X11_hole_X11_hole_r2 0 rfl (gi_t pz_X11_hole_X11_hole_r2 1 rfl (gi_t pz_X11_hole_X11_hole_r2 2 rfl (gi_t pz_X11_hole_X11_hole_r2 3 rfl (gi_t pz_X11_hole_X11_hole_r2 4 rfl (gi_t pz_X11_hole_X11_hole_r2 5 rfl gi_n)))))))))))))))))))))))) (gi_a (gi_t pz_X11_hole_X11_hole_r2 6 rfl (gi_t pz_X11_hole_X11_hole_r2 7 rfl (gi_t pz_X11_hole_X11_hole_r2 8 rfl (gi_t pz_X11_hole_X11_hole_r2 9 rfl (gi_t pz_X11_hole_X11_hole_r2 10 rfl (gi_t pz_X11_hole_X11_hole_r2 11 rfl (gi_t pz_X11_hole_X11_hole_r2 12 rfl (gi_t pz_X11_hole_X11_hole_r2 13 rfl (gi_t pz_X11_hole_X11_hole_r2 14 rfl (gi_t pz_X11_hole_X11_hole_r2 15 rfl (gi_t pz_X11_hole_X11_hole_r2 16 rfl (gi_t pz_X11_hole_X11_hole_r2 17 rfl (gi_t pz_X11_hole_X11_hole_r2 18 rfl (gi_t pz_X11_hole_X11_hole_r2 19 rfl (gi_t pz_X11_hole_X11_hole_r2 20 rfl (gi_t pz_X11_hole_X11_hole_r2 21 rfl (gi_t pz_X11_hole_X11_hole_r2 22 rfl (gi_t pz_X11_hole_X11_hole_r2 23 rfl (gi_t pz_X11_hole_X11_hole_r3 0 rfl (gi_t pz_X11_hole_X11_hole_r3 1 rfl (gi_t pz_X11_hole_X11_hole_r3 2 rfl (gi_t pz_X11_hole_X11_hole_r3 3 rfl (gi_t pz_X11_hole_X11_hole_r3 4 rfl (gi_t pz_X11_hole_X11_hole_r1 3 rfl gi_n)))))))))))))))))))))))) (gi_t pz_X11_hole_X11_hole_r3 5 rfl (gi_t pz_X11_hole_X11_hole_r3 6 rfl (gi_t pz_X11_hole_X11_hole_r3 7 rfl (gi_t pz_X11_hole_X11_hole_r3 8 rfl (gi_t pz_X11_hole_X11_hole_r3 9 rfl (gi_t pz_X11_hole_X11_hole_r3 10 rfl (gi_t pz_X11_hole_X11_hole_r3 11 rfl (gi_t pz_X11_hole_X11_hole_r3 12 rfl (gi_t pz_X11_hole_X11_hole_r3 13 rfl (gi_t pz_X11_hole_X11_hole_r3 14 rfl (gi_t pz_X11_hole_X11_hole_r3 15 rfl (gi_t pz_X11_hole_X11_hole_r3 16 rfl gi_n)))))))))))))) pz_X11_hole_X90) pz_X11_hole_X40) pz_X11_hole_X30)) (by decide +kernel)
set_option maxRecDepth 20000 in
theorem gX11_hole_X9_bring_n123 : GoodIn wsX11_hole (wsX9_bring) := ggX11_hole_X9_bring
theorem dX11_hole_0 : decode cX11_hole 0 = .ok (.aload_n 0, 1) := by decide +kernel
theorem dX11_hole_1 : decode cX11_hole 1 = .ok (.getfield 33, 3) := by decide +kernel
theorem dX11_hole_4 : decode cX11_hole 4 = .ok (.aload_n 0, 1) := by decide +kernel
theorem dX11_hole_5 : decode cX11_hole 5 = .ok (.getfield 10, 3) := by decide +kernel
theorem dX11_hole_8 : decode cX11_hole 8 = .ok (.invokevirtual 123, 3) := by decide +kernel
theorem dX11_hole_11 : decode cX11_hole 11 = .ok (.iload_n 1, 1) := by decide +kernel
theorem dX11_hole_12 : decode cX11_hole 12 = .ok (.ifCond .lt 26, 3) := by decide +kernel
theorem dX11_hole_15 : decode cX11_hole 15 = .ok (.iload_n 1, 1) := by decide +kernel
theorem dX11_hole_16 : decode cX11_hole 16 = .ok (.aload_n 0, 1) := by decide +kernel
theorem dX11_hole_17 : decode cX11_hole 17 = .ok (.getfield 33, 3) := by decide +kernel
theorem dX11_hole_20 : decode cX11_hole 20 = .ok (.getfield 127, 3) := by decide +kernel
theorem dX11_hole_23 : decode cX11_hole 23 = .ok (.if_icmp .ge 15, 3) := by decide +kernel
theorem dX11_hole_26 : decode cX11_hole 26 = .ok (.aload_n 0, 1) := by decide +kernel
theorem dX11_hole_27 : decode cX11_hole 27 = .ok (.getfield 33, 3) := by decide +kernel
theorem dX11_hole_30 : decode cX11_hole 30 = .ok (.getfield 130, 3) := by decide +kernel
theorem dX11_hole_33 : decode cX11_hole 33 = .ok (.iload_n 1, 1) := by decide +kernel
theorem dX11_hole_34 : decode cX11_hole 34 = .ok (.iaload, 1) := by decide +kernel
theorem dX11_hole_35 : decode cX11_hole 35 = .ok (.goto 5, 3) := by decide +kernel
theorem dX11_hole_38 : decode cX11_hole 38 = .ok (.bipush (-9), 2) := by decide +kernel
theorem dX11_hole_40 : decode cX11_hole 40 = .ok (.ireturn, 1) := by decide +kernel
set_option maxRecDepth 20000 in
theorem ggX11_fromTable_X11_startGraph : GoodIn wsX11_fromTable wsX11_startGraph := goodIn_sub (gi_t pz_X11_fromTable_X11_fromTable_r1 6 rfl (gi_a (gi_a (gi_a (gi_a (gi_t pz_X11_fromTable_X11_fromTable_r1 1 rfl (gi_t pz_X11_fromTable_X11_fromTable_r1 7 rfl (gi_t pz_X11_fromTable_X11_fromTable_r1 8 rfl (gi_t pz_X11_fromTable_X11_fromTable_r1 9 rfl (gi_t pz_X11_fromTable_X11_fromTable_r1 10 rfl (gi_t pz_X11_fromTable_X11_fromTable_r1 11 rfl (gi_t pz_X11_fromTable_X11_fromTable_r1 12 rfl (gi_t pz_X11_fromTable_X11_fromTable_r1 13 rfl (gi_t pz_X11_fromTable_X11_fromTable_r1 14 rfl (gi_t pz_X11_fromTable_X11_fromTable_r1 15 rfl (gi_t pz_X11_fromTable_X11_fromTable_r1 16 rfl (gi_t pz_X11_fromTable_X11_fromTable_r1 17 rfl (gi_t pz_X11_fromTable_X11_fromTable_r1 18 rfl (gi_t pz_X11_fromTable_X11_fromTable_r1 19 rfl (gi_t pz_X11_fromTable_X11_fromTable_r1 20 rfl (gi_t pz_X11_fromTable_X11_fromTable_r1 21 rfl (gi_t pz_X11_fromTable_X11_fromTable_r1 22 rfl (gi_t pz_X11_fromTable_X11_fromTable_r1 23 rfl (gi_t pz_X11_fromTable_X11_fromTable_r2 0 rfl (gi_t pz_X11_fromTable_X11_fromTable_r2 1 rfl (gi_t pz_X11_fromTable_X11_fromTable_r2 2 rfl (gi_t pz_X11_fromTable_X11_fromTable_r2 3 rfl (gi_t pz_X11_fromTable_X11_fromTable_r2 4 rfl (gi_t pz_X11_fromTable_X11_fromTable_r2 5 rfl gi_n)))))))))))))))))))))))) (gi_t pz_X11_fromTable_X11_fromTable_r2 6 rfl (gi_t pz_X11_fromTable_X11_fromTable_r2 7 rfl (gi_t pz_X11_fromTable_X11_fromTable_r2 8 rfl (gi_t pz_X11_fromTable_X11_fromTable_r1 5 rfl (gi_t pz_X11_fromTable_X11_fromTable_r2 9 rfl gi_n)))))) pz_X11_fromTable_X110) pz_X11_fromTable_X40) pz_X11_fromTable_X60)) (by decide +kernel)
set_option maxRecDepth 20000 in
theorem gX11_fromTable_X11_startGraph : GoodIn wsX11_fromTable (wsV RX11 90 RX11 yX11_startGraph wsX11_startGraph) := goodIn_app (goodIn_of _ (by decide +kernel)) ggX11_fromTable_X11_startGraph
set_option maxRecDepth 20000 in
theorem ggX11_fromTable_X4_joinAll : GoodIn wsX11_fromTable wsX4_joinAll := goodIn_sub (gi_t pz_X11_fromTable_X11_fromTable_r2 12 rfl (gi_a (gi_t pz_X11_fromTable_X11_fromTable_r1 12 rfl (gi_t pz_X11_fromTable_X11_fromTable_r1 13 rfl (gi_t pz_X11_fromTable_X11_fromTable_r1 14 rfl (gi_t pz_X11_fromTable_X11_fromTable_r2 8 rfl (gi_t pz_X11_fromTable_X11_fromTable_r1 5 rfl (gi_t pz_X11_fromTable_X11_fromTable_r2 9 rfl gi_n)))))) pz_X11_fromTable_X40)) (by decide +kernel)
set_option maxRecDepth 20000 in
theorem gX11_fromTable_X4_joinAll_n139 : GoodIn wsX11_fromTable (wsX4_joinAll) := ggX11_fromTable_X4_joinAll
theorem dX11_fromTable_0 : decode cX11_fromTable 0 = .ok (.aload_n 0, 1) := by decide +kernel
theorem dX11_fromTable_1 : decode cX11_fromTable 1 = .ok (.aload_n 0, 1) := by decide +kernel
theorem dX11_fromTable_2 : decode cX11_fromTable 2 = .ok (.getfield 19, 3) := by decide +kernel
theorem dX11_fromTable_5 : decode cX11_fromTable 5 = .ok (.getfield 133, 3) := by decide +kernel
theorem dX11_fromTable_8 : decode cX11_fromTable 8 = .ok (.invokevirtual 90, 3) := by decide +kernel
theorem dX11_fromTable_11 : decode cX11_fromTable 11 = .ok (.iconst 0, 1) := by decide +kernel
theorem dX11_fromTable_12 : decode cX11_fromTable 12 = .ok (.istore_n 1, 1) := by decide +kernel
theorem dX11_fromTable_13 : decode cX11_fromTable 13 = .ok (.iload_n 1, 1) := by decide +kernel
theorem dX11_fromTable_14 : decode cX11_fromTable 14 = .ok (.bipush 12, 2) := by decide +kernel
theorem dX11_fromTable_16 : decode cX11_fromTable 16 = .ok (.if_icmp .ge 38, 3) := by decide +kernel
theorem dX11_fromTable_19 : decode cX11_fromTable 19 = .ok (.aload_n 0, 1) := by decide +kernel
theorem dX11_fromTable_20 : decode cX11_fromTable 20 = .ok (.getfield 19, 3) := by decide +kernel
theorem dX11_fromTable_23 : decode cX11_fromTable 23 = .ok (.getfield 136, 3) := by decide +kernel
theorem dX11_fromTable_26 : decode cX11_fromTable 26 = .ok (.iload_n 1, 1) := by decide +kernel
theorem dX11_fromTable_27 : decode cX11_fromTable 27 = .ok (.iaload, 1) := by decide +kernel
theorem dX11_fromTable_28 : decode cX11_fromTable 28 = .ok (.iconst (-1), 1) := by decide +kernel
theorem dX11_fromTable_29 : decode cX11_fromTable 29 = .ok (.if_icmp .eq 19, 3) := by decide +kernel
theorem dX11_fromTable_32 : decode cX11_fromTable 32 = .ok (.aload_n 0, 1) := by decide +kernel
theorem dX11_fromTable_33 : decode cX11_fromTable 33 = .ok (.getfield 10, 3) := by decide +kernel
theorem dX11_fromTable_36 : decode cX11_fromTable 36 = .ok (.aload_n 0, 1) := by decide +kernel
theorem dX11_fromTable_37 : decode cX11_fromTable 37 = .ok (.getfield 19, 3) := by decide +kernel
theorem dX11_fromTable_40 : decode cX11_fromTable 40 = .ok (.getfield 136, 3) := by decide +kernel
theorem dX11_fromTable_43 : decode cX11_fromTable 43 = .ok (.iload_n 1, 1) := by decide +kernel
theorem dX11_fromTable_44 : decode cX11_fromTable 44 = .ok (.iaload, 1) := by decide +kernel
theorem dX11_fromTable_45 : decode cX11_fromTable 45 = .ok (.invokevirtual 139, 3) := by decide +kernel
theorem dX11_fromTable_48 : decode cX11_fromTable 48 = .ok (.iinc 1 1, 3) := by decide +kernel
theorem dX11_fromTable_51 : decode cX11_fromTable 51 = .ok (.goto (-38), 3) := by decide +kernel
theorem dX11_fromTable_54 : decode cX11_fromTable 54 = .ok (.aload_n 0, 1) := by decide +kernel
theorem dX11_fromTable_55 : decode cX11_fromTable 55 = .ok (.getfield 10, 3) := by decide +kernel
theorem dX11_fromTable_58 : decode cX11_fromTable 58 = .ok (.getfield 142, 3) := by decide +kernel
theorem dX11_fromTable_61 : decode cX11_fromTable 61 = .ok (.ireturn, 1) := by decide +kernel
set_option maxRecDepth 20000 in
theorem ggX11_turn_X4_invert : GoodIn wsX11_turn wsX4_invert := goodIn_sub (gi_t pz_X11_turn_X11_turn_r1 5 rfl (gi_a (gi_t pz_X11_turn_X11_turn_r1 6 rfl (gi_t pz_X11_turn_X11_turn_r1 7 rfl (gi_t pz_X11_turn_X11_turn_r1 8 rfl (gi_t pz_X11_turn_X11_turn_r1 9 rfl (gi_t pz_X11_turn_X11_turn_r1 10 rfl (gi_t pz_X11_turn_X11_turn_r1 11 rfl (gi_t pz_X11_turn_X11_turn_r1 3 rfl (gi_t pz_X11_turn_X11_turn_r1 12 rfl gi_n)))))))) pz_X11_turn_X40)) (by decide +kernel)
set_option maxRecDepth 20000 in
theorem gX11_turn_X4_invert_n145 : GoodIn wsX11_turn (wsX4_invert) := ggX11_turn_X4_invert
set_option maxRecDepth 20000 in
theorem ggX11_turn_X6_drop : GoodIn wsX11_turn wsX6_drop := goodIn_sub (gi_t pz_X11_turn_X11_turn_r1 16 rfl (gi_a (gi_t pz_X11_turn_X11_turn_r1 17 rfl gi_n) pz_X11_turn_X60)) (by decide +kernel)
set_option maxRecDepth 20000 in
theorem gX11_turn_X6_drop_n105 : GoodIn wsX11_turn (wsX6_drop) := ggX11_turn_X6_drop
set_option maxRecDepth 20000 in
theorem ggX11_turn_X4_pairs : GoodIn wsX11_turn wsX4_pairs := goodIn_sub (gi_t pz_X11_turn_X11_turn_r1 20 rfl (gi_a (gi_t pz_X11_turn_X11_turn_r1 6 rfl (gi_t pz_X11_turn_X11_turn_r1 7 rfl (gi_t pz_X11_turn_X11_turn_r1 21 rfl (gi_t pz_X11_turn_X11_turn_r1 22 rfl (gi_t pz_X11_turn_X11_turn_r1 23 rfl (gi_t pz_X11_turn_X11_turn_r2 0 rfl (gi_t pz_X11_turn_X11_turn_r2 1 rfl (gi_t pz_X11_turn_X11_turn_r2 2 rfl (gi_t pz_X11_turn_X11_turn_r2 3 rfl gi_n))))))))) pz_X11_turn_X40)) (by decide +kernel)
set_option maxRecDepth 20000 in
theorem gX11_turn_X4_pairs_n148 : GoodIn wsX11_turn (wsX4_pairs) := ggX11_turn_X4_pairs
theorem dX11_turn_0 : decode cX11_turn 0 = .ok (.aload_n 0, 1) := by decide +kernel
theorem dX11_turn_1 : decode cX11_turn 1 = .ok (.getfield 10, 3) := by decide +kernel
theorem dX11_turn_4 : decode cX11_turn 4 = .ok (.invokevirtual 145, 3) := by decide +kernel
theorem dX11_turn_7 : decode cX11_turn 7 = .ok (.aload_n 0, 1) := by decide +kernel
theorem dX11_turn_8 : decode cX11_turn 8 = .ok (.getfield 26, 3) := by decide +kernel
theorem dX11_turn_11 : decode cX11_turn 11 = .ok (.invokevirtual 105, 3) := by decide +kernel
theorem dX11_turn_14 : decode cX11_turn 14 = .ok (.aload_n 0, 1) := by decide +kernel
theorem dX11_turn_15 : decode cX11_turn 15 = .ok (.getfield 10, 3) := by decide +kernel
theorem dX11_turn_18 : decode cX11_turn 18 = .ok (.invokevirtual 148, 3) := by decide +kernel
theorem dX11_turn_21 : decode cX11_turn 21 = .ok (.ireturn, 1) := by decide +kernel
set_option maxRecDepth 20000 in
theorem ggX11_draft_X4_has : GoodIn wsX11_draft wsX4_has := goodIn_sub (gi_c 6 rfl (gi_a (gi_c 7 rfl gi_n) pz_X11_draft_X40)) (by decide +kernel)
set_option maxRecDepth 20000 in
theorem gX11_draft_X4_has_n93 : GoodIn wsX11_draft (wsX4_has) := ggX11_draft_X4_has
set_option maxRecDepth 20000 in
theorem ggX11_draft_X6_drafted : GoodIn wsX11_draft wsX6_drafted := goodIn_sub (gi_c 11 rfl (gi_a (gi_c 12 rfl (gi_c 13 rfl (gi_c 14 rfl (gi_c 9 rfl (gi_c 15 rfl (gi_c 16 rfl (gi_c 17 rfl (gi_c 18 rfl (gi_c 19 rfl (gi_c 20 rfl gi_n)))))))))) pz_X11_draft_X60)) (by decide +kernel)
set_option maxRecDepth 20000 in
theorem gX11_draft_X6_drafted_n152 : GoodIn wsX11_draft (wsX6_drafted) := ggX11_draft_X6_drafted
set_option maxRecDepth 20000 in
theorem ggX11_draft_X6_addToDraft : GoodIn wsX11_draft wsX6_addToDraft := goodIn_sub (gi_c 23 rfl (gi_a (gi_c 16 rfl (gi_c 17 rfl gi_n)) pz_X11_draft_X60)) (by decide +kernel)
set_option maxRecDepth 20000 in
theorem gX11_draft_X6_addToDraft_n155 : GoodIn wsX11_draft (wsX6_addToDraft) := ggX11_draft_X6_addToDraft
theorem dX11_draft_0 : decode cX11_draft 0 = .ok (.aload_n 0, 1) := by decide +kernel
theorem dX11_draft_1 : decode cX11_draft 1 = .ok (.getfield 10, 3) := by decide +kernel
theorem dX11_draft_4 : decode cX11_draft 4 = .ok (.iload_n 1, 1) := by decide +kernel
theorem dX11_draft_5 : decode cX11_draft 5 = .ok (.invokevirtual 93, 3) := by decide +kernel
theorem dX11_draft_8 : decode cX11_draft 8 = .ok (.ifCond .eq 14, 3) := by decide +kernel
theorem dX11_draft_11 : decode cX11_draft 11 = .ok (.aload_n 0, 1) := by decide +kernel
theorem dX11_draft_12 : decode cX11_draft 12 = .ok (.getfield 26, 3) := by decide +kernel
theorem dX11_draft_15 : decode cX11_draft 15 = .ok (.iload_n 1, 1) := by decide +kernel
theorem dX11_draft_16 : decode cX11_draft 16 = .ok (.invokevirtual 152, 3) := by decide +kernel
theorem dX11_draft_19 : decode cX11_draft 19 = .ok (.ifCond .eq 5, 3) := by decide +kernel
theorem dX11_draft_22 : decode cX11_draft 22 = .ok (.iconst (-1), 1) := by decide +kernel
theorem dX11_draft_23 : decode cX11_draft 23 = .ok (.ireturn, 1) := by decide +kernel
theorem dX11_draft_24 : decode cX11_draft 24 = .ok (.aload_n 0, 1) := by decide +kernel
theorem dX11_draft_25 : decode cX11_draft 25 = .ok (.getfield 26, 3) := by decide +kernel
theorem dX11_draft_28 : decode cX11_draft 28 = .ok (.iload_n 1, 1) := by decide +kernel
theorem dX11_draft_29 : decode cX11_draft 29 = .ok (.invokevirtual 155, 3) := by decide +kernel
theorem dX11_draft_32 : decode cX11_draft 32 = .ok (.aload_n 0, 1) := by decide +kernel
theorem dX11_draft_33 : decode cX11_draft 33 = .ok (.getfield 26, 3) := by decide +kernel
theorem dX11_draft_36 : decode cX11_draft 36 = .ok (.getfield 158, 3) := by decide +kernel
theorem dX11_draft_39 : decode cX11_draft 39 = .ok (.ireturn, 1) := by decide +kernel
set_option maxRecDepth 20000 in
theorem ggX11_take_X6_draftSet : GoodIn wsX11_take wsX6_draftSet := goodIn_sub (gi_t pz_X11_take_X11_take_r1 5 rfl (gi_a (gi_t pz_X11_take_X11_take_r1 6 rfl (gi_t pz_X11_take_X11_take_r1 7 rfl gi_n)) pz_X11_take_X60)) (by decide +kernel)
set_option maxRecDepth 20000 in
theorem gX11_take_X6_draftSet_n161 : GoodIn wsX11_take (wsX6_draftSet) := ggX11_take_X6_draftSet
set_option maxRecDepth 20000 in
theorem ggX11_take_X4_all : GoodIn wsX11_take wsX4_all := goodIn_sub (gi_t pz_X11_take_X11_take_r1 11 rfl (gi_a (gi_t pz_X11_take_X11_take_r1 12 rfl gi_n) pz_X11_take_X40)) (by decide +kernel)
set_option maxRecDepth 20000 in
theorem gX11_take_X4_all_n164 : GoodIn wsX11_take (wsX4_all) := ggX11_take_X4_all
set_option maxRecDepth 20000 in
theorem ggX11_take_X6_followDraft : GoodIn wsX11_take wsX6_followDraft := goodIn_sub (gi_t pz_X11_take_X11_take_r1 15 rfl (gi_a (gi_a (gi_a (gi_a (gi_t pz_X11_take_X11_take_r1 16 rfl (gi_t pz_X11_take_X11_take_r1 7 rfl (gi_t pz_X11_take_X11_take_r1 17 rfl (gi_t pz_X11_take_X11_take_r1 18 rfl (gi_t pz_X11_take_X11_take_r1 19 rfl (gi_t pz_X11_take_X11_take_r1 3 rfl (gi_t pz_X11_take_X11_take_r1 20 rfl (gi_t pz_X11_take_X11_take_r1 21 rfl (gi_t pz_X11_take_X11_take_r1 22 rfl (gi_t pz_X11_take_X11_take_r1 23 rfl (gi_t pz_X11_take_X11_take_r2 0 rfl (gi_t pz_X11_take_X11_take_r2 1 rfl (gi_t pz_X11_take_X11_take_r2 2 rfl (gi_t pz_X11_take_X11_take_r2 3 rfl (gi_t pz_X11_take_X11_take_r2 4 rfl (gi_t pz_X11_take_X11_take_r2 5 rfl (gi_t pz_X11_take_X11_take_r2 6 rfl (gi_t pz_X11_take_X11_take_r2 7 rfl (gi_t pz_X11_take_X11_take_r2 8 rfl (gi_t pz_X11_take_X11_take_r2 9 rfl (gi_t pz_X11_take_X11_take_r2 10 rfl (gi_t pz_X11_take_X11_take_r2 11 rfl (gi_t pz_X11_take_X11_take_r2 12 rfl (gi_t pz_X11_take_X11_take_r2 13 rfl gi_n)))))))))))))))))))))))) (gi_a (gi_t pz_X11_take_X11_take_r2 14 rfl (gi_t pz_X11_take_X11_take_r2 15 rfl (gi_t pz_X11_take_X11_take_r2 16 rfl (gi_t pz_X11_take_X11_take_r2 17 rfl (gi_t pz_X11_take_X11_take_r2 18 rfl (gi_t pz_X11_take_X11_take_r2 19 rfl (gi_t pz_X11_take_X11_take_r2 20 rfl (gi_t pz_X11_take_X11_take_r2 21 rfl (gi_t pz_X11_take_X11_take_r2 22 rfl (gi_t pz_X11_take_X11_take_r2 23 rfl (gi_t pz_X11_take_X11_take_r3 0 rfl (gi_t pz_X11_take_X11_take_r3 1 rfl (gi_t pz_X11_take_X11_take_r3 2 rfl (gi_t pz_X11_take_X11_take_r3 3 rfl (gi_t pz_X11_take_X11_take_r3 4 rfl (gi_t pz_X11_take_X11_take_r3 5 rfl (gi_t pz_X11_take_X11_take_r3 6 rfl (gi_t pz_X11_take_X11_take_r3 7 rfl (gi_t pz_X11_take_X11_take_r3 8 rfl (gi_t pz_X11_take_X11_take_r3 9 rfl (gi_t pz_X11_take_X11_take_r3 10 rfl (gi_t pz_X11_take_X11_take_r3 11 rfl (gi_t pz_X11_take_X11_take_r3 12 rfl (gi_t pz_X11_take_X11_take_r3 13 rfl gi_n)))))))))))))))))))))))) (gi_t pz_X11_take_X11_take_r3 14 rfl (gi_t pz_X11_take_X11_take_r3 15 rfl (gi_t pz_X11_take_X11_take_r3 16 rfl (gi_t pz_X11_take_X11_take_r3 17 rfl (gi_t pz_X11_take_X11_take_r3 18 rfl gi_n))))))) pz_X11_take_X60) pz_X11_take_X40) pz_X11_take_X30)) (by decide +kernel)
set_option maxRecDepth 20000 in
theorem gX11_take_X6_followDraft_n167 : GoodIn wsX11_take (wsX6_followDraft) := ggX11_take_X6_followDraft
theorem dX11_take_0 : decode cX11_take 0 = .ok (.aload_n 0, 1) := by decide +kernel
theorem dX11_take_1 : decode cX11_take 1 = .ok (.getfield 26, 3) := by decide +kernel
theorem dX11_take_4 : decode cX11_take 4 = .ok (.invokevirtual 161, 3) := by decide +kernel
theorem dX11_take_7 : decode cX11_take 7 = .ok (.aload_n 0, 1) := by decide +kernel
theorem dX11_take_8 : decode cX11_take 8 = .ok (.getfield 10, 3) := by decide +kernel
theorem dX11_take_11 : decode cX11_take 11 = .ok (.invokevirtual 164, 3) := by decide +kernel
theorem dX11_take_14 : decode cX11_take 14 = .ok (.if_icmp .ne 7, 3) := by decide +kernel
theorem dX11_take_17 : decode cX11_take 17 = .ok (.iconst 1, 1) := by decide +kernel
theorem dX11_take_18 : decode cX11_take 18 = .ok (.goto 4, 3) := by decide +kernel
theorem dX11_take_21 : decode cX11_take 21 = .ok (.iconst 0, 1) := by decide +kernel
theorem dX11_take_22 : decode cX11_take 22 = .ok (.istore_n 1, 1) := by decide +kernel
theorem dX11_take_23 : decode cX11_take 23 = .ok (.iload_n 1, 1) := by decide +kernel
theorem dX11_take_24 : decode cX11_take 24 = .ok (.ifCond .eq 14, 3) := by decide +kernel
theorem dX11_take_27 : decode cX11_take 27 = .ok (.aload_n 0, 1) := by decide +kernel
theorem dX11_take_28 : decode cX11_take 28 = .ok (.getfield 26, 3) := by decide +kernel
theorem dX11_take_31 : decode cX11_take 31 = .ok (.aload_n 0, 1) := by decide +kernel
theorem dX11_take_32 : decode cX11_take 32 = .ok (.getfield 10, 3) := by decide +kernel
theorem dX11_take_35 : decode cX11_take 35 = .ok (.invokevirtual 167, 3) := by decide +kernel
theorem dX11_take_38 : decode cX11_take 38 = .ok (.aload_n 0, 1) := by decide +kernel
theorem dX11_take_39 : decode cX11_take 39 = .ok (.getfield 26, 3) := by decide +kernel
theorem dX11_take_42 : decode cX11_take 42 = .ok (.iconst 0, 1) := by decide +kernel
theorem dX11_take_43 : decode cX11_take 43 = .ok (.putfield 158, 3) := by decide +kernel
theorem dX11_take_46 : decode cX11_take 46 = .ok (.iload_n 1, 1) := by decide +kernel
theorem dX11_take_47 : decode cX11_take 47 = .ok (.ifCond .eq 13, 3) := by decide +kernel
theorem dX11_take_50 : decode cX11_take 50 = .ok (.aload_n 0, 1) := by decide +kernel
theorem dX11_take_51 : decode cX11_take 51 = .ok (.getfield 26, 3) := by decide +kernel
theorem dX11_take_54 : decode cX11_take 54 = .ok (.getfield 170, 3) := by decide +kernel
theorem dX11_take_57 : decode cX11_take 57 = .ok (.goto 5, 3) := by decide +kernel
theorem dX11_take_60 : decode cX11_take 60 = .ok (.bipush (-4), 2) := by decide +kernel
theorem dX11_take_62 : decode cX11_take 62 = .ok (.ireturn, 1) := by decide +kernel
set_option maxRecDepth 20000 in
theorem ggX11_rule_X6_followRule : GoodIn wsX11_rule wsX6_followRule := goodIn_sub (gi_t pz_X11_rule_X11_rule_r1 5 rfl (gi_a (gi_a (gi_a (gi_a (gi_t pz_X11_rule_X11_rule_r1 6 rfl (gi_t pz_X11_rule_X11_rule_r1 7 rfl (gi_t pz_X11_rule_X11_rule_r1 8 rfl (gi_t pz_X11_rule_X11_rule_r1 9 rfl (gi_t pz_X11_rule_X11_rule_r1 10 rfl (gi_t pz_X11_rule_X11_rule_r1 3 rfl (gi_t pz_X11_rule_X11_rule_r1 11 rfl (gi_t pz_X11_rule_X11_rule_r1 12 rfl (gi_t pz_X11_rule_X11_rule_r1 13 rfl (gi_t pz_X11_rule_X11_rule_r1 14 rfl (gi_t pz_X11_rule_X11_rule_r1 15 rfl (gi_t pz_X11_rule_X11_rule_r1 16 rfl (gi_t pz_X11_rule_X11_rule_r1 17 rfl (gi_t pz_X11_rule_X11_rule_r1 18 rfl (gi_t pz_X11_rule_X11_rule_r1 19 rfl (gi_t pz_X11_rule_X11_rule_r1 20 rfl (gi_t pz_X11_rule_X11_rule_r1 21 rfl (gi_t pz_X11_rule_X11_rule_r1 22 rfl (gi_t pz_X11_rule_X11_rule_r1 23 rfl (gi_t pz_X11_rule_X11_rule_r2 0 rfl (gi_t pz_X11_rule_X11_rule_r2 1 rfl (gi_t pz_X11_rule_X11_rule_r2 2 rfl (gi_t pz_X11_rule_X11_rule_r2 3 rfl (gi_t pz_X11_rule_X11_rule_r2 4 rfl gi_n)))))))))))))))))))))))) (gi_a (gi_t pz_X11_rule_X11_rule_r2 5 rfl (gi_t pz_X11_rule_X11_rule_r2 6 rfl (gi_t pz_X11_rule_X11_rule_r2 7 rfl (gi_t pz_X11_rule_X11_rule_r2 8 rfl (gi_t pz_X11_rule_X11_rule_r2 9 rfl (gi_t pz_X11_rule_X11_rule_r2 10 rfl (gi_t pz_X11_rule_X11_rule_r2 11 rfl (gi_t pz_X11_rule_X11_rule_r2 12 rfl (gi_t pz_X11_rule_X11_rule_r2 13 rfl (gi_t pz_X11_rule_X11_rule_r2 14 rfl (gi_t pz_X11_rule_X11_rule_r2 15 rfl (gi_t pz_X11_rule_X11_rule_r2 16 rfl (gi_t pz_X11_rule_X11_rule_r2 17 rfl (gi_t pz_X11_rule_X11_rule_r2 18 rfl (gi_t pz_X11_rule_X11_rule_r2 19 rfl (gi_t pz_X11_rule_X11_rule_r2 20 rfl (gi_t pz_X11_rule_X11_rule_r2 21 rfl (gi_t pz_X11_rule_X11_rule_r2 22 rfl (gi_t pz_X11_rule_X11_rule_r2 23 rfl (gi_t pz_X11_rule_X11_rule_r3 0 rfl (gi_t pz_X11_rule_X11_rule_r3 1 rfl (gi_t pz_X11_rule_X11_rule_r3 2 rfl (gi_t pz_X11_rule_X11_rule_r3 3 rfl (gi_t pz_X11_rule_X11_rule_r3 4 rfl gi_n)))))))))))))))))))))))) (gi_t pz_X11_rule_X11_rule_r3 5 rfl (gi_t pz_X11_rule_X11_rule_r3 6 rfl (gi_t pz_X11_rule_X11_rule_r3 7 rfl (gi_t pz_X11_rule_X11_rule_r3 8 rfl (gi_t pz_X11_rule_X11_rule_r3 9 rfl (gi_t pz_X11_rule_X11_rule_r3 10 rfl (gi_t pz_X11_rule_X11_rule_r3 11 rfl (gi_t pz_X11_rule_X11_rule_r3 12 rfl (gi_t pz_X11_rule_X11_rule_r3 13 rfl (gi_t pz_X11_rule_X11_rule_r3 14 rfl (gi_t pz_X11_rule_X11_rule_r3 15 rfl (gi_t pz_X11_rule_X11_rule_r3 16 rfl (gi_t pz_X11_rule_X11_rule_r3 17 rfl (gi_t pz_X11_rule_X11_rule_r3 18 rfl (gi_t pz_X11_rule_X11_rule_r3 19 rfl (gi_t pz_X11_rule_X11_rule_r3 20 rfl (gi_t pz_X11_rule_X11_rule_r3 21 rfl (gi_t pz_X11_rule_X11_rule_r3 22 rfl (gi_t pz_X11_rule_X11_rule_r3 23 rfl (gi_t pz_X11_rule_X11_rule_r4 0 rfl (gi_t pz_X11_rule_X11_rule_r4 1 rfl (gi_t pz_X11_rule_X11_rule_r4 2 rfl (gi_t pz_X11_rule_X11_rule_r4 3 rfl (gi_t pz_X11_rule_X11_rule_r4 4 rfl gi_n)))))))))))))))))))))))))) pz_X11_rule_X60) pz_X11_rule_X40) pz_X11_rule_X30)) (by decide +kernel)
set_option maxRecDepth 20000 in
theorem gX11_rule_X6_followRule_n173 : GoodIn wsX11_rule (wsX6_followRule) := ggX11_rule_X6_followRule
theorem dX11_rule_0 : decode cX11_rule 0 = .ok (.iload_n 1, 1) := by decide +kernel
theorem dX11_rule_1 : decode cX11_rule 1 = .ok (.ifCond .lt 8, 3) := by decide +kernel
theorem dX11_rule_4 : decode cX11_rule 4 = .ok (.iload_n 1, 1) := by decide +kernel
theorem dX11_rule_5 : decode cX11_rule 5 = .ok (.iconst 2, 1) := by decide +kernel
theorem dX11_rule_6 : decode cX11_rule 6 = .ok (.if_icmp .le 5, 3) := by decide +kernel
theorem dX11_rule_9 : decode cX11_rule 9 = .ok (.iconst (-1), 1) := by decide +kernel
theorem dX11_rule_10 : decode cX11_rule 10 = .ok (.ireturn, 1) := by decide +kernel
theorem dX11_rule_11 : decode cX11_rule 11 = .ok (.aload_n 0, 1) := by decide +kernel
theorem dX11_rule_12 : decode cX11_rule 12 = .ok (.getfield 26, 3) := by decide +kernel
theorem dX11_rule_15 : decode cX11_rule 15 = .ok (.aload_n 0, 1) := by decide +kernel
theorem dX11_rule_16 : decode cX11_rule 16 = .ok (.getfield 10, 3) := by decide +kernel
theorem dX11_rule_19 : decode cX11_rule 19 = .ok (.iload_n 1, 1) := by decide +kernel
theorem dX11_rule_20 : decode cX11_rule 20 = .ok (.invokevirtual 173, 3) := by decide +kernel
theorem dX11_rule_23 : decode cX11_rule 23 = .ok (.aload_n 0, 1) := by decide +kernel
theorem dX11_rule_24 : decode cX11_rule 24 = .ok (.getfield 26, 3) := by decide +kernel
theorem dX11_rule_27 : decode cX11_rule 27 = .ok (.getfield 170, 3) := by decide +kernel
theorem dX11_rule_30 : decode cX11_rule 30 = .ok (.ireturn, 1) := by decide +kernel
set_option maxRecDepth 20000 in
theorem ggX11_least_X6_followLeast : GoodIn wsX11_least wsX6_followLeast := goodIn_sub (gi_t pz_X11_least_X11_least_r1 5 rfl (gi_a (gi_a (gi_a (gi_a (gi_a (gi_t pz_X11_least_X11_least_r1 6 rfl (gi_t pz_X11_least_X11_least_r1 7 rfl (gi_t pz_X11_least_X11_least_r1 8 rfl (gi_t pz_X11_least_X11_least_r1 9 rfl (gi_t pz_X11_least_X11_least_r1 10 rfl (gi_t pz_X11_least_X11_least_r1 11 rfl (gi_t pz_X11_least_X11_least_r1 3 rfl (gi_t pz_X11_least_X11_least_r1 12 rfl (gi_t pz_X11_least_X11_least_r1 13 rfl (gi_t pz_X11_least_X11_least_r1 14 rfl (gi_t pz_X11_least_X11_least_r1 15 rfl (gi_t pz_X11_least_X11_least_r1 16 rfl (gi_t pz_X11_least_X11_least_r1 17 rfl (gi_t pz_X11_least_X11_least_r1 18 rfl (gi_t pz_X11_least_X11_least_r1 19 rfl (gi_t pz_X11_least_X11_least_r1 20 rfl (gi_t pz_X11_least_X11_least_r1 21 rfl (gi_t pz_X11_least_X11_least_r1 22 rfl (gi_t pz_X11_least_X11_least_r1 23 rfl (gi_t pz_X11_least_X11_least_r2 0 rfl (gi_t pz_X11_least_X11_least_r2 1 rfl (gi_t pz_X11_least_X11_least_r2 2 rfl (gi_t pz_X11_least_X11_least_r2 3 rfl (gi_t pz_X11_least_X11_least_r2 4 rfl gi_n)))))))))))))))))))))))) (gi_a (gi_t pz_X11_least_X11_least_r2 5 rfl (gi_t pz_X11_least_X11_least_r2 6 rfl (gi_t pz_X11_least_X11_least_r2 7 rfl (gi_t pz_X11_least_X11_least_r2 8 rfl (gi_t pz_X11_least_X11_least_r2 9 rfl (gi_t pz_X11_least_X11_least_r2 10 rfl (gi_t pz_X11_least_X11_least_r2 11 rfl (gi_t pz_X11_least_X11_least_r2 12 rfl (gi_t pz_X11_least_X11_least_r2 13 rfl (gi_t pz_X11_least_X11_least_r2 14 rfl (gi_t pz_X11_least_X11_least_r2 15 rfl (gi_t pz_X11_least_X11_least_r2 16 rfl (gi_t pz_X11_least_X11_least_r2 17 rfl (gi_t pz_X11_least_X11_least_r2 18 rfl (gi_t pz_X11_least_X11_least_r2 19 rfl (gi_t pz_X11_least_X11_least_r2 20 rfl (gi_t pz_X11_least_X11_least_r2 21 rfl (gi_t pz_X11_least_X11_least_r2 22 rfl (gi_t pz_X11_least_X11_least_r2 23 rfl (gi_t pz_X11_least_X11_least_r3 0 rfl (gi_t pz_X11_least_X11_least_r3 1 rfl (gi_t pz_X11_least_X11_least_r3 2 rfl (gi_t pz_X11_least_X11_least_r3 3 rfl (gi_t pz_X11_least_X11_least_r3 4 rfl gi_n)))))))))))))))))))))))) (gi_a (gi_t pz_X11_least_X11_least_r3 5 rfl (gi_t pz_X11_least_X11_least_r3 6 rfl (gi_t pz_X11_least_X11_least_r3 7 rfl (gi_t pz_X11_least_X11_least_r3 8 rfl (gi_t pz_X11_least_X11_least_r3 9 rfl (gi_t pz_X11_least_X11_least_r3 10 rfl (gi_t pz_X11_least_X11_least_r3 11 rfl (gi_t pz_X11_least_X11_least_r3 12 rfl (gi_t pz_X11_least_X11_least_r3 13 rfl (gi_t pz_X11_least_X11_least_r3 14 rfl (gi_t pz_X11_least_X11_least_r3 15 rfl (gi_t pz_X11_least_X11_least_r3 16 rfl (gi_t pz_X11_least_X11_least_r3 17 rfl (gi_t pz_X11_least_X11_least_r3 18 rfl (gi_t pz_X11_least_X11_least_r3 19 rfl (gi_t pz_X11_least_X11_least_r3 20 rfl (gi_t pz_X11_least_X11_least_r3 21 rfl (gi_t pz_X11_least_X11_least_r3 22 rfl (gi_t pz_X11_least_X11_least_r3 23 rfl (gi_t pz_X11_least_X11_least_r4 0 rfl (gi_t pz_X11_least_X11_least_r4 1 rfl (gi_t pz_X11_least_X11_least_r4 2 rfl (gi_t pz_X11_least_X11_least_r4 3 rfl (gi_t pz_X11_least_X11_least_r4 4 rfl gi_n)))))))))))))))))))))))) (gi_a (gi_t pz_X11_least_X11_least_r4 5 rfl (gi_t pz_X11_least_X11_least_r4 6 rfl (gi_t pz_X11_least_X11_least_r4 7 rfl (gi_t pz_X11_least_X11_least_r4 8 rfl (gi_t pz_X11_least_X11_least_r4 9 rfl (gi_t pz_X11_least_X11_least_r4 10 rfl (gi_t pz_X11_least_X11_least_r4 11 rfl (gi_t pz_X11_least_X11_least_r4 12 rfl (gi_t pz_X11_least_X11_least_r4 13 rfl (gi_t pz_X11_least_X11_least_r4 14 rfl (gi_t pz_X11_least_X11_least_r4 15 rfl (gi_t pz_X11_least_X11_least_r4 16 rfl (gi_t pz_X11_least_X11_least_r4 17 rfl (gi_t pz_X11_least_X11_least_r4 18 rfl (gi_t pz_X11_least_X11_least_r4 19 rfl (gi_t pz_X11_least_X11_least_r4 20 rfl (gi_t pz_X11_least_X11_least_r4 21 rfl (gi_t pz_X11_least_X11_least_r4 22 rfl (gi_t pz_X11_least_X11_least_r4 23 rfl (gi_t pz_X11_least_X11_least_r5 0 rfl (gi_t pz_X11_least_X11_least_r5 1 rfl (gi_t pz_X11_least_X11_least_r5 2 rfl (gi_t pz_X11_least_X11_least_r5 3 rfl (gi_t pz_X11_least_X11_least_r5 4 rfl gi_n)))))))))))))))))))))))) (gi_t pz_X11_least_X11_least_r5 5 rfl (gi_t pz_X11_least_X11_least_r5 6 rfl (gi_t pz_X11_least_X11_least_r5 7 rfl (gi_t pz_X11_least_X11_least_r5 8 rfl (gi_t pz_X11_least_X11_least_r5 9 rfl (gi_t pz_X11_least_X11_least_r5 10 rfl (gi_t pz_X11_least_X11_least_r5 11 rfl (gi_t pz_X11_least_X11_least_r5 12 rfl (gi_t pz_X11_least_X11_least_r5 13 rfl (gi_t pz_X11_least_X11_least_r5 14 rfl (gi_t pz_X11_least_X11_least_r5 15 rfl (gi_t pz_X11_least_X11_least_r5 16 rfl (gi_t pz_X11_least_X11_least_r5 17 rfl (gi_t pz_X11_least_X11_least_r5 18 rfl (gi_t pz_X11_least_X11_least_r5 19 rfl (gi_t pz_X11_least_X11_least_r5 20 rfl (gi_t pz_X11_least_X11_least_r5 21 rfl (gi_t pz_X11_least_X11_least_r5 22 rfl (gi_t pz_X11_least_X11_least_r5 23 rfl (gi_t pz_X11_least_X11_least_r6 0 rfl (gi_t pz_X11_least_X11_least_r6 1 rfl (gi_t pz_X11_least_X11_least_r6 2 rfl gi_n)))))))))))))))))))))))))) pz_X11_least_X60) pz_X11_least_X40) pz_X11_least_X30) pz_X11_least_X50)) (by decide +kernel)
set_option maxRecDepth 20000 in
theorem gX11_least_X6_followLeast_n177 : GoodIn wsX11_least (wsX6_followLeast) := ggX11_least_X6_followLeast
theorem dX11_least_0 : decode cX11_least 0 = .ok (.iload_n 1, 1) := by decide +kernel
theorem dX11_least_1 : decode cX11_least 1 = .ok (.ifCond .eq 10, 3) := by decide +kernel
theorem dX11_least_4 : decode cX11_least 4 = .ok (.iload_n 1, 1) := by decide +kernel
theorem dX11_least_5 : decode cX11_least 5 = .ok (.iconst 1, 1) := by decide +kernel
theorem dX11_least_6 : decode cX11_least 6 = .ok (.if_icmp .eq 5, 3) := by decide +kernel
theorem dX11_least_9 : decode cX11_least 9 = .ok (.iconst (-1), 1) := by decide +kernel
theorem dX11_least_10 : decode cX11_least 10 = .ok (.ireturn, 1) := by decide +kernel
theorem dX11_least_11 : decode cX11_least 11 = .ok (.aload_n 0, 1) := by decide +kernel
theorem dX11_least_12 : decode cX11_least 12 = .ok (.getfield 26, 3) := by decide +kernel
theorem dX11_least_15 : decode cX11_least 15 = .ok (.aload_n 0, 1) := by decide +kernel
theorem dX11_least_16 : decode cX11_least 16 = .ok (.getfield 10, 3) := by decide +kernel
theorem dX11_least_19 : decode cX11_least 19 = .ok (.iload_n 1, 1) := by decide +kernel
theorem dX11_least_20 : decode cX11_least 20 = .ok (.invokevirtual 177, 3) := by decide +kernel
theorem dX11_least_23 : decode cX11_least 23 = .ok (.iload_n 1, 1) := by decide +kernel
theorem dX11_least_24 : decode cX11_least 24 = .ok (.ifCond .ne 13, 3) := by decide +kernel
theorem dX11_least_27 : decode cX11_least 27 = .ok (.aload_n 0, 1) := by decide +kernel
theorem dX11_least_28 : decode cX11_least 28 = .ok (.getfield 26, 3) := by decide +kernel
theorem dX11_least_31 : decode cX11_least 31 = .ok (.getfield 170, 3) := by decide +kernel
theorem dX11_least_34 : decode cX11_least 34 = .ok (.goto 10, 3) := by decide +kernel
theorem dX11_least_37 : decode cX11_least 37 = .ok (.aload_n 0, 1) := by decide +kernel
theorem dX11_least_38 : decode cX11_least 38 = .ok (.getfield 26, 3) := by decide +kernel
theorem dX11_least_41 : decode cX11_least 41 = .ok (.getfield 180, 3) := by decide +kernel
theorem dX11_least_44 : decode cX11_least 44 = .ok (.ireturn, 1) := by decide +kernel
set_option maxRecDepth 20000 in
theorem ggX11_order_X6_length : GoodIn wsX11_order wsX6_length := goodIn_sub (gi_c 5 rfl (gi_a (gi_c 6 rfl (gi_c 7 rfl gi_n)) pz_X11_order_X60)) (by decide +kernel)
set_option maxRecDepth 20000 in
theorem gX11_order_X6_length_n181 : GoodIn wsX11_order (wsX6_length) := ggX11_order_X6_length
theorem dX11_order_0 : decode cX11_order 0 = .ok (.iload_n 1, 1) := by decide +kernel
theorem dX11_order_1 : decode cX11_order 1 = .ok (.ifCond .lt 26, 3) := by decide +kernel
theorem dX11_order_4 : decode cX11_order 4 = .ok (.iload_n 1, 1) := by decide +kernel
theorem dX11_order_5 : decode cX11_order 5 = .ok (.aload_n 0, 1) := by decide +kernel
theorem dX11_order_6 : decode cX11_order 6 = .ok (.getfield 26, 3) := by decide +kernel
theorem dX11_order_9 : decode cX11_order 9 = .ok (.invokevirtual 181, 3) := by decide +kernel
theorem dX11_order_12 : decode cX11_order 12 = .ok (.if_icmp .ge 15, 3) := by decide +kernel
theorem dX11_order_15 : decode cX11_order 15 = .ok (.aload_n 0, 1) := by decide +kernel
theorem dX11_order_16 : decode cX11_order 16 = .ok (.getfield 26, 3) := by decide +kernel
theorem dX11_order_19 : decode cX11_order 19 = .ok (.getfield 183, 3) := by decide +kernel
theorem dX11_order_22 : decode cX11_order 22 = .ok (.iload_n 1, 1) := by decide +kernel
theorem dX11_order_23 : decode cX11_order 23 = .ok (.iaload, 1) := by decide +kernel
theorem dX11_order_24 : decode cX11_order 24 = .ok (.goto 5, 3) := by decide +kernel
theorem dX11_order_27 : decode cX11_order 27 = .ok (.bipush (-9), 2) := by decide +kernel
theorem dX11_order_29 : decode cX11_order 29 = .ok (.ireturn, 1) := by decide +kernel
theorem dX11_about_0 : decode cX11_about 0 = .ok (.iload_n 1, 1) := by decide +kernel
theorem dX11_about_1 : decode cX11_about 1 = .ok (.ifCond .lt 8, 3) := by decide +kernel
theorem dX11_about_4 : decode cX11_about 4 = .ok (.iload_n 1, 1) := by decide +kernel
theorem dX11_about_5 : decode cX11_about 5 = .ok (.iconst 2, 1) := by decide +kernel
theorem dX11_about_6 : decode cX11_about 6 = .ok (.if_icmp .le 5, 3) := by decide +kernel
theorem dX11_about_9 : decode cX11_about 9 = .ok (.iconst (-1), 1) := by decide +kernel
theorem dX11_about_10 : decode cX11_about 10 = .ok (.ireturn, 1) := by decide +kernel
theorem dX11_about_11 : decode cX11_about 11 = .ok (.aload_n 0, 1) := by decide +kernel
theorem dX11_about_12 : decode cX11_about 12 = .ok (.getfield 26, 3) := by decide +kernel
theorem dX11_about_15 : decode cX11_about 15 = .ok (.getfield 186, 3) := by decide +kernel
theorem dX11_about_18 : decode cX11_about 18 = .ok (.ifCond .ne 6, 3) := by decide +kernel
theorem dX11_about_21 : decode cX11_about 21 = .ok (.bipush (-9), 2) := by decide +kernel
theorem dX11_about_23 : decode cX11_about 23 = .ok (.ireturn, 1) := by decide +kernel
theorem dX11_about_24 : decode cX11_about 24 = .ok (.iload_n 1, 1) := by decide +kernel
theorem dX11_about_25 : decode cX11_about 25 = .ok (.ifCond .ne 11, 3) := by decide +kernel
theorem dX11_about_28 : decode cX11_about 28 = .ok (.aload_n 0, 1) := by decide +kernel
theorem dX11_about_29 : decode cX11_about 29 = .ok (.getfield 26, 3) := by decide +kernel
theorem dX11_about_32 : decode cX11_about 32 = .ok (.getfield 170, 3) := by decide +kernel
theorem dX11_about_35 : decode cX11_about 35 = .ok (.ireturn, 1) := by decide +kernel
theorem dX11_about_36 : decode cX11_about 36 = .ok (.iload_n 1, 1) := by decide +kernel
theorem dX11_about_37 : decode cX11_about 37 = .ok (.iconst 1, 1) := by decide +kernel
theorem dX11_about_38 : decode cX11_about 38 = .ok (.if_icmp .ne 11, 3) := by decide +kernel
theorem dX11_about_41 : decode cX11_about 41 = .ok (.aload_n 0, 1) := by decide +kernel
theorem dX11_about_42 : decode cX11_about 42 = .ok (.getfield 26, 3) := by decide +kernel
theorem dX11_about_45 : decode cX11_about 45 = .ok (.getfield 180, 3) := by decide +kernel
theorem dX11_about_48 : decode cX11_about 48 = .ok (.ireturn, 1) := by decide +kernel
theorem dX11_about_49 : decode cX11_about 49 = .ok (.aload_n 0, 1) := by decide +kernel
theorem dX11_about_50 : decode cX11_about 50 = .ok (.getfield 26, 3) := by decide +kernel
theorem dX11_about_53 : decode cX11_about 53 = .ok (.getfield 170, 3) := by decide +kernel
theorem dX11_about_56 : decode cX11_about 56 = .ok (.ifCond .ne 7, 3) := by decide +kernel
theorem dX11_about_59 : decode cX11_about 59 = .ok (.iconst 1, 1) := by decide +kernel
theorem dX11_about_60 : decode cX11_about 60 = .ok (.goto 4, 3) := by decide +kernel
theorem dX11_about_63 : decode cX11_about 63 = .ok (.iconst 0, 1) := by decide +kernel
theorem dX11_about_64 : decode cX11_about 64 = .ok (.ireturn, 1) := by decide +kernel
set_option maxRecDepth 20000 in
theorem ggX11_fill_X6_fillIn : GoodIn wsX11_fill wsX6_fillIn := goodIn_sub (gi_t pz_X11_fill_X11_fill_r1 5 rfl (gi_a (gi_a (gi_a (gi_a (gi_t pz_X11_fill_X11_fill_r1 6 rfl (gi_t pz_X11_fill_X11_fill_r1 7 rfl (gi_t pz_X11_fill_X11_fill_r1 8 rfl (gi_t pz_X11_fill_X11_fill_r1 9 rfl (gi_t pz_X11_fill_X11_fill_r1 10 rfl (gi_t pz_X11_fill_X11_fill_r1 11 rfl (gi_t pz_X11_fill_X11_fill_r1 12 rfl (gi_t pz_X11_fill_X11_fill_r1 13 rfl (gi_t pz_X11_fill_X11_fill_r1 14 rfl (gi_t pz_X11_fill_X11_fill_r1 15 rfl (gi_t pz_X11_fill_X11_fill_r1 16 rfl (gi_t pz_X11_fill_X11_fill_r1 17 rfl (gi_t pz_X11_fill_X11_fill_r1 18 rfl (gi_t pz_X11_fill_X11_fill_r1 19 rfl (gi_t pz_X11_fill_X11_fill_r1 20 rfl (gi_t pz_X11_fill_X11_fill_r1 21 rfl (gi_t pz_X11_fill_X11_fill_r1 22 rfl (gi_t pz_X11_fill_X11_fill_r1 23 rfl (gi_t pz_X11_fill_X11_fill_r2 0 rfl (gi_t pz_X11_fill_X11_fill_r2 1 rfl (gi_t pz_X11_fill_X11_fill_r2 2 rfl (gi_t pz_X11_fill_X11_fill_r2 3 rfl (gi_t pz_X11_fill_X11_fill_r2 4 rfl (gi_t pz_X11_fill_X11_fill_r2 5 rfl gi_n)))))))))))))))))))))))) (gi_t pz_X11_fill_X11_fill_r2 6 rfl (gi_t pz_X11_fill_X11_fill_r2 7 rfl (gi_t pz_X11_fill_X11_fill_r2 8 rfl (gi_t pz_X11_fill_X11_fill_r2 9 rfl (gi_t pz_X11_fill_X11_fill_r2 10 rfl (gi_t pz_X11_fill_X11_fill_r2 11 rfl (gi_t pz_X11_fill_X11_fill_r2 12 rfl (gi_t pz_X11_fill_X11_fill_r2 13 rfl (gi_t pz_X11_fill_X11_fill_r2 14 rfl gi_n)))))))))) pz_X11_fill_X60) pz_X11_fill_X30) pz_X11_fill_X40)) (by decide +kernel)
set_option maxRecDepth 20000 in
theorem gX11_fill_X6_fillIn_n190 : GoodIn wsX11_fill (wsX6_fillIn) := ggX11_fill_X6_fillIn
set_option maxRecDepth 20000 in
theorem ggX11_fill_X6_drop : GoodIn wsX11_fill wsX6_drop := goodIn_sub (gi_t pz_X11_fill_X11_fill_r2 17 rfl (gi_a (gi_t pz_X11_fill_X11_fill_r2 18 rfl gi_n) pz_X11_fill_X60)) (by decide +kernel)
set_option maxRecDepth 20000 in
theorem gX11_fill_X6_drop_n105 : GoodIn wsX11_fill (wsX6_drop) := ggX11_fill_X6_drop
theorem dX11_fill_0 : decode cX11_fill 0 = .ok (.aload_n 0, 1) := by decide +kernel
theorem dX11_fill_1 : decode cX11_fill 1 = .ok (.getfield 26, 3) := by decide +kernel
theorem dX11_fill_4 : decode cX11_fill 4 = .ok (.getfield 186, 3) := by decide +kernel
theorem dX11_fill_7 : decode cX11_fill 7 = .ok (.ifCond .ne 6, 3) := by decide +kernel
theorem dX11_fill_10 : decode cX11_fill 10 = .ok (.bipush (-9), 2) := by decide +kernel
theorem dX11_fill_12 : decode cX11_fill 12 = .ok (.ireturn, 1) := by decide +kernel
theorem dX11_fill_13 : decode cX11_fill 13 = .ok (.aload_n 0, 1) := by decide +kernel
theorem dX11_fill_14 : decode cX11_fill 14 = .ok (.getfield 26, 3) := by decide +kernel
theorem dX11_fill_17 : decode cX11_fill 17 = .ok (.aload_n 0, 1) := by decide +kernel
theorem dX11_fill_18 : decode cX11_fill 18 = .ok (.getfield 10, 3) := by decide +kernel
theorem dX11_fill_21 : decode cX11_fill 21 = .ok (.invokevirtual 190, 3) := by decide +kernel
theorem dX11_fill_24 : decode cX11_fill 24 = .ok (.aload_n 0, 1) := by decide +kernel
theorem dX11_fill_25 : decode cX11_fill 25 = .ok (.getfield 26, 3) := by decide +kernel
theorem dX11_fill_28 : decode cX11_fill 28 = .ok (.invokevirtual 105, 3) := by decide +kernel
theorem dX11_fill_31 : decode cX11_fill 31 = .ok (.aload_n 0, 1) := by decide +kernel
theorem dX11_fill_32 : decode cX11_fill 32 = .ok (.getfield 26, 3) := by decide +kernel
theorem dX11_fill_35 : decode cX11_fill 35 = .ok (.getfield 170, 3) := by decide +kernel
theorem dX11_fill_38 : decode cX11_fill 38 = .ok (.ireturn, 1) := by decide +kernel
set_option maxRecDepth 20000 in
theorem ggX11_clique_X1_bring : GoodIn wsX11_clique wsX1_bring := goodIn_sub (gi_t pz_X11_clique_X11_clique_r1 5 rfl (gi_a (gi_a (gi_a (gi_t pz_X11_clique_X11_clique_r1 6 rfl (gi_t pz_X11_clique_X11_clique_r1 7 rfl (gi_t pz_X11_clique_X11_clique_r1 8 rfl (gi_t pz_X11_clique_X11_clique_r1 9 rfl (gi_t pz_X11_clique_X11_clique_r1 10 rfl (gi_t pz_X11_clique_X11_clique_r1 11 rfl (gi_t pz_X11_clique_X11_clique_r1 12 rfl (gi_t pz_X11_clique_X11_clique_r1 13 rfl (gi_t pz_X11_clique_X11_clique_r1 14 rfl (gi_t pz_X11_clique_X11_clique_r1 15 rfl (gi_t pz_X11_clique_X11_clique_r1 16 rfl (gi_t pz_X11_clique_X11_clique_r1 3 rfl (gi_t pz_X11_clique_X11_clique_r1 17 rfl (gi_t pz_X11_clique_X11_clique_r1 18 rfl (gi_t pz_X11_clique_X11_clique_r1 19 rfl (gi_t pz_X11_clique_X11_clique_r1 20 rfl (gi_t pz_X11_clique_X11_clique_r1 21 rfl (gi_t pz_X11_clique_X11_clique_r1 22 rfl (gi_t pz_X11_clique_X11_clique_r1 23 rfl (gi_t pz_X11_clique_X11_clique_r2 0 rfl (gi_t pz_X11_clique_X11_clique_r2 1 rfl (gi_t pz_X11_clique_X11_clique_r2 2 rfl (gi_t pz_X11_clique_X11_clique_r2 3 rfl (gi_t pz_X11_clique_X11_clique_r2 4 rfl gi_n)))))))))))))))))))))))) (gi_t pz_X11_clique_X11_clique_r2 5 rfl (gi_t pz_X11_clique_X11_clique_r2 6 rfl (gi_t pz_X11_clique_X11_clique_r2 7 rfl (gi_t pz_X11_clique_X11_clique_r2 8 rfl (gi_t pz_X11_clique_X11_clique_r2 9 rfl (gi_t pz_X11_clique_X11_clique_r2 10 rfl gi_n))))))) pz_X11_clique_X10) pz_X11_clique_X40)) (by decide +kernel)
set_option maxRecDepth 20000 in
theorem gX11_clique_X1_bring_n193 : GoodIn wsX11_clique (wsX1_bring) := ggX11_clique_X1_bring
set_option maxRecDepth 20000 in
theorem ggX11_clique_X1_has : GoodIn wsX11_clique wsX1_has := goodIn_sub (gi_t pz_X11_clique_X11_clique_r2 13 rfl (gi_a (gi_t pz_X11_clique_X11_clique_r1 7 rfl gi_n) pz_X11_clique_X10)) (by decide +kernel)
set_option maxRecDepth 20000 in
theorem gX11_clique_X1_has_n195 : GoodIn wsX11_clique (wsX1_has) := ggX11_clique_X1_has
theorem dX11_clique_0 : decode cX11_clique 0 = .ok (.aload_n 0, 1) := by decide +kernel
theorem dX11_clique_1 : decode cX11_clique 1 = .ok (.getfield 42, 3) := by decide +kernel
theorem dX11_clique_4 : decode cX11_clique 4 = .ok (.aload_n 0, 1) := by decide +kernel
theorem dX11_clique_5 : decode cX11_clique 5 = .ok (.getfield 10, 3) := by decide +kernel
theorem dX11_clique_8 : decode cX11_clique 8 = .ok (.invokevirtual 193, 3) := by decide +kernel
theorem dX11_clique_11 : decode cX11_clique 11 = .ok (.iload_n 1, 1) := by decide +kernel
theorem dX11_clique_12 : decode cX11_clique 12 = .ok (.iconst (-1), 1) := by decide +kernel
theorem dX11_clique_13 : decode cX11_clique 13 = .ok (.if_icmp .ne 11, 3) := by decide +kernel
theorem dX11_clique_16 : decode cX11_clique 16 = .ok (.aload_n 0, 1) := by decide +kernel
theorem dX11_clique_17 : decode cX11_clique 17 = .ok (.getfield 42, 3) := by decide +kernel
theorem dX11_clique_20 : decode cX11_clique 20 = .ok (.getfield 194, 3) := by decide +kernel
theorem dX11_clique_23 : decode cX11_clique 23 = .ok (.ireturn, 1) := by decide +kernel
theorem dX11_clique_24 : decode cX11_clique 24 = .ok (.aload_n 0, 1) := by decide +kernel
theorem dX11_clique_25 : decode cX11_clique 25 = .ok (.getfield 42, 3) := by decide +kernel
theorem dX11_clique_28 : decode cX11_clique 28 = .ok (.iload_n 1, 1) := by decide +kernel
theorem dX11_clique_29 : decode cX11_clique 29 = .ok (.invokevirtual 195, 3) := by decide +kernel
theorem dX11_clique_32 : decode cX11_clique 32 = .ok (.ifCond .eq 15, 3) := by decide +kernel
theorem dX11_clique_35 : decode cX11_clique 35 = .ok (.aload_n 0, 1) := by decide +kernel
theorem dX11_clique_36 : decode cX11_clique 36 = .ok (.getfield 42, 3) := by decide +kernel
theorem dX11_clique_39 : decode cX11_clique 39 = .ok (.getfield 196, 3) := by decide +kernel
theorem dX11_clique_42 : decode cX11_clique 42 = .ok (.iload_n 1, 1) := by decide +kernel
theorem dX11_clique_43 : decode cX11_clique 43 = .ok (.iaload, 1) := by decide +kernel
theorem dX11_clique_44 : decode cX11_clique 44 = .ok (.goto 5, 3) := by decide +kernel
theorem dX11_clique_47 : decode cX11_clique 47 = .ok (.bipush (-9), 2) := by decide +kernel
theorem dX11_clique_49 : decode cX11_clique 49 = .ok (.ireturn, 1) := by decide +kernel
set_option maxRecDepth 20000 in
theorem ggX11_greatest_X1_bring : GoodIn wsX11_greatest wsX1_bring := goodIn_sub (gi_t pz_X11_greatest_X11_greatest_r1 5 rfl (gi_a (gi_a (gi_a (gi_t pz_X11_greatest_X11_greatest_r1 6 rfl (gi_t pz_X11_greatest_X11_greatest_r1 7 rfl (gi_t pz_X11_greatest_X11_greatest_r1 8 rfl (gi_t pz_X11_greatest_X11_greatest_r1 9 rfl (gi_t pz_X11_greatest_X11_greatest_r1 10 rfl (gi_t pz_X11_greatest_X11_greatest_r1 11 rfl (gi_t pz_X11_greatest_X11_greatest_r1 12 rfl (gi_t pz_X11_greatest_X11_greatest_r1 13 rfl (gi_t pz_X11_greatest_X11_greatest_r1 14 rfl (gi_t pz_X11_greatest_X11_greatest_r1 15 rfl (gi_t pz_X11_greatest_X11_greatest_r1 16 rfl (gi_t pz_X11_greatest_X11_greatest_r1 3 rfl (gi_t pz_X11_greatest_X11_greatest_r1 17 rfl (gi_t pz_X11_greatest_X11_greatest_r1 18 rfl (gi_t pz_X11_greatest_X11_greatest_r1 19 rfl (gi_t pz_X11_greatest_X11_greatest_r1 20 rfl (gi_t pz_X11_greatest_X11_greatest_r1 21 rfl (gi_t pz_X11_greatest_X11_greatest_r1 22 rfl (gi_t pz_X11_greatest_X11_greatest_r1 23 rfl (gi_t pz_X11_greatest_X11_greatest_r2 0 rfl (gi_t pz_X11_greatest_X11_greatest_r2 1 rfl (gi_t pz_X11_greatest_X11_greatest_r2 2 rfl (gi_t pz_X11_greatest_X11_greatest_r2 3 rfl (gi_t pz_X11_greatest_X11_greatest_r2 4 rfl gi_n)))))))))))))))))))))))) (gi_t pz_X11_greatest_X11_greatest_r2 5 rfl (gi_t pz_X11_greatest_X11_greatest_r2 6 rfl (gi_t pz_X11_greatest_X11_greatest_r2 7 rfl (gi_t pz_X11_greatest_X11_greatest_r2 8 rfl (gi_t pz_X11_greatest_X11_greatest_r2 9 rfl (gi_t pz_X11_greatest_X11_greatest_r2 10 rfl gi_n))))))) pz_X11_greatest_X10) pz_X11_greatest_X40)) (by decide +kernel)
set_option maxRecDepth 20000 in
theorem gX11_greatest_X1_bring_n193 : GoodIn wsX11_greatest (wsX1_bring) := ggX11_greatest_X1_bring
set_option maxRecDepth 20000 in
theorem ggX11_greatest_X1_widest : GoodIn wsX11_greatest wsX1_widest := goodIn_sub (gi_t pz_X11_greatest_X11_greatest_r2 13 rfl (gi_a (gi_t pz_X11_greatest_X11_greatest_r1 7 rfl (gi_t pz_X11_greatest_X11_greatest_r2 5 rfl (gi_t pz_X11_greatest_X11_greatest_r2 14 rfl (gi_t pz_X11_greatest_X11_greatest_r2 15 rfl (gi_t pz_X11_greatest_X11_greatest_r2 8 rfl (gi_t pz_X11_greatest_X11_greatest_r2 16 rfl (gi_t pz_X11_greatest_X11_greatest_r2 17 rfl (gi_t pz_X11_greatest_X11_greatest_r2 18 rfl (gi_t pz_X11_greatest_X11_greatest_r2 19 rfl gi_n))))))))) pz_X11_greatest_X10)) (by decide +kernel)
set_option maxRecDepth 20000 in
theorem gX11_greatest_X1_widest_n199 : GoodIn wsX11_greatest (wsX1_widest) := ggX11_greatest_X1_widest
set_option maxRecDepth 20000 in
theorem ggX11_greatest_J6_bitCount_0f7a4 : GoodIn wsX11_greatest wsJ6_bitCount_0f7a4 := goodIn_sub (gi_t pz_X11_greatest_X11_greatest_r2 16 rfl (gi_t pz_X11_greatest_X11_greatest_r2 17 rfl (gi_t pz_X11_greatest_X11_greatest_r2 18 rfl (gi_t pz_X11_greatest_X11_greatest_r2 19 rfl gi_n)))) (by decide +kernel)
set_option maxRecDepth 20000 in
theorem gX11_greatest_J6_bitCount_0f7a4 : GoodIn wsX11_greatest (va_wsS RX11 118 yJ6_bitCount_0f7a4 wsJ6_bitCount_0f7a4) := goodIn_app (goodIn_of _ (by decide +kernel)) ggX11_greatest_J6_bitCount_0f7a4
theorem dX11_greatest_0 : decode cX11_greatest 0 = .ok (.aload_n 0, 1) := by decide +kernel
theorem dX11_greatest_1 : decode cX11_greatest 1 = .ok (.getfield 42, 3) := by decide +kernel
theorem dX11_greatest_4 : decode cX11_greatest 4 = .ok (.aload_n 0, 1) := by decide +kernel
theorem dX11_greatest_5 : decode cX11_greatest 5 = .ok (.getfield 10, 3) := by decide +kernel
theorem dX11_greatest_8 : decode cX11_greatest 8 = .ok (.invokevirtual 193, 3) := by decide +kernel
theorem dX11_greatest_11 : decode cX11_greatest 11 = .ok (.aload_n 0, 1) := by decide +kernel
theorem dX11_greatest_12 : decode cX11_greatest 12 = .ok (.getfield 42, 3) := by decide +kernel
theorem dX11_greatest_15 : decode cX11_greatest 15 = .ok (.invokevirtual 199, 3) := by decide +kernel
theorem dX11_greatest_18 : decode cX11_greatest 18 = .ok (.invokestatic 118, 3) := by decide +kernel
theorem dX11_greatest_21 : decode cX11_greatest 21 = .ok (.ireturn, 1) := by decide +kernel
set_option maxRecDepth 20000 in
theorem ggX11_sort_X4_all : GoodIn wsX11_sort wsX4_all := goodIn_sub (gi_c 5 rfl (gi_a (gi_c 6 rfl gi_n) pz_X11_sort_X40)) (by decide +kernel)
set_option maxRecDepth 20000 in
theorem gX11_sort_X4_all_n164 : GoodIn wsX11_sort (wsX4_all) := ggX11_sort_X4_all
set_option maxRecDepth 20000 in
theorem ggX11_sort_X4_isClique : GoodIn wsX11_sort wsX4_isClique := goodIn_sub (gi_c 9 rfl (gi_a (gi_c 6 rfl (gi_c 10 rfl (gi_c 11 rfl (gi_c 12 rfl (gi_c 13 rfl gi_n))))) pz_X11_sort_X40)) (by decide +kernel)
set_option maxRecDepth 20000 in
theorem gX11_sort_X4_isClique_n202 : GoodIn wsX11_sort (wsX4_isClique) := ggX11_sort_X4_isClique
set_option maxRecDepth 20000 in
theorem ggX11_sort_X4_isLoose : GoodIn wsX11_sort wsX4_isLoose := goodIn_sub (gi_c 16 rfl (gi_a (gi_c 6 rfl (gi_c 10 rfl (gi_c 11 rfl (gi_c 12 rfl (gi_c 13 rfl gi_n))))) pz_X11_sort_X40)) (by decide +kernel)
set_option maxRecDepth 20000 in
theorem gX11_sort_X4_isLoose_n205 : GoodIn wsX11_sort (wsX4_isLoose) := ggX11_sort_X4_isLoose
theorem dX11_sort_0 : decode cX11_sort 0 = .ok (.iload_n 1, 1) := by decide +kernel
theorem dX11_sort_1 : decode cX11_sort 1 = .ok (.ifCond .le 14, 3) := by decide +kernel
theorem dX11_sort_4 : decode cX11_sort 4 = .ok (.iload_n 1, 1) := by decide +kernel
theorem dX11_sort_5 : decode cX11_sort 5 = .ok (.aload_n 0, 1) := by decide +kernel
theorem dX11_sort_6 : decode cX11_sort 6 = .ok (.getfield 10, 3) := by decide +kernel
theorem dX11_sort_9 : decode cX11_sort 9 = .ok (.invokevirtual 164, 3) := by decide +kernel
theorem dX11_sort_12 : decode cX11_sort 12 = .ok (.if_icmp .le 5, 3) := by decide +kernel
theorem dX11_sort_15 : decode cX11_sort 15 = .ok (.iconst (-1), 1) := by decide +kernel
theorem dX11_sort_16 : decode cX11_sort 16 = .ok (.ireturn, 1) := by decide +kernel
theorem dX11_sort_17 : decode cX11_sort 17 = .ok (.aload_n 0, 1) := by decide +kernel
theorem dX11_sort_18 : decode cX11_sort 18 = .ok (.getfield 10, 3) := by decide +kernel
theorem dX11_sort_21 : decode cX11_sort 21 = .ok (.iload_n 1, 1) := by decide +kernel
theorem dX11_sort_22 : decode cX11_sort 22 = .ok (.invokevirtual 202, 3) := by decide +kernel
theorem dX11_sort_25 : decode cX11_sort 25 = .ok (.ifCond .eq 7, 3) := by decide +kernel
theorem dX11_sort_28 : decode cX11_sort 28 = .ok (.iconst 1, 1) := by decide +kernel
theorem dX11_sort_29 : decode cX11_sort 29 = .ok (.goto 4, 3) := by decide +kernel
theorem dX11_sort_32 : decode cX11_sort 32 = .ok (.iconst 0, 1) := by decide +kernel
theorem dX11_sort_33 : decode cX11_sort 33 = .ok (.istore_n 2, 1) := by decide +kernel
theorem dX11_sort_34 : decode cX11_sort 34 = .ok (.aload_n 0, 1) := by decide +kernel
theorem dX11_sort_35 : decode cX11_sort 35 = .ok (.getfield 10, 3) := by decide +kernel
theorem dX11_sort_38 : decode cX11_sort 38 = .ok (.iload_n 1, 1) := by decide +kernel
theorem dX11_sort_39 : decode cX11_sort 39 = .ok (.invokevirtual 205, 3) := by decide +kernel
theorem dX11_sort_42 : decode cX11_sort 42 = .ok (.ifCond .eq 7, 3) := by decide +kernel
theorem dX11_sort_45 : decode cX11_sort 45 = .ok (.iconst 2, 1) := by decide +kernel
theorem dX11_sort_46 : decode cX11_sort 46 = .ok (.goto 4, 3) := by decide +kernel
theorem dX11_sort_49 : decode cX11_sort 49 = .ok (.iconst 0, 1) := by decide +kernel
theorem dX11_sort_50 : decode cX11_sort 50 = .ok (.istore_n 3, 1) := by decide +kernel
theorem dX11_sort_51 : decode cX11_sort 51 = .ok (.iload_n 2, 1) := by decide +kernel
theorem dX11_sort_52 : decode cX11_sort 52 = .ok (.iload_n 3, 1) := by decide +kernel
theorem dX11_sort_53 : decode cX11_sort 53 = .ok (.iadd, 1) := by decide +kernel
theorem dX11_sort_54 : decode cX11_sort 54 = .ok (.ireturn, 1) := by decide +kernel
set_option maxRecDepth 20000 in
theorem ggX11_colour_X4_has : GoodIn wsX11_colour wsX4_has := goodIn_sub (gi_t pz_X11_colour_X11_colour_r1 6 rfl (gi_a (gi_t pz_X11_colour_X11_colour_r1 7 rfl gi_n) pz_X11_colour_X40)) (by decide +kernel)
set_option maxRecDepth 20000 in
theorem gX11_colour_X4_has_n93 : GoodIn wsX11_colour (wsX4_has) := ggX11_colour_X4_has
set_option maxRecDepth 20000 in
theorem ggX11_colour_X1_bring : GoodIn wsX11_colour wsX1_bring := goodIn_sub (gi_t pz_X11_colour_X11_colour_r1 11 rfl (gi_a (gi_a (gi_a (gi_t pz_X11_colour_X11_colour_r1 12 rfl (gi_t pz_X11_colour_X11_colour_r1 13 rfl (gi_t pz_X11_colour_X11_colour_r1 14 rfl (gi_t pz_X11_colour_X11_colour_r1 15 rfl (gi_t pz_X11_colour_X11_colour_r1 16 rfl (gi_t pz_X11_colour_X11_colour_r1 4 rfl (gi_t pz_X11_colour_X11_colour_r1 17 rfl (gi_t pz_X11_colour_X11_colour_r1 18 rfl (gi_t pz_X11_colour_X11_colour_r1 7 rfl (gi_t pz_X11_colour_X11_colour_r1 19 rfl (gi_t pz_X11_colour_X11_colour_r1 20 rfl (gi_t pz_X11_colour_X11_colour_r1 9 rfl (gi_t pz_X11_colour_X11_colour_r1 21 rfl (gi_t pz_X11_colour_X11_colour_r1 22 rfl (gi_t pz_X11_colour_X11_colour_r1 23 rfl (gi_t pz_X11_colour_X11_colour_r2 0 rfl (gi_t pz_X11_colour_X11_colour_r2 1 rfl (gi_t pz_X11_colour_X11_colour_r2 2 rfl (gi_t pz_X11_colour_X11_colour_r2 3 rfl (gi_t pz_X11_colour_X11_colour_r2 4 rfl (gi_t pz_X11_colour_X11_colour_r2 5 rfl (gi_t pz_X11_colour_X11_colour_r2 6 rfl (gi_t pz_X11_colour_X11_colour_r2 7 rfl (gi_t pz_X11_colour_X11_colour_r2 8 rfl gi_n)))))))))))))))))))))))) (gi_t pz_X11_colour_X11_colour_r2 9 rfl (gi_t pz_X11_colour_X11_colour_r2 10 rfl (gi_t pz_X11_colour_X11_colour_r2 11 rfl (gi_t pz_X11_colour_X11_colour_r2 12 rfl (gi_t pz_X11_colour_X11_colour_r2 13 rfl (gi_t pz_X11_colour_X11_colour_r2 14 rfl gi_n))))))) pz_X11_colour_X10) pz_X11_colour_X40)) (by decide +kernel)
set_option maxRecDepth 20000 in
theorem gX11_colour_X1_bring_n193 : GoodIn wsX11_colour (wsX1_bring) := ggX11_colour_X1_bring
set_option maxRecDepth 20000 in
theorem ggX11_colour_X1_widest : GoodIn wsX11_colour wsX1_widest := goodIn_sub (gi_t pz_X11_colour_X11_colour_r2 17 rfl (gi_a (gi_t pz_X11_colour_X11_colour_r1 13 rfl (gi_t pz_X11_colour_X11_colour_r2 9 rfl (gi_t pz_X11_colour_X11_colour_r2 18 rfl (gi_t pz_X11_colour_X11_colour_r2 19 rfl (gi_t pz_X11_colour_X11_colour_r2 12 rfl (gi_t pz_X11_colour_X11_colour_r2 20 rfl (gi_t pz_X11_colour_X11_colour_r2 21 rfl (gi_t pz_X11_colour_X11_colour_r2 22 rfl (gi_t pz_X11_colour_X11_colour_r2 23 rfl gi_n))))))))) pz_X11_colour_X10)) (by decide +kernel)
set_option maxRecDepth 20000 in
theorem gX11_colour_X1_widest_n199 : GoodIn wsX11_colour (wsX1_widest) := ggX11_colour_X1_widest
set_option maxRecDepth 20000 in
theorem ggX11_colour_J6_bitCount_0f7a4 : GoodIn wsX11_colour wsJ6_bitCount_0f7a4 := goodIn_sub (gi_t pz_X11_colour_X11_colour_r2 20 rfl (gi_t pz_X11_colour_X11_colour_r2 21 rfl (gi_t pz_X11_colour_X11_colour_r2 22 rfl (gi_t pz_X11_colour_X11_colour_r2 23 rfl gi_n)))) (by decide +kernel)
set_option maxRecDepth 20000 in
theorem gX11_colour_J6_bitCount_0f7a4 : GoodIn wsX11_colour (va_wsS RX11 118 yJ6_bitCount_0f7a4 wsJ6_bitCount_0f7a4) := goodIn_app (goodIn_of _ (by decide +kernel)) ggX11_colour_J6_bitCount_0f7a4
set_option maxRecDepth 20000 in
theorem ggX11_colour_X7_bring : GoodIn wsX11_colour wsX7_bring := goodIn_sub (gi_t pz_X11_colour_X11_colour_r3 4 rfl (gi_a (gi_a (gi_t pz_X11_colour_X11_colour_r3 5 rfl (gi_t pz_X11_colour_X11_colour_r3 6 rfl (gi_t pz_X11_colour_X11_colour_r3 7 rfl (gi_t pz_X11_colour_X11_colour_r3 8 rfl (gi_t pz_X11_colour_X11_colour_r3 9 rfl (gi_t pz_X11_colour_X11_colour_r3 10 rfl (gi_t pz_X11_colour_X11_colour_r3 11 rfl (gi_t pz_X11_colour_X11_colour_r3 12 rfl (gi_t pz_X11_colour_X11_colour_r3 13 rfl (gi_t pz_X11_colour_X11_colour_r3 2 rfl (gi_t pz_X11_colour_X11_colour_r3 14 rfl (gi_t pz_X11_colour_X11_colour_r3 15 rfl (gi_t pz_X11_colour_X11_colour_r3 16 rfl (gi_t pz_X11_colour_X11_colour_r3 17 rfl (gi_t pz_X11_colour_X11_colour_r3 18 rfl (gi_t pz_X11_colour_X11_colour_r3 19 rfl gi_n)))))))))))))))) pz_X11_colour_X70) pz_X11_colour_X40)) (by decide +kernel)
set_option maxRecDepth 20000 in
theorem gX11_colour_X7_bring_n208 : GoodIn wsX11_colour (wsX7_bring) := ggX11_colour_X7_bring
theorem dX11_colour_0 : decode cX11_colour 0 = .ok (.iload_n 1, 1) := by decide +kernel
theorem dX11_colour_1 : decode cX11_colour 1 = .ok (.iconst (-1), 1) := by decide +kernel
theorem dX11_colour_2 : decode cX11_colour 2 = .ok (.if_icmp .eq 16, 3) := by decide +kernel
theorem dX11_colour_5 : decode cX11_colour 5 = .ok (.aload_n 0, 1) := by decide +kernel
theorem dX11_colour_6 : decode cX11_colour 6 = .ok (.getfield 10, 3) := by decide +kernel
theorem dX11_colour_9 : decode cX11_colour 9 = .ok (.iload_n 1, 1) := by decide +kernel
theorem dX11_colour_10 : decode cX11_colour 10 = .ok (.invokevirtual 93, 3) := by decide +kernel
theorem dX11_colour_13 : decode cX11_colour 13 = .ok (.ifCond .ne 5, 3) := by decide +kernel
theorem dX11_colour_16 : decode cX11_colour 16 = .ok (.iconst (-1), 1) := by decide +kernel
theorem dX11_colour_17 : decode cX11_colour 17 = .ok (.ireturn, 1) := by decide +kernel
theorem dX11_colour_18 : decode cX11_colour 18 = .ok (.aload_n 0, 1) := by decide +kernel
theorem dX11_colour_19 : decode cX11_colour 19 = .ok (.getfield 42, 3) := by decide +kernel
theorem dX11_colour_22 : decode cX11_colour 22 = .ok (.aload_n 0, 1) := by decide +kernel
theorem dX11_colour_23 : decode cX11_colour 23 = .ok (.getfield 10, 3) := by decide +kernel
theorem dX11_colour_26 : decode cX11_colour 26 = .ok (.invokevirtual 193, 3) := by decide +kernel
theorem dX11_colour_29 : decode cX11_colour 29 = .ok (.aload_n 0, 1) := by decide +kernel
theorem dX11_colour_30 : decode cX11_colour 30 = .ok (.getfield 52, 3) := by decide +kernel
theorem dX11_colour_33 : decode cX11_colour 33 = .ok (.aload_n 0, 1) := by decide +kernel
theorem dX11_colour_34 : decode cX11_colour 34 = .ok (.getfield 10, 3) := by decide +kernel
theorem dX11_colour_37 : decode cX11_colour 37 = .ok (.aload_n 0, 1) := by decide +kernel
theorem dX11_colour_38 : decode cX11_colour 38 = .ok (.getfield 42, 3) := by decide +kernel
theorem dX11_colour_41 : decode cX11_colour 41 = .ok (.invokevirtual 199, 3) := by decide +kernel
theorem dX11_colour_44 : decode cX11_colour 44 = .ok (.invokestatic 118, 3) := by decide +kernel
theorem dX11_colour_47 : decode cX11_colour 47 = .ok (.invokevirtual 208, 3) := by decide +kernel
theorem dX11_colour_50 : decode cX11_colour 50 = .ok (.iload_n 1, 1) := by decide +kernel
theorem dX11_colour_51 : decode cX11_colour 51 = .ok (.iconst (-1), 1) := by decide +kernel
theorem dX11_colour_52 : decode cX11_colour 52 = .ok (.if_icmp .ne 13, 3) := by decide +kernel
theorem dX11_colour_55 : decode cX11_colour 55 = .ok (.aload_n 0, 1) := by decide +kernel
theorem dX11_colour_56 : decode cX11_colour 56 = .ok (.getfield 52, 3) := by decide +kernel
theorem dX11_colour_59 : decode cX11_colour 59 = .ok (.getfield 210, 3) := by decide +kernel
theorem dX11_colour_62 : decode cX11_colour 62 = .ok (.goto 12, 3) := by decide +kernel
theorem dX11_colour_65 : decode cX11_colour 65 = .ok (.aload_n 0, 1) := by decide +kernel
theorem dX11_colour_66 : decode cX11_colour 66 = .ok (.getfield 52, 3) := by decide +kernel
theorem dX11_colour_69 : decode cX11_colour 69 = .ok (.getfield 213, 3) := by decide +kernel
theorem dX11_colour_72 : decode cX11_colour 72 = .ok (.iload_n 1, 1) := by decide +kernel
theorem dX11_colour_73 : decode cX11_colour 73 = .ok (.iaload, 1) := by decide +kernel
theorem dX11_colour_74 : decode cX11_colour 74 = .ok (.ireturn, 1) := by decide +kernel
set_option maxRecDepth 20000 in
theorem ggX11_apart_X1_bring : GoodIn wsX11_apart wsX1_bring := goodIn_sub (gi_t pz_X11_apart_X11_apart_r1 5 rfl (gi_a (gi_a (gi_a (gi_t pz_X11_apart_X11_apart_r1 6 rfl (gi_t pz_X11_apart_X11_apart_r1 7 rfl (gi_t pz_X11_apart_X11_apart_r1 8 rfl (gi_t pz_X11_apart_X11_apart_r1 9 rfl (gi_t pz_X11_apart_X11_apart_r1 10 rfl (gi_t pz_X11_apart_X11_apart_r1 11 rfl (gi_t pz_X11_apart_X11_apart_r1 12 rfl (gi_t pz_X11_apart_X11_apart_r1 13 rfl (gi_t pz_X11_apart_X11_apart_r1 14 rfl (gi_t pz_X11_apart_X11_apart_r1 15 rfl (gi_t pz_X11_apart_X11_apart_r1 16 rfl (gi_t pz_X11_apart_X11_apart_r1 3 rfl (gi_t pz_X11_apart_X11_apart_r1 17 rfl (gi_t pz_X11_apart_X11_apart_r1 18 rfl (gi_t pz_X11_apart_X11_apart_r1 19 rfl (gi_t pz_X11_apart_X11_apart_r1 20 rfl (gi_t pz_X11_apart_X11_apart_r1 21 rfl (gi_t pz_X11_apart_X11_apart_r1 22 rfl (gi_t pz_X11_apart_X11_apart_r1 23 rfl (gi_t pz_X11_apart_X11_apart_r2 0 rfl (gi_t pz_X11_apart_X11_apart_r2 1 rfl (gi_t pz_X11_apart_X11_apart_r2 2 rfl (gi_t pz_X11_apart_X11_apart_r2 3 rfl (gi_t pz_X11_apart_X11_apart_r2 4 rfl gi_n)))))))))))))))))))))))) (gi_t pz_X11_apart_X11_apart_r2 5 rfl (gi_t pz_X11_apart_X11_apart_r2 6 rfl (gi_t pz_X11_apart_X11_apart_r2 7 rfl (gi_t pz_X11_apart_X11_apart_r2 8 rfl (gi_t pz_X11_apart_X11_apart_r2 9 rfl (gi_t pz_X11_apart_X11_apart_r2 10 rfl gi_n))))))) pz_X11_apart_X10) pz_X11_apart_X40)) (by decide +kernel)
set_option maxRecDepth 20000 in
theorem gX11_apart_X1_bring_n193 : GoodIn wsX11_apart (wsX1_bring) := ggX11_apart_X1_bring
set_option maxRecDepth 20000 in
theorem ggX11_apart_X1_widest : GoodIn wsX11_apart wsX1_widest := goodIn_sub (gi_t pz_X11_apart_X11_apart_r2 13 rfl (gi_a (gi_t pz_X11_apart_X11_apart_r1 7 rfl (gi_t pz_X11_apart_X11_apart_r2 5 rfl (gi_t pz_X11_apart_X11_apart_r2 14 rfl (gi_t pz_X11_apart_X11_apart_r2 15 rfl (gi_t pz_X11_apart_X11_apart_r2 8 rfl (gi_t pz_X11_apart_X11_apart_r2 16 rfl (gi_t pz_X11_apart_X11_apart_r2 17 rfl (gi_t pz_X11_apart_X11_apart_r2 18 rfl (gi_t pz_X11_apart_X11_apart_r2 19 rfl gi_n))))))))) pz_X11_apart_X10)) (by decide +kernel)
set_option maxRecDepth 20000 in
theorem gX11_apart_X1_widest_n199 : GoodIn wsX11_apart (wsX1_widest) := ggX11_apart_X1_widest
theorem dX11_apart_0 : decode cX11_apart 0 = .ok (.aload_n 0, 1) := by decide +kernel
theorem dX11_apart_1 : decode cX11_apart 1 = .ok (.getfield 46, 3) := by decide +kernel
theorem dX11_apart_4 : decode cX11_apart 4 = .ok (.aload_n 0, 1) := by decide +kernel
theorem dX11_apart_5 : decode cX11_apart 5 = .ok (.getfield 10, 3) := by decide +kernel
theorem dX11_apart_8 : decode cX11_apart 8 = .ok (.invokevirtual 193, 3) := by decide +kernel
theorem dX11_apart_11 : decode cX11_apart 11 = .ok (.aload_n 0, 1) := by decide +kernel
theorem dX11_apart_12 : decode cX11_apart 12 = .ok (.getfield 46, 3) := by decide +kernel
theorem dX11_apart_15 : decode cX11_apart 15 = .ok (.invokevirtual 199, 3) := by decide +kernel
theorem dX11_apart_18 : decode cX11_apart 18 = .ok (.ireturn, 1) := by decide +kernel
set_option maxRecDepth 20000 in
theorem ggX11_tree_X1_bring : GoodIn wsX11_tree wsX1_bring := goodIn_sub (gi_t pz_X11_tree_X11_tree_r1 6 rfl (gi_a (gi_a (gi_a (gi_t pz_X11_tree_X11_tree_r1 7 rfl (gi_t pz_X11_tree_X11_tree_r1 8 rfl (gi_t pz_X11_tree_X11_tree_r1 9 rfl (gi_t pz_X11_tree_X11_tree_r1 10 rfl (gi_t pz_X11_tree_X11_tree_r1 11 rfl (gi_t pz_X11_tree_X11_tree_r1 12 rfl (gi_t pz_X11_tree_X11_tree_r1 13 rfl (gi_t pz_X11_tree_X11_tree_r1 14 rfl (gi_t pz_X11_tree_X11_tree_r1 15 rfl (gi_t pz_X11_tree_X11_tree_r1 16 rfl (gi_t pz_X11_tree_X11_tree_r1 17 rfl (gi_t pz_X11_tree_X11_tree_r1 4 rfl (gi_t pz_X11_tree_X11_tree_r1 18 rfl (gi_t pz_X11_tree_X11_tree_r1 19 rfl (gi_t pz_X11_tree_X11_tree_r1 20 rfl (gi_t pz_X11_tree_X11_tree_r1 21 rfl (gi_t pz_X11_tree_X11_tree_r1 22 rfl (gi_t pz_X11_tree_X11_tree_r1 23 rfl (gi_t pz_X11_tree_X11_tree_r2 0 rfl (gi_t pz_X11_tree_X11_tree_r2 1 rfl (gi_t pz_X11_tree_X11_tree_r2 2 rfl (gi_t pz_X11_tree_X11_tree_r2 3 rfl (gi_t pz_X11_tree_X11_tree_r2 4 rfl (gi_t pz_X11_tree_X11_tree_r2 5 rfl gi_n)))))))))))))))))))))))) (gi_t pz_X11_tree_X11_tree_r2 6 rfl (gi_t pz_X11_tree_X11_tree_r2 7 rfl (gi_t pz_X11_tree_X11_tree_r2 8 rfl (gi_t pz_X11_tree_X11_tree_r2 9 rfl (gi_t pz_X11_tree_X11_tree_r2 10 rfl (gi_t pz_X11_tree_X11_tree_r2 11 rfl gi_n))))))) pz_X11_tree_X10) pz_X11_tree_X40)) (by decide +kernel)
set_option maxRecDepth 20000 in
theorem gX11_tree_X1_bring_n193 : GoodIn wsX11_tree (wsX1_bring) := ggX11_tree_X1_bring
set_option maxRecDepth 20000 in
theorem ggX11_tree_X1_has : GoodIn wsX11_tree wsX1_has := goodIn_sub (gi_t pz_X11_tree_X11_tree_r2 14 rfl (gi_a (gi_t pz_X11_tree_X11_tree_r1 8 rfl gi_n) pz_X11_tree_X10)) (by decide +kernel)
set_option maxRecDepth 20000 in
theorem gX11_tree_X1_has_n195 : GoodIn wsX11_tree (wsX1_has) := ggX11_tree_X1_has
set_option maxRecDepth 20000 in
theorem ggX11_tree_X9_bring : GoodIn wsX11_tree wsX9_bring := goodIn_sub (gi_t pz_X11_tree_X11_tree_r2 18 rfl (gi_a (gi_a (gi_a (gi_a (gi_t pz_X11_tree_X11_tree_r2 19 rfl (gi_t pz_X11_tree_X11_tree_r2 20 rfl (gi_t pz_X11_tree_X11_tree_r2 21 rfl (gi_t pz_X11_tree_X11_tree_r2 22 rfl (gi_t pz_X11_tree_X11_tree_r2 23 rfl (gi_t pz_X11_tree_X11_tree_r3 0 rfl (gi_t pz_X11_tree_X11_tree_r3 1 rfl (gi_t pz_X11_tree_X11_tree_r3 2 rfl (gi_t pz_X11_tree_X11_tree_r3 3 rfl (gi_t pz_X11_tree_X11_tree_r3 4 rfl (gi_t pz_X11_tree_X11_tree_r3 5 rfl (gi_t pz_X11_tree_X11_tree_r3 6 rfl (gi_t pz_X11_tree_X11_tree_r3 7 rfl (gi_t pz_X11_tree_X11_tree_r3 8 rfl (gi_t pz_X11_tree_X11_tree_r3 9 rfl (gi_t pz_X11_tree_X11_tree_r3 10 rfl (gi_t pz_X11_tree_X11_tree_r3 11 rfl (gi_t pz_X11_tree_X11_tree_r1 11 rfl (gi_t pz_X11_tree_X11_tree_r1 12 rfl (gi_t pz_X11_tree_X11_tree_r1 13 rfl (gi_t pz_X11_tree_X11_tree_r1 14 rfl (gi_t pz_X11_tree_X11_tree_r1 15 rfl (gi_t pz_X11_tree_X11_tree_r3 12 rfl (gi_t pz_X11_tree_X11_tree_r3 13 rfl gi_n)))))))))))))))))))))))) (gi_a (gi_t pz_X11_tree_X11_tree_r3 14 rfl (gi_t pz_X11_tree_X11_tree_r3 15 rfl (gi_t pz_X11_tree_X11_tree_r1 23 rfl (gi_t pz_X11_tree_X11_tree_r2 0 rfl (gi_t pz_X11_tree_X11_tree_r2 1 rfl (gi_t pz_X11_tree_X11_tree_r3 16 rfl (gi_t pz_X11_tree_X11_tree_r3 17 rfl (gi_t pz_X11_tree_X11_tree_r3 18 rfl (gi_t pz_X11_tree_X11_tree_r3 19 rfl (gi_t pz_X11_tree_X11_tree_r3 20 rfl (gi_t pz_X11_tree_X11_tree_r3 21 rfl (gi_t pz_X11_tree_X11_tree_r2 9 rfl (gi_t pz_X11_tree_X11_tree_r3 22 rfl (gi_t pz_X11_tree_X11_tree_r2 11 rfl (gi_t pz_X11_tree_X11_tree_r3 23 rfl (gi_t pz_X11_tree_X11_tree_r4 0 rfl (gi_t pz_X11_tree_X11_tree_r4 1 rfl (gi_t pz_X11_tree_X11_tree_r4 2 rfl (gi_t pz_X11_tree_X11_tree_r4 3 rfl (gi_t pz_X11_tree_X11_tree_r4 4 rfl (gi_t pz_X11_tree_X11_tree_r4 5 rfl (gi_t pz_X11_tree_X11_tree_r4 6 rfl (gi_t pz_X11_tree_X11_tree_r4 7 rfl (gi_t pz_X11_tree_X11_tree_r2 16 rfl gi_n)))))))))))))))))))))))) (gi_t pz_X11_tree_X11_tree_r4 8 rfl (gi_t pz_X11_tree_X11_tree_r4 9 rfl (gi_t pz_X11_tree_X11_tree_r4 10 rfl (gi_t pz_X11_tree_X11_tree_r4 11 rfl (gi_t pz_X11_tree_X11_tree_r4 12 rfl (gi_t pz_X11_tree_X11_tree_r4 13 rfl (gi_t pz_X11_tree_X11_tree_r4 14 rfl (gi_t pz_X11_tree_X11_tree_r4 15 rfl (gi_t pz_X11_tree_X11_tree_r4 16 rfl (gi_t pz_X11_tree_X11_tree_r4 17 rfl (gi_t pz_X11_tree_X11_tree_r4 18 rfl (gi_t pz_X11_tree_X11_tree_r4 19 rfl gi_n)))))))))))))) pz_X11_tree_X90) pz_X11_tree_X40) pz_X11_tree_X30)) (by decide +kernel)
set_option maxRecDepth 20000 in
theorem gX11_tree_X9_bring_n123 : GoodIn wsX11_tree (wsX9_bring) := ggX11_tree_X9_bring
set_option maxRecDepth 20000 in
theorem ggX11_tree_X1_bringTree : GoodIn wsX11_tree wsX1_bringTree := goodIn_sub (gi_t pz_X11_tree_X11_tree_r4 22 rfl (gi_a (gi_t pz_X11_tree_X11_tree_r4 23 rfl (gi_t pz_X11_tree_X11_tree_r1 7 rfl (gi_t pz_X11_tree_X11_tree_r5 0 rfl (gi_t pz_X11_tree_X11_tree_r5 1 rfl (gi_t pz_X11_tree_X11_tree_r1 8 rfl (gi_t pz_X11_tree_X11_tree_r5 2 rfl (gi_t pz_X11_tree_X11_tree_r5 3 rfl (gi_t pz_X11_tree_X11_tree_r5 4 rfl (gi_t pz_X11_tree_X11_tree_r1 4 rfl (gi_t pz_X11_tree_X11_tree_r5 5 rfl (gi_t pz_X11_tree_X11_tree_r2 6 rfl (gi_t pz_X11_tree_X11_tree_r5 6 rfl (gi_t pz_X11_tree_X11_tree_r5 7 rfl (gi_t pz_X11_tree_X11_tree_r2 9 rfl (gi_t pz_X11_tree_X11_tree_r5 8 rfl (gi_t pz_X11_tree_X11_tree_r5 9 rfl (gi_t pz_X11_tree_X11_tree_r5 10 rfl (gi_t pz_X11_tree_X11_tree_r5 11 rfl (gi_t pz_X11_tree_X11_tree_r1 23 rfl (gi_t pz_X11_tree_X11_tree_r2 0 rfl (gi_t pz_X11_tree_X11_tree_r2 1 rfl gi_n))))))))))))))))))))) pz_X11_tree_X10)) (by decide +kernel)
set_option maxRecDepth 20000 in
theorem gX11_tree_X1_bringTree_n216 : GoodIn wsX11_tree (wsX1_bringTree) := ggX11_tree_X1_bringTree
theorem dX11_tree_0 : decode cX11_tree 0 = .ok (.aload_n 0, 1) := by decide +kernel
theorem dX11_tree_1 : decode cX11_tree 1 = .ok (.getfield 42, 3) := by decide +kernel
theorem dX11_tree_4 : decode cX11_tree 4 = .ok (.aload_n 0, 1) := by decide +kernel
theorem dX11_tree_5 : decode cX11_tree 5 = .ok (.getfield 10, 3) := by decide +kernel
theorem dX11_tree_8 : decode cX11_tree 8 = .ok (.invokevirtual 193, 3) := by decide +kernel
theorem dX11_tree_11 : decode cX11_tree 11 = .ok (.aload_n 0, 1) := by decide +kernel
theorem dX11_tree_12 : decode cX11_tree 12 = .ok (.getfield 42, 3) := by decide +kernel
theorem dX11_tree_15 : decode cX11_tree 15 = .ok (.iload_n 1, 1) := by decide +kernel
theorem dX11_tree_16 : decode cX11_tree 16 = .ok (.invokevirtual 195, 3) := by decide +kernel
theorem dX11_tree_19 : decode cX11_tree 19 = .ok (.ifCond .eq 12, 3) := by decide +kernel
theorem dX11_tree_22 : decode cX11_tree 22 = .ok (.iload_n 2, 1) := by decide +kernel
theorem dX11_tree_23 : decode cX11_tree 23 = .ok (.ifCond .lt 8, 3) := by decide +kernel
theorem dX11_tree_26 : decode cX11_tree 26 = .ok (.iload_n 2, 1) := by decide +kernel
theorem dX11_tree_27 : decode cX11_tree 27 = .ok (.iconst 1, 1) := by decide +kernel
theorem dX11_tree_28 : decode cX11_tree 28 = .ok (.if_icmp .le 5, 3) := by decide +kernel
theorem dX11_tree_31 : decode cX11_tree 31 = .ok (.iconst (-1), 1) := by decide +kernel
theorem dX11_tree_32 : decode cX11_tree 32 = .ok (.ireturn, 1) := by decide +kernel
theorem dX11_tree_33 : decode cX11_tree 33 = .ok (.aload_n 0, 1) := by decide +kernel
theorem dX11_tree_34 : decode cX11_tree 34 = .ok (.getfield 33, 3) := by decide +kernel
theorem dX11_tree_37 : decode cX11_tree 37 = .ok (.aload_n 0, 1) := by decide +kernel
theorem dX11_tree_38 : decode cX11_tree 38 = .ok (.getfield 10, 3) := by decide +kernel
theorem dX11_tree_41 : decode cX11_tree 41 = .ok (.invokevirtual 123, 3) := by decide +kernel
theorem dX11_tree_44 : decode cX11_tree 44 = .ok (.aload_n 0, 1) := by decide +kernel
theorem dX11_tree_45 : decode cX11_tree 45 = .ok (.getfield 33, 3) := by decide +kernel
theorem dX11_tree_48 : decode cX11_tree 48 = .ok (.getfield 127, 3) := by decide +kernel
theorem dX11_tree_51 : decode cX11_tree 51 = .ok (.ifCond .ne 9, 3) := by decide +kernel
theorem dX11_tree_54 : decode cX11_tree 54 = .ok (.iload_n 1, 1) := by decide +kernel
theorem dX11_tree_55 : decode cX11_tree 55 = .ok (.bipush 12, 2) := by decide +kernel
theorem dX11_tree_57 : decode cX11_tree 57 = .ok (.if_icmp .lt 6, 3) := by decide +kernel
theorem dX11_tree_60 : decode cX11_tree 60 = .ok (.bipush (-4), 2) := by decide +kernel
theorem dX11_tree_62 : decode cX11_tree 62 = .ok (.ireturn, 1) := by decide +kernel
theorem dX11_tree_63 : decode cX11_tree 63 = .ok (.aload_n 0, 1) := by decide +kernel
theorem dX11_tree_64 : decode cX11_tree 64 = .ok (.getfield 42, 3) := by decide +kernel
theorem dX11_tree_67 : decode cX11_tree 67 = .ok (.invokevirtual 216, 3) := by decide +kernel
theorem dX11_tree_70 : decode cX11_tree 70 = .ok (.iload_n 2, 1) := by decide +kernel
theorem dX11_tree_71 : decode cX11_tree 71 = .ok (.ifCond .ne 15, 3) := by decide +kernel
theorem dX11_tree_74 : decode cX11_tree 74 = .ok (.aload_n 0, 1) := by decide +kernel
theorem dX11_tree_75 : decode cX11_tree 75 = .ok (.getfield 42, 3) := by decide +kernel
theorem dX11_tree_78 : decode cX11_tree 78 = .ok (.getfield 219, 3) := by decide +kernel
theorem dX11_tree_81 : decode cX11_tree 81 = .ok (.iload_n 1, 1) := by decide +kernel
theorem dX11_tree_82 : decode cX11_tree 82 = .ok (.iaload, 1) := by decide +kernel
theorem dX11_tree_83 : decode cX11_tree 83 = .ok (.goto 12, 3) := by decide +kernel
theorem dX11_tree_86 : decode cX11_tree 86 = .ok (.aload_n 0, 1) := by decide +kernel
theorem dX11_tree_87 : decode cX11_tree 87 = .ok (.getfield 42, 3) := by decide +kernel
theorem dX11_tree_90 : decode cX11_tree 90 = .ok (.getfield 222, 3) := by decide +kernel
theorem dX11_tree_93 : decode cX11_tree 93 = .ok (.iload_n 1, 1) := by decide +kernel
theorem dX11_tree_94 : decode cX11_tree 94 = .ok (.iaload, 1) := by decide +kernel
theorem dX11_tree_95 : decode cX11_tree 95 = .ok (.ireturn, 1) := by decide +kernel
set_option maxRecDepth 20000 in
theorem ggX11_part_X4_has : GoodIn wsX11_part wsX4_has := goodIn_sub (gi_t pz_X11_part_X11_part_r1 5 rfl (gi_a (gi_t pz_X11_part_X11_part_r1 6 rfl gi_n) pz_X11_part_X40)) (by decide +kernel)
set_option maxRecDepth 20000 in
theorem gX11_part_X4_has_n93 : GoodIn wsX11_part (wsX4_has) := ggX11_part_X4_has
set_option maxRecDepth 20000 in
theorem ggX11_part_X4_touches : GoodIn wsX11_part wsX4_touches := goodIn_sub (gi_t pz_X11_part_X11_part_r1 9 rfl (gi_a (gi_t pz_X11_part_X11_part_r1 10 rfl (gi_t pz_X11_part_X11_part_r1 11 rfl (gi_t pz_X11_part_X11_part_r1 12 rfl (gi_t pz_X11_part_X11_part_r1 13 rfl gi_n)))) pz_X11_part_X40)) (by decide +kernel)
set_option maxRecDepth 20000 in
theorem gX11_part_X4_touches_n97 : GoodIn wsX11_part (wsX4_touches) := ggX11_part_X4_touches
set_option maxRecDepth 20000 in
theorem ggX11_part_X8_bring : GoodIn wsX11_part wsX8_bring := goodIn_sub (gi_t pz_X11_part_X11_part_r1 17 rfl (gi_a (gi_a (gi_a (gi_t pz_X11_part_X11_part_r1 18 rfl (gi_t pz_X11_part_X11_part_r1 19 rfl (gi_t pz_X11_part_X11_part_r1 20 rfl (gi_t pz_X11_part_X11_part_r1 21 rfl (gi_t pz_X11_part_X11_part_r1 22 rfl (gi_t pz_X11_part_X11_part_r1 3 rfl (gi_t pz_X11_part_X11_part_r1 23 rfl (gi_t pz_X11_part_X11_part_r2 0 rfl (gi_t pz_X11_part_X11_part_r1 6 rfl (gi_t pz_X11_part_X11_part_r2 1 rfl (gi_t pz_X11_part_X11_part_r2 2 rfl (gi_t pz_X11_part_X11_part_r2 3 rfl (gi_t pz_X11_part_X11_part_r1 15 rfl (gi_t pz_X11_part_X11_part_r2 4 rfl (gi_t pz_X11_part_X11_part_r2 5 rfl (gi_t pz_X11_part_X11_part_r2 6 rfl (gi_t pz_X11_part_X11_part_r2 7 rfl (gi_t pz_X11_part_X11_part_r1 10 rfl (gi_t pz_X11_part_X11_part_r2 8 rfl (gi_t pz_X11_part_X11_part_r1 12 rfl (gi_t pz_X11_part_X11_part_r2 9 rfl (gi_t pz_X11_part_X11_part_r2 10 rfl (gi_t pz_X11_part_X11_part_r2 11 rfl (gi_t pz_X11_part_X11_part_r2 12 rfl gi_n)))))))))))))))))))))))) (gi_t pz_X11_part_X11_part_r2 13 rfl (gi_t pz_X11_part_X11_part_r2 14 rfl (gi_t pz_X11_part_X11_part_r2 15 rfl (gi_t pz_X11_part_X11_part_r2 16 rfl (gi_t pz_X11_part_X11_part_r2 17 rfl (gi_t pz_X11_part_X11_part_r1 11 rfl (gi_t pz_X11_part_X11_part_r1 13 rfl (gi_t pz_X11_part_X11_part_r2 18 rfl (gi_t pz_X11_part_X11_part_r2 19 rfl (gi_t pz_X11_part_X11_part_r2 20 rfl (gi_t pz_X11_part_X11_part_r2 21 rfl (gi_t pz_X11_part_X11_part_r2 22 rfl (gi_t pz_X11_part_X11_part_r2 23 rfl (gi_t pz_X11_part_X11_part_r3 0 rfl (gi_t pz_X11_part_X11_part_r3 1 rfl (gi_t pz_X11_part_X11_part_r3 2 rfl gi_n))))))))))))))))) pz_X11_part_X80) pz_X11_part_X40)) (by decide +kernel)
set_option maxRecDepth 20000 in
theorem gX11_part_X8_bring_n225 : GoodIn wsX11_part (wsX8_bring) := ggX11_part_X8_bring
theorem dX11_part_0 : decode cX11_part 0 = .ok (.aload_n 0, 1) := by decide +kernel
theorem dX11_part_1 : decode cX11_part 1 = .ok (.getfield 10, 3) := by decide +kernel
theorem dX11_part_4 : decode cX11_part 4 = .ok (.iload_n 1, 1) := by decide +kernel
theorem dX11_part_5 : decode cX11_part 5 = .ok (.invokevirtual 93, 3) := by decide +kernel
theorem dX11_part_8 : decode cX11_part 8 = .ok (.ifCond .eq 19, 3) := by decide +kernel
theorem dX11_part_11 : decode cX11_part 11 = .ok (.aload_n 0, 1) := by decide +kernel
theorem dX11_part_12 : decode cX11_part 12 = .ok (.getfield 10, 3) := by decide +kernel
theorem dX11_part_15 : decode cX11_part 15 = .ok (.iload_n 2, 1) := by decide +kernel
theorem dX11_part_16 : decode cX11_part 16 = .ok (.invokevirtual 93, 3) := by decide +kernel
theorem dX11_part_19 : decode cX11_part 19 = .ok (.ifCond .eq 8, 3) := by decide +kernel
theorem dX11_part_22 : decode cX11_part 22 = .ok (.iload_n 1, 1) := by decide +kernel
theorem dX11_part_23 : decode cX11_part 23 = .ok (.iload_n 2, 1) := by decide +kernel
theorem dX11_part_24 : decode cX11_part 24 = .ok (.if_icmp .ne 5, 3) := by decide +kernel
theorem dX11_part_27 : decode cX11_part 27 = .ok (.iconst (-1), 1) := by decide +kernel
theorem dX11_part_28 : decode cX11_part 28 = .ok (.ireturn, 1) := by decide +kernel
theorem dX11_part_29 : decode cX11_part 29 = .ok (.aload_n 0, 1) := by decide +kernel
theorem dX11_part_30 : decode cX11_part 30 = .ok (.getfield 10, 3) := by decide +kernel
theorem dX11_part_33 : decode cX11_part 33 = .ok (.iload_n 1, 1) := by decide +kernel
theorem dX11_part_34 : decode cX11_part 34 = .ok (.iload_n 2, 1) := by decide +kernel
theorem dX11_part_35 : decode cX11_part 35 = .ok (.invokevirtual 97, 3) := by decide +kernel
theorem dX11_part_38 : decode cX11_part 38 = .ok (.ifCond .eq 6, 3) := by decide +kernel
theorem dX11_part_41 : decode cX11_part 41 = .ok (.bipush (-4), 2) := by decide +kernel
theorem dX11_part_43 : decode cX11_part 43 = .ok (.ireturn, 1) := by decide +kernel
theorem dX11_part_44 : decode cX11_part 44 = .ok (.aload_n 0, 1) := by decide +kernel
theorem dX11_part_45 : decode cX11_part 45 = .ok (.getfield 59, 3) := by decide +kernel
theorem dX11_part_48 : decode cX11_part 48 = .ok (.aload_n 0, 1) := by decide +kernel
theorem dX11_part_49 : decode cX11_part 49 = .ok (.getfield 10, 3) := by decide +kernel
theorem dX11_part_52 : decode cX11_part 52 = .ok (.iload_n 1, 1) := by decide +kernel
theorem dX11_part_53 : decode cX11_part 53 = .ok (.iload_n 2, 1) := by decide +kernel
theorem dX11_part_54 : decode cX11_part 54 = .ok (.invokevirtual 225, 3) := by decide +kernel
theorem dX11_part_57 : decode cX11_part 57 = .ok (.iload_n 3, 1) := by decide +kernel
theorem dX11_part_58 : decode cX11_part 58 = .ok (.iconst (-1), 1) := by decide +kernel
theorem dX11_part_59 : decode cX11_part 59 = .ok (.if_icmp .ne 11, 3) := by decide +kernel
theorem dX11_part_62 : decode cX11_part 62 = .ok (.aload_n 0, 1) := by decide +kernel
theorem dX11_part_63 : decode cX11_part 63 = .ok (.getfield 59, 3) := by decide +kernel
theorem dX11_part_66 : decode cX11_part 66 = .ok (.getfield 228, 3) := by decide +kernel
theorem dX11_part_69 : decode cX11_part 69 = .ok (.ireturn, 1) := by decide +kernel
theorem dX11_part_70 : decode cX11_part 70 = .ok (.iload_n 3, 1) := by decide +kernel
theorem dX11_part_71 : decode cX11_part 71 = .ok (.ifCond .lt 26, 3) := by decide +kernel
theorem dX11_part_74 : decode cX11_part 74 = .ok (.iload_n 3, 1) := by decide +kernel
theorem dX11_part_75 : decode cX11_part 75 = .ok (.aload_n 0, 1) := by decide +kernel
theorem dX11_part_76 : decode cX11_part 76 = .ok (.getfield 59, 3) := by decide +kernel
theorem dX11_part_79 : decode cX11_part 79 = .ok (.getfield 228, 3) := by decide +kernel
theorem dX11_part_82 : decode cX11_part 82 = .ok (.if_icmp .ge 15, 3) := by decide +kernel
theorem dX11_part_85 : decode cX11_part 85 = .ok (.aload_n 0, 1) := by decide +kernel
theorem dX11_part_86 : decode cX11_part 86 = .ok (.getfield 59, 3) := by decide +kernel
theorem dX11_part_89 : decode cX11_part 89 = .ok (.getfield 229, 3) := by decide +kernel
theorem dX11_part_92 : decode cX11_part 92 = .ok (.iload_n 3, 1) := by decide +kernel
theorem dX11_part_93 : decode cX11_part 93 = .ok (.iaload, 1) := by decide +kernel
theorem dX11_part_94 : decode cX11_part 94 = .ok (.goto 5, 3) := by decide +kernel
theorem dX11_part_97 : decode cX11_part 97 = .ok (.bipush (-9), 2) := by decide +kernel
theorem dX11_part_99 : decode cX11_part 99 = .ok (.ireturn, 1) := by decide +kernel
set_option maxRecDepth 20000 in
theorem ggX11_line_X11_bringSpans : GoodIn wsX11_line wsX11_bringSpans := goodIn_sub (gi_t pz_X11_line_X11_line_r1 5 rfl (gi_a (gi_a (gi_a (gi_a (gi_a (gi_t pz_X11_line_X11_line_r1 0 rfl (gi_t pz_X11_line_X11_line_r1 6 rfl (gi_t pz_X11_line_X11_line_r1 7 rfl (gi_t pz_X11_line_X11_line_r1 8 rfl (gi_t pz_X11_line_X11_line_r1 9 rfl (gi_t pz_X11_line_X11_line_r1 10 rfl (gi_t pz_X11_line_X11_line_r1 11 rfl (gi_t pz_X11_line_X11_line_r1 12 rfl (gi_t pz_X11_line_X11_line_r1 13 rfl (gi_t pz_X11_line_X11_line_r1 14 rfl (gi_t pz_X11_line_X11_line_r1 15 rfl (gi_t pz_X11_line_X11_line_r1 16 rfl (gi_t pz_X11_line_X11_line_r1 17 rfl (gi_t pz_X11_line_X11_line_r1 18 rfl (gi_t pz_X11_line_X11_line_r1 19 rfl (gi_t pz_X11_line_X11_line_r1 20 rfl (gi_t pz_X11_line_X11_line_r1 21 rfl (gi_t pz_X11_line_X11_line_r1 22 rfl (gi_t pz_X11_line_X11_line_r1 23 rfl (gi_t pz_X11_line_X11_line_r2 0 rfl (gi_t pz_X11_line_X11_line_r2 1 rfl (gi_t pz_X11_line_X11_line_r2 2 rfl (gi_t pz_X11_line_X11_line_r2 3 rfl (gi_t pz_X11_line_X11_line_r2 4 rfl gi_n)))))))))))))))))))))))) (gi_a (gi_t pz_X11_line_X11_line_r1 4 rfl (gi_t pz_X11_line_X11_line_r2 5 rfl (gi_t pz_X11_line_X11_line_r2 6 rfl (gi_t pz_X11_line_X11_line_r2 7 rfl (gi_t pz_X11_line_X11_line_r2 8 rfl (gi_t pz_X11_line_X11_line_r2 9 rfl (gi_t pz_X11_line_X11_line_r2 10 rfl (gi_t pz_X11_line_X11_line_r2 11 rfl (gi_t pz_X11_line_X11_line_r2 12 rfl (gi_t pz_X11_line_X11_line_r2 13 rfl (gi_t pz_X11_line_X11_line_r2 14 rfl (gi_t pz_X11_line_X11_line_r2 15 rfl (gi_t pz_X11_line_X11_line_r2 16 rfl (gi_t pz_X11_line_X11_line_r2 17 rfl (gi_t pz_X11_line_X11_line_r2 18 rfl (gi_t pz_X11_line_X11_line_r2 19 rfl (gi_t pz_X11_line_X11_line_r2 20 rfl (gi_t pz_X11_line_X11_line_r2 21 rfl (gi_t pz_X11_line_X11_line_r2 22 rfl (gi_t pz_X11_line_X11_line_r2 23 rfl (gi_t pz_X11_line_X11_line_r3 0 rfl (gi_t pz_X11_line_X11_line_r3 1 rfl (gi_t pz_X11_line_X11_line_r3 2 rfl (gi_t pz_X11_line_X11_line_r3 3 rfl gi_n)))))))))))))))))))))))) (gi_a (gi_t pz_X11_line_X11_line_r3 4 rfl (gi_t pz_X11_line_X11_line_r3 5 rfl (gi_t pz_X11_line_X11_line_r3 6 rfl (gi_t pz_X11_line_X11_line_r3 7 rfl (gi_t pz_X11_line_X11_line_r3 8 rfl (gi_t pz_X11_line_X11_line_r3 9 rfl (gi_t pz_X11_line_X11_line_r3 10 rfl (gi_t pz_X11_line_X11_line_r3 11 rfl (gi_t pz_X11_line_X11_line_r3 12 rfl (gi_t pz_X11_line_X11_line_r3 13 rfl (gi_t pz_X11_line_X11_line_r3 14 rfl (gi_t pz_X11_line_X11_line_r3 15 rfl (gi_t pz_X11_line_X11_line_r3 16 rfl (gi_t pz_X11_line_X11_line_r3 17 rfl (gi_t pz_X11_line_X11_line_r3 18 rfl (gi_t pz_X11_line_X11_line_r3 19 rfl (gi_t pz_X11_line_X11_line_r3 20 rfl (gi_t pz_X11_line_X11_line_r3 21 rfl (gi_t pz_X11_line_X11_line_r3 22 rfl (gi_t pz_X11_line_X11_line_r3 23 rfl (gi_t pz_X11_line_X11_line_r4 0 rfl (gi_t pz_X11_line_X11_line_r4 1 rfl (gi_t pz_X11_line_X11_line_r4 2 rfl (gi_t pz_X11_line_X11_line_r4 3 rfl gi_n)))))))))))))))))))))))) (gi_t pz_X11_line_X11_line_r4 4 rfl gi_n)))) pz_X11_line_X110) pz_X11_line_X00) pz_X11_line_X40) pz_X11_line_X10)) (by decide +kernel)
set_option maxRecDepth 20000 in
theorem gX11_line_X11_bringSpans : GoodIn wsX11_line (wsV RX11 230 RX11 yX11_bringSpans wsX11_bringSpans) := goodIn_app (goodIn_of _ (by decide +kernel)) ggX11_line_X11_bringSpans
theorem dX11_line_0 : decode cX11_line 0 = .ok (.aload_n 0, 1) := by decide +kernel
theorem dX11_line_1 : decode cX11_line 1 = .ok (.invokevirtual 230, 3) := by decide +kernel
theorem dX11_line_4 : decode cX11_line 4 = .ok (.aload_n 0, 1) := by decide +kernel
theorem dX11_line_5 : decode cX11_line 5 = .ok (.getfield 75, 3) := by decide +kernel
theorem dX11_line_8 : decode cX11_line 8 = .ok (.getfield 233, 3) := by decide +kernel
theorem dX11_line_11 : decode cX11_line 11 = .ok (.ifCond .eq 30, 3) := by decide +kernel
theorem dX11_line_14 : decode cX11_line 14 = .ok (.iload_n 1, 1) := by decide +kernel
theorem dX11_line_15 : decode cX11_line 15 = .ok (.ifCond .lt 26, 3) := by decide +kernel
theorem dX11_line_18 : decode cX11_line 18 = .ok (.iload_n 1, 1) := by decide +kernel
theorem dX11_line_19 : decode cX11_line 19 = .ok (.aload_n 0, 1) := by decide +kernel
theorem dX11_line_20 : decode cX11_line 20 = .ok (.getfield 75, 3) := by decide +kernel
theorem dX11_line_23 : decode cX11_line 23 = .ok (.getfield 236, 3) := by decide +kernel
theorem dX11_line_26 : decode cX11_line 26 = .ok (.if_icmp .ge 15, 3) := by decide +kernel
theorem dX11_line_29 : decode cX11_line 29 = .ok (.aload_n 0, 1) := by decide +kernel
theorem dX11_line_30 : decode cX11_line 30 = .ok (.getfield 75, 3) := by decide +kernel
theorem dX11_line_33 : decode cX11_line 33 = .ok (.getfield 237, 3) := by decide +kernel
theorem dX11_line_36 : decode cX11_line 36 = .ok (.iload_n 1, 1) := by decide +kernel
theorem dX11_line_37 : decode cX11_line 37 = .ok (.iaload, 1) := by decide +kernel
theorem dX11_line_38 : decode cX11_line 38 = .ok (.goto 5, 3) := by decide +kernel
theorem dX11_line_41 : decode cX11_line 41 = .ok (.bipush (-9), 2) := by decide +kernel
theorem dX11_line_43 : decode cX11_line 43 = .ok (.ireturn, 1) := by decide +kernel
set_option maxRecDepth 20000 in
theorem ggX11_span_X4_has : GoodIn wsX11_span wsX4_has := goodIn_sub (gi_t pz_X11_span_X11_span_r1 5 rfl (gi_a (gi_t pz_X11_span_X11_span_r1 6 rfl gi_n) pz_X11_span_X40)) (by decide +kernel)
set_option maxRecDepth 20000 in
theorem gX11_span_X4_has_n93 : GoodIn wsX11_span (wsX4_has) := ggX11_span_X4_has
set_option maxRecDepth 20000 in
theorem ggX11_span_X11_bringSpans : GoodIn wsX11_span wsX11_bringSpans := goodIn_sub (gi_t pz_X11_span_X11_span_r1 11 rfl (gi_a (gi_a (gi_a (gi_a (gi_a (gi_t pz_X11_span_X11_span_r1 1 rfl (gi_t pz_X11_span_X11_span_r1 0 rfl (gi_t pz_X11_span_X11_span_r1 12 rfl (gi_t pz_X11_span_X11_span_r1 13 rfl (gi_t pz_X11_span_X11_span_r1 14 rfl (gi_t pz_X11_span_X11_span_r1 15 rfl (gi_t pz_X11_span_X11_span_r1 16 rfl (gi_t pz_X11_span_X11_span_r1 17 rfl (gi_t pz_X11_span_X11_span_r1 18 rfl (gi_t pz_X11_span_X11_span_r1 19 rfl (gi_t pz_X11_span_X11_span_r1 20 rfl (gi_t pz_X11_span_X11_span_r1 21 rfl (gi_t pz_X11_span_X11_span_r1 3 rfl (gi_t pz_X11_span_X11_span_r1 22 rfl (gi_t pz_X11_span_X11_span_r1 23 rfl (gi_t pz_X11_span_X11_span_r1 6 rfl (gi_t pz_X11_span_X11_span_r2 0 rfl (gi_t pz_X11_span_X11_span_r2 1 rfl (gi_t pz_X11_span_X11_span_r2 2 rfl (gi_t pz_X11_span_X11_span_r2 3 rfl (gi_t pz_X11_span_X11_span_r2 4 rfl (gi_t pz_X11_span_X11_span_r2 5 rfl (gi_t pz_X11_span_X11_span_r2 6 rfl (gi_t pz_X11_span_X11_span_r2 7 rfl gi_n)))))))))))))))))))))))) (gi_a (gi_t pz_X11_span_X11_span_r1 10 rfl (gi_t pz_X11_span_X11_span_r2 8 rfl (gi_t pz_X11_span_X11_span_r2 9 rfl (gi_t pz_X11_span_X11_span_r2 10 rfl (gi_t pz_X11_span_X11_span_r2 11 rfl (gi_t pz_X11_span_X11_span_r2 12 rfl (gi_t pz_X11_span_X11_span_r2 13 rfl (gi_t pz_X11_span_X11_span_r2 14 rfl (gi_t pz_X11_span_X11_span_r2 15 rfl (gi_t pz_X11_span_X11_span_r2 16 rfl (gi_t pz_X11_span_X11_span_r2 17 rfl (gi_t pz_X11_span_X11_span_r2 18 rfl (gi_t pz_X11_span_X11_span_r2 19 rfl (gi_t pz_X11_span_X11_span_r2 20 rfl (gi_t pz_X11_span_X11_span_r2 21 rfl (gi_t pz_X11_span_X11_span_r2 22 rfl (gi_t pz_X11_span_X11_span_r2 23 rfl (gi_t pz_X11_span_X11_span_r3 0 rfl (gi_t pz_X11_span_X11_span_r3 1 rfl (gi_t pz_X11_span_X11_span_r3 2 rfl (gi_t pz_X11_span_X11_span_r3 3 rfl (gi_t pz_X11_span_X11_span_r3 4 rfl (gi_t pz_X11_span_X11_span_r3 5 rfl (gi_t pz_X11_span_X11_span_r3 6 rfl gi_n)))))))))))))))))))))))) (gi_a (gi_t pz_X11_span_X11_span_r3 7 rfl (gi_t pz_X11_span_X11_span_r3 8 rfl (gi_t pz_X11_span_X11_span_r3 9 rfl (gi_t pz_X11_span_X11_span_r3 10 rfl (gi_t pz_X11_span_X11_span_r3 11 rfl (gi_t pz_X11_span_X11_span_r3 12 rfl (gi_t pz_X11_span_X11_span_r3 13 rfl (gi_t pz_X11_span_X11_span_r3 14 rfl (gi_t pz_X11_span_X11_span_r3 15 rfl (gi_t pz_X11_span_X11_span_r3 16 rfl (gi_t pz_X11_span_X11_span_r3 17 rfl (gi_t pz_X11_span_X11_span_r3 18 rfl (gi_t pz_X11_span_X11_span_r3 19 rfl (gi_t pz_X11_span_X11_span_r3 20 rfl (gi_t pz_X11_span_X11_span_r3 21 rfl (gi_t pz_X11_span_X11_span_r3 22 rfl (gi_t pz_X11_span_X11_span_r3 23 rfl (gi_t pz_X11_span_X11_span_r4 0 rfl (gi_t pz_X11_span_X11_span_r4 1 rfl (gi_t pz_X11_span_X11_span_r4 2 rfl (gi_t pz_X11_span_X11_span_r4 3 rfl (gi_t pz_X11_span_X11_span_r4 4 rfl (gi_t pz_X11_span_X11_span_r4 5 rfl (gi_t pz_X11_span_X11_span_r4 6 rfl gi_n)))))))))))))))))))))))) (gi_t pz_X11_span_X11_span_r4 7 rfl gi_n)))) pz_X11_span_X110) pz_X11_span_X00) pz_X11_span_X40) pz_X11_span_X10)) (by decide +kernel)
set_option maxRecDepth 20000 in
theorem gX11_span_X11_bringSpans : GoodIn wsX11_span (wsV RX11 230 RX11 yX11_bringSpans wsX11_bringSpans) := goodIn_app (goodIn_of _ (by decide +kernel)) ggX11_span_X11_bringSpans
set_option maxRecDepth 20000 in
theorem ggX11_span_X0_lastOf : GoodIn wsX11_span wsX0_lastOf := goodIn_sub (gi_t pz_X11_span_X11_span_r4 10 rfl (gi_a (gi_t pz_X11_span_X11_span_r3 4 rfl (gi_t pz_X11_span_X11_span_r3 12 rfl (gi_t pz_X11_span_X11_span_r4 3 rfl (gi_t pz_X11_span_X11_span_r2 7 rfl (gi_t pz_X11_span_X11_span_r1 10 rfl (gi_t pz_X11_span_X11_span_r2 8 rfl gi_n)))))) pz_X11_span_X00)) (by decide +kernel)
set_option maxRecDepth 20000 in
theorem gX11_span_X0_lastOf_n238 : GoodIn wsX11_span (wsX0_lastOf) := ggX11_span_X0_lastOf
set_option maxRecDepth 20000 in
theorem ggX11_span_X0_firstOf : GoodIn wsX11_span wsX0_firstOf := goodIn_sub (gi_t pz_X11_span_X11_span_r4 13 rfl (gi_a (gi_t pz_X11_span_X11_span_r3 4 rfl (gi_t pz_X11_span_X11_span_r3 12 rfl (gi_t pz_X11_span_X11_span_r4 3 rfl (gi_t pz_X11_span_X11_span_r2 7 rfl (gi_t pz_X11_span_X11_span_r1 10 rfl (gi_t pz_X11_span_X11_span_r2 8 rfl gi_n)))))) pz_X11_span_X00)) (by decide +kernel)
set_option maxRecDepth 20000 in
theorem gX11_span_X0_firstOf_n241 : GoodIn wsX11_span (wsX0_firstOf) := ggX11_span_X0_firstOf
theorem dX11_span_0 : decode cX11_span 0 = .ok (.aload_n 0, 1) := by decide +kernel
theorem dX11_span_1 : decode cX11_span 1 = .ok (.getfield 10, 3) := by decide +kernel
theorem dX11_span_4 : decode cX11_span 4 = .ok (.iload_n 1, 1) := by decide +kernel
theorem dX11_span_5 : decode cX11_span 5 = .ok (.invokevirtual 93, 3) := by decide +kernel
theorem dX11_span_8 : decode cX11_span 8 = .ok (.ifCond .ne 5, 3) := by decide +kernel
theorem dX11_span_11 : decode cX11_span 11 = .ok (.iconst (-1), 1) := by decide +kernel
theorem dX11_span_12 : decode cX11_span 12 = .ok (.ireturn, 1) := by decide +kernel
theorem dX11_span_13 : decode cX11_span 13 = .ok (.aload_n 0, 1) := by decide +kernel
theorem dX11_span_14 : decode cX11_span 14 = .ok (.invokevirtual 230, 3) := by decide +kernel
theorem dX11_span_17 : decode cX11_span 17 = .ok (.aload_n 0, 1) := by decide +kernel
theorem dX11_span_18 : decode cX11_span 18 = .ok (.getfield 75, 3) := by decide +kernel
theorem dX11_span_21 : decode cX11_span 21 = .ok (.getfield 233, 3) := by decide +kernel
theorem dX11_span_24 : decode cX11_span 24 = .ok (.ifCond .ne 6, 3) := by decide +kernel
theorem dX11_span_27 : decode cX11_span 27 = .ok (.bipush (-4), 2) := by decide +kernel
theorem dX11_span_29 : decode cX11_span 29 = .ok (.ireturn, 1) := by decide +kernel
theorem dX11_span_30 : decode cX11_span 30 = .ok (.iload_n 2, 1) := by decide +kernel
theorem dX11_span_31 : decode cX11_span 31 = .ok (.ifCond .eq 14, 3) := by decide +kernel
theorem dX11_span_34 : decode cX11_span 34 = .ok (.aload_n 0, 1) := by decide +kernel
theorem dX11_span_35 : decode cX11_span 35 = .ok (.getfield 75, 3) := by decide +kernel
theorem dX11_span_38 : decode cX11_span 38 = .ok (.iload_n 1, 1) := by decide +kernel
theorem dX11_span_39 : decode cX11_span 39 = .ok (.invokevirtual 238, 3) := by decide +kernel
theorem dX11_span_42 : decode cX11_span 42 = .ok (.goto 11, 3) := by decide +kernel
theorem dX11_span_45 : decode cX11_span 45 = .ok (.aload_n 0, 1) := by decide +kernel
theorem dX11_span_46 : decode cX11_span 46 = .ok (.getfield 75, 3) := by decide +kernel
theorem dX11_span_49 : decode cX11_span 49 = .ok (.iload_n 1, 1) := by decide +kernel
theorem dX11_span_50 : decode cX11_span 50 = .ok (.invokevirtual 241, 3) := by decide +kernel
theorem dX11_span_53 : decode cX11_span 53 = .ok (.ireturn, 1) := by decide +kernel
set_option maxRecDepth 20000 in
theorem ggX11_far_X2_bring : GoodIn wsX11_far wsX2_bring := goodIn_sub (gi_t pz_X11_far_X11_far_r1 5 rfl (gi_a (gi_a (gi_a (gi_t pz_X11_far_X11_far_r1 6 rfl (gi_t pz_X11_far_X11_far_r1 7 rfl (gi_t pz_X11_far_X11_far_r1 8 rfl (gi_t pz_X11_far_X11_far_r1 9 rfl (gi_t pz_X11_far_X11_far_r1 10 rfl (gi_t pz_X11_far_X11_far_r1 3 rfl (gi_t pz_X11_far_X11_far_r1 11 rfl (gi_t pz_X11_far_X11_far_r1 12 rfl (gi_t pz_X11_far_X11_far_r1 13 rfl (gi_t pz_X11_far_X11_far_r1 14 rfl (gi_t pz_X11_far_X11_far_r1 15 rfl (gi_t pz_X11_far_X11_far_r1 16 rfl (gi_t pz_X11_far_X11_far_r1 17 rfl (gi_t pz_X11_far_X11_far_r1 18 rfl (gi_t pz_X11_far_X11_far_r1 19 rfl (gi_t pz_X11_far_X11_far_r1 20 rfl (gi_t pz_X11_far_X11_far_r1 21 rfl (gi_t pz_X11_far_X11_far_r1 22 rfl (gi_t pz_X11_far_X11_far_r1 23 rfl (gi_t pz_X11_far_X11_far_r2 0 rfl (gi_t pz_X11_far_X11_far_r2 1 rfl (gi_t pz_X11_far_X11_far_r2 2 rfl (gi_t pz_X11_far_X11_far_r2 3 rfl (gi_t pz_X11_far_X11_far_r2 4 rfl gi_n)))))))))))))))))))))))) (gi_t pz_X11_far_X11_far_r2 5 rfl (gi_t pz_X11_far_X11_far_r2 6 rfl (gi_t pz_X11_far_X11_far_r2 7 rfl (gi_t pz_X11_far_X11_far_r2 8 rfl (gi_t pz_X11_far_X11_far_r2 9 rfl (gi_t pz_X11_far_X11_far_r2 10 rfl (gi_t pz_X11_far_X11_far_r2 11 rfl (gi_t pz_X11_far_X11_far_r2 12 rfl (gi_t pz_X11_far_X11_far_r2 13 rfl (gi_t pz_X11_far_X11_far_r2 14 rfl (gi_t pz_X11_far_X11_far_r2 15 rfl gi_n)))))))))))) pz_X11_far_X20) pz_X11_far_X40)) (by decide +kernel)
set_option maxRecDepth 20000 in
theorem gX11_far_X2_bring_n244 : GoodIn wsX11_far (wsX2_bring) := ggX11_far_X2_bring
theorem dX11_far_0 : decode cX11_far 0 = .ok (.aload_n 0, 1) := by decide +kernel
theorem dX11_far_1 : decode cX11_far 1 = .ok (.getfield 66, 3) := by decide +kernel
theorem dX11_far_4 : decode cX11_far 4 = .ok (.aload_n 0, 1) := by decide +kernel
theorem dX11_far_5 : decode cX11_far 5 = .ok (.getfield 10, 3) := by decide +kernel
theorem dX11_far_8 : decode cX11_far 8 = .ok (.invokevirtual 244, 3) := by decide +kernel
theorem dX11_far_11 : decode cX11_far 11 = .ok (.aload_n 0, 1) := by decide +kernel
theorem dX11_far_12 : decode cX11_far 12 = .ok (.getfield 66, 3) := by decide +kernel
theorem dX11_far_15 : decode cX11_far 15 = .ok (.getfield 245, 3) := by decide +kernel
theorem dX11_far_18 : decode cX11_far 18 = .ok (.ifCond .eq 24, 3) := by decide +kernel
theorem dX11_far_21 : decode cX11_far 21 = .ok (.iload_n 1, 1) := by decide +kernel
theorem dX11_far_22 : decode cX11_far 22 = .ok (.ifCond .lt 20, 3) := by decide +kernel
theorem dX11_far_25 : decode cX11_far 25 = .ok (.iload_n 1, 1) := by decide +kernel
theorem dX11_far_26 : decode cX11_far 26 = .ok (.iconst 3, 1) := by decide +kernel
theorem dX11_far_27 : decode cX11_far 27 = .ok (.if_icmp .ge 15, 3) := by decide +kernel
theorem dX11_far_30 : decode cX11_far 30 = .ok (.aload_n 0, 1) := by decide +kernel
theorem dX11_far_31 : decode cX11_far 31 = .ok (.getfield 66, 3) := by decide +kernel
theorem dX11_far_34 : decode cX11_far 34 = .ok (.getfield 246, 3) := by decide +kernel
theorem dX11_far_37 : decode cX11_far 37 = .ok (.iload_n 1, 1) := by decide +kernel
theorem dX11_far_38 : decode cX11_far 38 = .ok (.iaload, 1) := by decide +kernel
theorem dX11_far_39 : decode cX11_far 39 = .ok (.goto 5, 3) := by decide +kernel
theorem dX11_far_42 : decode cX11_far 42 = .ok (.bipush (-9), 2) := by decide +kernel
theorem dX11_far_44 : decode cX11_far 44 = .ok (.ireturn, 1) := by decide +kernel
set_option maxRecDepth 20000 in
theorem ggX11_columns_X11_found : GoodIn wsX11_columns wsX11_found := goodIn_sub (gi_c 6 rfl (gi_a (gi_c 7 rfl (gi_c 8 rfl gi_n)) pz_X11_columns_X110)) (by decide +kernel)
set_option maxRecDepth 20000 in
theorem gX11_columns_X11_found : GoodIn wsX11_columns (wsV RX11 114 RX11 yX11_found wsX11_found) := goodIn_app (goodIn_of _ (by decide +kernel)) ggX11_columns_X11_found
set_option maxRecDepth 20000 in
theorem ggX11_columns_X10_restart : GoodIn wsX11_columns wsX10_restart := goodIn_sub (gi_c 12 rfl (gi_a (gi_c 13 rfl (gi_c 14 rfl (gi_c 15 rfl (gi_c 16 rfl (gi_c 17 rfl (gi_c 18 rfl (gi_c 19 rfl gi_n))))))) pz_X11_columns_X100)) (by decide +kernel)
set_option maxRecDepth 20000 in
theorem gX11_columns_X10_restart_n249 : GoodIn wsX11_columns (wsX10_restart) := ggX11_columns_X10_restart
theorem dX11_columns_0 : decode cX11_columns 0 = .ok (.iload_n 1, 1) := by decide +kernel
theorem dX11_columns_1 : decode cX11_columns 1 = .ok (.bipush 8, 2) := by decide +kernel
theorem dX11_columns_3 : decode cX11_columns 3 = .ok (.if_icmp .le 5, 3) := by decide +kernel
theorem dX11_columns_6 : decode cX11_columns 6 = .ok (.iconst (-1), 1) := by decide +kernel
theorem dX11_columns_7 : decode cX11_columns 7 = .ok (.ireturn, 1) := by decide +kernel
theorem dX11_columns_8 : decode cX11_columns 8 = .ok (.iload_n 1, 1) := by decide +kernel
theorem dX11_columns_9 : decode cX11_columns 9 = .ok (.ifCond .ge 9, 3) := by decide +kernel
theorem dX11_columns_12 : decode cX11_columns 12 = .ok (.aload_n 0, 1) := by decide +kernel
theorem dX11_columns_13 : decode cX11_columns 13 = .ok (.iconst 4, 1) := by decide +kernel
theorem dX11_columns_14 : decode cX11_columns 14 = .ok (.invokevirtual 114, 3) := by decide +kernel
theorem dX11_columns_17 : decode cX11_columns 17 = .ok (.ireturn, 1) := by decide +kernel
theorem dX11_columns_18 : decode cX11_columns 18 = .ok (.aload_n 0, 1) := by decide +kernel
theorem dX11_columns_19 : decode cX11_columns 19 = .ok (.getfield 19, 3) := by decide +kernel
theorem dX11_columns_22 : decode cX11_columns 22 = .ok (.iload_n 1, 1) := by decide +kernel
theorem dX11_columns_23 : decode cX11_columns 23 = .ok (.invokevirtual 249, 3) := by decide +kernel
theorem dX11_columns_26 : decode cX11_columns 26 = .ok (.iload_n 1, 1) := by decide +kernel
theorem dX11_columns_27 : decode cX11_columns 27 = .ok (.ireturn, 1) := by decide +kernel
set_option maxRecDepth 20000 in
theorem ggX11_row_X10_hasPlace : GoodIn wsX11_row wsX10_hasPlace := goodIn_sub (gi_c 5 rfl gi_n) (by decide +kernel)
set_option maxRecDepth 20000 in
theorem gX11_row_X10_hasPlace_n252 : GoodIn wsX11_row (wsX10_hasPlace) := ggX11_row_X10_hasPlace
set_option maxRecDepth 20000 in
theorem ggX11_row_X11_found : GoodIn wsX11_row wsX11_found := goodIn_sub (gi_c 10 rfl (gi_a (gi_c 11 rfl (gi_c 12 rfl gi_n)) pz_X11_row_X110)) (by decide +kernel)
set_option maxRecDepth 20000 in
theorem gX11_row_X11_found : GoodIn wsX11_row (wsV RX11 114 RX11 yX11_found wsX11_found) := goodIn_app (goodIn_of _ (by decide +kernel)) ggX11_row_X11_found
set_option maxRecDepth 20000 in
theorem ggX11_row_X10_put : GoodIn wsX11_row wsX10_put := goodIn_sub (gi_c 15 rfl (gi_a (gi_c 16 rfl (gi_c 17 rfl gi_n)) pz_X11_row_X100)) (by decide +kernel)
set_option maxRecDepth 20000 in
theorem gX11_row_X10_put_n255 : GoodIn wsX11_row (wsX10_put) := ggX11_row_X10_put
theorem dX11_row_0 : decode cX11_row 0 = .ok (.iload_n 2, 1) := by decide +kernel
theorem dX11_row_1 : decode cX11_row 1 = .ok (.ifCond .lt 16, 3) := by decide +kernel
theorem dX11_row_4 : decode cX11_row 4 = .ok (.iload_n 2, 1) := by decide +kernel
theorem dX11_row_5 : decode cX11_row 5 = .ok (.iconst 1, 1) := by decide +kernel
theorem dX11_row_6 : decode cX11_row 6 = .ok (.aload_n 0, 1) := by decide +kernel
theorem dX11_row_7 : decode cX11_row 7 = .ok (.getfield 19, 3) := by decide +kernel
theorem dX11_row_10 : decode cX11_row 10 = .ok (.getfield 133, 3) := by decide +kernel
theorem dX11_row_13 : decode cX11_row 13 = .ok (.ishl, 1) := by decide +kernel
theorem dX11_row_14 : decode cX11_row 14 = .ok (.if_icmp .lt 5, 3) := by decide +kernel
theorem dX11_row_17 : decode cX11_row 17 = .ok (.iconst (-1), 1) := by decide +kernel
theorem dX11_row_18 : decode cX11_row 18 = .ok (.ireturn, 1) := by decide +kernel
theorem dX11_row_19 : decode cX11_row 19 = .ok (.aload_n 0, 1) := by decide +kernel
theorem dX11_row_20 : decode cX11_row 20 = .ok (.getfield 19, 3) := by decide +kernel
theorem dX11_row_23 : decode cX11_row 23 = .ok (.iload_n 1, 1) := by decide +kernel
theorem dX11_row_24 : decode cX11_row 24 = .ok (.invokevirtual 252, 3) := by decide +kernel
theorem dX11_row_27 : decode cX11_row 27 = .ok (.ifCond .ne 9, 3) := by decide +kernel
theorem dX11_row_30 : decode cX11_row 30 = .ok (.aload_n 0, 1) := by decide +kernel
theorem dX11_row_31 : decode cX11_row 31 = .ok (.iconst 2, 1) := by decide +kernel
theorem dX11_row_32 : decode cX11_row 32 = .ok (.invokevirtual 114, 3) := by decide +kernel
theorem dX11_row_35 : decode cX11_row 35 = .ok (.ireturn, 1) := by decide +kernel
theorem dX11_row_36 : decode cX11_row 36 = .ok (.aload_n 0, 1) := by decide +kernel
theorem dX11_row_37 : decode cX11_row 37 = .ok (.getfield 19, 3) := by decide +kernel
theorem dX11_row_40 : decode cX11_row 40 = .ok (.iload_n 1, 1) := by decide +kernel
theorem dX11_row_41 : decode cX11_row 41 = .ok (.iload_n 2, 1) := by decide +kernel
theorem dX11_row_42 : decode cX11_row 42 = .ok (.invokevirtual 255, 3) := by decide +kernel
theorem dX11_row_45 : decode cX11_row 45 = .ok (.iconst 1, 1) := by decide +kernel
theorem dX11_row_46 : decode cX11_row 46 = .ok (.ireturn, 1) := by decide +kernel
set_option maxRecDepth 20000 in
theorem ggX11_told_X10_hasPlace : GoodIn wsX11_told wsX10_hasPlace := goodIn_sub (gi_c 5 rfl gi_n) (by decide +kernel)
set_option maxRecDepth 20000 in
theorem gX11_told_X10_hasPlace_n252 : GoodIn wsX11_told (wsX10_hasPlace) := ggX11_told_X10_hasPlace
set_option maxRecDepth 20000 in
theorem ggX11_told_X11_found : GoodIn wsX11_told wsX11_found := goodIn_sub (gi_c 10 rfl (gi_a (gi_c 11 rfl (gi_c 12 rfl gi_n)) pz_X11_told_X110)) (by decide +kernel)
set_option maxRecDepth 20000 in
theorem gX11_told_X11_found : GoodIn wsX11_told (wsV RX11 114 RX11 yX11_found wsX11_found) := goodIn_app (goodIn_of _ (by decide +kernel)) ggX11_told_X11_found
theorem dX11_told_0 : decode cX11_told 0 = .ok (.aload_n 0, 1) := by decide +kernel
theorem dX11_told_1 : decode cX11_told 1 = .ok (.getfield 19, 3) := by decide +kernel
theorem dX11_told_4 : decode cX11_told 4 = .ok (.iload_n 1, 1) := by decide +kernel
theorem dX11_told_5 : decode cX11_told 5 = .ok (.invokevirtual 252, 3) := by decide +kernel
theorem dX11_told_8 : decode cX11_told 8 = .ok (.ifCond .ne 9, 3) := by decide +kernel
theorem dX11_told_11 : decode cX11_told 11 = .ok (.aload_n 0, 1) := by decide +kernel
theorem dX11_told_12 : decode cX11_told 12 = .ok (.iconst 2, 1) := by decide +kernel
theorem dX11_told_13 : decode cX11_told 13 = .ok (.invokevirtual 114, 3) := by decide +kernel
theorem dX11_told_16 : decode cX11_told 16 = .ok (.ireturn, 1) := by decide +kernel
theorem dX11_told_17 : decode cX11_told 17 = .ok (.aload_n 0, 1) := by decide +kernel
theorem dX11_told_18 : decode cX11_told 18 = .ok (.getfield 19, 3) := by decide +kernel
theorem dX11_told_21 : decode cX11_told 21 = .ok (.getfield 136, 3) := by decide +kernel
theorem dX11_told_24 : decode cX11_told 24 = .ok (.iload_n 1, 1) := by decide +kernel
theorem dX11_told_25 : decode cX11_told 25 = .ok (.iaload, 1) := by decide +kernel
theorem dX11_told_26 : decode cX11_told 26 = .ok (.iconst (-1), 1) := by decide +kernel
theorem dX11_told_27 : decode cX11_told 27 = .ok (.if_icmp .ne 11, 3) := by decide +kernel
theorem dX11_told_30 : decode cX11_told 30 = .ok (.aload_n 0, 1) := by decide +kernel
theorem dX11_told_31 : decode cX11_told 31 = .ok (.iconst 1, 1) := by decide +kernel
theorem dX11_told_32 : decode cX11_told 32 = .ok (.invokevirtual 114, 3) := by decide +kernel
theorem dX11_told_35 : decode cX11_told 35 = .ok (.goto 12, 3) := by decide +kernel
theorem dX11_told_38 : decode cX11_told 38 = .ok (.aload_n 0, 1) := by decide +kernel
theorem dX11_told_39 : decode cX11_told 39 = .ok (.getfield 19, 3) := by decide +kernel
theorem dX11_told_42 : decode cX11_told 42 = .ok (.getfield 136, 3) := by decide +kernel
theorem dX11_told_45 : decode cX11_told 45 = .ok (.iload_n 1, 1) := by decide +kernel
theorem dX11_told_46 : decode cX11_told 46 = .ok (.iaload, 1) := by decide +kernel
theorem dX11_told_47 : decode cX11_told 47 = .ok (.ireturn, 1) := by decide +kernel
set_option maxRecDepth 20000 in
theorem ggX11_tear_X10_hasPlace : GoodIn wsX11_tear wsX10_hasPlace := goodIn_sub (gi_c 5 rfl gi_n) (by decide +kernel)
set_option maxRecDepth 20000 in
theorem gX11_tear_X10_hasPlace_n252 : GoodIn wsX11_tear (wsX10_hasPlace) := ggX11_tear_X10_hasPlace
set_option maxRecDepth 20000 in
theorem ggX11_tear_X11_found : GoodIn wsX11_tear wsX11_found := goodIn_sub (gi_c 10 rfl (gi_a (gi_c 11 rfl (gi_c 12 rfl gi_n)) pz_X11_tear_X110)) (by decide +kernel)
set_option maxRecDepth 20000 in
theorem gX11_tear_X11_found : GoodIn wsX11_tear (wsV RX11 114 RX11 yX11_found wsX11_found) := goodIn_app (goodIn_of _ (by decide +kernel)) ggX11_tear_X11_found
set_option maxRecDepth 20000 in
theorem ggX11_tear_X10_put : GoodIn wsX11_tear wsX10_put := goodIn_sub (gi_c 15 rfl (gi_a (gi_c 16 rfl (gi_c 17 rfl gi_n)) pz_X11_tear_X100)) (by decide +kernel)
set_option maxRecDepth 20000 in
theorem gX11_tear_X10_put_n255 : GoodIn wsX11_tear (wsX10_put) := ggX11_tear_X10_put
theorem dX11_tear_0 : decode cX11_tear 0 = .ok (.aload_n 0, 1) := by decide +kernel
theorem dX11_tear_1 : decode cX11_tear 1 = .ok (.getfield 19, 3) := by decide +kernel
theorem dX11_tear_4 : decode cX11_tear 4 = .ok (.iload_n 1, 1) := by decide +kernel
theorem dX11_tear_5 : decode cX11_tear 5 = .ok (.invokevirtual 252, 3) := by decide +kernel
theorem dX11_tear_8 : decode cX11_tear 8 = .ok (.ifCond .ne 9, 3) := by decide +kernel
theorem dX11_tear_11 : decode cX11_tear 11 = .ok (.aload_n 0, 1) := by decide +kernel
theorem dX11_tear_12 : decode cX11_tear 12 = .ok (.iconst 2, 1) := by decide +kernel
theorem dX11_tear_13 : decode cX11_tear 13 = .ok (.invokevirtual 114, 3) := by decide +kernel
theorem dX11_tear_16 : decode cX11_tear 16 = .ok (.ireturn, 1) := by decide +kernel
theorem dX11_tear_17 : decode cX11_tear 17 = .ok (.aload_n 0, 1) := by decide +kernel
theorem dX11_tear_18 : decode cX11_tear 18 = .ok (.getfield 19, 3) := by decide +kernel
theorem dX11_tear_21 : decode cX11_tear 21 = .ok (.getfield 136, 3) := by decide +kernel
theorem dX11_tear_24 : decode cX11_tear 24 = .ok (.iload_n 1, 1) := by decide +kernel
theorem dX11_tear_25 : decode cX11_tear 25 = .ok (.iaload, 1) := by decide +kernel
theorem dX11_tear_26 : decode cX11_tear 26 = .ok (.iconst (-1), 1) := by decide +kernel
theorem dX11_tear_27 : decode cX11_tear 27 = .ok (.if_icmp .ne 9, 3) := by decide +kernel
theorem dX11_tear_30 : decode cX11_tear 30 = .ok (.aload_n 0, 1) := by decide +kernel
theorem dX11_tear_31 : decode cX11_tear 31 = .ok (.iconst 1, 1) := by decide +kernel
theorem dX11_tear_32 : decode cX11_tear 32 = .ok (.invokevirtual 114, 3) := by decide +kernel
theorem dX11_tear_35 : decode cX11_tear 35 = .ok (.ireturn, 1) := by decide +kernel
theorem dX11_tear_36 : decode cX11_tear 36 = .ok (.aload_n 0, 1) := by decide +kernel
theorem dX11_tear_37 : decode cX11_tear 37 = .ok (.getfield 19, 3) := by decide +kernel
theorem dX11_tear_40 : decode cX11_tear 40 = .ok (.iload_n 1, 1) := by decide +kernel
theorem dX11_tear_41 : decode cX11_tear 41 = .ok (.iconst (-1), 1) := by decide +kernel
theorem dX11_tear_42 : decode cX11_tear 42 = .ok (.invokevirtual 255, 3) := by decide +kernel
theorem dX11_tear_45 : decode cX11_tear 45 = .ok (.iconst 1, 1) := by decide +kernel
theorem dX11_tear_46 : decode cX11_tear 46 = .ok (.ireturn, 1) := by decide +kernel
set_option maxRecDepth 20000 in
theorem ggX11_copy_X10_hasRun : GoodIn wsX11_copy wsX10_hasRun := goodIn_sub (gi_c 5 rfl gi_n) (by decide +kernel)
set_option maxRecDepth 20000 in
theorem gX11_copy_X10_hasRun_n259 : GoodIn wsX11_copy (wsX10_hasRun) := ggX11_copy_X10_hasRun
set_option maxRecDepth 20000 in
theorem ggX11_copy_X11_found : GoodIn wsX11_copy wsX11_found := goodIn_sub (gi_c 10 rfl (gi_a (gi_c 11 rfl (gi_c 12 rfl gi_n)) pz_X11_copy_X110)) (by decide +kernel)
set_option maxRecDepth 20000 in
theorem gX11_copy_X11_found : GoodIn wsX11_copy (wsV RX11 114 RX11 yX11_found wsX11_found) := goodIn_app (goodIn_of _ (by decide +kernel)) ggX11_copy_X11_found
set_option maxRecDepth 20000 in
theorem ggX11_copy_X10_move : GoodIn wsX11_copy wsX10_move := goodIn_sub (gi_c 15 rfl (gi_a (gi_c 16 rfl (gi_c 17 rfl (gi_c 18 rfl (gi_c 19 rfl (gi_c 20 rfl (gi_c 21 rfl gi_n)))))) pz_X11_copy_X100)) (by decide +kernel)
set_option maxRecDepth 20000 in
theorem gX11_copy_X10_move_n262 : GoodIn wsX11_copy (wsX10_move) := ggX11_copy_X10_move
theorem dX11_copy_0 : decode cX11_copy 0 = .ok (.aload_n 0, 1) := by decide +kernel
theorem dX11_copy_1 : decode cX11_copy 1 = .ok (.getfield 19, 3) := by decide +kernel
theorem dX11_copy_4 : decode cX11_copy 4 = .ok (.iload_n 1, 1) := by decide +kernel
theorem dX11_copy_5 : decode cX11_copy 5 = .ok (.iload_n 3, 1) := by decide +kernel
theorem dX11_copy_6 : decode cX11_copy 6 = .ok (.invokevirtual 259, 3) := by decide +kernel
theorem dX11_copy_9 : decode cX11_copy 9 = .ok (.ifCond .eq 15, 3) := by decide +kernel
theorem dX11_copy_12 : decode cX11_copy 12 = .ok (.aload_n 0, 1) := by decide +kernel
theorem dX11_copy_13 : decode cX11_copy 13 = .ok (.getfield 19, 3) := by decide +kernel
theorem dX11_copy_16 : decode cX11_copy 16 = .ok (.iload_n 2, 1) := by decide +kernel
theorem dX11_copy_17 : decode cX11_copy 17 = .ok (.iload_n 3, 1) := by decide +kernel
theorem dX11_copy_18 : decode cX11_copy 18 = .ok (.invokevirtual 259, 3) := by decide +kernel
theorem dX11_copy_21 : decode cX11_copy 21 = .ok (.ifCond .ne 9, 3) := by decide +kernel
theorem dX11_copy_24 : decode cX11_copy 24 = .ok (.aload_n 0, 1) := by decide +kernel
theorem dX11_copy_25 : decode cX11_copy 25 = .ok (.iconst 2, 1) := by decide +kernel
theorem dX11_copy_26 : decode cX11_copy 26 = .ok (.invokevirtual 114, 3) := by decide +kernel
theorem dX11_copy_29 : decode cX11_copy 29 = .ok (.ireturn, 1) := by decide +kernel
theorem dX11_copy_30 : decode cX11_copy 30 = .ok (.aload_n 0, 1) := by decide +kernel
theorem dX11_copy_31 : decode cX11_copy 31 = .ok (.getfield 19, 3) := by decide +kernel
theorem dX11_copy_34 : decode cX11_copy 34 = .ok (.iload_n 1, 1) := by decide +kernel
theorem dX11_copy_35 : decode cX11_copy 35 = .ok (.iload_n 2, 1) := by decide +kernel
theorem dX11_copy_36 : decode cX11_copy 36 = .ok (.iload_n 3, 1) := by decide +kernel
theorem dX11_copy_37 : decode cX11_copy 37 = .ok (.invokevirtual 262, 3) := by decide +kernel
theorem dX11_copy_40 : decode cX11_copy 40 = .ok (.iconst 1, 1) := by decide +kernel
theorem dX11_copy_41 : decode cX11_copy 41 = .ok (.ireturn, 1) := by decide +kernel
set_option maxRecDepth 20000 in
theorem ggX11_seatings_X11_bringSeats : GoodIn wsX11_seatings wsX11_bringSeats := goodIn_sub (gi_t pz_X11_seatings_X11_seatings_r1 5 rfl (gi_a (gi_a (gi_a (gi_a (gi_t pz_X11_seatings_X11_seatings_r1 0 rfl (gi_t pz_X11_seatings_X11_seatings_r1 6 rfl (gi_t pz_X11_seatings_X11_seatings_r1 7 rfl (gi_t pz_X11_seatings_X11_seatings_r1 8 rfl (gi_t pz_X11_seatings_X11_seatings_r1 9 rfl (gi_t pz_X11_seatings_X11_seatings_r1 10 rfl (gi_t pz_X11_seatings_X11_seatings_r1 11 rfl (gi_t pz_X11_seatings_X11_seatings_r1 12 rfl (gi_t pz_X11_seatings_X11_seatings_r1 13 rfl (gi_t pz_X11_seatings_X11_seatings_r1 14 rfl (gi_t pz_X11_seatings_X11_seatings_r1 15 rfl (gi_t pz_X11_seatings_X11_seatings_r1 16 rfl (gi_t pz_X11_seatings_X11_seatings_r1 17 rfl (gi_t pz_X11_seatings_X11_seatings_r1 18 rfl (gi_t pz_X11_seatings_X11_seatings_r1 19 rfl (gi_t pz_X11_seatings_X11_seatings_r1 20 rfl (gi_t pz_X11_seatings_X11_seatings_r1 21 rfl (gi_t pz_X11_seatings_X11_seatings_r1 22 rfl (gi_t pz_X11_seatings_X11_seatings_r1 23 rfl (gi_t pz_X11_seatings_X11_seatings_r2 0 rfl (gi_t pz_X11_seatings_X11_seatings_r2 1 rfl (gi_t pz_X11_seatings_X11_seatings_r2 2 rfl (gi_t pz_X11_seatings_X11_seatings_r2 3 rfl (gi_t pz_X11_seatings_X11_seatings_r2 4 rfl gi_n)))))))))))))))))))))))) (gi_t pz_X11_seatings_X11_seatings_r2 5 rfl (gi_t pz_X11_seatings_X11_seatings_r2 6 rfl (gi_t pz_X11_seatings_X11_seatings_r2 7 rfl (gi_t pz_X11_seatings_X11_seatings_r2 8 rfl (gi_t pz_X11_seatings_X11_seatings_r2 9 rfl (gi_t pz_X11_seatings_X11_seatings_r2 10 rfl (gi_t pz_X11_seatings_X11_seatings_r2 11 rfl (gi_t pz_X11_seatings_X11_seatings_r2 12 rfl (gi_t pz_X11_seatings_X11_seatings_r2 13 rfl (gi_t pz_X11_seatings_X11_seatings_r1 4 rfl (gi_t pz_X11_seatings_X11_seatings_r2 14 rfl (gi_t pz_X11_seatings_X11_seatings_r2 15 rfl (gi_t pz_X11_seatings_X11_seatings_r2 16 rfl (gi_t pz_X11_seatings_X11_seatings_r2 17 rfl (gi_t pz_X11_seatings_X11_seatings_r2 18 rfl gi_n)))))))))))))))) pz_X11_seatings_X110) pz_X11_seatings_X00) pz_X11_seatings_X100)) (by decide +kernel)
set_option maxRecDepth 20000 in
theorem gX11_seatings_X11_bringSeats : GoodIn wsX11_seatings (wsV RX11 266 RX11 yX11_bringSeats wsX11_bringSeats) := goodIn_app (goodIn_of _ (by decide +kernel)) ggX11_seatings_X11_bringSeats
theorem dX11_seatings_0 : decode cX11_seatings 0 = .ok (.aload_n 0, 1) := by decide +kernel
theorem dX11_seatings_1 : decode cX11_seatings 1 = .ok (.invokevirtual 266, 3) := by decide +kernel
theorem dX11_seatings_4 : decode cX11_seatings 4 = .ok (.aload_n 0, 1) := by decide +kernel
theorem dX11_seatings_5 : decode cX11_seatings 5 = .ok (.getfield 79, 3) := by decide +kernel
theorem dX11_seatings_8 : decode cX11_seatings 8 = .ok (.getfield 269, 3) := by decide +kernel
theorem dX11_seatings_11 : decode cX11_seatings 11 = .ok (.ireturn, 1) := by decide +kernel
set_option maxRecDepth 20000 in
theorem ggX11_seat_X11_bringSeats : GoodIn wsX11_seat wsX11_bringSeats := goodIn_sub (gi_t pz_X11_seat_X11_seat_r1 5 rfl (gi_a (gi_a (gi_a (gi_a (gi_t pz_X11_seat_X11_seat_r1 0 rfl (gi_t pz_X11_seat_X11_seat_r1 6 rfl (gi_t pz_X11_seat_X11_seat_r1 7 rfl (gi_t pz_X11_seat_X11_seat_r1 8 rfl (gi_t pz_X11_seat_X11_seat_r1 9 rfl (gi_t pz_X11_seat_X11_seat_r1 10 rfl (gi_t pz_X11_seat_X11_seat_r1 11 rfl (gi_t pz_X11_seat_X11_seat_r1 12 rfl (gi_t pz_X11_seat_X11_seat_r1 13 rfl (gi_t pz_X11_seat_X11_seat_r1 14 rfl (gi_t pz_X11_seat_X11_seat_r1 15 rfl (gi_t pz_X11_seat_X11_seat_r1 16 rfl (gi_t pz_X11_seat_X11_seat_r1 17 rfl (gi_t pz_X11_seat_X11_seat_r1 18 rfl (gi_t pz_X11_seat_X11_seat_r1 19 rfl (gi_t pz_X11_seat_X11_seat_r1 20 rfl (gi_t pz_X11_seat_X11_seat_r1 21 rfl (gi_t pz_X11_seat_X11_seat_r1 22 rfl (gi_t pz_X11_seat_X11_seat_r1 23 rfl (gi_t pz_X11_seat_X11_seat_r2 0 rfl (gi_t pz_X11_seat_X11_seat_r2 1 rfl (gi_t pz_X11_seat_X11_seat_r2 2 rfl (gi_t pz_X11_seat_X11_seat_r2 3 rfl (gi_t pz_X11_seat_X11_seat_r2 4 rfl gi_n)))))))))))))))))))))))) (gi_t pz_X11_seat_X11_seat_r2 5 rfl (gi_t pz_X11_seat_X11_seat_r2 6 rfl (gi_t pz_X11_seat_X11_seat_r2 7 rfl (gi_t pz_X11_seat_X11_seat_r2 8 rfl (gi_t pz_X11_seat_X11_seat_r2 9 rfl (gi_t pz_X11_seat_X11_seat_r2 10 rfl (gi_t pz_X11_seat_X11_seat_r2 11 rfl (gi_t pz_X11_seat_X11_seat_r2 12 rfl (gi_t pz_X11_seat_X11_seat_r2 13 rfl (gi_t pz_X11_seat_X11_seat_r1 4 rfl (gi_t pz_X11_seat_X11_seat_r2 14 rfl (gi_t pz_X11_seat_X11_seat_r2 15 rfl (gi_t pz_X11_seat_X11_seat_r2 16 rfl (gi_t pz_X11_seat_X11_seat_r2 17 rfl (gi_t pz_X11_seat_X11_seat_r2 18 rfl gi_n)))))))))))))))) pz_X11_seat_X110) pz_X11_seat_X00) pz_X11_seat_X100)) (by decide +kernel)
set_option maxRecDepth 20000 in
theorem gX11_seat_X11_bringSeats : GoodIn wsX11_seat (wsV RX11 266 RX11 yX11_bringSeats wsX11_bringSeats) := goodIn_app (goodIn_of _ (by decide +kernel)) ggX11_seat_X11_bringSeats
theorem dX11_seat_0 : decode cX11_seat 0 = .ok (.aload_n 0, 1) := by decide +kernel
theorem dX11_seat_1 : decode cX11_seat 1 = .ok (.invokevirtual 266, 3) := by decide +kernel
theorem dX11_seat_4 : decode cX11_seat 4 = .ok (.aload_n 0, 1) := by decide +kernel
theorem dX11_seat_5 : decode cX11_seat 5 = .ok (.getfield 79, 3) := by decide +kernel
theorem dX11_seat_8 : decode cX11_seat 8 = .ok (.getfield 233, 3) := by decide +kernel
theorem dX11_seat_11 : decode cX11_seat 11 = .ok (.ifCond .eq 30, 3) := by decide +kernel
theorem dX11_seat_14 : decode cX11_seat 14 = .ok (.iload_n 1, 1) := by decide +kernel
theorem dX11_seat_15 : decode cX11_seat 15 = .ok (.ifCond .lt 26, 3) := by decide +kernel
theorem dX11_seat_18 : decode cX11_seat 18 = .ok (.iload_n 1, 1) := by decide +kernel
theorem dX11_seat_19 : decode cX11_seat 19 = .ok (.aload_n 0, 1) := by decide +kernel
theorem dX11_seat_20 : decode cX11_seat 20 = .ok (.getfield 79, 3) := by decide +kernel
theorem dX11_seat_23 : decode cX11_seat 23 = .ok (.getfield 236, 3) := by decide +kernel
theorem dX11_seat_26 : decode cX11_seat 26 = .ok (.if_icmp .ge 15, 3) := by decide +kernel
theorem dX11_seat_29 : decode cX11_seat 29 = .ok (.aload_n 0, 1) := by decide +kernel
theorem dX11_seat_30 : decode cX11_seat 30 = .ok (.getfield 79, 3) := by decide +kernel
theorem dX11_seat_33 : decode cX11_seat 33 = .ok (.getfield 237, 3) := by decide +kernel
theorem dX11_seat_36 : decode cX11_seat 36 = .ok (.iload_n 1, 1) := by decide +kernel
theorem dX11_seat_37 : decode cX11_seat 37 = .ok (.iaload, 1) := by decide +kernel
theorem dX11_seat_38 : decode cX11_seat 38 = .ok (.goto 5, 3) := by decide +kernel
theorem dX11_seat_41 : decode cX11_seat 41 = .ok (.bipush (-9), 2) := by decide +kernel
theorem dX11_seat_43 : decode cX11_seat 43 = .ok (.ireturn, 1) := by decide +kernel
set_option maxRecDepth 20000 in
theorem ggX11_count_X4_pairs : GoodIn wsX11_count wsX4_pairs := goodIn_sub (gi_c 7 rfl (gi_a (gi_c 8 rfl (gi_c 9 rfl (gi_c 10 rfl (gi_c 11 rfl (gi_c 12 rfl (gi_c 13 rfl (gi_c 14 rfl (gi_c 15 rfl (gi_c 16 rfl gi_n))))))))) pz_X11_count_X40)) (by decide +kernel)
set_option maxRecDepth 20000 in
theorem gX11_count_X4_pairs_n148 : GoodIn wsX11_count (wsX4_pairs) := ggX11_count_X4_pairs
set_option maxRecDepth 20000 in
theorem ggX11_count_X10_present : GoodIn wsX11_count wsX10_present := goodIn_sub (gi_c 20 rfl (gi_a (gi_c 21 rfl gi_n) pz_X11_count_X100)) (by decide +kernel)
set_option maxRecDepth 20000 in
theorem gX11_count_X10_present_n272 : GoodIn wsX11_count (wsX10_present) := ggX11_count_X10_present
theorem dX11_count_0 : decode cX11_count 0 = .ok (.iload_n 1, 1) := by decide +kernel
theorem dX11_count_1 : decode cX11_count 1 = .ok (.tableswitch 75 0 4 #[35, 43, 51, 59, 67], 35) := by decide +kernel
theorem dX11_count_36 : decode cX11_count 36 = .ok (.aload_n 0, 1) := by decide +kernel
theorem dX11_count_37 : decode cX11_count 37 = .ok (.getfield 10, 3) := by decide +kernel
