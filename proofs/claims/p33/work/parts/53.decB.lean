theorem pz_X12_findHole_X120 : ∀ x ∈ wsX120, x ∈ wsX12_findHole := fun _ h => (List.mem_cons_of_mem _ (List.mem_append_right _ h))
theorem pz_X12_hole_X120 : ∀ x ∈ wsX120, x ∈ wsX12_hole := fun _ h => (List.mem_cons_of_mem _ (List.mem_append_right _ h))
theorem pz_X12_fromTable_X120 : ∀ x ∈ wsX120, x ∈ wsX12_fromTable := fun _ h => (List.mem_cons_of_mem _ (List.mem_append_right _ h))
theorem pz_X12_turn_X120 : ∀ x ∈ wsX120, x ∈ wsX12_turn := fun _ h => (List.mem_cons_of_mem _ (List.mem_append_right _ h))
theorem pz_X12_draft_X120 : ∀ x ∈ wsX120, x ∈ wsX12_draft := fun _ h => (List.mem_cons_of_mem _ (List.mem_append_right _ h))
theorem pz_X12_go_X120 : ∀ x ∈ wsX120, x ∈ wsX12_go := fun _ h => (List.mem_cons_of_mem _ (List.mem_append_right _ h))
theorem pz_X12_take_X12_take_r1 : ∀ x ∈ wsX12_take_r1, x ∈ wsX12_take := fun _ h => (List.mem_cons_of_mem _ (List.mem_append_left _ (List.mem_append_left _ h)))
theorem pz_X12_take_X120 : ∀ x ∈ wsX120, x ∈ wsX12_take := fun _ h => (List.mem_cons_of_mem _ (List.mem_append_right _ h))
theorem pz_X12_take_X12_take_r2 : ∀ x ∈ wsX12_take_r2, x ∈ wsX12_take := fun _ h => (List.mem_cons_of_mem _ (List.mem_append_left _ (List.mem_append_right _ h)))
theorem pz_X12_ruled_X120 : ∀ x ∈ wsX120, x ∈ wsX12_ruled := fun _ h => (List.mem_cons_of_mem _ (List.mem_append_right _ h))
theorem pz_X12_rule_X12_rule_r1 : ∀ x ∈ wsX12_rule_r1, x ∈ wsX12_rule := fun _ h => (List.mem_cons_of_mem _ (List.mem_append_left _ (List.mem_append_left _ h)))
theorem pz_X12_rule_X120 : ∀ x ∈ wsX120, x ∈ wsX12_rule := fun _ h => (List.mem_cons_of_mem _ (List.mem_append_right _ h))
theorem pz_X12_rule_X12_rule_r2 : ∀ x ∈ wsX12_rule_r2, x ∈ wsX12_rule := fun _ h => (List.mem_cons_of_mem _ (List.mem_append_left _ (List.mem_append_right _ h)))
theorem pz_X12_setThen_X120 : ∀ x ∈ wsX120, x ∈ wsX12_setThen := fun _ h => (List.mem_cons_of_mem _ (List.mem_append_right _ h))
theorem pz_X12_withLater_X120 : ∀ x ∈ wsX120, x ∈ wsX12_withLater := fun _ h => (List.mem_cons_of_mem _ (List.mem_append_right _ h))
theorem pz_X12_least_X12_least_r1 : ∀ x ∈ wsX12_least_r1, x ∈ wsX12_least := fun _ h => (List.mem_cons_of_mem _ (List.mem_append_left _ (List.mem_append_left _ h)))
theorem pz_X12_least_X120 : ∀ x ∈ wsX120, x ∈ wsX12_least := fun _ h => (List.mem_cons_of_mem _ (List.mem_append_right _ h))
theorem pz_X12_least_X12_least_r2 : ∀ x ∈ wsX12_least_r2, x ∈ wsX12_least := fun _ h => (List.mem_cons_of_mem _ (List.mem_append_left _ (List.mem_append_right _ h)))
theorem dX12_goesOn_106 : decode cX12_goesOn 106 = .ok (.iconst 1, 1) := by decide +kernel
theorem dX12_goesOn_107 : decode cX12_goesOn 107 = .ok (.iload_n 1, 1) := by decide +kernel
theorem dX12_goesOn_108 : decode cX12_goesOn 108 = .ok (.iconst 1, 1) := by decide +kernel
theorem dX12_goesOn_109 : decode cX12_goesOn 109 = .ok (.isub, 1) := by decide +kernel
theorem dX12_goesOn_110 : decode cX12_goesOn 110 = .ok (.ishl, 1) := by decide +kernel
theorem dX12_goesOn_111 : decode cX12_goesOn 111 = .ok (.iload_n 1, 1) := by decide +kernel
theorem dX12_goesOn_112 : decode cX12_goesOn 112 = .ok (.iload_n 2, 1) := by decide +kernel
theorem dX12_goesOn_113 : decode cX12_goesOn 113 = .ok (.iconst 1, 1) := by decide +kernel
theorem dX12_goesOn_114 : decode cX12_goesOn 114 = .ok (.isub, 1) := by decide +kernel
theorem dX12_goesOn_115 : decode cX12_goesOn 115 = .ok (.if_icmp .ne 7, 3) := by decide +kernel
theorem dX12_goesOn_118 : decode cX12_goesOn 118 = .ok (.iconst 1, 1) := by decide +kernel
theorem dX12_goesOn_119 : decode cX12_goesOn 119 = .ok (.goto 4, 3) := by decide +kernel
theorem dX12_goesOn_122 : decode cX12_goesOn 122 = .ok (.iconst 0, 1) := by decide +kernel
theorem dX12_goesOn_123 : decode cX12_goesOn 123 = .ok (.ior, 1) := by decide +kernel
theorem dX12_goesOn_124 : decode cX12_goesOn 124 = .ok (.istore 7, 2) := by decide +kernel
theorem dX12_goesOn_126 : decode cX12_goesOn 126 = .ok (.iload 6, 2) := by decide +kernel
theorem dX12_goesOn_128 : decode cX12_goesOn 128 = .ok (.ifCond .ne 59, 3) := by decide +kernel
theorem dX12_goesOn_131 : decode cX12_goesOn 131 = .ok (.iload 5, 2) := by decide +kernel
theorem dX12_goesOn_133 : decode cX12_goesOn 133 = .ok (.iload 7, 2) := by decide +kernel
theorem dX12_goesOn_135 : decode cX12_goesOn 135 = .ok (.if_icmp .ne 52, 3) := by decide +kernel
theorem dX12_goesOn_138 : decode cX12_goesOn 138 = .ok (.iload_n 1, 1) := by decide +kernel
theorem dX12_goesOn_139 : decode cX12_goesOn 139 = .ok (.iload_n 2, 1) := by decide +kernel
theorem dX12_goesOn_140 : decode cX12_goesOn 140 = .ok (.iconst 1, 1) := by decide +kernel
theorem dX12_goesOn_141 : decode cX12_goesOn 141 = .ok (.isub, 1) := by decide +kernel
theorem dX12_goesOn_142 : decode cX12_goesOn 142 = .ok (.if_icmp .ne 17, 3) := by decide +kernel
theorem dX12_goesOn_145 : decode cX12_goesOn 145 = .ok (.iload 4, 2) := by decide +kernel
theorem dX12_goesOn_147 : decode cX12_goesOn 147 = .ok (.aload_n 0, 1) := by decide +kernel
theorem dX12_goesOn_148 : decode cX12_goesOn 148 = .ok (.getfield 19, 3) := by decide +kernel
theorem dX12_goesOn_151 : decode cX12_goesOn 151 = .ok (.iconst 1, 1) := by decide +kernel
theorem dX12_goesOn_152 : decode cX12_goesOn 152 = .ok (.iaload, 1) := by decide +kernel
theorem dX12_goesOn_153 : decode cX12_goesOn 153 = .ok (.if_icmp .ge 6, 3) := by decide +kernel
theorem dX12_goesOn_156 : decode cX12_goesOn 156 = .ok (.goto 31, 3) := by decide +kernel
theorem dX12_goesOn_159 : decode cX12_goesOn 159 = .ok (.aload_n 0, 1) := by decide +kernel
theorem dX12_goesOn_160 : decode cX12_goesOn 160 = .ok (.getfield 19, 3) := by decide +kernel
theorem dX12_goesOn_163 : decode cX12_goesOn 163 = .ok (.iload_n 1, 1) := by decide +kernel
theorem dX12_goesOn_164 : decode cX12_goesOn 164 = .ok (.iload 4, 2) := by decide +kernel
theorem dX12_goesOn_166 : decode cX12_goesOn 166 = .ok (.iastore, 1) := by decide +kernel
theorem dX12_goesOn_167 : decode cX12_goesOn 167 = .ok (.iload_n 1, 1) := by decide +kernel
theorem dX12_goesOn_168 : decode cX12_goesOn 168 = .ok (.iload_n 2, 1) := by decide +kernel
theorem dX12_goesOn_169 : decode cX12_goesOn 169 = .ok (.iconst 1, 1) := by decide +kernel
theorem dX12_goesOn_170 : decode cX12_goesOn 170 = .ok (.isub, 1) := by decide +kernel
theorem dX12_goesOn_171 : decode cX12_goesOn 171 = .ok (.if_icmp .eq 14, 3) := by decide +kernel
theorem dX12_goesOn_174 : decode cX12_goesOn 174 = .ok (.aload_n 0, 1) := by decide +kernel
theorem dX12_goesOn_175 : decode cX12_goesOn 175 = .ok (.iload_n 1, 1) := by decide +kernel
theorem dX12_goesOn_176 : decode cX12_goesOn 176 = .ok (.iconst 1, 1) := by decide +kernel
theorem dX12_goesOn_177 : decode cX12_goesOn 177 = .ok (.iadd, 1) := by decide +kernel
theorem dX12_goesOn_178 : decode cX12_goesOn 178 = .ok (.iload_n 2, 1) := by decide +kernel
theorem dX12_goesOn_179 : decode cX12_goesOn 179 = .ok (.invokevirtual 119, 3) := by decide +kernel
theorem dX12_goesOn_182 : decode cX12_goesOn 182 = .ok (.ifCond .eq 5, 3) := by decide +kernel
theorem dX12_goesOn_185 : decode cX12_goesOn 185 = .ok (.iconst 1, 1) := by decide +kernel
theorem dX12_goesOn_186 : decode cX12_goesOn 186 = .ok (.ireturn, 1) := by decide +kernel
theorem dX12_goesOn_187 : decode cX12_goesOn 187 = .ok (.iinc 4 1, 3) := by decide +kernel
theorem dX12_goesOn_190 : decode cX12_goesOn 190 = .ok (.goto (-171), 3) := by decide +kernel
theorem dX12_goesOn_193 : decode cX12_goesOn 193 = .ok (.iload_n 3, 1) := by decide +kernel
theorem dX12_goesOn_194 : decode cX12_goesOn 194 = .ok (.ifCond .ge 7, 3) := by decide +kernel
theorem dX12_goesOn_201 : decode cX12_goesOn 201 = .ok (.iconst 0, 1) := by decide +kernel
theorem dX12_goesOn_202 : decode cX12_goesOn 202 = .ok (.ireturn, 1) := by decide +kernel
set_option maxRecDepth 20000 in
theorem ggX12_findHole_X12_goesOn : GoodIn wsX12_findHole wsX12_goesOn := goodIn_sub (gi_c 8 rfl (gi_a (gi_c 3 rfl (gi_c 2 rfl (gi_c 9 rfl (gi_c 10 rfl (gi_c 11 rfl (gi_c 7 rfl (gi_c 12 rfl (gi_c 4 rfl (gi_c 5 rfl (gi_c 6 rfl gi_n)))))))))) pz_X12_findHole_X120)) (by decide +kernel)
set_option maxRecDepth 20000 in
theorem gX12_findHole_X12_goesOn : GoodIn wsX12_findHole (wsV RX12 119 RX12 yX12_goesOn wsX12_goesOn) := goodIn_app (goodIn_of _ (by decide +kernel)) ggX12_findHole_X12_goesOn
theorem dX12_findHole_0 : decode cX12_findHole 0 = .ok (.aload_n 0, 1) := by decide +kernel
theorem dX12_findHole_1 : decode cX12_findHole 1 = .ok (.iconst 0, 1) := by decide +kernel
theorem dX12_findHole_2 : decode cX12_findHole 2 = .ok (.putfield 122, 3) := by decide +kernel
theorem dX12_findHole_5 : decode cX12_findHole 5 = .ok (.iconst 4, 1) := by decide +kernel
theorem dX12_findHole_6 : decode cX12_findHole 6 = .ok (.istore_n 1, 1) := by decide +kernel
theorem dX12_findHole_7 : decode cX12_findHole 7 = .ok (.iload_n 1, 1) := by decide +kernel
theorem dX12_findHole_8 : decode cX12_findHole 8 = .ok (.aload_n 0, 1) := by decide +kernel
theorem dX12_findHole_9 : decode cX12_findHole 9 = .ok (.getfield 73, 3) := by decide +kernel
theorem dX12_findHole_12 : decode cX12_findHole 12 = .ok (.if_icmp .gt 47, 3) := by decide +kernel
theorem dX12_findHole_15 : decode cX12_findHole 15 = .ok (.iconst 0, 1) := by decide +kernel
theorem dX12_findHole_16 : decode cX12_findHole 16 = .ok (.istore_n 2, 1) := by decide +kernel
theorem dX12_findHole_17 : decode cX12_findHole 17 = .ok (.iload_n 2, 1) := by decide +kernel
theorem dX12_findHole_18 : decode cX12_findHole 18 = .ok (.aload_n 0, 1) := by decide +kernel
theorem dX12_findHole_19 : decode cX12_findHole 19 = .ok (.getfield 73, 3) := by decide +kernel
theorem dX12_findHole_22 : decode cX12_findHole 22 = .ok (.if_icmp .ge 31, 3) := by decide +kernel
theorem dX12_findHole_25 : decode cX12_findHole 25 = .ok (.aload_n 0, 1) := by decide +kernel
theorem dX12_findHole_26 : decode cX12_findHole 26 = .ok (.getfield 19, 3) := by decide +kernel
theorem dX12_findHole_29 : decode cX12_findHole 29 = .ok (.iconst 0, 1) := by decide +kernel
theorem dX12_findHole_30 : decode cX12_findHole 30 = .ok (.iload_n 2, 1) := by decide +kernel
theorem dX12_findHole_31 : decode cX12_findHole 31 = .ok (.iastore, 1) := by decide +kernel
theorem dX12_findHole_32 : decode cX12_findHole 32 = .ok (.aload_n 0, 1) := by decide +kernel
theorem dX12_findHole_33 : decode cX12_findHole 33 = .ok (.iconst 1, 1) := by decide +kernel
theorem dX12_findHole_34 : decode cX12_findHole 34 = .ok (.iload_n 1, 1) := by decide +kernel
theorem dX12_findHole_35 : decode cX12_findHole 35 = .ok (.invokevirtual 119, 3) := by decide +kernel
theorem dX12_findHole_38 : decode cX12_findHole 38 = .ok (.ifCond .eq 9, 3) := by decide +kernel
theorem dX12_findHole_41 : decode cX12_findHole 41 = .ok (.aload_n 0, 1) := by decide +kernel
theorem dX12_findHole_42 : decode cX12_findHole 42 = .ok (.iload_n 1, 1) := by decide +kernel
theorem dX12_findHole_43 : decode cX12_findHole 43 = .ok (.putfield 122, 3) := by decide +kernel
theorem dX12_findHole_46 : decode cX12_findHole 46 = .ok (.return_, 1) := by decide +kernel
theorem dX12_findHole_47 : decode cX12_findHole 47 = .ok (.iinc 2 1, 3) := by decide +kernel
theorem dX12_findHole_50 : decode cX12_findHole 50 = .ok (.goto (-33), 3) := by decide +kernel
theorem dX12_findHole_53 : decode cX12_findHole 53 = .ok (.iinc 1 1, 3) := by decide +kernel
theorem dX12_findHole_56 : decode cX12_findHole 56 = .ok (.goto (-49), 3) := by decide +kernel
theorem dX12_findHole_59 : decode cX12_findHole 59 = .ok (.return_, 1) := by decide +kernel
set_option maxRecDepth 20000 in
theorem ggX12_hole_X12_findHole : GoodIn wsX12_hole wsX12_findHole := goodIn_sub (gi_c 7 rfl (gi_a (gi_c 1 rfl (gi_c 8 rfl (gi_c 2 rfl (gi_c 9 rfl (gi_c 10 rfl (gi_c 11 rfl (gi_c 6 rfl (gi_c 12 rfl (gi_c 13 rfl (gi_c 14 rfl (gi_c 15 rfl (gi_c 16 rfl gi_n)))))))))))) pz_X12_hole_X120)) (by decide +kernel)
set_option maxRecDepth 20000 in
theorem gX12_hole_X12_findHole : GoodIn wsX12_hole (wsV RX12 125 RX12 yX12_findHole wsX12_findHole) := goodIn_app (goodIn_of _ (by decide +kernel)) ggX12_hole_X12_findHole
set_option maxRecDepth 20000 in
theorem ggX12_hole_X12_in : GoodIn wsX12_hole wsX12_in := goodIn_sub (gi_c 19 rfl gi_n) (by decide +kernel)
set_option maxRecDepth 20000 in
theorem gX12_hole_X12_in : GoodIn wsX12_hole (va_wsS RX12 76 yX12_in wsX12_in) := goodIn_app (goodIn_of _ (by decide +kernel)) ggX12_hole_X12_in
theorem dX12_hole_0 : decode cX12_hole 0 = .ok (.aload_n 0, 1) := by decide +kernel
theorem dX12_hole_1 : decode cX12_hole 1 = .ok (.invokevirtual 125, 3) := by decide +kernel
theorem dX12_hole_4 : decode cX12_hole 4 = .ok (.iload_n 1, 1) := by decide +kernel
theorem dX12_hole_5 : decode cX12_hole 5 = .ok (.iconst 0, 1) := by decide +kernel
theorem dX12_hole_6 : decode cX12_hole 6 = .ok (.aload_n 0, 1) := by decide +kernel
theorem dX12_hole_7 : decode cX12_hole 7 = .ok (.getfield 122, 3) := by decide +kernel
theorem dX12_hole_10 : decode cX12_hole 10 = .ok (.iconst 1, 1) := by decide +kernel
theorem dX12_hole_11 : decode cX12_hole 11 = .ok (.isub, 1) := by decide +kernel
theorem dX12_hole_12 : decode cX12_hole 12 = .ok (.invokestatic 76, 3) := by decide +kernel
theorem dX12_hole_15 : decode cX12_hole 15 = .ok (.ifCond .eq 12, 3) := by decide +kernel
theorem dX12_hole_18 : decode cX12_hole 18 = .ok (.aload_n 0, 1) := by decide +kernel
theorem dX12_hole_19 : decode cX12_hole 19 = .ok (.getfield 19, 3) := by decide +kernel
theorem dX12_hole_22 : decode cX12_hole 22 = .ok (.iload_n 1, 1) := by decide +kernel
theorem dX12_hole_23 : decode cX12_hole 23 = .ok (.iaload, 1) := by decide +kernel
theorem dX12_hole_24 : decode cX12_hole 24 = .ok (.goto 5, 3) := by decide +kernel
theorem dX12_hole_27 : decode cX12_hole 27 = .ok (.bipush (-9), 2) := by decide +kernel
theorem dX12_hole_29 : decode cX12_hole 29 = .ok (.ireturn, 1) := by decide +kernel
set_option maxRecDepth 20000 in
theorem ggX12_fromTable_X12_has : GoodIn wsX12_fromTable wsX12_has := goodIn_sub (gi_c 9 rfl gi_n) (by decide +kernel)
set_option maxRecDepth 20000 in
theorem gX12_fromTable_X12_has : GoodIn wsX12_fromTable (va_wsS RX12 90 yX12_has wsX12_has) := goodIn_app (goodIn_of _ (by decide +kernel)) ggX12_fromTable_X12_has
set_option maxRecDepth 20000 in
theorem ggX12_fromTable_X12_tie : GoodIn wsX12_fromTable wsX12_tie := goodIn_sub (gi_c 13 rfl (gi_a (gi_c 3 rfl gi_n) pz_X12_fromTable_X120)) (by decide +kernel)
set_option maxRecDepth 20000 in
theorem gX12_fromTable_X12_tie : GoodIn wsX12_fromTable (wsV RX12 94 RX12 yX12_tie wsX12_tie) := goodIn_app (goodIn_of _ (by decide +kernel)) ggX12_fromTable_X12_tie
set_option maxRecDepth 20000 in
theorem ggX12_fromTable_X12_changed : GoodIn wsX12_fromTable wsX12_changed := goodIn_sub (gi_c 17 rfl (gi_a (gi_c 18 rfl gi_n) pz_X12_fromTable_X120)) (by decide +kernel)
set_option maxRecDepth 20000 in
theorem gX12_fromTable_X12_changed : GoodIn wsX12_fromTable (wsV RX12 83 RX12 yX12_changed wsX12_changed) := goodIn_app (goodIn_of _ (by decide +kernel)) ggX12_fromTable_X12_changed
theorem dX12_fromTable_0 : decode cX12_fromTable 0 = .ok (.aload_n 0, 1) := by decide +kernel
theorem dX12_fromTable_1 : decode cX12_fromTable 1 = .ok (.aload_n 0, 1) := by decide +kernel
theorem dX12_fromTable_2 : decode cX12_fromTable 2 = .ok (.getfield 128, 3) := by decide +kernel
theorem dX12_fromTable_5 : decode cX12_fromTable 5 = .ok (.putfield 73, 3) := by decide +kernel
theorem dX12_fromTable_8 : decode cX12_fromTable 8 = .ok (.iconst 0, 1) := by decide +kernel
theorem dX12_fromTable_9 : decode cX12_fromTable 9 = .ok (.istore_n 1, 1) := by decide +kernel
theorem dX12_fromTable_10 : decode cX12_fromTable 10 = .ok (.iload_n 1, 1) := by decide +kernel
theorem dX12_fromTable_11 : decode cX12_fromTable 11 = .ok (.bipush 12, 2) := by decide +kernel
theorem dX12_fromTable_13 : decode cX12_fromTable 13 = .ok (.if_icmp .ge 16, 3) := by decide +kernel
theorem dX12_fromTable_16 : decode cX12_fromTable 16 = .ok (.aload_n 0, 1) := by decide +kernel
theorem dX12_fromTable_17 : decode cX12_fromTable 17 = .ok (.getfield 13, 3) := by decide +kernel
theorem dX12_fromTable_20 : decode cX12_fromTable 20 = .ok (.iload_n 1, 1) := by decide +kernel
theorem dX12_fromTable_21 : decode cX12_fromTable 21 = .ok (.iconst 0, 1) := by decide +kernel
theorem dX12_fromTable_22 : decode cX12_fromTable 22 = .ok (.iastore, 1) := by decide +kernel
theorem dX12_fromTable_23 : decode cX12_fromTable 23 = .ok (.iinc 1 1, 3) := by decide +kernel
theorem dX12_fromTable_26 : decode cX12_fromTable 26 = .ok (.goto (-16), 3) := by decide +kernel
theorem dX12_fromTable_29 : decode cX12_fromTable 29 = .ok (.iconst 0, 1) := by decide +kernel
theorem dX12_fromTable_30 : decode cX12_fromTable 30 = .ok (.istore_n 1, 1) := by decide +kernel
theorem dX12_fromTable_31 : decode cX12_fromTable 31 = .ok (.iload_n 1, 1) := by decide +kernel
theorem dX12_fromTable_32 : decode cX12_fromTable 32 = .ok (.bipush 12, 2) := by decide +kernel
theorem dX12_fromTable_34 : decode cX12_fromTable 34 = .ok (.if_icmp .ge 79, 3) := by decide +kernel
theorem dX12_fromTable_37 : decode cX12_fromTable 37 = .ok (.iconst 0, 1) := by decide +kernel
theorem dX12_fromTable_38 : decode cX12_fromTable 38 = .ok (.istore_n 2, 1) := by decide +kernel
theorem dX12_fromTable_39 : decode cX12_fromTable 39 = .ok (.iload_n 2, 1) := by decide +kernel
theorem dX12_fromTable_40 : decode cX12_fromTable 40 = .ok (.aload_n 0, 1) := by decide +kernel
theorem dX12_fromTable_41 : decode cX12_fromTable 41 = .ok (.getfield 73, 3) := by decide +kernel
theorem dX12_fromTable_44 : decode cX12_fromTable 44 = .ok (.if_icmp .ge 63, 3) := by decide +kernel
theorem dX12_fromTable_47 : decode cX12_fromTable 47 = .ok (.iconst 0, 1) := by decide +kernel
theorem dX12_fromTable_48 : decode cX12_fromTable 48 = .ok (.istore_n 3, 1) := by decide +kernel
theorem dX12_fromTable_49 : decode cX12_fromTable 49 = .ok (.iload_n 3, 1) := by decide +kernel
theorem dX12_fromTable_50 : decode cX12_fromTable 50 = .ok (.iload_n 2, 1) := by decide +kernel
theorem dX12_fromTable_51 : decode cX12_fromTable 51 = .ok (.if_icmp .ge 50, 3) := by decide +kernel
theorem dX12_fromTable_54 : decode cX12_fromTable 54 = .ok (.aload_n 0, 1) := by decide +kernel
theorem dX12_fromTable_55 : decode cX12_fromTable 55 = .ok (.getfield 16, 3) := by decide +kernel
theorem dX12_fromTable_58 : decode cX12_fromTable 58 = .ok (.iload_n 1, 1) := by decide +kernel
theorem dX12_fromTable_59 : decode cX12_fromTable 59 = .ok (.iaload, 1) := by decide +kernel
theorem dX12_fromTable_60 : decode cX12_fromTable 60 = .ok (.ifCond .lt 35, 3) := by decide +kernel
theorem dX12_fromTable_63 : decode cX12_fromTable 63 = .ok (.aload_n 0, 1) := by decide +kernel
theorem dX12_fromTable_64 : decode cX12_fromTable 64 = .ok (.getfield 16, 3) := by decide +kernel
theorem dX12_fromTable_67 : decode cX12_fromTable 67 = .ok (.iload_n 1, 1) := by decide +kernel
theorem dX12_fromTable_68 : decode cX12_fromTable 68 = .ok (.iaload, 1) := by decide +kernel
theorem dX12_fromTable_69 : decode cX12_fromTable 69 = .ok (.iload_n 2, 1) := by decide +kernel
theorem dX12_fromTable_70 : decode cX12_fromTable 70 = .ok (.invokestatic 90, 3) := by decide +kernel
theorem dX12_fromTable_73 : decode cX12_fromTable 73 = .ok (.ifCond .eq 22, 3) := by decide +kernel
theorem dX12_fromTable_76 : decode cX12_fromTable 76 = .ok (.aload_n 0, 1) := by decide +kernel
theorem dX12_fromTable_77 : decode cX12_fromTable 77 = .ok (.getfield 16, 3) := by decide +kernel
theorem dX12_fromTable_80 : decode cX12_fromTable 80 = .ok (.iload_n 1, 1) := by decide +kernel
theorem dX12_fromTable_81 : decode cX12_fromTable 81 = .ok (.iaload, 1) := by decide +kernel
theorem dX12_fromTable_82 : decode cX12_fromTable 82 = .ok (.iload_n 3, 1) := by decide +kernel
theorem dX12_fromTable_83 : decode cX12_fromTable 83 = .ok (.invokestatic 90, 3) := by decide +kernel
theorem dX12_fromTable_86 : decode cX12_fromTable 86 = .ok (.ifCond .eq 9, 3) := by decide +kernel
theorem dX12_fromTable_89 : decode cX12_fromTable 89 = .ok (.aload_n 0, 1) := by decide +kernel
theorem dX12_fromTable_90 : decode cX12_fromTable 90 = .ok (.iload_n 2, 1) := by decide +kernel
theorem dX12_fromTable_91 : decode cX12_fromTable 91 = .ok (.iload_n 3, 1) := by decide +kernel
theorem dX12_fromTable_92 : decode cX12_fromTable 92 = .ok (.invokevirtual 94, 3) := by decide +kernel
theorem dX12_fromTable_95 : decode cX12_fromTable 95 = .ok (.iinc 3 1, 3) := by decide +kernel
theorem dX12_fromTable_98 : decode cX12_fromTable 98 = .ok (.goto (-49), 3) := by decide +kernel
theorem dX12_fromTable_101 : decode cX12_fromTable 101 = .ok (.iinc 2 1, 3) := by decide +kernel
theorem dX12_fromTable_104 : decode cX12_fromTable 104 = .ok (.goto (-65), 3) := by decide +kernel
theorem dX12_fromTable_107 : decode cX12_fromTable 107 = .ok (.iinc 1 1, 3) := by decide +kernel
theorem dX12_fromTable_110 : decode cX12_fromTable 110 = .ok (.goto (-79), 3) := by decide +kernel
theorem dX12_fromTable_113 : decode cX12_fromTable 113 = .ok (.aload_n 0, 1) := by decide +kernel
theorem dX12_fromTable_114 : decode cX12_fromTable 114 = .ok (.iconst 0, 1) := by decide +kernel
theorem dX12_fromTable_115 : decode cX12_fromTable 115 = .ok (.putfield 80, 3) := by decide +kernel
theorem dX12_fromTable_118 : decode cX12_fromTable 118 = .ok (.aload_n 0, 1) := by decide +kernel
theorem dX12_fromTable_119 : decode cX12_fromTable 119 = .ok (.invokevirtual 83, 3) := by decide +kernel
theorem dX12_fromTable_122 : decode cX12_fromTable 122 = .ok (.aload_n 0, 1) := by decide +kernel
theorem dX12_fromTable_123 : decode cX12_fromTable 123 = .ok (.getfield 73, 3) := by decide +kernel
theorem dX12_fromTable_126 : decode cX12_fromTable 126 = .ok (.ireturn, 1) := by decide +kernel
set_option maxRecDepth 20000 in
theorem ggX12_pairs_X12_bits : GoodIn wsX12_pairs wsX12_bits := goodIn_sub (gi_c 6 rfl gi_n) (by decide +kernel)
set_option maxRecDepth 20000 in
theorem gX12_pairs_X12_bits : GoodIn wsX12_pairs (va_wsS RX12 109 yX12_bits wsX12_bits) := goodIn_app (goodIn_of _ (by decide +kernel)) ggX12_pairs_X12_bits
theorem dX12_pairs_0 : decode cX12_pairs 0 = .ok (.iconst 0, 1) := by decide +kernel
theorem dX12_pairs_1 : decode cX12_pairs 1 = .ok (.istore_n 1, 1) := by decide +kernel
theorem dX12_pairs_2 : decode cX12_pairs 2 = .ok (.iconst 0, 1) := by decide +kernel
theorem dX12_pairs_3 : decode cX12_pairs 3 = .ok (.istore_n 2, 1) := by decide +kernel
theorem dX12_pairs_4 : decode cX12_pairs 4 = .ok (.iload_n 2, 1) := by decide +kernel
theorem dX12_pairs_5 : decode cX12_pairs 5 = .ok (.aload_n 0, 1) := by decide +kernel
theorem dX12_pairs_6 : decode cX12_pairs 6 = .ok (.getfield 73, 3) := by decide +kernel
theorem dX12_pairs_9 : decode cX12_pairs 9 = .ok (.if_icmp .ge 21, 3) := by decide +kernel
theorem dX12_pairs_12 : decode cX12_pairs 12 = .ok (.iload_n 1, 1) := by decide +kernel
theorem dX12_pairs_13 : decode cX12_pairs 13 = .ok (.aload_n 0, 1) := by decide +kernel
theorem dX12_pairs_14 : decode cX12_pairs 14 = .ok (.getfield 13, 3) := by decide +kernel
theorem dX12_pairs_17 : decode cX12_pairs 17 = .ok (.iload_n 2, 1) := by decide +kernel
theorem dX12_pairs_18 : decode cX12_pairs 18 = .ok (.iaload, 1) := by decide +kernel
theorem dX12_pairs_19 : decode cX12_pairs 19 = .ok (.invokestatic 109, 3) := by decide +kernel
theorem dX12_pairs_22 : decode cX12_pairs 22 = .ok (.iadd, 1) := by decide +kernel
theorem dX12_pairs_23 : decode cX12_pairs 23 = .ok (.istore_n 1, 1) := by decide +kernel
theorem dX12_pairs_24 : decode cX12_pairs 24 = .ok (.iinc 2 1, 3) := by decide +kernel
theorem dX12_pairs_27 : decode cX12_pairs 27 = .ok (.goto (-23), 3) := by decide +kernel
theorem dX12_pairs_30 : decode cX12_pairs 30 = .ok (.iload_n 1, 1) := by decide +kernel
theorem dX12_pairs_31 : decode cX12_pairs 31 = .ok (.iconst 2, 1) := by decide +kernel
theorem dX12_pairs_32 : decode cX12_pairs 32 = .ok (.idiv, 1) := by decide +kernel
theorem dX12_pairs_33 : decode cX12_pairs 33 = .ok (.ireturn, 1) := by decide +kernel
set_option maxRecDepth 20000 in
theorem ggX12_turn_X12_all : GoodIn wsX12_turn wsX12_all := goodIn_sub (gi_c 7 rfl (gi_a (gi_c 1 rfl gi_n) pz_X12_turn_X120)) (by decide +kernel)
set_option maxRecDepth 20000 in
theorem gX12_turn_X12_all : GoodIn wsX12_turn (wsV RX12 101 RX12 yX12_all wsX12_all) := goodIn_app (goodIn_of _ (by decide +kernel)) ggX12_turn_X12_all
set_option maxRecDepth 20000 in
theorem ggX12_turn_X12_changed : GoodIn wsX12_turn wsX12_changed := goodIn_sub (gi_c 11 rfl (gi_a (gi_c 12 rfl gi_n) pz_X12_turn_X120)) (by decide +kernel)
set_option maxRecDepth 20000 in
theorem gX12_turn_X12_changed : GoodIn wsX12_turn (wsV RX12 83 RX12 yX12_changed wsX12_changed) := goodIn_app (goodIn_of _ (by decide +kernel)) ggX12_turn_X12_changed
set_option maxRecDepth 20000 in
theorem ggX12_turn_X12_pairs : GoodIn wsX12_turn wsX12_pairs := goodIn_sub (gi_c 16 rfl (gi_a (gi_c 1 rfl (gi_c 2 rfl (gi_c 17 rfl (gi_c 18 rfl (gi_c 6 rfl (gi_c 19 rfl gi_n)))))) pz_X12_turn_X120)) (by decide +kernel)
set_option maxRecDepth 20000 in
theorem gX12_turn_X12_pairs : GoodIn wsX12_turn (wsV RX12 131 RX12 yX12_pairs wsX12_pairs) := goodIn_app (goodIn_of _ (by decide +kernel)) ggX12_turn_X12_pairs
theorem dX12_turn_0 : decode cX12_turn 0 = .ok (.iconst 0, 1) := by decide +kernel
theorem dX12_turn_1 : decode cX12_turn 1 = .ok (.istore_n 1, 1) := by decide +kernel
theorem dX12_turn_2 : decode cX12_turn 2 = .ok (.iload_n 1, 1) := by decide +kernel
theorem dX12_turn_3 : decode cX12_turn 3 = .ok (.aload_n 0, 1) := by decide +kernel
theorem dX12_turn_4 : decode cX12_turn 4 = .ok (.getfield 73, 3) := by decide +kernel
theorem dX12_turn_7 : decode cX12_turn 7 = .ok (.if_icmp .ge 34, 3) := by decide +kernel
theorem dX12_turn_10 : decode cX12_turn 10 = .ok (.aload_n 0, 1) := by decide +kernel
theorem dX12_turn_11 : decode cX12_turn 11 = .ok (.getfield 13, 3) := by decide +kernel
theorem dX12_turn_14 : decode cX12_turn 14 = .ok (.iload_n 1, 1) := by decide +kernel
theorem dX12_turn_15 : decode cX12_turn 15 = .ok (.aload_n 0, 1) := by decide +kernel
theorem dX12_turn_16 : decode cX12_turn 16 = .ok (.invokevirtual 101, 3) := by decide +kernel
theorem dX12_turn_19 : decode cX12_turn 19 = .ok (.aload_n 0, 1) := by decide +kernel
theorem dX12_turn_20 : decode cX12_turn 20 = .ok (.getfield 13, 3) := by decide +kernel
theorem dX12_turn_23 : decode cX12_turn 23 = .ok (.iload_n 1, 1) := by decide +kernel
theorem dX12_turn_24 : decode cX12_turn 24 = .ok (.iaload, 1) := by decide +kernel
theorem dX12_turn_25 : decode cX12_turn 25 = .ok (.iconst (-1), 1) := by decide +kernel
theorem dX12_turn_26 : decode cX12_turn 26 = .ok (.ixor, 1) := by decide +kernel
theorem dX12_turn_27 : decode cX12_turn 27 = .ok (.iand, 1) := by decide +kernel
theorem dX12_turn_28 : decode cX12_turn 28 = .ok (.iconst 1, 1) := by decide +kernel
theorem dX12_turn_29 : decode cX12_turn 29 = .ok (.iload_n 1, 1) := by decide +kernel
theorem dX12_turn_30 : decode cX12_turn 30 = .ok (.ishl, 1) := by decide +kernel
theorem dX12_turn_31 : decode cX12_turn 31 = .ok (.iconst (-1), 1) := by decide +kernel
theorem dX12_turn_32 : decode cX12_turn 32 = .ok (.ixor, 1) := by decide +kernel
theorem dX12_turn_33 : decode cX12_turn 33 = .ok (.iand, 1) := by decide +kernel
theorem dX12_turn_34 : decode cX12_turn 34 = .ok (.iastore, 1) := by decide +kernel
theorem dX12_turn_35 : decode cX12_turn 35 = .ok (.iinc 1 1, 3) := by decide +kernel
theorem dX12_turn_38 : decode cX12_turn 38 = .ok (.goto (-36), 3) := by decide +kernel
theorem dX12_turn_41 : decode cX12_turn 41 = .ok (.aload_n 0, 1) := by decide +kernel
theorem dX12_turn_42 : decode cX12_turn 42 = .ok (.invokevirtual 83, 3) := by decide +kernel
theorem dX12_turn_45 : decode cX12_turn 45 = .ok (.aload_n 0, 1) := by decide +kernel
theorem dX12_turn_46 : decode cX12_turn 46 = .ok (.invokevirtual 131, 3) := by decide +kernel
theorem dX12_turn_49 : decode cX12_turn 49 = .ok (.ireturn, 1) := by decide +kernel
set_option maxRecDepth 20000 in
theorem ggX12_draft_X12_isNode : GoodIn wsX12_draft wsX12_isNode := goodIn_sub (gi_c 7 rfl (gi_a (gi_c 8 rfl (gi_c 9 rfl (gi_c 10 rfl (gi_c 6 rfl (gi_c 11 rfl gi_n))))) pz_X12_draft_X120)) (by decide +kernel)
set_option maxRecDepth 20000 in
theorem gX12_draft_X12_isNode : GoodIn wsX12_draft (wsV RX12 86 RX12 yX12_isNode wsX12_isNode) := goodIn_app (goodIn_of _ (by decide +kernel)) ggX12_draft_X12_isNode
theorem dX12_draft_0 : decode cX12_draft 0 = .ok (.iconst 0, 1) := by decide +kernel
theorem dX12_draft_1 : decode cX12_draft 1 = .ok (.istore_n 2, 1) := by decide +kernel
theorem dX12_draft_2 : decode cX12_draft 2 = .ok (.iconst 0, 1) := by decide +kernel
theorem dX12_draft_3 : decode cX12_draft 3 = .ok (.istore_n 3, 1) := by decide +kernel
theorem dX12_draft_4 : decode cX12_draft 4 = .ok (.iload_n 3, 1) := by decide +kernel
theorem dX12_draft_5 : decode cX12_draft 5 = .ok (.aload_n 0, 1) := by decide +kernel
theorem dX12_draft_6 : decode cX12_draft 6 = .ok (.getfield 80, 3) := by decide +kernel
theorem dX12_draft_9 : decode cX12_draft 9 = .ok (.if_icmp .ge 29, 3) := by decide +kernel
theorem dX12_draft_12 : decode cX12_draft 12 = .ok (.iload_n 2, 1) := by decide +kernel
theorem dX12_draft_13 : decode cX12_draft 13 = .ok (.ifCond .ne 13, 3) := by decide +kernel
theorem dX12_draft_16 : decode cX12_draft 16 = .ok (.aload_n 0, 1) := by decide +kernel
theorem dX12_draft_17 : decode cX12_draft 17 = .ok (.getfield 22, 3) := by decide +kernel
theorem dX12_draft_20 : decode cX12_draft 20 = .ok (.iload_n 3, 1) := by decide +kernel
theorem dX12_draft_21 : decode cX12_draft 21 = .ok (.iaload, 1) := by decide +kernel
theorem dX12_draft_22 : decode cX12_draft 22 = .ok (.iload_n 1, 1) := by decide +kernel
theorem dX12_draft_23 : decode cX12_draft 23 = .ok (.if_icmp .ne 7, 3) := by decide +kernel
theorem dX12_draft_26 : decode cX12_draft 26 = .ok (.iconst 1, 1) := by decide +kernel
theorem dX12_draft_27 : decode cX12_draft 27 = .ok (.goto 4, 3) := by decide +kernel
theorem dX12_draft_30 : decode cX12_draft 30 = .ok (.iconst 0, 1) := by decide +kernel
theorem dX12_draft_31 : decode cX12_draft 31 = .ok (.istore_n 2, 1) := by decide +kernel
theorem dX12_draft_32 : decode cX12_draft 32 = .ok (.iinc 3 1, 3) := by decide +kernel
theorem dX12_draft_35 : decode cX12_draft 35 = .ok (.goto (-31), 3) := by decide +kernel
theorem dX12_draft_38 : decode cX12_draft 38 = .ok (.aload_n 0, 1) := by decide +kernel
theorem dX12_draft_39 : decode cX12_draft 39 = .ok (.iload_n 1, 1) := by decide +kernel
theorem dX12_draft_40 : decode cX12_draft 40 = .ok (.invokevirtual 86, 3) := by decide +kernel
theorem dX12_draft_43 : decode cX12_draft 43 = .ok (.ifCond .eq 7, 3) := by decide +kernel
theorem dX12_draft_46 : decode cX12_draft 46 = .ok (.iload_n 2, 1) := by decide +kernel
theorem dX12_draft_47 : decode cX12_draft 47 = .ok (.ifCond .eq 5, 3) := by decide +kernel
theorem dX12_draft_50 : decode cX12_draft 50 = .ok (.iconst (-1), 1) := by decide +kernel
theorem dX12_draft_51 : decode cX12_draft 51 = .ok (.ireturn, 1) := by decide +kernel
theorem dX12_draft_52 : decode cX12_draft 52 = .ok (.aload_n 0, 1) := by decide +kernel
theorem dX12_draft_53 : decode cX12_draft 53 = .ok (.getfield 22, 3) := by decide +kernel
theorem dX12_draft_56 : decode cX12_draft 56 = .ok (.aload_n 0, 1) := by decide +kernel
theorem dX12_draft_57 : decode cX12_draft 57 = .ok (.getfield 80, 3) := by decide +kernel
theorem dX12_draft_60 : decode cX12_draft 60 = .ok (.iload_n 1, 1) := by decide +kernel
theorem dX12_draft_61 : decode cX12_draft 61 = .ok (.iastore, 1) := by decide +kernel
theorem dX12_draft_62 : decode cX12_draft 62 = .ok (.aload_n 0, 1) := by decide +kernel
theorem dX12_draft_63 : decode cX12_draft 63 = .ok (.dup, 1) := by decide +kernel
theorem dX12_draft_64 : decode cX12_draft 64 = .ok (.getfield 80, 3) := by decide +kernel
theorem dX12_draft_67 : decode cX12_draft 67 = .ok (.iconst 1, 1) := by decide +kernel
theorem dX12_draft_68 : decode cX12_draft 68 = .ok (.iadd, 1) := by decide +kernel
theorem dX12_draft_69 : decode cX12_draft 69 = .ok (.putfield 80, 3) := by decide +kernel
theorem dX12_draft_72 : decode cX12_draft 72 = .ok (.aload_n 0, 1) := by decide +kernel
theorem dX12_draft_73 : decode cX12_draft 73 = .ok (.getfield 80, 3) := by decide +kernel
theorem dX12_draft_76 : decode cX12_draft 76 = .ok (.ireturn, 1) := by decide +kernel
theorem dX12_beginOrder_0 : decode cX12_beginOrder 0 = .ok (.aload_n 0, 1) := by decide +kernel
theorem dX12_beginOrder_1 : decode cX12_beginOrder 1 = .ok (.iconst 0, 1) := by decide +kernel
theorem dX12_beginOrder_2 : decode cX12_beginOrder 2 = .ok (.putfield 28, 3) := by decide +kernel
theorem dX12_beginOrder_5 : decode cX12_beginOrder 5 = .ok (.aload_n 0, 1) := by decide +kernel
theorem dX12_beginOrder_6 : decode cX12_beginOrder 6 = .ok (.iconst 0, 1) := by decide +kernel
theorem dX12_beginOrder_7 : decode cX12_beginOrder 7 = .ok (.putfield 134, 3) := by decide +kernel
theorem dX12_beginOrder_10 : decode cX12_beginOrder 10 = .ok (.aload_n 0, 1) := by decide +kernel
theorem dX12_beginOrder_11 : decode cX12_beginOrder 11 = .ok (.iconst 0, 1) := by decide +kernel
theorem dX12_beginOrder_12 : decode cX12_beginOrder 12 = .ok (.putfield 137, 3) := by decide +kernel
theorem dX12_beginOrder_15 : decode cX12_beginOrder 15 = .ok (.iconst 0, 1) := by decide +kernel
theorem dX12_beginOrder_16 : decode cX12_beginOrder 16 = .ok (.istore_n 1, 1) := by decide +kernel
theorem dX12_beginOrder_17 : decode cX12_beginOrder 17 = .ok (.iload_n 1, 1) := by decide +kernel
theorem dX12_beginOrder_18 : decode cX12_beginOrder 18 = .ok (.bipush 12, 2) := by decide +kernel
theorem dX12_beginOrder_20 : decode cX12_beginOrder 20 = .ok (.if_icmp .ge 28, 3) := by decide +kernel
theorem dX12_beginOrder_23 : decode cX12_beginOrder 23 = .ok (.aload_n 0, 1) := by decide +kernel
theorem dX12_beginOrder_24 : decode cX12_beginOrder 24 = .ok (.getfield 32, 3) := by decide +kernel
theorem dX12_beginOrder_27 : decode cX12_beginOrder 27 = .ok (.iload_n 1, 1) := by decide +kernel
theorem dX12_beginOrder_28 : decode cX12_beginOrder 28 = .ok (.aload_n 0, 1) := by decide +kernel
theorem dX12_beginOrder_29 : decode cX12_beginOrder 29 = .ok (.getfield 13, 3) := by decide +kernel
theorem dX12_beginOrder_32 : decode cX12_beginOrder 32 = .ok (.iload_n 1, 1) := by decide +kernel
theorem dX12_beginOrder_33 : decode cX12_beginOrder 33 = .ok (.iaload, 1) := by decide +kernel
theorem dX12_beginOrder_34 : decode cX12_beginOrder 34 = .ok (.iastore, 1) := by decide +kernel
theorem dX12_beginOrder_35 : decode cX12_beginOrder 35 = .ok (.aload_n 0, 1) := by decide +kernel
theorem dX12_beginOrder_36 : decode cX12_beginOrder 36 = .ok (.getfield 35, 3) := by decide +kernel
theorem dX12_beginOrder_39 : decode cX12_beginOrder 39 = .ok (.iload_n 1, 1) := by decide +kernel
theorem dX12_beginOrder_40 : decode cX12_beginOrder 40 = .ok (.iconst 0, 1) := by decide +kernel
theorem dX12_beginOrder_41 : decode cX12_beginOrder 41 = .ok (.iastore, 1) := by decide +kernel
theorem dX12_beginOrder_42 : decode cX12_beginOrder 42 = .ok (.iinc 1 1, 3) := by decide +kernel
theorem dX12_beginOrder_45 : decode cX12_beginOrder 45 = .ok (.goto (-28), 3) := by decide +kernel
theorem dX12_beginOrder_48 : decode cX12_beginOrder 48 = .ok (.return_, 1) := by decide +kernel
set_option maxRecDepth 20000 in
theorem ggX12_fillOf_X12_has : GoodIn wsX12_fillOf wsX12_has := goodIn_sub (gi_c 6 rfl gi_n) (by decide +kernel)
set_option maxRecDepth 20000 in
theorem gX12_fillOf_X12_has : GoodIn wsX12_fillOf (va_wsS RX12 90 yX12_has wsX12_has) := goodIn_app (goodIn_of _ (by decide +kernel)) ggX12_fillOf_X12_has
set_option maxRecDepth 20000 in
theorem ggX12_fillOf_X12_bits : GoodIn wsX12_fillOf wsX12_bits := goodIn_sub (gi_c 9 rfl gi_n) (by decide +kernel)
set_option maxRecDepth 20000 in
theorem gX12_fillOf_X12_bits : GoodIn wsX12_fillOf (va_wsS RX12 109 yX12_bits wsX12_bits) := goodIn_app (goodIn_of _ (by decide +kernel)) ggX12_fillOf_X12_bits
theorem dX12_fillOf_0 : decode cX12_fillOf 0 = .ok (.iconst 0, 1) := by decide +kernel
theorem dX12_fillOf_1 : decode cX12_fillOf 1 = .ok (.istore_n 2, 1) := by decide +kernel
theorem dX12_fillOf_2 : decode cX12_fillOf 2 = .ok (.iconst 0, 1) := by decide +kernel
theorem dX12_fillOf_3 : decode cX12_fillOf 3 = .ok (.istore_n 3, 1) := by decide +kernel
theorem dX12_fillOf_4 : decode cX12_fillOf 4 = .ok (.iload_n 3, 1) := by decide +kernel
theorem dX12_fillOf_5 : decode cX12_fillOf 5 = .ok (.aload_n 0, 1) := by decide +kernel
theorem dX12_fillOf_6 : decode cX12_fillOf 6 = .ok (.getfield 73, 3) := by decide +kernel
theorem dX12_fillOf_9 : decode cX12_fillOf 9 = .ok (.if_icmp .ge 49, 3) := by decide +kernel
theorem dX12_fillOf_12 : decode cX12_fillOf 12 = .ok (.iload_n 2, 1) := by decide +kernel
theorem dX12_fillOf_13 : decode cX12_fillOf 13 = .ok (.aload_n 0, 1) := by decide +kernel
theorem dX12_fillOf_14 : decode cX12_fillOf 14 = .ok (.getfield 32, 3) := by decide +kernel
theorem dX12_fillOf_17 : decode cX12_fillOf 17 = .ok (.iload_n 1, 1) := by decide +kernel
theorem dX12_fillOf_18 : decode cX12_fillOf 18 = .ok (.iaload, 1) := by decide +kernel
theorem dX12_fillOf_19 : decode cX12_fillOf 19 = .ok (.iload_n 3, 1) := by decide +kernel
theorem dX12_fillOf_20 : decode cX12_fillOf 20 = .ok (.invokestatic 90, 3) := by decide +kernel
theorem dX12_fillOf_23 : decode cX12_fillOf 23 = .ok (.ifCond .eq 26, 3) := by decide +kernel
theorem dX12_fillOf_26 : decode cX12_fillOf 26 = .ok (.aload_n 0, 1) := by decide +kernel
theorem dX12_fillOf_27 : decode cX12_fillOf 27 = .ok (.getfield 32, 3) := by decide +kernel
theorem dX12_fillOf_30 : decode cX12_fillOf 30 = .ok (.iload_n 1, 1) := by decide +kernel
theorem dX12_fillOf_31 : decode cX12_fillOf 31 = .ok (.iaload, 1) := by decide +kernel
theorem dX12_fillOf_32 : decode cX12_fillOf 32 = .ok (.aload_n 0, 1) := by decide +kernel
theorem dX12_fillOf_33 : decode cX12_fillOf 33 = .ok (.getfield 32, 3) := by decide +kernel
theorem dX12_fillOf_36 : decode cX12_fillOf 36 = .ok (.iload_n 3, 1) := by decide +kernel
theorem dX12_fillOf_37 : decode cX12_fillOf 37 = .ok (.iaload, 1) := by decide +kernel
theorem dX12_fillOf_38 : decode cX12_fillOf 38 = .ok (.iconst (-1), 1) := by decide +kernel
theorem dX12_fillOf_39 : decode cX12_fillOf 39 = .ok (.ixor, 1) := by decide +kernel
theorem dX12_fillOf_40 : decode cX12_fillOf 40 = .ok (.iand, 1) := by decide +kernel
theorem dX12_fillOf_41 : decode cX12_fillOf 41 = .ok (.invokestatic 109, 3) := by decide +kernel
theorem dX12_fillOf_44 : decode cX12_fillOf 44 = .ok (.iconst 1, 1) := by decide +kernel
theorem dX12_fillOf_45 : decode cX12_fillOf 45 = .ok (.isub, 1) := by decide +kernel
theorem dX12_fillOf_46 : decode cX12_fillOf 46 = .ok (.goto 4, 3) := by decide +kernel
theorem dX12_fillOf_49 : decode cX12_fillOf 49 = .ok (.iconst 0, 1) := by decide +kernel
theorem dX12_fillOf_50 : decode cX12_fillOf 50 = .ok (.iadd, 1) := by decide +kernel
theorem dX12_fillOf_51 : decode cX12_fillOf 51 = .ok (.istore_n 2, 1) := by decide +kernel
theorem dX12_fillOf_52 : decode cX12_fillOf 52 = .ok (.iinc 3 1, 3) := by decide +kernel
theorem dX12_fillOf_55 : decode cX12_fillOf 55 = .ok (.goto (-51), 3) := by decide +kernel
theorem dX12_fillOf_58 : decode cX12_fillOf 58 = .ok (.iload_n 2, 1) := by decide +kernel
theorem dX12_fillOf_59 : decode cX12_fillOf 59 = .ok (.iconst 2, 1) := by decide +kernel
theorem dX12_fillOf_60 : decode cX12_fillOf 60 = .ok (.idiv, 1) := by decide +kernel
theorem dX12_fillOf_61 : decode cX12_fillOf 61 = .ok (.ireturn, 1) := by decide +kernel
set_option maxRecDepth 20000 in
theorem ggX12_go_X12_fillOf : GoodIn wsX12_go wsX12_fillOf := goodIn_sub (gi_c 12 rfl (gi_a (gi_c 4 rfl (gi_c 2 rfl (gi_c 13 rfl (gi_c 14 rfl (gi_c 11 rfl (gi_c 15 rfl (gi_c 16 rfl (gi_c 17 rfl (gi_c 18 rfl gi_n))))))))) pz_X12_go_X120)) (by decide +kernel)
set_option maxRecDepth 20000 in
theorem gX12_go_X12_fillOf : GoodIn wsX12_go (wsV RX12 140 RX12 yX12_fillOf wsX12_fillOf) := goodIn_app (goodIn_of _ (by decide +kernel)) ggX12_go_X12_fillOf
set_option maxRecDepth 20000 in
theorem ggX12_go_X12_bits : GoodIn wsX12_go wsX12_bits := goodIn_sub (gi_c 18 rfl gi_n) (by decide +kernel)
set_option maxRecDepth 20000 in
theorem gX12_go_X12_bits : GoodIn wsX12_go (va_wsS RX12 109 yX12_bits wsX12_bits) := goodIn_app (goodIn_of _ (by decide +kernel)) ggX12_go_X12_bits
set_option maxRecDepth 20000 in
theorem ggX12_go_X12_has : GoodIn wsX12_go wsX12_has := goodIn_sub (gi_c 15 rfl gi_n) (by decide +kernel)
set_option maxRecDepth 20000 in
theorem gX12_go_X12_has : GoodIn wsX12_go (va_wsS RX12 90 yX12_has wsX12_has) := goodIn_app (goodIn_of _ (by decide +kernel)) ggX12_go_X12_has
theorem dX12_go_0 : decode cX12_go 0 = .ok (.aload_n 0, 1) := by decide +kernel
theorem dX12_go_1 : decode cX12_go 1 = .ok (.dup, 1) := by decide +kernel
theorem dX12_go_2 : decode cX12_go 2 = .ok (.getfield 134, 3) := by decide +kernel
theorem dX12_go_5 : decode cX12_go 5 = .ok (.aload_n 0, 1) := by decide +kernel
theorem dX12_go_6 : decode cX12_go 6 = .ok (.iload_n 1, 1) := by decide +kernel
theorem dX12_go_7 : decode cX12_go 7 = .ok (.invokevirtual 140, 3) := by decide +kernel
theorem dX12_go_10 : decode cX12_go 10 = .ok (.iadd, 1) := by decide +kernel
theorem dX12_go_11 : decode cX12_go 11 = .ok (.putfield 134, 3) := by decide +kernel
theorem dX12_go_14 : decode cX12_go 14 = .ok (.aload_n 0, 1) := by decide +kernel
theorem dX12_go_15 : decode cX12_go 15 = .ok (.aload_n 0, 1) := by decide +kernel
theorem dX12_go_16 : decode cX12_go 16 = .ok (.getfield 32, 3) := by decide +kernel
theorem dX12_go_19 : decode cX12_go 19 = .ok (.iload_n 1, 1) := by decide +kernel
theorem dX12_go_20 : decode cX12_go 20 = .ok (.iaload, 1) := by decide +kernel
theorem dX12_go_21 : decode cX12_go 21 = .ok (.invokestatic 109, 3) := by decide +kernel
theorem dX12_go_24 : decode cX12_go 24 = .ok (.aload_n 0, 1) := by decide +kernel
theorem dX12_go_25 : decode cX12_go 25 = .ok (.getfield 137, 3) := by decide +kernel
theorem dX12_go_28 : decode cX12_go 28 = .ok (.if_icmp .le 15, 3) := by decide +kernel
theorem dX12_go_31 : decode cX12_go 31 = .ok (.aload_n 0, 1) := by decide +kernel
theorem dX12_go_32 : decode cX12_go 32 = .ok (.getfield 32, 3) := by decide +kernel
theorem dX12_go_35 : decode cX12_go 35 = .ok (.iload_n 1, 1) := by decide +kernel
theorem dX12_go_36 : decode cX12_go 36 = .ok (.iaload, 1) := by decide +kernel
theorem dX12_go_37 : decode cX12_go 37 = .ok (.invokestatic 109, 3) := by decide +kernel
theorem dX12_go_40 : decode cX12_go 40 = .ok (.goto 7, 3) := by decide +kernel
theorem dX12_go_43 : decode cX12_go 43 = .ok (.aload_n 0, 1) := by decide +kernel
theorem dX12_go_44 : decode cX12_go 44 = .ok (.getfield 137, 3) := by decide +kernel
theorem dX12_go_47 : decode cX12_go 47 = .ok (.putfield 137, 3) := by decide +kernel
theorem dX12_go_50 : decode cX12_go 50 = .ok (.iconst 0, 1) := by decide +kernel
theorem dX12_go_51 : decode cX12_go 51 = .ok (.istore_n 2, 1) := by decide +kernel
theorem dX12_go_52 : decode cX12_go 52 = .ok (.iload_n 2, 1) := by decide +kernel
theorem dX12_go_53 : decode cX12_go 53 = .ok (.aload_n 0, 1) := by decide +kernel
theorem dX12_go_54 : decode cX12_go 54 = .ok (.getfield 73, 3) := by decide +kernel
theorem dX12_go_57 : decode cX12_go 57 = .ok (.if_icmp .ge 74, 3) := by decide +kernel
theorem dX12_go_60 : decode cX12_go 60 = .ok (.aload_n 0, 1) := by decide +kernel
theorem dX12_go_61 : decode cX12_go 61 = .ok (.getfield 32, 3) := by decide +kernel
theorem dX12_go_64 : decode cX12_go 64 = .ok (.iload_n 1, 1) := by decide +kernel
theorem dX12_go_65 : decode cX12_go 65 = .ok (.iaload, 1) := by decide +kernel
theorem dX12_go_66 : decode cX12_go 66 = .ok (.iload_n 2, 1) := by decide +kernel
theorem dX12_go_67 : decode cX12_go 67 = .ok (.invokestatic 90, 3) := by decide +kernel
theorem dX12_go_70 : decode cX12_go 70 = .ok (.ifCond .eq 55, 3) := by decide +kernel
theorem dX12_go_73 : decode cX12_go 73 = .ok (.aload_n 0, 1) := by decide +kernel
theorem dX12_go_74 : decode cX12_go 74 = .ok (.getfield 32, 3) := by decide +kernel
theorem dX12_go_77 : decode cX12_go 77 = .ok (.iload_n 1, 1) := by decide +kernel
theorem dX12_go_78 : decode cX12_go 78 = .ok (.iaload, 1) := by decide +kernel
theorem dX12_go_79 : decode cX12_go 79 = .ok (.aload_n 0, 1) := by decide +kernel
theorem dX12_go_80 : decode cX12_go 80 = .ok (.getfield 32, 3) := by decide +kernel
theorem dX12_go_83 : decode cX12_go 83 = .ok (.iload_n 2, 1) := by decide +kernel
theorem dX12_go_84 : decode cX12_go 84 = .ok (.iaload, 1) := by decide +kernel
theorem dX12_go_85 : decode cX12_go 85 = .ok (.iconst (-1), 1) := by decide +kernel
theorem dX12_go_86 : decode cX12_go 86 = .ok (.ixor, 1) := by decide +kernel
theorem dX12_go_87 : decode cX12_go 87 = .ok (.iand, 1) := by decide +kernel
theorem dX12_go_88 : decode cX12_go 88 = .ok (.iconst 1, 1) := by decide +kernel
theorem dX12_go_89 : decode cX12_go 89 = .ok (.iload_n 2, 1) := by decide +kernel
theorem dX12_go_90 : decode cX12_go 90 = .ok (.ishl, 1) := by decide +kernel
theorem dX12_go_91 : decode cX12_go 91 = .ok (.iconst (-1), 1) := by decide +kernel
theorem dX12_go_92 : decode cX12_go 92 = .ok (.ixor, 1) := by decide +kernel
theorem dX12_go_93 : decode cX12_go 93 = .ok (.iand, 1) := by decide +kernel
theorem dX12_go_94 : decode cX12_go 94 = .ok (.istore_n 3, 1) := by decide +kernel
theorem dX12_go_95 : decode cX12_go 95 = .ok (.aload_n 0, 1) := by decide +kernel
theorem dX12_go_96 : decode cX12_go 96 = .ok (.getfield 35, 3) := by decide +kernel
theorem dX12_go_99 : decode cX12_go 99 = .ok (.iload_n 2, 1) := by decide +kernel
theorem dX12_go_100 : decode cX12_go 100 = .ok (.dup2, 1) := by decide +kernel
theorem dX12_go_101 : decode cX12_go 101 = .ok (.iaload, 1) := by decide +kernel
theorem dX12_go_102 : decode cX12_go 102 = .ok (.iload_n 3, 1) := by decide +kernel
theorem dX12_go_103 : decode cX12_go 103 = .ok (.ior, 1) := by decide +kernel
theorem dX12_go_104 : decode cX12_go 104 = .ok (.iastore, 1) := by decide +kernel
theorem dX12_go_105 : decode cX12_go 105 = .ok (.aload_n 0, 1) := by decide +kernel
theorem dX12_go_106 : decode cX12_go 106 = .ok (.getfield 32, 3) := by decide +kernel
theorem dX12_go_109 : decode cX12_go 109 = .ok (.iload_n 2, 1) := by decide +kernel
theorem dX12_go_110 : decode cX12_go 110 = .ok (.aload_n 0, 1) := by decide +kernel
theorem dX12_go_111 : decode cX12_go 111 = .ok (.getfield 32, 3) := by decide +kernel
theorem dX12_go_114 : decode cX12_go 114 = .ok (.iload_n 2, 1) := by decide +kernel
theorem dX12_go_115 : decode cX12_go 115 = .ok (.iaload, 1) := by decide +kernel
theorem dX12_go_116 : decode cX12_go 116 = .ok (.iload_n 3, 1) := by decide +kernel
theorem dX12_go_117 : decode cX12_go 117 = .ok (.ior, 1) := by decide +kernel
theorem dX12_go_118 : decode cX12_go 118 = .ok (.iconst 1, 1) := by decide +kernel
theorem dX12_go_119 : decode cX12_go 119 = .ok (.iload_n 1, 1) := by decide +kernel
theorem dX12_go_120 : decode cX12_go 120 = .ok (.ishl, 1) := by decide +kernel
theorem dX12_go_121 : decode cX12_go 121 = .ok (.iconst (-1), 1) := by decide +kernel
theorem dX12_go_122 : decode cX12_go 122 = .ok (.ixor, 1) := by decide +kernel
theorem dX12_go_123 : decode cX12_go 123 = .ok (.iand, 1) := by decide +kernel
theorem dX12_go_124 : decode cX12_go 124 = .ok (.iastore, 1) := by decide +kernel
theorem dX12_go_125 : decode cX12_go 125 = .ok (.iinc 2 1, 3) := by decide +kernel
theorem dX12_go_128 : decode cX12_go 128 = .ok (.goto (-76), 3) := by decide +kernel
theorem dX12_go_131 : decode cX12_go 131 = .ok (.aload_n 0, 1) := by decide +kernel
theorem dX12_go_132 : decode cX12_go 132 = .ok (.getfield 25, 3) := by decide +kernel
theorem dX12_go_135 : decode cX12_go 135 = .ok (.aload_n 0, 1) := by decide +kernel
theorem dX12_go_136 : decode cX12_go 136 = .ok (.getfield 28, 3) := by decide +kernel
theorem dX12_go_139 : decode cX12_go 139 = .ok (.iload_n 1, 1) := by decide +kernel
theorem dX12_go_140 : decode cX12_go 140 = .ok (.iastore, 1) := by decide +kernel
theorem dX12_go_141 : decode cX12_go 141 = .ok (.aload_n 0, 1) := by decide +kernel
theorem dX12_go_142 : decode cX12_go 142 = .ok (.dup, 1) := by decide +kernel
theorem dX12_go_143 : decode cX12_go 143 = .ok (.getfield 28, 3) := by decide +kernel
theorem dX12_go_146 : decode cX12_go 146 = .ok (.iconst 1, 1) := by decide +kernel
theorem dX12_go_147 : decode cX12_go 147 = .ok (.iadd, 1) := by decide +kernel
theorem dX12_go_148 : decode cX12_go 148 = .ok (.putfield 28, 3) := by decide +kernel
theorem dX12_go_151 : decode cX12_go 151 = .ok (.return_, 1) := by decide +kernel
set_option maxRecDepth 20000 in
theorem ggX12_take_X12_beginOrder : GoodIn wsX12_take wsX12_beginOrder := goodIn_sub (gi_t pz_X12_take_X12_take_r1 8 rfl (gi_a (gi_t pz_X12_take_X12_take_r1 9 rfl (gi_t pz_X12_take_X12_take_r1 3 rfl (gi_t pz_X12_take_X12_take_r1 10 rfl (gi_t pz_X12_take_X12_take_r1 11 rfl (gi_t pz_X12_take_X12_take_r1 12 rfl (gi_t pz_X12_take_X12_take_r1 13 rfl gi_n)))))) pz_X12_take_X120)) (by decide +kernel)
set_option maxRecDepth 20000 in
theorem gX12_take_X12_beginOrder : GoodIn wsX12_take (wsV RX12 143 RX12 yX12_beginOrder wsX12_beginOrder) := goodIn_app (goodIn_of _ (by decide +kernel)) ggX12_take_X12_beginOrder
set_option maxRecDepth 20000 in
theorem ggX12_take_X12_go : GoodIn wsX12_take wsX12_go := goodIn_sub (gi_t pz_X12_take_X12_take_r1 17 rfl (gi_a (gi_t pz_X12_take_X12_take_r1 3 rfl (gi_t pz_X12_take_X12_take_r1 11 rfl (gi_t pz_X12_take_X12_take_r1 10 rfl (gi_t pz_X12_take_X12_take_r1 1 rfl (gi_t pz_X12_take_X12_take_r1 13 rfl (gi_t pz_X12_take_X12_take_r1 18 rfl (gi_t pz_X12_take_X12_take_r1 9 rfl (gi_t pz_X12_take_X12_take_r1 19 rfl (gi_t pz_X12_take_X12_take_r1 20 rfl (gi_t pz_X12_take_X12_take_r1 21 rfl (gi_t pz_X12_take_X12_take_r1 7 rfl (gi_t pz_X12_take_X12_take_r1 22 rfl (gi_t pz_X12_take_X12_take_r1 23 rfl (gi_t pz_X12_take_X12_take_r2 0 rfl (gi_t pz_X12_take_X12_take_r2 1 rfl (gi_t pz_X12_take_X12_take_r2 2 rfl (gi_t pz_X12_take_X12_take_r2 3 rfl (gi_t pz_X12_take_X12_take_r2 4 rfl gi_n)))))))))))))))))) pz_X12_take_X120)) (by decide +kernel)
set_option maxRecDepth 20000 in
theorem gX12_take_X12_go : GoodIn wsX12_take (wsV RX12 146 RX12 yX12_go wsX12_go) := goodIn_app (goodIn_of _ (by decide +kernel)) ggX12_take_X12_go
theorem dX12_take_0 : decode cX12_take 0 = .ok (.aload_n 0, 1) := by decide +kernel
theorem dX12_take_1 : decode cX12_take 1 = .ok (.getfield 80, 3) := by decide +kernel
theorem dX12_take_4 : decode cX12_take 4 = .ok (.istore_n 1, 1) := by decide +kernel
theorem dX12_take_5 : decode cX12_take 5 = .ok (.aload_n 0, 1) := by decide +kernel
theorem dX12_take_6 : decode cX12_take 6 = .ok (.iconst 0, 1) := by decide +kernel
theorem dX12_take_7 : decode cX12_take 7 = .ok (.putfield 80, 3) := by decide +kernel
theorem dX12_take_10 : decode cX12_take 10 = .ok (.iload_n 1, 1) := by decide +kernel
theorem dX12_take_11 : decode cX12_take 11 = .ok (.aload_n 0, 1) := by decide +kernel
theorem dX12_take_12 : decode cX12_take 12 = .ok (.getfield 73, 3) := by decide +kernel
theorem dX12_take_15 : decode cX12_take 15 = .ok (.if_icmp .ge 6, 3) := by decide +kernel
theorem dX12_take_18 : decode cX12_take 18 = .ok (.bipush (-4), 2) := by decide +kernel
theorem dX12_take_20 : decode cX12_take 20 = .ok (.ireturn, 1) := by decide +kernel
theorem dX12_take_21 : decode cX12_take 21 = .ok (.aload_n 0, 1) := by decide +kernel
theorem dX12_take_22 : decode cX12_take 22 = .ok (.invokevirtual 143, 3) := by decide +kernel
theorem dX12_take_25 : decode cX12_take 25 = .ok (.iconst 0, 1) := by decide +kernel
theorem dX12_take_26 : decode cX12_take 26 = .ok (.istore_n 2, 1) := by decide +kernel
theorem dX12_take_27 : decode cX12_take 27 = .ok (.iload_n 2, 1) := by decide +kernel
theorem dX12_take_28 : decode cX12_take 28 = .ok (.aload_n 0, 1) := by decide +kernel
theorem dX12_take_29 : decode cX12_take 29 = .ok (.getfield 73, 3) := by decide +kernel
theorem dX12_take_32 : decode cX12_take 32 = .ok (.if_icmp .ge 19, 3) := by decide +kernel
theorem dX12_take_35 : decode cX12_take 35 = .ok (.aload_n 0, 1) := by decide +kernel
theorem dX12_take_36 : decode cX12_take 36 = .ok (.aload_n 0, 1) := by decide +kernel
theorem dX12_take_37 : decode cX12_take 37 = .ok (.getfield 22, 3) := by decide +kernel
theorem dX12_take_40 : decode cX12_take 40 = .ok (.iload_n 2, 1) := by decide +kernel
theorem dX12_take_41 : decode cX12_take 41 = .ok (.iaload, 1) := by decide +kernel
theorem dX12_take_42 : decode cX12_take 42 = .ok (.invokevirtual 146, 3) := by decide +kernel
theorem dX12_take_45 : decode cX12_take 45 = .ok (.iinc 2 1, 3) := by decide +kernel
theorem dX12_take_48 : decode cX12_take 48 = .ok (.goto (-21), 3) := by decide +kernel
theorem dX12_take_51 : decode cX12_take 51 = .ok (.aload_n 0, 1) := by decide +kernel
theorem dX12_take_52 : decode cX12_take 52 = .ok (.getfield 134, 3) := by decide +kernel
theorem dX12_take_55 : decode cX12_take 55 = .ok (.ireturn, 1) := by decide +kernel
set_option maxRecDepth 20000 in
theorem ggX12_ruled_X12_fillOf : GoodIn wsX12_ruled wsX12_fillOf := goodIn_sub (gi_c 6 rfl (gi_a (gi_c 7 rfl (gi_c 1 rfl (gi_c 8 rfl (gi_c 9 rfl (gi_c 5 rfl (gi_c 10 rfl (gi_c 11 rfl (gi_c 12 rfl (gi_c 13 rfl gi_n))))))))) pz_X12_ruled_X120)) (by decide +kernel)
set_option maxRecDepth 20000 in
theorem gX12_ruled_X12_fillOf : GoodIn wsX12_ruled (wsV RX12 140 RX12 yX12_fillOf wsX12_fillOf) := goodIn_app (goodIn_of _ (by decide +kernel)) ggX12_ruled_X12_fillOf
set_option maxRecDepth 20000 in
theorem ggX12_ruled_X12_bits : GoodIn wsX12_ruled wsX12_bits := goodIn_sub (gi_c 13 rfl gi_n) (by decide +kernel)
set_option maxRecDepth 20000 in
theorem gX12_ruled_X12_bits : GoodIn wsX12_ruled (va_wsS RX12 109 yX12_bits wsX12_bits) := goodIn_app (goodIn_of _ (by decide +kernel)) ggX12_ruled_X12_bits
theorem dX12_ruled_0 : decode cX12_ruled 0 = .ok (.iload_n 1, 1) := by decide +kernel
theorem dX12_ruled_1 : decode cX12_ruled 1 = .ok (.ifCond .ne 19, 3) := by decide +kernel
theorem dX12_ruled_4 : decode cX12_ruled 4 = .ok (.aload_n 0, 1) := by decide +kernel
theorem dX12_ruled_5 : decode cX12_ruled 5 = .ok (.iload_n 2, 1) := by decide +kernel
theorem dX12_ruled_6 : decode cX12_ruled 6 = .ok (.invokevirtual 140, 3) := by decide +kernel
theorem dX12_ruled_9 : decode cX12_ruled 9 = .ok (.ifCond .ne 7, 3) := by decide +kernel
theorem dX12_ruled_12 : decode cX12_ruled 12 = .ok (.iconst 0, 1) := by decide +kernel
theorem dX12_ruled_13 : decode cX12_ruled 13 = .ok (.goto 29, 3) := by decide +kernel
theorem dX12_ruled_16 : decode cX12_ruled 16 = .ok (.iconst 1, 1) := by decide +kernel
theorem dX12_ruled_17 : decode cX12_ruled 17 = .ok (.goto 25, 3) := by decide +kernel
theorem dX12_ruled_20 : decode cX12_ruled 20 = .ok (.iload_n 1, 1) := by decide +kernel
theorem dX12_ruled_21 : decode cX12_ruled 21 = .ok (.iconst 1, 1) := by decide +kernel
theorem dX12_ruled_22 : decode cX12_ruled 22 = .ok (.if_icmp .ne 15, 3) := by decide +kernel
theorem dX12_ruled_25 : decode cX12_ruled 25 = .ok (.aload_n 0, 1) := by decide +kernel
theorem dX12_ruled_26 : decode cX12_ruled 26 = .ok (.getfield 32, 3) := by decide +kernel
theorem dX12_ruled_29 : decode cX12_ruled 29 = .ok (.iload_n 2, 1) := by decide +kernel
theorem dX12_ruled_30 : decode cX12_ruled 30 = .ok (.iaload, 1) := by decide +kernel
theorem dX12_ruled_31 : decode cX12_ruled 31 = .ok (.invokestatic 109, 3) := by decide +kernel
theorem dX12_ruled_34 : decode cX12_ruled 34 = .ok (.goto 8, 3) := by decide +kernel
theorem dX12_ruled_37 : decode cX12_ruled 37 = .ok (.aload_n 0, 1) := by decide +kernel
theorem dX12_ruled_38 : decode cX12_ruled 38 = .ok (.iload_n 2, 1) := by decide +kernel
theorem dX12_ruled_39 : decode cX12_ruled 39 = .ok (.invokevirtual 140, 3) := by decide +kernel
theorem dX12_ruled_42 : decode cX12_ruled 42 = .ok (.ireturn, 1) := by decide +kernel
set_option maxRecDepth 20000 in
theorem ggX12_rule_X12_in : GoodIn wsX12_rule wsX12_in := goodIn_sub (gi_t pz_X12_rule_X12_rule_r1 5 rfl gi_n) (by decide +kernel)
set_option maxRecDepth 20000 in
theorem gX12_rule_X12_in : GoodIn wsX12_rule (va_wsS RX12 76 yX12_in wsX12_in) := goodIn_app (goodIn_of _ (by decide +kernel)) ggX12_rule_X12_in
set_option maxRecDepth 20000 in
theorem ggX12_rule_X12_beginOrder : GoodIn wsX12_rule wsX12_beginOrder := goodIn_sub (gi_t pz_X12_rule_X12_rule_r1 9 rfl (gi_a (gi_t pz_X12_rule_X12_rule_r1 10 rfl (gi_t pz_X12_rule_X12_rule_r1 1 rfl (gi_t pz_X12_rule_X12_rule_r1 11 rfl (gi_t pz_X12_rule_X12_rule_r1 12 rfl (gi_t pz_X12_rule_X12_rule_r1 13 rfl (gi_t pz_X12_rule_X12_rule_r1 14 rfl gi_n)))))) pz_X12_rule_X120)) (by decide +kernel)
set_option maxRecDepth 20000 in
theorem gX12_rule_X12_beginOrder : GoodIn wsX12_rule (wsV RX12 143 RX12 yX12_beginOrder wsX12_beginOrder) := goodIn_app (goodIn_of _ (by decide +kernel)) ggX12_rule_X12_beginOrder
set_option maxRecDepth 20000 in
theorem ggX12_rule_X12_all : GoodIn wsX12_rule wsX12_all := goodIn_sub (gi_t pz_X12_rule_X12_rule_r1 18 rfl (gi_a (gi_t pz_X12_rule_X12_rule_r1 0 rfl gi_n) pz_X12_rule_X120)) (by decide +kernel)
set_option maxRecDepth 20000 in
theorem gX12_rule_X12_all : GoodIn wsX12_rule (wsV RX12 101 RX12 yX12_all wsX12_all) := goodIn_app (goodIn_of _ (by decide +kernel)) ggX12_rule_X12_all
set_option maxRecDepth 20000 in
theorem ggX12_rule_X12_has : GoodIn wsX12_rule wsX12_has := goodIn_sub (gi_t pz_X12_rule_X12_rule_r1 21 rfl gi_n) (by decide +kernel)
set_option maxRecDepth 20000 in
theorem gX12_rule_X12_has : GoodIn wsX12_rule (va_wsS RX12 90 yX12_has wsX12_has) := goodIn_app (goodIn_of _ (by decide +kernel)) ggX12_rule_X12_has
set_option maxRecDepth 20000 in
theorem ggX12_rule_X12_ruled : GoodIn wsX12_rule wsX12_ruled := goodIn_sub (gi_t pz_X12_rule_X12_rule_r2 1 rfl (gi_a (gi_t pz_X12_rule_X12_rule_r1 12 rfl (gi_t pz_X12_rule_X12_rule_r2 2 rfl (gi_t pz_X12_rule_X12_rule_r2 3 rfl (gi_t pz_X12_rule_X12_rule_r2 4 rfl (gi_t pz_X12_rule_X12_rule_r1 4 rfl (gi_t pz_X12_rule_X12_rule_r2 5 rfl (gi_t pz_X12_rule_X12_rule_r1 0 rfl (gi_t pz_X12_rule_X12_rule_r1 19 rfl (gi_t pz_X12_rule_X12_rule_r1 20 rfl (gi_t pz_X12_rule_X12_rule_r1 21 rfl (gi_t pz_X12_rule_X12_rule_r2 6 rfl (gi_t pz_X12_rule_X12_rule_r2 7 rfl (gi_t pz_X12_rule_X12_rule_r2 8 rfl gi_n))))))))))))) pz_X12_rule_X120)) (by decide +kernel)
set_option maxRecDepth 20000 in
theorem gX12_rule_X12_ruled : GoodIn wsX12_rule (wsV RX12 150 RX12 yX12_ruled wsX12_ruled) := goodIn_app (goodIn_of _ (by decide +kernel)) ggX12_rule_X12_ruled
set_option maxRecDepth 20000 in
theorem ggX12_rule_X12_go : GoodIn wsX12_rule wsX12_go := goodIn_sub (gi_t pz_X12_rule_X12_rule_r2 12 rfl (gi_a (gi_t pz_X12_rule_X12_rule_r1 1 rfl (gi_t pz_X12_rule_X12_rule_r1 12 rfl (gi_t pz_X12_rule_X12_rule_r1 11 rfl (gi_t pz_X12_rule_X12_rule_r1 0 rfl (gi_t pz_X12_rule_X12_rule_r1 14 rfl (gi_t pz_X12_rule_X12_rule_r2 13 rfl (gi_t pz_X12_rule_X12_rule_r1 10 rfl (gi_t pz_X12_rule_X12_rule_r2 2 rfl (gi_t pz_X12_rule_X12_rule_r2 3 rfl (gi_t pz_X12_rule_X12_rule_r2 4 rfl (gi_t pz_X12_rule_X12_rule_r1 4 rfl (gi_t pz_X12_rule_X12_rule_r2 5 rfl (gi_t pz_X12_rule_X12_rule_r1 19 rfl (gi_t pz_X12_rule_X12_rule_r1 20 rfl (gi_t pz_X12_rule_X12_rule_r1 21 rfl (gi_t pz_X12_rule_X12_rule_r2 6 rfl (gi_t pz_X12_rule_X12_rule_r2 7 rfl (gi_t pz_X12_rule_X12_rule_r2 8 rfl gi_n)))))))))))))))))) pz_X12_rule_X120)) (by decide +kernel)
set_option maxRecDepth 20000 in
theorem gX12_rule_X12_go : GoodIn wsX12_rule (wsV RX12 146 RX12 yX12_go wsX12_go) := goodIn_app (goodIn_of _ (by decide +kernel)) ggX12_rule_X12_go
theorem dX12_rule_0 : decode cX12_rule 0 = .ok (.iload_n 1, 1) := by decide +kernel
theorem dX12_rule_1 : decode cX12_rule 1 = .ok (.iconst 0, 1) := by decide +kernel
theorem dX12_rule_2 : decode cX12_rule 2 = .ok (.iconst 2, 1) := by decide +kernel
theorem dX12_rule_3 : decode cX12_rule 3 = .ok (.invokestatic 76, 3) := by decide +kernel
theorem dX12_rule_6 : decode cX12_rule 6 = .ok (.ifCond .ne 5, 3) := by decide +kernel
theorem dX12_rule_9 : decode cX12_rule 9 = .ok (.iconst (-1), 1) := by decide +kernel
theorem dX12_rule_10 : decode cX12_rule 10 = .ok (.ireturn, 1) := by decide +kernel
theorem dX12_rule_11 : decode cX12_rule 11 = .ok (.aload_n 0, 1) := by decide +kernel
theorem dX12_rule_12 : decode cX12_rule 12 = .ok (.invokevirtual 143, 3) := by decide +kernel
theorem dX12_rule_15 : decode cX12_rule 15 = .ok (.aload_n 0, 1) := by decide +kernel
theorem dX12_rule_16 : decode cX12_rule 16 = .ok (.invokevirtual 101, 3) := by decide +kernel
theorem dX12_rule_19 : decode cX12_rule 19 = .ok (.istore_n 2, 1) := by decide +kernel
theorem dX12_rule_20 : decode cX12_rule 20 = .ok (.iload_n 2, 1) := by decide +kernel
theorem dX12_rule_21 : decode cX12_rule 21 = .ok (.ifCond .eq 72, 3) := by decide +kernel
theorem dX12_rule_24 : decode cX12_rule 24 = .ok (.bipush (-9), 2) := by decide +kernel
theorem dX12_rule_26 : decode cX12_rule 26 = .ok (.istore_n 3, 1) := by decide +kernel
theorem dX12_rule_27 : decode cX12_rule 27 = .ok (.iconst 0, 1) := by decide +kernel
theorem dX12_rule_28 : decode cX12_rule 28 = .ok (.istore 4, 2) := by decide +kernel
theorem dX12_rule_30 : decode cX12_rule 30 = .ok (.iload 4, 2) := by decide +kernel
theorem dX12_rule_32 : decode cX12_rule 32 = .ok (.aload_n 0, 1) := by decide +kernel
theorem dX12_rule_33 : decode cX12_rule 33 = .ok (.getfield 73, 3) := by decide +kernel
theorem dX12_rule_36 : decode cX12_rule 36 = .ok (.if_icmp .ge 41, 3) := by decide +kernel
theorem dX12_rule_39 : decode cX12_rule 39 = .ok (.iload_n 2, 1) := by decide +kernel
theorem dX12_rule_40 : decode cX12_rule 40 = .ok (.iload 4, 2) := by decide +kernel
theorem dX12_rule_42 : decode cX12_rule 42 = .ok (.invokestatic 90, 3) := by decide +kernel
theorem dX12_rule_45 : decode cX12_rule 45 = .ok (.ifCond .eq 26, 3) := by decide +kernel
theorem dX12_rule_48 : decode cX12_rule 48 = .ok (.iload_n 3, 1) := by decide +kernel
theorem dX12_rule_49 : decode cX12_rule 49 = .ok (.ifCond .lt 19, 3) := by decide +kernel
theorem dX12_rule_52 : decode cX12_rule 52 = .ok (.aload_n 0, 1) := by decide +kernel
theorem dX12_rule_53 : decode cX12_rule 53 = .ok (.iload_n 1, 1) := by decide +kernel
theorem dX12_rule_54 : decode cX12_rule 54 = .ok (.iload 4, 2) := by decide +kernel
theorem dX12_rule_56 : decode cX12_rule 56 = .ok (.invokevirtual 150, 3) := by decide +kernel
theorem dX12_rule_59 : decode cX12_rule 59 = .ok (.aload_n 0, 1) := by decide +kernel
theorem dX12_rule_60 : decode cX12_rule 60 = .ok (.iload_n 1, 1) := by decide +kernel
theorem dX12_rule_61 : decode cX12_rule 61 = .ok (.iload_n 3, 1) := by decide +kernel
theorem dX12_rule_62 : decode cX12_rule 62 = .ok (.invokevirtual 150, 3) := by decide +kernel
theorem dX12_rule_65 : decode cX12_rule 65 = .ok (.if_icmp .ge 6, 3) := by decide +kernel
theorem dX12_rule_68 : decode cX12_rule 68 = .ok (.iload 4, 2) := by decide +kernel
theorem dX12_rule_70 : decode cX12_rule 70 = .ok (.istore_n 3, 1) := by decide +kernel
theorem dX12_rule_71 : decode cX12_rule 71 = .ok (.iinc 4 1, 3) := by decide +kernel
theorem dX12_rule_74 : decode cX12_rule 74 = .ok (.goto (-44), 3) := by decide +kernel
theorem dX12_rule_77 : decode cX12_rule 77 = .ok (.aload_n 0, 1) := by decide +kernel
theorem dX12_rule_78 : decode cX12_rule 78 = .ok (.iload_n 3, 1) := by decide +kernel
theorem dX12_rule_79 : decode cX12_rule 79 = .ok (.invokevirtual 146, 3) := by decide +kernel
theorem dX12_rule_82 : decode cX12_rule 82 = .ok (.iload_n 2, 1) := by decide +kernel
theorem dX12_rule_83 : decode cX12_rule 83 = .ok (.iconst 1, 1) := by decide +kernel
theorem dX12_rule_84 : decode cX12_rule 84 = .ok (.iload_n 3, 1) := by decide +kernel
theorem dX12_rule_85 : decode cX12_rule 85 = .ok (.ishl, 1) := by decide +kernel
theorem dX12_rule_86 : decode cX12_rule 86 = .ok (.iconst (-1), 1) := by decide +kernel
theorem dX12_rule_87 : decode cX12_rule 87 = .ok (.ixor, 1) := by decide +kernel
theorem dX12_rule_88 : decode cX12_rule 88 = .ok (.iand, 1) := by decide +kernel
theorem dX12_rule_89 : decode cX12_rule 89 = .ok (.istore_n 2, 1) := by decide +kernel
theorem dX12_rule_90 : decode cX12_rule 90 = .ok (.goto (-70), 3) := by decide +kernel
theorem dX12_rule_93 : decode cX12_rule 93 = .ok (.aload_n 0, 1) := by decide +kernel
theorem dX12_rule_94 : decode cX12_rule 94 = .ok (.getfield 134, 3) := by decide +kernel
theorem dX12_rule_97 : decode cX12_rule 97 = .ok (.ireturn, 1) := by decide +kernel
set_option maxRecDepth 20000 in
theorem ggX12_setThen_X12_all : GoodIn wsX12_setThen wsX12_all := goodIn_sub (gi_c 8 rfl (gi_a (gi_c 3 rfl gi_n) pz_X12_setThen_X120)) (by decide +kernel)
set_option maxRecDepth 20000 in
theorem gX12_setThen_X12_all : GoodIn wsX12_setThen (wsV RX12 101 RX12 yX12_all wsX12_all) := goodIn_app (goodIn_of _ (by decide +kernel)) ggX12_setThen_X12_all
set_option maxRecDepth 20000 in
theorem ggX12_setThen_X12_has : GoodIn wsX12_setThen wsX12_has := goodIn_sub (gi_c 11 rfl gi_n) (by decide +kernel)
set_option maxRecDepth 20000 in
theorem gX12_setThen_X12_has : GoodIn wsX12_setThen (va_wsS RX12 90 yX12_has wsX12_has) := goodIn_app (goodIn_of _ (by decide +kernel)) ggX12_setThen_X12_has
theorem dX12_setThen_0 : decode cX12_setThen 0 = .ok (.iconst 0, 1) := by decide +kernel
theorem dX12_setThen_1 : decode cX12_setThen 1 = .ok (.istore_n 1, 1) := by decide +kernel
theorem dX12_setThen_2 : decode cX12_setThen 2 = .ok (.iload_n 1, 1) := by decide +kernel
theorem dX12_setThen_3 : decode cX12_setThen 3 = .ok (.bipush 12, 2) := by decide +kernel
theorem dX12_setThen_5 : decode cX12_setThen 5 = .ok (.if_icmp .ge 21, 3) := by decide +kernel
theorem dX12_setThen_8 : decode cX12_setThen 8 = .ok (.aload_n 0, 1) := by decide +kernel
theorem dX12_setThen_9 : decode cX12_setThen 9 = .ok (.getfield 39, 3) := by decide +kernel
theorem dX12_setThen_12 : decode cX12_setThen 12 = .ok (.iload_n 1, 1) := by decide +kernel
theorem dX12_setThen_13 : decode cX12_setThen 13 = .ok (.aload_n 0, 1) := by decide +kernel
theorem dX12_setThen_14 : decode cX12_setThen 14 = .ok (.getfield 13, 3) := by decide +kernel
theorem dX12_setThen_17 : decode cX12_setThen 17 = .ok (.iload_n 1, 1) := by decide +kernel
theorem dX12_setThen_18 : decode cX12_setThen 18 = .ok (.iaload, 1) := by decide +kernel
theorem dX12_setThen_19 : decode cX12_setThen 19 = .ok (.iastore, 1) := by decide +kernel
theorem dX12_setThen_20 : decode cX12_setThen 20 = .ok (.iinc 1 1, 3) := by decide +kernel
theorem dX12_setThen_23 : decode cX12_setThen 23 = .ok (.goto (-21), 3) := by decide +kernel
theorem dX12_setThen_26 : decode cX12_setThen 26 = .ok (.iconst 1, 1) := by decide +kernel
theorem dX12_setThen_27 : decode cX12_setThen 27 = .ok (.istore_n 1, 1) := by decide +kernel
theorem dX12_setThen_28 : decode cX12_setThen 28 = .ok (.iload_n 1, 1) := by decide +kernel
theorem dX12_setThen_29 : decode cX12_setThen 29 = .ok (.aload_n 0, 1) := by decide +kernel
theorem dX12_setThen_30 : decode cX12_setThen 30 = .ok (.invokevirtual 101, 3) := by decide +kernel
theorem dX12_setThen_33 : decode cX12_setThen 33 = .ok (.if_icmp .gt 123, 3) := by decide +kernel
theorem dX12_setThen_36 : decode cX12_setThen 36 = .ok (.iconst 0, 1) := by decide +kernel
theorem dX12_setThen_37 : decode cX12_setThen 37 = .ok (.istore_n 2, 1) := by decide +kernel
theorem dX12_setThen_38 : decode cX12_setThen 38 = .ok (.iload_n 1, 1) := by decide +kernel
theorem dX12_setThen_39 : decode cX12_setThen 39 = .ok (.iload_n 2, 1) := by decide +kernel
theorem dX12_setThen_40 : decode cX12_setThen 40 = .ok (.invokestatic 90, 3) := by decide +kernel
theorem dX12_setThen_43 : decode cX12_setThen 43 = .ok (.ifCond .ne 9, 3) := by decide +kernel
theorem dX12_setThen_46 : decode cX12_setThen 46 = .ok (.iinc 2 1, 3) := by decide +kernel
theorem dX12_setThen_49 : decode cX12_setThen 49 = .ok (.goto (-11), 3) := by decide +kernel
theorem dX12_setThen_52 : decode cX12_setThen 52 = .ok (.iload_n 1, 1) := by decide +kernel
theorem dX12_setThen_53 : decode cX12_setThen 53 = .ok (.iconst 1, 1) := by decide +kernel
theorem dX12_setThen_54 : decode cX12_setThen 54 = .ok (.iload_n 2, 1) := by decide +kernel
theorem dX12_setThen_55 : decode cX12_setThen 55 = .ok (.ishl, 1) := by decide +kernel
theorem dX12_setThen_56 : decode cX12_setThen 56 = .ok (.iconst (-1), 1) := by decide +kernel
theorem dX12_setThen_57 : decode cX12_setThen 57 = .ok (.ixor, 1) := by decide +kernel
theorem dX12_setThen_58 : decode cX12_setThen 58 = .ok (.iand, 1) := by decide +kernel
theorem dX12_setThen_59 : decode cX12_setThen 59 = .ok (.istore_n 3, 1) := by decide +kernel
theorem dX12_setThen_60 : decode cX12_setThen 60 = .ok (.aload_n 0, 1) := by decide +kernel
theorem dX12_setThen_61 : decode cX12_setThen 61 = .ok (.getfield 39, 3) := by decide +kernel
theorem dX12_setThen_64 : decode cX12_setThen 64 = .ok (.bipush 12, 2) := by decide +kernel
theorem dX12_setThen_66 : decode cX12_setThen 66 = .ok (.iload_n 3, 1) := by decide +kernel
theorem dX12_setThen_67 : decode cX12_setThen 67 = .ok (.imul, 1) := by decide +kernel
theorem dX12_setThen_68 : decode cX12_setThen 68 = .ok (.iload_n 2, 1) := by decide +kernel
theorem dX12_setThen_69 : decode cX12_setThen 69 = .ok (.iadd, 1) := by decide +kernel
theorem dX12_setThen_70 : decode cX12_setThen 70 = .ok (.iaload, 1) := by decide +kernel
theorem dX12_setThen_71 : decode cX12_setThen 71 = .ok (.istore 4, 2) := by decide +kernel
theorem dX12_setThen_73 : decode cX12_setThen 73 = .ok (.iconst 0, 1) := by decide +kernel
theorem dX12_setThen_74 : decode cX12_setThen 74 = .ok (.istore 5, 2) := by decide +kernel
theorem dX12_setThen_76 : decode cX12_setThen 76 = .ok (.iload 5, 2) := by decide +kernel
theorem dX12_setThen_78 : decode cX12_setThen 78 = .ok (.aload_n 0, 1) := by decide +kernel
theorem dX12_setThen_79 : decode cX12_setThen 79 = .ok (.getfield 73, 3) := by decide +kernel
theorem dX12_setThen_82 : decode cX12_setThen 82 = .ok (.if_icmp .ge 68, 3) := by decide +kernel
theorem dX12_setThen_85 : decode cX12_setThen 85 = .ok (.aload_n 0, 1) := by decide +kernel
theorem dX12_setThen_86 : decode cX12_setThen 86 = .ok (.getfield 39, 3) := by decide +kernel
theorem dX12_setThen_89 : decode cX12_setThen 89 = .ok (.bipush 12, 2) := by decide +kernel
theorem dX12_setThen_91 : decode cX12_setThen 91 = .ok (.iload_n 3, 1) := by decide +kernel
theorem dX12_setThen_92 : decode cX12_setThen 92 = .ok (.imul, 1) := by decide +kernel
theorem dX12_setThen_93 : decode cX12_setThen 93 = .ok (.iload 5, 2) := by decide +kernel
theorem dX12_setThen_95 : decode cX12_setThen 95 = .ok (.iadd, 1) := by decide +kernel
theorem dX12_setThen_96 : decode cX12_setThen 96 = .ok (.iaload, 1) := by decide +kernel
theorem dX12_setThen_97 : decode cX12_setThen 97 = .ok (.istore 6, 2) := by decide +kernel
theorem dX12_setThen_99 : decode cX12_setThen 99 = .ok (.aload_n 0, 1) := by decide +kernel
theorem dX12_setThen_100 : decode cX12_setThen 100 = .ok (.getfield 39, 3) := by decide +kernel
theorem dX12_setThen_103 : decode cX12_setThen 103 = .ok (.bipush 12, 2) := by decide +kernel
theorem dX12_setThen_105 : decode cX12_setThen 105 = .ok (.iload_n 1, 1) := by decide +kernel
theorem dX12_setThen_106 : decode cX12_setThen 106 = .ok (.imul, 1) := by decide +kernel
theorem dX12_setThen_107 : decode cX12_setThen 107 = .ok (.iload 5, 2) := by decide +kernel
theorem dX12_setThen_109 : decode cX12_setThen 109 = .ok (.iadd, 1) := by decide +kernel
theorem dX12_setThen_110 : decode cX12_setThen 110 = .ok (.iload 4, 2) := by decide +kernel
theorem dX12_setThen_112 : decode cX12_setThen 112 = .ok (.iload 5, 2) := by decide +kernel
theorem dX12_setThen_114 : decode cX12_setThen 114 = .ok (.invokestatic 90, 3) := by decide +kernel
theorem dX12_setThen_117 : decode cX12_setThen 117 = .ok (.ifCond .eq 24, 3) := by decide +kernel
theorem dX12_setThen_120 : decode cX12_setThen 120 = .ok (.iload 6, 2) := by decide +kernel
theorem dX12_setThen_122 : decode cX12_setThen 122 = .ok (.iload 4, 2) := by decide +kernel
theorem dX12_setThen_124 : decode cX12_setThen 124 = .ok (.ior, 1) := by decide +kernel
theorem dX12_setThen_125 : decode cX12_setThen 125 = .ok (.iconst 1, 1) := by decide +kernel
theorem dX12_setThen_126 : decode cX12_setThen 126 = .ok (.iload 5, 2) := by decide +kernel
theorem dX12_setThen_128 : decode cX12_setThen 128 = .ok (.ishl, 1) := by decide +kernel
theorem dX12_setThen_129 : decode cX12_setThen 129 = .ok (.iconst (-1), 1) := by decide +kernel
theorem dX12_setThen_130 : decode cX12_setThen 130 = .ok (.ixor, 1) := by decide +kernel
theorem dX12_setThen_131 : decode cX12_setThen 131 = .ok (.iand, 1) := by decide +kernel
theorem dX12_setThen_132 : decode cX12_setThen 132 = .ok (.iconst 1, 1) := by decide +kernel
theorem dX12_setThen_133 : decode cX12_setThen 133 = .ok (.iload_n 2, 1) := by decide +kernel
theorem dX12_setThen_134 : decode cX12_setThen 134 = .ok (.ishl, 1) := by decide +kernel
theorem dX12_setThen_135 : decode cX12_setThen 135 = .ok (.iconst (-1), 1) := by decide +kernel
theorem dX12_setThen_136 : decode cX12_setThen 136 = .ok (.ixor, 1) := by decide +kernel
theorem dX12_setThen_137 : decode cX12_setThen 137 = .ok (.iand, 1) := by decide +kernel
theorem dX12_setThen_138 : decode cX12_setThen 138 = .ok (.goto 5, 3) := by decide +kernel
theorem dX12_setThen_141 : decode cX12_setThen 141 = .ok (.iload 6, 2) := by decide +kernel
theorem dX12_setThen_143 : decode cX12_setThen 143 = .ok (.iastore, 1) := by decide +kernel
theorem dX12_setThen_144 : decode cX12_setThen 144 = .ok (.iinc 5 1, 3) := by decide +kernel
theorem dX12_setThen_147 : decode cX12_setThen 147 = .ok (.goto (-71), 3) := by decide +kernel
theorem dX12_setThen_150 : decode cX12_setThen 150 = .ok (.iinc 1 1, 3) := by decide +kernel
theorem dX12_setThen_153 : decode cX12_setThen 153 = .ok (.goto (-125), 3) := by decide +kernel
theorem dX12_setThen_156 : decode cX12_setThen 156 = .ok (.return_, 1) := by decide +kernel
set_option maxRecDepth 20000 in
theorem ggX12_costOf_X12_bits : GoodIn wsX12_costOf wsX12_bits := goodIn_sub (gi_c 6 rfl gi_n) (by decide +kernel)
set_option maxRecDepth 20000 in
theorem gX12_costOf_X12_bits : GoodIn wsX12_costOf (va_wsS RX12 109 yX12_bits wsX12_bits) := goodIn_app (goodIn_of _ (by decide +kernel)) ggX12_costOf_X12_bits
set_option maxRecDepth 20000 in
theorem ggX12_costOf_X12_has : GoodIn wsX12_costOf wsX12_has := goodIn_sub (gi_c 9 rfl gi_n) (by decide +kernel)
set_option maxRecDepth 20000 in
theorem gX12_costOf_X12_has : GoodIn wsX12_costOf (va_wsS RX12 90 yX12_has wsX12_has) := goodIn_app (goodIn_of _ (by decide +kernel)) ggX12_costOf_X12_has
theorem dX12_costOf_0 : decode cX12_costOf 0 = .ok (.aload_n 0, 1) := by decide +kernel
theorem dX12_costOf_1 : decode cX12_costOf 1 = .ok (.getfield 39, 3) := by decide +kernel
theorem dX12_costOf_4 : decode cX12_costOf 4 = .ok (.bipush 12, 2) := by decide +kernel
theorem dX12_costOf_6 : decode cX12_costOf 6 = .ok (.iload_n 2, 1) := by decide +kernel
theorem dX12_costOf_7 : decode cX12_costOf 7 = .ok (.imul, 1) := by decide +kernel
theorem dX12_costOf_8 : decode cX12_costOf 8 = .ok (.iload_n 3, 1) := by decide +kernel
theorem dX12_costOf_9 : decode cX12_costOf 9 = .ok (.iadd, 1) := by decide +kernel
theorem dX12_costOf_10 : decode cX12_costOf 10 = .ok (.iaload, 1) := by decide +kernel
theorem dX12_costOf_11 : decode cX12_costOf 11 = .ok (.istore 4, 2) := by decide +kernel
theorem dX12_costOf_13 : decode cX12_costOf 13 = .ok (.iload_n 1, 1) := by decide +kernel
theorem dX12_costOf_14 : decode cX12_costOf 14 = .ok (.iconst 1, 1) := by decide +kernel
theorem dX12_costOf_15 : decode cX12_costOf 15 = .ok (.if_icmp .ne 9, 3) := by decide +kernel
theorem dX12_costOf_18 : decode cX12_costOf 18 = .ok (.iload 4, 2) := by decide +kernel
theorem dX12_costOf_20 : decode cX12_costOf 20 = .ok (.invokestatic 109, 3) := by decide +kernel
theorem dX12_costOf_23 : decode cX12_costOf 23 = .ok (.ireturn, 1) := by decide +kernel
theorem dX12_costOf_24 : decode cX12_costOf 24 = .ok (.iconst 0, 1) := by decide +kernel
theorem dX12_costOf_25 : decode cX12_costOf 25 = .ok (.istore 5, 2) := by decide +kernel
theorem dX12_costOf_27 : decode cX12_costOf 27 = .ok (.iconst 0, 1) := by decide +kernel
theorem dX12_costOf_28 : decode cX12_costOf 28 = .ok (.istore 6, 2) := by decide +kernel
theorem dX12_costOf_30 : decode cX12_costOf 30 = .ok (.iload 6, 2) := by decide +kernel
theorem dX12_costOf_32 : decode cX12_costOf 32 = .ok (.aload_n 0, 1) := by decide +kernel
theorem dX12_costOf_33 : decode cX12_costOf 33 = .ok (.getfield 73, 3) := by decide +kernel
theorem dX12_costOf_36 : decode cX12_costOf 36 = .ok (.if_icmp .ge 50, 3) := by decide +kernel
theorem dX12_costOf_39 : decode cX12_costOf 39 = .ok (.iload 5, 2) := by decide +kernel
theorem dX12_costOf_41 : decode cX12_costOf 41 = .ok (.iload 4, 2) := by decide +kernel
theorem dX12_costOf_43 : decode cX12_costOf 43 = .ok (.iload 6, 2) := by decide +kernel
theorem dX12_costOf_45 : decode cX12_costOf 45 = .ok (.invokestatic 90, 3) := by decide +kernel
theorem dX12_costOf_48 : decode cX12_costOf 48 = .ok (.ifCond .eq 28, 3) := by decide +kernel
theorem dX12_costOf_51 : decode cX12_costOf 51 = .ok (.iload 4, 2) := by decide +kernel
theorem dX12_costOf_53 : decode cX12_costOf 53 = .ok (.aload_n 0, 1) := by decide +kernel
theorem dX12_costOf_54 : decode cX12_costOf 54 = .ok (.getfield 39, 3) := by decide +kernel
theorem dX12_costOf_57 : decode cX12_costOf 57 = .ok (.bipush 12, 2) := by decide +kernel
theorem dX12_costOf_59 : decode cX12_costOf 59 = .ok (.iload_n 2, 1) := by decide +kernel
theorem dX12_costOf_60 : decode cX12_costOf 60 = .ok (.imul, 1) := by decide +kernel
theorem dX12_costOf_61 : decode cX12_costOf 61 = .ok (.iload 6, 2) := by decide +kernel
theorem dX12_costOf_63 : decode cX12_costOf 63 = .ok (.iadd, 1) := by decide +kernel
theorem dX12_costOf_64 : decode cX12_costOf 64 = .ok (.iaload, 1) := by decide +kernel
theorem dX12_costOf_65 : decode cX12_costOf 65 = .ok (.iconst (-1), 1) := by decide +kernel
theorem dX12_costOf_66 : decode cX12_costOf 66 = .ok (.ixor, 1) := by decide +kernel
theorem dX12_costOf_67 : decode cX12_costOf 67 = .ok (.iand, 1) := by decide +kernel
theorem dX12_costOf_68 : decode cX12_costOf 68 = .ok (.invokestatic 109, 3) := by decide +kernel
theorem dX12_costOf_71 : decode cX12_costOf 71 = .ok (.iconst 1, 1) := by decide +kernel
theorem dX12_costOf_72 : decode cX12_costOf 72 = .ok (.isub, 1) := by decide +kernel
theorem dX12_costOf_73 : decode cX12_costOf 73 = .ok (.goto 4, 3) := by decide +kernel
theorem dX12_costOf_76 : decode cX12_costOf 76 = .ok (.iconst 0, 1) := by decide +kernel
theorem dX12_costOf_77 : decode cX12_costOf 77 = .ok (.iadd, 1) := by decide +kernel
theorem dX12_costOf_78 : decode cX12_costOf 78 = .ok (.istore 5, 2) := by decide +kernel
theorem dX12_costOf_80 : decode cX12_costOf 80 = .ok (.iinc 6 1, 3) := by decide +kernel
theorem dX12_costOf_83 : decode cX12_costOf 83 = .ok (.goto (-53), 3) := by decide +kernel
theorem dX12_costOf_86 : decode cX12_costOf 86 = .ok (.iload 5, 2) := by decide +kernel
theorem dX12_costOf_88 : decode cX12_costOf 88 = .ok (.iconst 2, 1) := by decide +kernel
theorem dX12_costOf_89 : decode cX12_costOf 89 = .ok (.idiv, 1) := by decide +kernel
theorem dX12_costOf_90 : decode cX12_costOf 90 = .ok (.ireturn, 1) := by decide +kernel
set_option maxRecDepth 20000 in
theorem ggX12_withLater_X12_costOf : GoodIn wsX12_withLater wsX12_costOf := goodIn_sub (gi_c 6 rfl (gi_a (gi_c 7 rfl (gi_c 8 rfl (gi_c 9 rfl (gi_c 10 rfl (gi_c 5 rfl (gi_c 11 rfl (gi_c 12 rfl (gi_c 13 rfl (gi_c 14 rfl gi_n))))))))) pz_X12_withLater_X120)) (by decide +kernel)
set_option maxRecDepth 20000 in
theorem gX12_withLater_X12_costOf : GoodIn wsX12_withLater (wsV RX12 154 RX12 yX12_costOf wsX12_costOf) := goodIn_app (goodIn_of _ (by decide +kernel)) ggX12_withLater_X12_costOf
theorem dX12_withLater_0 : decode cX12_withLater 0 = .ok (.aload_n 0, 1) := by decide +kernel
theorem dX12_withLater_1 : decode cX12_withLater 1 = .ok (.iload_n 1, 1) := by decide +kernel
theorem dX12_withLater_2 : decode cX12_withLater 2 = .ok (.iload_n 2, 1) := by decide +kernel
theorem dX12_withLater_3 : decode cX12_withLater 3 = .ok (.iload_n 3, 1) := by decide +kernel
theorem dX12_withLater_4 : decode cX12_withLater 4 = .ok (.invokevirtual 154, 3) := by decide +kernel
theorem dX12_withLater_7 : decode cX12_withLater 7 = .ok (.istore 4, 2) := by decide +kernel
theorem dX12_withLater_9 : decode cX12_withLater 9 = .ok (.aload_n 0, 1) := by decide +kernel
theorem dX12_withLater_10 : decode cX12_withLater 10 = .ok (.getfield 42, 3) := by decide +kernel
theorem dX12_withLater_13 : decode cX12_withLater 13 = .ok (.iload_n 2, 1) := by decide +kernel
theorem dX12_withLater_14 : decode cX12_withLater 14 = .ok (.iconst 1, 1) := by decide +kernel
theorem dX12_withLater_15 : decode cX12_withLater 15 = .ok (.iload_n 3, 1) := by decide +kernel
theorem dX12_withLater_16 : decode cX12_withLater 16 = .ok (.ishl, 1) := by decide +kernel
theorem dX12_withLater_17 : decode cX12_withLater 17 = .ok (.ior, 1) := by decide +kernel
theorem dX12_withLater_18 : decode cX12_withLater 18 = .ok (.iaload, 1) := by decide +kernel
theorem dX12_withLater_19 : decode cX12_withLater 19 = .ok (.istore 5, 2) := by decide +kernel
theorem dX12_withLater_21 : decode cX12_withLater 21 = .ok (.iload_n 1, 1) := by decide +kernel
theorem dX12_withLater_22 : decode cX12_withLater 22 = .ok (.ifCond .ne 11, 3) := by decide +kernel
theorem dX12_withLater_25 : decode cX12_withLater 25 = .ok (.iload 4, 2) := by decide +kernel
theorem dX12_withLater_27 : decode cX12_withLater 27 = .ok (.iload 5, 2) := by decide +kernel
theorem dX12_withLater_29 : decode cX12_withLater 29 = .ok (.iadd, 1) := by decide +kernel
theorem dX12_withLater_30 : decode cX12_withLater 30 = .ok (.goto 17, 3) := by decide +kernel
theorem dX12_withLater_33 : decode cX12_withLater 33 = .ok (.iload 4, 2) := by decide +kernel
theorem dX12_withLater_35 : decode cX12_withLater 35 = .ok (.iload 5, 2) := by decide +kernel
theorem dX12_withLater_37 : decode cX12_withLater 37 = .ok (.if_icmp .le 8, 3) := by decide +kernel
theorem dX12_withLater_40 : decode cX12_withLater 40 = .ok (.iload 4, 2) := by decide +kernel
theorem dX12_withLater_42 : decode cX12_withLater 42 = .ok (.goto 5, 3) := by decide +kernel
theorem dX12_withLater_45 : decode cX12_withLater 45 = .ok (.iload 5, 2) := by decide +kernel
theorem dX12_withLater_47 : decode cX12_withLater 47 = .ok (.ireturn, 1) := by decide +kernel
set_option maxRecDepth 20000 in
theorem ggX12_least_X12_in : GoodIn wsX12_least wsX12_in := goodIn_sub (gi_t pz_X12_least_X12_least_r1 5 rfl gi_n) (by decide +kernel)
set_option maxRecDepth 20000 in
theorem gX12_least_X12_in : GoodIn wsX12_least (va_wsS RX12 76 yX12_in wsX12_in) := goodIn_app (goodIn_of _ (by decide +kernel)) ggX12_least_X12_in
set_option maxRecDepth 20000 in
theorem ggX12_least_X12_setThen : GoodIn wsX12_least wsX12_setThen := goodIn_sub (gi_t pz_X12_least_X12_least_r1 9 rfl (gi_a (gi_t pz_X12_least_X12_least_r1 10 rfl (gi_t pz_X12_least_X12_least_r1 11 rfl (gi_t pz_X12_least_X12_least_r1 1 rfl (gi_t pz_X12_least_X12_least_r1 12 rfl (gi_t pz_X12_least_X12_least_r1 13 rfl (gi_t pz_X12_least_X12_least_r1 14 rfl (gi_t pz_X12_least_X12_least_r1 4 rfl (gi_t pz_X12_least_X12_least_r1 15 rfl (gi_t pz_X12_least_X12_least_r1 16 rfl (gi_t pz_X12_least_X12_least_r1 17 rfl (gi_t pz_X12_least_X12_least_r1 18 rfl gi_n))))))))))) pz_X12_least_X120)) (by decide +kernel)
set_option maxRecDepth 20000 in
theorem gX12_least_X12_setThen : GoodIn wsX12_least (wsV RX12 158 RX12 yX12_setThen wsX12_setThen) := goodIn_app (goodIn_of _ (by decide +kernel)) ggX12_least_X12_setThen
set_option maxRecDepth 20000 in
theorem ggX12_least_X12_all : GoodIn wsX12_least wsX12_all := goodIn_sub (gi_t pz_X12_least_X12_least_r1 15 rfl (gi_a (gi_t pz_X12_least_X12_least_r1 1 rfl gi_n) pz_X12_least_X120)) (by decide +kernel)
set_option maxRecDepth 20000 in
theorem gX12_least_X12_all : GoodIn wsX12_least (wsV RX12 101 RX12 yX12_all wsX12_all) := goodIn_app (goodIn_of _ (by decide +kernel)) ggX12_least_X12_all
set_option maxRecDepth 20000 in
theorem ggX12_least_X12_has : GoodIn wsX12_least wsX12_has := goodIn_sub (gi_t pz_X12_least_X12_least_r1 18 rfl gi_n) (by decide +kernel)
set_option maxRecDepth 20000 in
theorem gX12_least_X12_has : GoodIn wsX12_least (va_wsS RX12 90 yX12_has wsX12_has) := goodIn_app (goodIn_of _ (by decide +kernel)) ggX12_least_X12_has
set_option maxRecDepth 20000 in
theorem ggX12_least_X12_withLater : GoodIn wsX12_least wsX12_withLater := goodIn_sub (gi_t pz_X12_least_X12_least_r1 22 rfl (gi_a (gi_t pz_X12_least_X12_least_r1 0 rfl (gi_t pz_X12_least_X12_least_r1 23 rfl (gi_t pz_X12_least_X12_least_r2 0 rfl (gi_t pz_X12_least_X12_least_r2 1 rfl (gi_t pz_X12_least_X12_least_r1 4 rfl (gi_t pz_X12_least_X12_least_r2 2 rfl (gi_t pz_X12_least_X12_least_r1 10 rfl (gi_t pz_X12_least_X12_least_r1 1 rfl (gi_t pz_X12_least_X12_least_r2 3 rfl (gi_t pz_X12_least_X12_least_r2 4 rfl (gi_t pz_X12_least_X12_least_r2 5 rfl (gi_t pz_X12_least_X12_least_r1 16 rfl (gi_t pz_X12_least_X12_least_r1 17 rfl (gi_t pz_X12_least_X12_least_r1 18 rfl gi_n)))))))))))))) pz_X12_least_X120)) (by decide +kernel)
set_option maxRecDepth 20000 in
theorem gX12_least_X12_withLater : GoodIn wsX12_least (wsV RX12 161 RX12 yX12_withLater wsX12_withLater) := goodIn_app (goodIn_of _ (by decide +kernel)) ggX12_least_X12_withLater
set_option maxRecDepth 20000 in
theorem ggX12_least_X12_beginOrder : GoodIn wsX12_least wsX12_beginOrder := goodIn_sub (gi_t pz_X12_least_X12_least_r2 9 rfl (gi_a (gi_t pz_X12_least_X12_least_r2 10 rfl (gi_t pz_X12_least_X12_least_r2 11 rfl (gi_t pz_X12_least_X12_least_r2 12 rfl (gi_t pz_X12_least_X12_least_r2 13 rfl (gi_t pz_X12_least_X12_least_r1 11 rfl (gi_t pz_X12_least_X12_least_r2 14 rfl gi_n)))))) pz_X12_least_X120)) (by decide +kernel)
set_option maxRecDepth 20000 in
theorem gX12_least_X12_beginOrder : GoodIn wsX12_least (wsV RX12 143 RX12 yX12_beginOrder wsX12_beginOrder) := goodIn_app (goodIn_of _ (by decide +kernel)) ggX12_least_X12_beginOrder
set_option maxRecDepth 20000 in
theorem ggX12_least_X12_go : GoodIn wsX12_least wsX12_go := goodIn_sub (gi_t pz_X12_least_X12_least_r2 18 rfl (gi_a (gi_t pz_X12_least_X12_least_r2 11 rfl (gi_t pz_X12_least_X12_least_r2 13 rfl (gi_t pz_X12_least_X12_least_r2 12 rfl (gi_t pz_X12_least_X12_least_r1 1 rfl (gi_t pz_X12_least_X12_least_r2 14 rfl (gi_t pz_X12_least_X12_least_r2 19 rfl (gi_t pz_X12_least_X12_least_r2 10 rfl (gi_t pz_X12_least_X12_least_r2 20 rfl (gi_t pz_X12_least_X12_least_r2 21 rfl (gi_t pz_X12_least_X12_least_r2 22 rfl (gi_t pz_X12_least_X12_least_r1 4 rfl (gi_t pz_X12_least_X12_least_r2 23 rfl (gi_t pz_X12_least_X12_least_r1 16 rfl (gi_t pz_X12_least_X12_least_r1 17 rfl (gi_t pz_X12_least_X12_least_r1 18 rfl (gi_t pz_X12_least_X12_least_r2 3 rfl (gi_t pz_X12_least_X12_least_r2 4 rfl (gi_t pz_X12_least_X12_least_r2 5 rfl gi_n)))))))))))))))))) pz_X12_least_X120)) (by decide +kernel)
set_option maxRecDepth 20000 in
theorem gX12_least_X12_go : GoodIn wsX12_least (wsV RX12 146 RX12 yX12_go wsX12_go) := goodIn_app (goodIn_of _ (by decide +kernel)) ggX12_least_X12_go
theorem dX12_least_0 : decode cX12_least 0 = .ok (.iload_n 1, 1) := by decide +kernel
theorem dX12_least_1 : decode cX12_least 1 = .ok (.iconst 0, 1) := by decide +kernel
theorem dX12_least_2 : decode cX12_least 2 = .ok (.iconst 1, 1) := by decide +kernel
theorem dX12_least_3 : decode cX12_least 3 = .ok (.invokestatic 76, 3) := by decide +kernel
theorem dX12_least_6 : decode cX12_least 6 = .ok (.ifCond .ne 5, 3) := by decide +kernel
theorem dX12_least_9 : decode cX12_least 9 = .ok (.iconst (-1), 1) := by decide +kernel
theorem dX12_least_10 : decode cX12_least 10 = .ok (.ireturn, 1) := by decide +kernel
theorem dX12_least_11 : decode cX12_least 11 = .ok (.aload_n 0, 1) := by decide +kernel
theorem dX12_least_12 : decode cX12_least 12 = .ok (.invokevirtual 158, 3) := by decide +kernel
theorem dX12_least_15 : decode cX12_least 15 = .ok (.aload_n 0, 1) := by decide +kernel
theorem dX12_least_16 : decode cX12_least 16 = .ok (.getfield 42, 3) := by decide +kernel
theorem dX12_least_19 : decode cX12_least 19 = .ok (.aload_n 0, 1) := by decide +kernel
theorem dX12_least_20 : decode cX12_least 20 = .ok (.invokevirtual 101, 3) := by decide +kernel
theorem dX12_least_23 : decode cX12_least 23 = .ok (.iconst 0, 1) := by decide +kernel
theorem dX12_least_24 : decode cX12_least 24 = .ok (.iastore, 1) := by decide +kernel
theorem dX12_least_25 : decode cX12_least 25 = .ok (.aload_n 0, 1) := by decide +kernel
theorem dX12_least_26 : decode cX12_least 26 = .ok (.invokevirtual 101, 3) := by decide +kernel
theorem dX12_least_29 : decode cX12_least 29 = .ok (.iconst 1, 1) := by decide +kernel
theorem dX12_least_30 : decode cX12_least 30 = .ok (.isub, 1) := by decide +kernel
theorem dX12_least_31 : decode cX12_least 31 = .ok (.istore_n 2, 1) := by decide +kernel
theorem dX12_least_32 : decode cX12_least 32 = .ok (.iload_n 2, 1) := by decide +kernel
theorem dX12_least_33 : decode cX12_least 33 = .ok (.ifCond .lt 79, 3) := by decide +kernel
theorem dX12_least_36 : decode cX12_least 36 = .ok (.aload_n 0, 1) := by decide +kernel
theorem dX12_least_37 : decode cX12_least 37 = .ok (.getfield 42, 3) := by decide +kernel
theorem dX12_least_40 : decode cX12_least 40 = .ok (.iload_n 2, 1) := by decide +kernel
theorem dX12_least_41 : decode cX12_least 41 = .ok (.sipush 1000, 3) := by decide +kernel
theorem dX12_least_44 : decode cX12_least 44 = .ok (.iastore, 1) := by decide +kernel
theorem dX12_least_45 : decode cX12_least 45 = .ok (.iconst 0, 1) := by decide +kernel
theorem dX12_least_46 : decode cX12_least 46 = .ok (.istore_n 3, 1) := by decide +kernel
theorem dX12_least_47 : decode cX12_least 47 = .ok (.iload_n 3, 1) := by decide +kernel
theorem dX12_least_48 : decode cX12_least 48 = .ok (.aload_n 0, 1) := by decide +kernel
theorem dX12_least_49 : decode cX12_least 49 = .ok (.getfield 73, 3) := by decide +kernel
theorem dX12_least_52 : decode cX12_least 52 = .ok (.if_icmp .ge 54, 3) := by decide +kernel
theorem dX12_least_55 : decode cX12_least 55 = .ok (.iload_n 2, 1) := by decide +kernel
theorem dX12_least_56 : decode cX12_least 56 = .ok (.iload_n 3, 1) := by decide +kernel
theorem dX12_least_57 : decode cX12_least 57 = .ok (.invokestatic 90, 3) := by decide +kernel
theorem dX12_least_60 : decode cX12_least 60 = .ok (.ifCond .ne 40, 3) := by decide +kernel
theorem dX12_least_63 : decode cX12_least 63 = .ok (.aload_n 0, 1) := by decide +kernel
theorem dX12_least_64 : decode cX12_least 64 = .ok (.iload_n 1, 1) := by decide +kernel
theorem dX12_least_65 : decode cX12_least 65 = .ok (.iload_n 2, 1) := by decide +kernel
theorem dX12_least_66 : decode cX12_least 66 = .ok (.iload_n 3, 1) := by decide +kernel
theorem dX12_least_67 : decode cX12_least 67 = .ok (.invokevirtual 161, 3) := by decide +kernel
theorem dX12_least_70 : decode cX12_least 70 = .ok (.istore 4, 2) := by decide +kernel
theorem dX12_least_72 : decode cX12_least 72 = .ok (.aload_n 0, 1) := by decide +kernel
theorem dX12_least_73 : decode cX12_least 73 = .ok (.getfield 42, 3) := by decide +kernel
theorem dX12_least_76 : decode cX12_least 76 = .ok (.iload_n 2, 1) := by decide +kernel
theorem dX12_least_77 : decode cX12_least 77 = .ok (.iload 4, 2) := by decide +kernel
theorem dX12_least_79 : decode cX12_least 79 = .ok (.aload_n 0, 1) := by decide +kernel
theorem dX12_least_80 : decode cX12_least 80 = .ok (.getfield 42, 3) := by decide +kernel
theorem dX12_least_83 : decode cX12_least 83 = .ok (.iload_n 2, 1) := by decide +kernel
theorem dX12_least_84 : decode cX12_least 84 = .ok (.iaload, 1) := by decide +kernel
theorem dX12_least_85 : decode cX12_least 85 = .ok (.if_icmp .ge 8, 3) := by decide +kernel
theorem dX12_least_88 : decode cX12_least 88 = .ok (.iload 4, 2) := by decide +kernel
theorem dX12_least_90 : decode cX12_least 90 = .ok (.goto 9, 3) := by decide +kernel
theorem dX12_least_93 : decode cX12_least 93 = .ok (.aload_n 0, 1) := by decide +kernel
theorem dX12_least_94 : decode cX12_least 94 = .ok (.getfield 42, 3) := by decide +kernel
theorem dX12_least_97 : decode cX12_least 97 = .ok (.iload_n 2, 1) := by decide +kernel
theorem dX12_least_98 : decode cX12_least 98 = .ok (.iaload, 1) := by decide +kernel
theorem dX12_least_99 : decode cX12_least 99 = .ok (.iastore, 1) := by decide +kernel
theorem dX12_least_100 : decode cX12_least 100 = .ok (.iinc 3 1, 3) := by decide +kernel
theorem dX12_least_103 : decode cX12_least 103 = .ok (.goto (-56), 3) := by decide +kernel
theorem dX12_least_106 : decode cX12_least 106 = .ok (.iinc 2 (-1), 3) := by decide +kernel
theorem dX12_least_109 : decode cX12_least 109 = .ok (.goto (-77), 3) := by decide +kernel
theorem dX12_least_112 : decode cX12_least 112 = .ok (.aload_n 0, 1) := by decide +kernel
theorem dX12_least_113 : decode cX12_least 113 = .ok (.getfield 42, 3) := by decide +kernel
theorem dX12_least_116 : decode cX12_least 116 = .ok (.iconst 0, 1) := by decide +kernel
theorem dX12_least_117 : decode cX12_least 117 = .ok (.iaload, 1) := by decide +kernel
theorem dX12_least_118 : decode cX12_least 118 = .ok (.istore_n 2, 1) := by decide +kernel
theorem dX12_least_119 : decode cX12_least 119 = .ok (.aload_n 0, 1) := by decide +kernel
theorem dX12_least_120 : decode cX12_least 120 = .ok (.invokevirtual 143, 3) := by decide +kernel
theorem dX12_least_123 : decode cX12_least 123 = .ok (.iconst 0, 1) := by decide +kernel
theorem dX12_least_124 : decode cX12_least 124 = .ok (.istore_n 3, 1) := by decide +kernel
theorem dX12_least_125 : decode cX12_least 125 = .ok (.iload_n 3, 1) := by decide +kernel
theorem dX12_least_126 : decode cX12_least 126 = .ok (.aload_n 0, 1) := by decide +kernel
theorem dX12_least_127 : decode cX12_least 127 = .ok (.invokevirtual 101, 3) := by decide +kernel
theorem dX12_least_130 : decode cX12_least 130 = .ok (.if_icmp .eq 73, 3) := by decide +kernel
theorem dX12_least_133 : decode cX12_least 133 = .ok (.iconst 0, 1) := by decide +kernel
theorem dX12_least_134 : decode cX12_least 134 = .ok (.istore 4, 2) := by decide +kernel
theorem dX12_least_136 : decode cX12_least 136 = .ok (.iload_n 3, 1) := by decide +kernel
theorem dX12_least_137 : decode cX12_least 137 = .ok (.iload 4, 2) := by decide +kernel
theorem dX12_least_139 : decode cX12_least 139 = .ok (.invokestatic 90, 3) := by decide +kernel
theorem dX12_least_142 : decode cX12_least 142 = .ok (.ifCond .ne 39, 3) := by decide +kernel
theorem dX12_least_145 : decode cX12_least 145 = .ok (.iload_n 1, 1) := by decide +kernel
theorem dX12_least_146 : decode cX12_least 146 = .ok (.ifCond .ne 23, 3) := by decide +kernel
theorem dX12_least_149 : decode cX12_least 149 = .ok (.aload_n 0, 1) := by decide +kernel
theorem dX12_least_150 : decode cX12_least 150 = .ok (.iconst 0, 1) := by decide +kernel
theorem dX12_least_151 : decode cX12_least 151 = .ok (.iload_n 3, 1) := by decide +kernel
theorem dX12_least_152 : decode cX12_least 152 = .ok (.iload 4, 2) := by decide +kernel
theorem dX12_least_154 : decode cX12_least 154 = .ok (.invokevirtual 161, 3) := by decide +kernel
theorem dX12_least_157 : decode cX12_least 157 = .ok (.aload_n 0, 1) := by decide +kernel
theorem dX12_least_158 : decode cX12_least 158 = .ok (.getfield 42, 3) := by decide +kernel
theorem dX12_least_161 : decode cX12_least 161 = .ok (.iload_n 3, 1) := by decide +kernel
theorem dX12_least_162 : decode cX12_least 162 = .ok (.iaload, 1) := by decide +kernel
theorem dX12_least_163 : decode cX12_least 163 = .ok (.if_icmp .eq 24, 3) := by decide +kernel
theorem dX12_least_166 : decode cX12_least 166 = .ok (.goto 15, 3) := by decide +kernel
theorem dX12_least_169 : decode cX12_least 169 = .ok (.aload_n 0, 1) := by decide +kernel
theorem dX12_least_170 : decode cX12_least 170 = .ok (.iconst 1, 1) := by decide +kernel
theorem dX12_least_171 : decode cX12_least 171 = .ok (.iload_n 3, 1) := by decide +kernel
theorem dX12_least_172 : decode cX12_least 172 = .ok (.iload 4, 2) := by decide +kernel
theorem dX12_least_174 : decode cX12_least 174 = .ok (.invokevirtual 161, 3) := by decide +kernel
theorem dX12_least_177 : decode cX12_least 177 = .ok (.iload_n 2, 1) := by decide +kernel
theorem dX12_least_178 : decode cX12_least 178 = .ok (.if_icmp .le 9, 3) := by decide +kernel
theorem dX12_least_181 : decode cX12_least 181 = .ok (.iinc 4 1, 3) := by decide +kernel
theorem dX12_least_184 : decode cX12_least 184 = .ok (.goto (-48), 3) := by decide +kernel
theorem dX12_least_187 : decode cX12_least 187 = .ok (.aload_n 0, 1) := by decide +kernel
theorem dX12_least_188 : decode cX12_least 188 = .ok (.iload 4, 2) := by decide +kernel
theorem dX12_least_190 : decode cX12_least 190 = .ok (.invokevirtual 146, 3) := by decide +kernel
theorem dX12_least_193 : decode cX12_least 193 = .ok (.iload_n 3, 1) := by decide +kernel
theorem dX12_least_194 : decode cX12_least 194 = .ok (.iconst 1, 1) := by decide +kernel
theorem dX12_least_195 : decode cX12_least 195 = .ok (.iload 4, 2) := by decide +kernel
theorem dX12_least_197 : decode cX12_least 197 = .ok (.ishl, 1) := by decide +kernel
theorem dX12_least_198 : decode cX12_least 198 = .ok (.ior, 1) := by decide +kernel
theorem dX12_least_199 : decode cX12_least 199 = .ok (.istore_n 3, 1) := by decide +kernel
theorem dX12_least_200 : decode cX12_least 200 = .ok (.goto (-75), 3) := by decide +kernel
theorem dX12_least_203 : decode cX12_least 203 = .ok (.iload_n 2, 1) := by decide +kernel
theorem dX12_least_204 : decode cX12_least 204 = .ok (.ireturn, 1) := by decide +kernel
set_option maxRecDepth 20000 in
theorem ggX12_order_X12_in : GoodIn wsX12_order wsX12_in := goodIn_sub (gi_c 6 rfl gi_n) (by decide +kernel)
set_option maxRecDepth 20000 in
theorem gX12_order_X12_in : GoodIn wsX12_order (va_wsS RX12 76 yX12_in wsX12_in) := goodIn_app (goodIn_of _ (by decide +kernel)) ggX12_order_X12_in
