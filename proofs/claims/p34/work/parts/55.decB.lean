theorem pz_X12_hasSpans_X12_hasSpans_r2 : ∀ x ∈ wsX12_hasSpans_r2, x ∈ wsX12_hasSpans := fun _ h => (List.mem_cons_of_mem _ (List.mem_append_left _ (List.mem_append_right _ h)))
theorem pz_X12_hasSpans_X12_hasSpans_r1 : ∀ x ∈ wsX12_hasSpans_r1, x ∈ wsX12_hasSpans := fun _ h => (List.mem_cons_of_mem _ (List.mem_append_left _ (List.mem_append_left _ h)))
theorem pz_X12_hasSpans_X120 : ∀ x ∈ wsX120, x ∈ wsX12_hasSpans := fun _ h => (List.mem_cons_of_mem _ (List.mem_append_right _ h))
theorem pz_X12_line_X12_line_r2 : ∀ x ∈ wsX12_line_r2, x ∈ wsX12_line := fun _ h => (List.mem_cons_of_mem _ (List.mem_append_left _ (List.mem_append_right _ (List.mem_append_left _ h))))
theorem pz_X12_line_X12_line_r1 : ∀ x ∈ wsX12_line_r1, x ∈ wsX12_line := fun _ h => (List.mem_cons_of_mem _ (List.mem_append_left _ (List.mem_append_left _ h)))
theorem pz_X12_line_X120 : ∀ x ∈ wsX120, x ∈ wsX12_line := fun _ h => (List.mem_cons_of_mem _ (List.mem_append_right _ h))
theorem pz_X12_line_X12_line_r3 : ∀ x ∈ wsX12_line_r3, x ∈ wsX12_line := fun _ h => (List.mem_cons_of_mem _ (List.mem_append_left _ (List.mem_append_right _ (List.mem_append_right _ h))))
theorem pz_X12_span_X12_span_r1 : ∀ x ∈ wsX12_span_r1, x ∈ wsX12_span := fun _ h => (List.mem_cons_of_mem _ (List.mem_append_left _ (List.mem_append_left _ h)))
theorem pz_X12_span_X120 : ∀ x ∈ wsX120, x ∈ wsX12_span := fun _ h => (List.mem_cons_of_mem _ (List.mem_append_right _ h))
theorem pz_X12_span_X12_span_r2 : ∀ x ∈ wsX12_span_r2, x ∈ wsX12_span := fun _ h => (List.mem_cons_of_mem _ (List.mem_append_left _ (List.mem_append_right _ (List.mem_append_left _ h))))
theorem pz_X12_span_X12_span_r3 : ∀ x ∈ wsX12_span_r3, x ∈ wsX12_span := fun _ h => (List.mem_cons_of_mem _ (List.mem_append_left _ (List.mem_append_right _ (List.mem_append_right _ h))))
theorem pz_X12_isFar_X120 : ∀ x ∈ wsX120, x ∈ wsX12_isFar := fun _ h => (List.mem_cons_of_mem _ (List.mem_append_right _ h))
theorem pz_X12_far_X120 : ∀ x ∈ wsX120, x ∈ wsX12_far := fun _ h => (List.mem_cons_of_mem _ (List.mem_append_right _ h))
theorem pz_X12_columns_X120 : ∀ x ∈ wsX120, x ∈ wsX12_columns := fun _ h => (List.mem_cons_of_mem _ (List.mem_append_right _ h))
theorem pz_X12_row_X120 : ∀ x ∈ wsX120, x ∈ wsX12_row := fun _ h => (List.mem_cons_of_mem _ (List.mem_append_right _ h))
theorem pz_X12_told_X120 : ∀ x ∈ wsX120, x ∈ wsX12_told := fun _ h => (List.mem_cons_of_mem _ (List.mem_append_right _ h))
theorem pz_X12_tear_X120 : ∀ x ∈ wsX120, x ∈ wsX12_tear := fun _ h => (List.mem_cons_of_mem _ (List.mem_append_right _ h))
theorem pz_X12_copy_X120 : ∀ x ∈ wsX120, x ∈ wsX12_copy := fun _ h => (List.mem_cons_of_mem _ (List.mem_append_right _ h))
theorem pz_X12_seat_X120 : ∀ x ∈ wsX120, x ∈ wsX12_seat := fun _ h => (List.mem_cons_of_mem _ (List.mem_append_right _ h))
theorem pz_X12_seatings_X12_seatings_r1 : ∀ x ∈ wsX12_seatings_r1, x ∈ wsX12_seatings := fun _ h => (List.mem_cons_of_mem _ (List.mem_append_left _ (List.mem_append_left _ h)))
theorem pz_X12_seatings_X120 : ∀ x ∈ wsX120, x ∈ wsX12_seatings := fun _ h => (List.mem_cons_of_mem _ (List.mem_append_right _ h))
theorem pz_X12_seatings_X12_seatings_r2 : ∀ x ∈ wsX12_seatings_r2, x ∈ wsX12_seatings := fun _ h => (List.mem_cons_of_mem _ (List.mem_append_left _ (List.mem_append_right _ h)))
theorem pz_X12_seat__X12_seat__r1 : ∀ x ∈ wsX12_seat__r1, x ∈ wsX12_seat_ := fun _ h => (List.mem_cons_of_mem _ (List.mem_append_left _ (List.mem_append_left _ h)))
theorem pz_X12_seat__X120 : ∀ x ∈ wsX120, x ∈ wsX12_seat_ := fun _ h => (List.mem_cons_of_mem _ (List.mem_append_right _ h))
theorem pz_X12_seat__X12_seat__r2 : ∀ x ∈ wsX12_seat__r2, x ∈ wsX12_seat_ := fun _ h => (List.mem_cons_of_mem _ (List.mem_append_left _ (List.mem_append_right _ h)))
theorem pz_X12_count_X120 : ∀ x ∈ wsX120, x ∈ wsX12_count := fun _ h => (List.mem_cons_of_mem _ (List.mem_append_right _ h))
theorem dX12_lines_8 : decode cX12_lines 8 = .ok (.goto 4, 3) := by decide +kernel
theorem dX12_lines_11 : decode cX12_lines 11 = .ok (.iconst 0, 1) := by decide +kernel
theorem dX12_lines_12 : decode cX12_lines 12 = .ok (.istore_n 1, 1) := by decide +kernel
theorem dX12_lines_13 : decode cX12_lines 13 = .ok (.iconst 0, 1) := by decide +kernel
theorem dX12_lines_14 : decode cX12_lines 14 = .ok (.istore_n 2, 1) := by decide +kernel
theorem dX12_lines_15 : decode cX12_lines 15 = .ok (.iload_n 2, 1) := by decide +kernel
theorem dX12_lines_16 : decode cX12_lines 16 = .ok (.aload_n 0, 1) := by decide +kernel
theorem dX12_lines_17 : decode cX12_lines 17 = .ok (.getfield 191, 3) := by decide +kernel
theorem dX12_lines_20 : decode cX12_lines 20 = .ok (.if_icmp .ge 25, 3) := by decide +kernel
theorem dX12_lines_23 : decode cX12_lines 23 = .ok (.iload_n 1, 1) := by decide +kernel
theorem dX12_lines_24 : decode cX12_lines 24 = .ok (.aload_n 0, 1) := by decide +kernel
theorem dX12_lines_25 : decode cX12_lines 25 = .ok (.getfield 61, 3) := by decide +kernel
theorem dX12_lines_28 : decode cX12_lines 28 = .ok (.bipush 12, 2) := by decide +kernel
theorem dX12_lines_30 : decode cX12_lines 30 = .ok (.iconst 1, 1) := by decide +kernel
theorem dX12_lines_31 : decode cX12_lines 31 = .ok (.iload_n 2, 1) := by decide +kernel
theorem dX12_lines_32 : decode cX12_lines 32 = .ok (.ishl, 1) := by decide +kernel
theorem dX12_lines_33 : decode cX12_lines 33 = .ok (.imul, 1) := by decide +kernel
theorem dX12_lines_34 : decode cX12_lines 34 = .ok (.iload_n 2, 1) := by decide +kernel
theorem dX12_lines_35 : decode cX12_lines 35 = .ok (.iadd, 1) := by decide +kernel
theorem dX12_lines_36 : decode cX12_lines 36 = .ok (.iaload, 1) := by decide +kernel
theorem dX12_lines_37 : decode cX12_lines 37 = .ok (.iadd, 1) := by decide +kernel
theorem dX12_lines_38 : decode cX12_lines 38 = .ok (.istore_n 1, 1) := by decide +kernel
theorem dX12_lines_39 : decode cX12_lines 39 = .ok (.iinc 2 1, 3) := by decide +kernel
theorem dX12_lines_42 : decode cX12_lines 42 = .ok (.goto (-27), 3) := by decide +kernel
theorem dX12_lines_45 : decode cX12_lines 45 = .ok (.iload_n 1, 1) := by decide +kernel
theorem dX12_lines_46 : decode cX12_lines 46 = .ok (.ireturn, 1) := by decide +kernel
set_option maxRecDepth 20000 in
theorem ggX12_hasSpans_X12_setCliques : GoodIn wsX12_hasSpans wsX12_setCliques := goodIn_sub (gi_t pz_X12_hasSpans_X12_hasSpans_r1 9 rfl (gi_a (gi_t pz_X12_hasSpans_X12_hasSpans_r1 2 rfl (gi_t pz_X12_hasSpans_X12_hasSpans_r1 4 rfl (gi_t pz_X12_hasSpans_X12_hasSpans_r1 10 rfl (gi_t pz_X12_hasSpans_X12_hasSpans_r1 11 rfl (gi_t pz_X12_hasSpans_X12_hasSpans_r1 12 rfl (gi_t pz_X12_hasSpans_X12_hasSpans_r1 8 rfl (gi_t pz_X12_hasSpans_X12_hasSpans_r1 13 rfl (gi_t pz_X12_hasSpans_X12_hasSpans_r1 14 rfl (gi_t pz_X12_hasSpans_X12_hasSpans_r1 15 rfl (gi_t pz_X12_hasSpans_X12_hasSpans_r1 16 rfl (gi_t pz_X12_hasSpans_X12_hasSpans_r1 17 rfl (gi_t pz_X12_hasSpans_X12_hasSpans_r1 18 rfl (gi_t pz_X12_hasSpans_X12_hasSpans_r1 19 rfl (gi_t pz_X12_hasSpans_X12_hasSpans_r1 20 rfl (gi_t pz_X12_hasSpans_X12_hasSpans_r1 21 rfl (gi_t pz_X12_hasSpans_X12_hasSpans_r1 22 rfl (gi_t pz_X12_hasSpans_X12_hasSpans_r1 23 rfl (gi_t pz_X12_hasSpans_X12_hasSpans_r2 0 rfl (gi_t pz_X12_hasSpans_X12_hasSpans_r2 1 rfl (gi_t pz_X12_hasSpans_X12_hasSpans_r2 2 rfl gi_n)))))))))))))))))))) pz_X12_hasSpans_X120)) (by decide +kernel)
set_option maxRecDepth 20000 in
theorem gX12_hasSpans_X12_setCliques : GoodIn wsX12_hasSpans (wsV RX12 170 RX12 yX12_setCliques wsX12_setCliques) := goodIn_app (goodIn_of _ (by decide +kernel)) ggX12_hasSpans_X12_setCliques
set_option maxRecDepth 20000 in
theorem ggX12_hasSpans_X12_isSound : GoodIn wsX12_hasSpans wsX12_isSound := goodIn_sub (gi_t pz_X12_hasSpans_X12_hasSpans_r2 6 rfl (gi_a (gi_t pz_X12_hasSpans_X12_hasSpans_r1 14 rfl (gi_t pz_X12_hasSpans_X12_hasSpans_r1 19 rfl (gi_t pz_X12_hasSpans_X12_hasSpans_r1 10 rfl (gi_t pz_X12_hasSpans_X12_hasSpans_r1 11 rfl (gi_t pz_X12_hasSpans_X12_hasSpans_r1 12 rfl (gi_t pz_X12_hasSpans_X12_hasSpans_r1 8 rfl (gi_t pz_X12_hasSpans_X12_hasSpans_r1 13 rfl (gi_t pz_X12_hasSpans_X12_hasSpans_r2 0 rfl (gi_t pz_X12_hasSpans_X12_hasSpans_r2 1 rfl (gi_t pz_X12_hasSpans_X12_hasSpans_r2 2 rfl (gi_t pz_X12_hasSpans_X12_hasSpans_r1 20 rfl (gi_t pz_X12_hasSpans_X12_hasSpans_r1 21 rfl (gi_t pz_X12_hasSpans_X12_hasSpans_r1 22 rfl (gi_t pz_X12_hasSpans_X12_hasSpans_r1 23 rfl gi_n)))))))))))))) pz_X12_hasSpans_X120)) (by decide +kernel)
set_option maxRecDepth 20000 in
theorem gX12_hasSpans_X12_isSound : GoodIn wsX12_hasSpans (wsV RX12 115 RX12 yX12_isSound wsX12_isSound) := goodIn_app (goodIn_of _ (by decide +kernel)) ggX12_hasSpans_X12_isSound
set_option maxRecDepth 20000 in
theorem ggX12_hasSpans_X12_setLine : GoodIn wsX12_hasSpans wsX12_setLine := goodIn_sub (gi_t pz_X12_hasSpans_X12_hasSpans_r2 10 rfl (gi_a (gi_t pz_X12_hasSpans_X12_hasSpans_r1 0 rfl (gi_t pz_X12_hasSpans_X12_hasSpans_r2 11 rfl (gi_t pz_X12_hasSpans_X12_hasSpans_r2 12 rfl (gi_t pz_X12_hasSpans_X12_hasSpans_r1 1 rfl (gi_t pz_X12_hasSpans_X12_hasSpans_r2 13 rfl (gi_t pz_X12_hasSpans_X12_hasSpans_r2 0 rfl (gi_t pz_X12_hasSpans_X12_hasSpans_r2 1 rfl (gi_t pz_X12_hasSpans_X12_hasSpans_r1 8 rfl (gi_t pz_X12_hasSpans_X12_hasSpans_r2 2 rfl (gi_t pz_X12_hasSpans_X12_hasSpans_r2 14 rfl (gi_t pz_X12_hasSpans_X12_hasSpans_r2 15 rfl (gi_t pz_X12_hasSpans_X12_hasSpans_r2 16 rfl (gi_t pz_X12_hasSpans_X12_hasSpans_r2 17 rfl (gi_t pz_X12_hasSpans_X12_hasSpans_r1 3 rfl gi_n)))))))))))))) pz_X12_hasSpans_X120)) (by decide +kernel)
set_option maxRecDepth 20000 in
theorem gX12_hasSpans_X12_setLine : GoodIn wsX12_hasSpans (wsV RX12 200 RX12 yX12_setLine wsX12_setLine) := goodIn_app (goodIn_of _ (by decide +kernel)) ggX12_hasSpans_X12_setLine
theorem dX12_hasSpans_0 : decode cX12_hasSpans 0 = .ok (.aload_n 0, 1) := by decide +kernel
theorem dX12_hasSpans_1 : decode cX12_hasSpans 1 = .ok (.invokevirtual 170, 3) := by decide +kernel
theorem dX12_hasSpans_4 : decode cX12_hasSpans 4 = .ok (.aload_n 0, 1) := by decide +kernel
theorem dX12_hasSpans_5 : decode cX12_hasSpans 5 = .ok (.iconst 0, 1) := by decide +kernel
theorem dX12_hasSpans_6 : decode cX12_hasSpans 6 = .ok (.putfield 191, 3) := by decide +kernel
theorem dX12_hasSpans_9 : decode cX12_hasSpans 9 = .ok (.aload_n 0, 1) := by decide +kernel
theorem dX12_hasSpans_10 : decode cX12_hasSpans 10 = .ok (.iconst 0, 1) := by decide +kernel
theorem dX12_hasSpans_11 : decode cX12_hasSpans 11 = .ok (.putfield 197, 3) := by decide +kernel
theorem dX12_hasSpans_14 : decode cX12_hasSpans 14 = .ok (.aload_n 0, 1) := by decide +kernel
theorem dX12_hasSpans_15 : decode cX12_hasSpans 15 = .ok (.invokevirtual 115, 3) := by decide +kernel
theorem dX12_hasSpans_18 : decode cX12_hasSpans 18 = .ok (.ifCond .ne 5, 3) := by decide +kernel
theorem dX12_hasSpans_21 : decode cX12_hasSpans 21 = .ok (.iconst 0, 1) := by decide +kernel
theorem dX12_hasSpans_22 : decode cX12_hasSpans 22 = .ok (.ireturn, 1) := by decide +kernel
theorem dX12_hasSpans_23 : decode cX12_hasSpans 23 = .ok (.iconst 0, 1) := by decide +kernel
theorem dX12_hasSpans_24 : decode cX12_hasSpans 24 = .ok (.istore_n 1, 1) := by decide +kernel
theorem dX12_hasSpans_25 : decode cX12_hasSpans 25 = .ok (.iload_n 1, 1) := by decide +kernel
theorem dX12_hasSpans_26 : decode cX12_hasSpans 26 = .ok (.aload_n 0, 1) := by decide +kernel
theorem dX12_hasSpans_27 : decode cX12_hasSpans 27 = .ok (.getfield 164, 3) := by decide +kernel
theorem dX12_hasSpans_30 : decode cX12_hasSpans 30 = .ok (.if_icmp .ge 21, 3) := by decide +kernel
theorem dX12_hasSpans_33 : decode cX12_hasSpans 33 = .ok (.aload_n 0, 1) := by decide +kernel
theorem dX12_hasSpans_34 : decode cX12_hasSpans 34 = .ok (.getfield 54, 3) := by decide +kernel
theorem dX12_hasSpans_37 : decode cX12_hasSpans 37 = .ok (.iload_n 1, 1) := by decide +kernel
theorem dX12_hasSpans_38 : decode cX12_hasSpans 38 = .ok (.aload_n 0, 1) := by decide +kernel
theorem dX12_hasSpans_39 : decode cX12_hasSpans 39 = .ok (.getfield 45, 3) := by decide +kernel
theorem dX12_hasSpans_42 : decode cX12_hasSpans 42 = .ok (.iload_n 1, 1) := by decide +kernel
theorem dX12_hasSpans_43 : decode cX12_hasSpans 43 = .ok (.iaload, 1) := by decide +kernel
theorem dX12_hasSpans_44 : decode cX12_hasSpans 44 = .ok (.iastore, 1) := by decide +kernel
theorem dX12_hasSpans_45 : decode cX12_hasSpans 45 = .ok (.iinc 1 1, 3) := by decide +kernel
theorem dX12_hasSpans_48 : decode cX12_hasSpans 48 = .ok (.goto (-23), 3) := by decide +kernel
theorem dX12_hasSpans_51 : decode cX12_hasSpans 51 = .ok (.aload_n 0, 1) := by decide +kernel
theorem dX12_hasSpans_52 : decode cX12_hasSpans 52 = .ok (.aload_n 0, 1) := by decide +kernel
theorem dX12_hasSpans_53 : decode cX12_hasSpans 53 = .ok (.getfield 164, 3) := by decide +kernel
theorem dX12_hasSpans_56 : decode cX12_hasSpans 56 = .ok (.putfield 191, 3) := by decide +kernel
theorem dX12_hasSpans_59 : decode cX12_hasSpans 59 = .ok (.aload_n 0, 1) := by decide +kernel
theorem dX12_hasSpans_60 : decode cX12_hasSpans 60 = .ok (.invokevirtual 200, 3) := by decide +kernel
theorem dX12_hasSpans_63 : decode cX12_hasSpans 63 = .ok (.aload_n 0, 1) := by decide +kernel
theorem dX12_hasSpans_64 : decode cX12_hasSpans 64 = .ok (.getfield 197, 3) := by decide +kernel
theorem dX12_hasSpans_67 : decode cX12_hasSpans 67 = .ok (.aload_n 0, 1) := by decide +kernel
theorem dX12_hasSpans_68 : decode cX12_hasSpans 68 = .ok (.getfield 164, 3) := by decide +kernel
theorem dX12_hasSpans_71 : decode cX12_hasSpans 71 = .ok (.if_icmp .ne 7, 3) := by decide +kernel
theorem dX12_hasSpans_74 : decode cX12_hasSpans 74 = .ok (.iconst 1, 1) := by decide +kernel
theorem dX12_hasSpans_75 : decode cX12_hasSpans 75 = .ok (.goto 4, 3) := by decide +kernel
theorem dX12_hasSpans_78 : decode cX12_hasSpans 78 = .ok (.iconst 0, 1) := by decide +kernel
theorem dX12_hasSpans_79 : decode cX12_hasSpans 79 = .ok (.ireturn, 1) := by decide +kernel
set_option maxRecDepth 20000 in
theorem ggX12_line_X12_hasSpans : GoodIn wsX12_line wsX12_hasSpans := goodIn_sub (gi_t pz_X12_line_X12_line_r1 6 rfl (gi_a (gi_a (gi_t pz_X12_line_X12_line_r1 7 rfl (gi_t pz_X12_line_X12_line_r1 0 rfl (gi_t pz_X12_line_X12_line_r1 8 rfl (gi_t pz_X12_line_X12_line_r1 9 rfl (gi_t pz_X12_line_X12_line_r1 10 rfl (gi_t pz_X12_line_X12_line_r1 11 rfl (gi_t pz_X12_line_X12_line_r1 12 rfl (gi_t pz_X12_line_X12_line_r1 13 rfl (gi_t pz_X12_line_X12_line_r1 5 rfl (gi_t pz_X12_line_X12_line_r1 14 rfl (gi_t pz_X12_line_X12_line_r1 15 rfl (gi_t pz_X12_line_X12_line_r1 16 rfl (gi_t pz_X12_line_X12_line_r1 17 rfl (gi_t pz_X12_line_X12_line_r1 18 rfl (gi_t pz_X12_line_X12_line_r1 19 rfl (gi_t pz_X12_line_X12_line_r1 20 rfl (gi_t pz_X12_line_X12_line_r1 21 rfl (gi_t pz_X12_line_X12_line_r1 22 rfl (gi_t pz_X12_line_X12_line_r1 23 rfl (gi_t pz_X12_line_X12_line_r2 0 rfl (gi_t pz_X12_line_X12_line_r2 1 rfl (gi_t pz_X12_line_X12_line_r2 2 rfl (gi_t pz_X12_line_X12_line_r2 3 rfl (gi_t pz_X12_line_X12_line_r2 4 rfl gi_n)))))))))))))))))))))))) (gi_t pz_X12_line_X12_line_r2 5 rfl (gi_t pz_X12_line_X12_line_r2 6 rfl (gi_t pz_X12_line_X12_line_r2 7 rfl (gi_t pz_X12_line_X12_line_r2 8 rfl (gi_t pz_X12_line_X12_line_r2 9 rfl (gi_t pz_X12_line_X12_line_r2 10 rfl (gi_t pz_X12_line_X12_line_r2 11 rfl (gi_t pz_X12_line_X12_line_r2 12 rfl (gi_t pz_X12_line_X12_line_r2 13 rfl (gi_t pz_X12_line_X12_line_r2 14 rfl (gi_t pz_X12_line_X12_line_r2 15 rfl (gi_t pz_X12_line_X12_line_r2 16 rfl (gi_t pz_X12_line_X12_line_r2 17 rfl (gi_t pz_X12_line_X12_line_r1 1 rfl (gi_t pz_X12_line_X12_line_r2 18 rfl (gi_t pz_X12_line_X12_line_r2 19 rfl (gi_t pz_X12_line_X12_line_r2 20 rfl (gi_t pz_X12_line_X12_line_r2 21 rfl gi_n))))))))))))))))))) pz_X12_line_X120)) (by decide +kernel)
set_option maxRecDepth 20000 in
theorem gX12_line_X12_hasSpans : GoodIn wsX12_line (wsV RX12 203 RX12 yX12_hasSpans wsX12_hasSpans) := goodIn_app (goodIn_of _ (by decide +kernel)) ggX12_line_X12_hasSpans
set_option maxRecDepth 20000 in
theorem ggX12_line_X12_in : GoodIn wsX12_line wsX12_in := goodIn_sub (gi_t pz_X12_line_X12_line_r3 0 rfl gi_n) (by decide +kernel)
set_option maxRecDepth 20000 in
theorem gX12_line_X12_in : GoodIn wsX12_line (va_wsS RX12 76 yX12_in wsX12_in) := goodIn_app (goodIn_of _ (by decide +kernel)) ggX12_line_X12_in
theorem dX12_line_0 : decode cX12_line 0 = .ok (.aload_n 0, 1) := by decide +kernel
theorem dX12_line_1 : decode cX12_line 1 = .ok (.invokevirtual 203, 3) := by decide +kernel
theorem dX12_line_4 : decode cX12_line 4 = .ok (.ifCond .eq 26, 3) := by decide +kernel
theorem dX12_line_7 : decode cX12_line 7 = .ok (.iload_n 1, 1) := by decide +kernel
theorem dX12_line_8 : decode cX12_line 8 = .ok (.iconst 0, 1) := by decide +kernel
theorem dX12_line_9 : decode cX12_line 9 = .ok (.aload_n 0, 1) := by decide +kernel
theorem dX12_line_10 : decode cX12_line 10 = .ok (.getfield 197, 3) := by decide +kernel
theorem dX12_line_13 : decode cX12_line 13 = .ok (.iconst 1, 1) := by decide +kernel
theorem dX12_line_14 : decode cX12_line 14 = .ok (.isub, 1) := by decide +kernel
theorem dX12_line_15 : decode cX12_line 15 = .ok (.invokestatic 76, 3) := by decide +kernel
theorem dX12_line_18 : decode cX12_line 18 = .ok (.ifCond .eq 12, 3) := by decide +kernel
theorem dX12_line_21 : decode cX12_line 21 = .ok (.aload_n 0, 1) := by decide +kernel
theorem dX12_line_22 : decode cX12_line 22 = .ok (.getfield 64, 3) := by decide +kernel
theorem dX12_line_25 : decode cX12_line 25 = .ok (.iload_n 1, 1) := by decide +kernel
theorem dX12_line_26 : decode cX12_line 26 = .ok (.iaload, 1) := by decide +kernel
theorem dX12_line_27 : decode cX12_line 27 = .ok (.goto 5, 3) := by decide +kernel
theorem dX12_line_30 : decode cX12_line 30 = .ok (.bipush (-9), 2) := by decide +kernel
theorem dX12_line_32 : decode cX12_line 32 = .ok (.ireturn, 1) := by decide +kernel
set_option maxRecDepth 20000 in
theorem ggX12_span_X12_isNode : GoodIn wsX12_span wsX12_isNode := goodIn_sub (gi_t pz_X12_span_X12_span_r1 7 rfl (gi_a (gi_t pz_X12_span_X12_span_r1 8 rfl (gi_t pz_X12_span_X12_span_r1 9 rfl (gi_t pz_X12_span_X12_span_r1 10 rfl (gi_t pz_X12_span_X12_span_r1 6 rfl (gi_t pz_X12_span_X12_span_r1 11 rfl gi_n))))) pz_X12_span_X120)) (by decide +kernel)
set_option maxRecDepth 20000 in
theorem gX12_span_X12_isNode : GoodIn wsX12_span (wsV RX12 86 RX12 yX12_isNode wsX12_isNode) := goodIn_app (goodIn_of _ (by decide +kernel)) ggX12_span_X12_isNode
set_option maxRecDepth 20000 in
theorem ggX12_span_X12_hasSpans : GoodIn wsX12_span wsX12_hasSpans := goodIn_sub (gi_t pz_X12_span_X12_span_r1 15 rfl (gi_a (gi_a (gi_t pz_X12_span_X12_span_r1 16 rfl (gi_t pz_X12_span_X12_span_r1 0 rfl (gi_t pz_X12_span_X12_span_r1 17 rfl (gi_t pz_X12_span_X12_span_r1 18 rfl (gi_t pz_X12_span_X12_span_r1 1 rfl (gi_t pz_X12_span_X12_span_r1 19 rfl (gi_t pz_X12_span_X12_span_r1 20 rfl (gi_t pz_X12_span_X12_span_r1 21 rfl (gi_t pz_X12_span_X12_span_r1 6 rfl (gi_t pz_X12_span_X12_span_r1 22 rfl (gi_t pz_X12_span_X12_span_r1 23 rfl (gi_t pz_X12_span_X12_span_r2 0 rfl (gi_t pz_X12_span_X12_span_r2 1 rfl (gi_t pz_X12_span_X12_span_r2 2 rfl (gi_t pz_X12_span_X12_span_r1 8 rfl (gi_t pz_X12_span_X12_span_r2 3 rfl (gi_t pz_X12_span_X12_span_r2 4 rfl (gi_t pz_X12_span_X12_span_r2 5 rfl (gi_t pz_X12_span_X12_span_r2 6 rfl (gi_t pz_X12_span_X12_span_r2 7 rfl (gi_t pz_X12_span_X12_span_r2 8 rfl (gi_t pz_X12_span_X12_span_r2 9 rfl (gi_t pz_X12_span_X12_span_r2 10 rfl (gi_t pz_X12_span_X12_span_r2 11 rfl gi_n)))))))))))))))))))))))) (gi_t pz_X12_span_X12_span_r2 12 rfl (gi_t pz_X12_span_X12_span_r2 13 rfl (gi_t pz_X12_span_X12_span_r2 14 rfl (gi_t pz_X12_span_X12_span_r2 15 rfl (gi_t pz_X12_span_X12_span_r2 16 rfl (gi_t pz_X12_span_X12_span_r2 17 rfl (gi_t pz_X12_span_X12_span_r2 18 rfl (gi_t pz_X12_span_X12_span_r2 19 rfl (gi_t pz_X12_span_X12_span_r2 20 rfl (gi_t pz_X12_span_X12_span_r2 21 rfl (gi_t pz_X12_span_X12_span_r2 22 rfl (gi_t pz_X12_span_X12_span_r2 23 rfl (gi_t pz_X12_span_X12_span_r3 0 rfl (gi_t pz_X12_span_X12_span_r1 2 rfl (gi_t pz_X12_span_X12_span_r3 1 rfl (gi_t pz_X12_span_X12_span_r3 2 rfl (gi_t pz_X12_span_X12_span_r3 3 rfl (gi_t pz_X12_span_X12_span_r3 4 rfl gi_n))))))))))))))))))) pz_X12_span_X120)) (by decide +kernel)
set_option maxRecDepth 20000 in
theorem gX12_span_X12_hasSpans : GoodIn wsX12_span (wsV RX12 203 RX12 yX12_hasSpans wsX12_hasSpans) := goodIn_app (goodIn_of _ (by decide +kernel)) ggX12_span_X12_hasSpans
set_option maxRecDepth 20000 in
theorem ggX12_span_X12_has : GoodIn wsX12_span wsX12_has := goodIn_sub (gi_t pz_X12_span_X12_span_r2 14 rfl gi_n) (by decide +kernel)
set_option maxRecDepth 20000 in
theorem gX12_span_X12_has : GoodIn wsX12_span (va_wsS RX12 90 yX12_has wsX12_has) := goodIn_app (goodIn_of _ (by decide +kernel)) ggX12_span_X12_has
theorem dX12_span_0 : decode cX12_span 0 = .ok (.aload_n 0, 1) := by decide +kernel
theorem dX12_span_1 : decode cX12_span 1 = .ok (.iload_n 1, 1) := by decide +kernel
theorem dX12_span_2 : decode cX12_span 2 = .ok (.invokevirtual 86, 3) := by decide +kernel
theorem dX12_span_5 : decode cX12_span 5 = .ok (.ifCond .ne 5, 3) := by decide +kernel
theorem dX12_span_8 : decode cX12_span 8 = .ok (.iconst (-1), 1) := by decide +kernel
theorem dX12_span_9 : decode cX12_span 9 = .ok (.ireturn, 1) := by decide +kernel
theorem dX12_span_10 : decode cX12_span 10 = .ok (.aload_n 0, 1) := by decide +kernel
theorem dX12_span_11 : decode cX12_span 11 = .ok (.invokevirtual 203, 3) := by decide +kernel
theorem dX12_span_14 : decode cX12_span 14 = .ok (.ifCond .ne 6, 3) := by decide +kernel
theorem dX12_span_17 : decode cX12_span 17 = .ok (.bipush (-4), 2) := by decide +kernel
theorem dX12_span_19 : decode cX12_span 19 = .ok (.ireturn, 1) := by decide +kernel
theorem dX12_span_20 : decode cX12_span 20 = .ok (.bipush (-9), 2) := by decide +kernel
theorem dX12_span_22 : decode cX12_span 22 = .ok (.istore_n 3, 1) := by decide +kernel
theorem dX12_span_23 : decode cX12_span 23 = .ok (.bipush (-9), 2) := by decide +kernel
theorem dX12_span_25 : decode cX12_span 25 = .ok (.istore 4, 2) := by decide +kernel
theorem dX12_span_27 : decode cX12_span 27 = .ok (.iconst 0, 1) := by decide +kernel
theorem dX12_span_28 : decode cX12_span 28 = .ok (.istore 5, 2) := by decide +kernel
theorem dX12_span_30 : decode cX12_span 30 = .ok (.iload 5, 2) := by decide +kernel
theorem dX12_span_32 : decode cX12_span 32 = .ok (.aload_n 0, 1) := by decide +kernel
theorem dX12_span_33 : decode cX12_span 33 = .ok (.getfield 197, 3) := by decide +kernel
theorem dX12_span_36 : decode cX12_span 36 = .ok (.if_icmp .ge 57, 3) := by decide +kernel
theorem dX12_span_39 : decode cX12_span 39 = .ok (.aload_n 0, 1) := by decide +kernel
theorem dX12_span_40 : decode cX12_span 40 = .ok (.getfield 45, 3) := by decide +kernel
theorem dX12_span_43 : decode cX12_span 43 = .ok (.aload_n 0, 1) := by decide +kernel
theorem dX12_span_44 : decode cX12_span 44 = .ok (.getfield 64, 3) := by decide +kernel
theorem dX12_span_47 : decode cX12_span 47 = .ok (.iload 5, 2) := by decide +kernel
theorem dX12_span_49 : decode cX12_span 49 = .ok (.iaload, 1) := by decide +kernel
theorem dX12_span_50 : decode cX12_span 50 = .ok (.iaload, 1) := by decide +kernel
theorem dX12_span_51 : decode cX12_span 51 = .ok (.iload_n 1, 1) := by decide +kernel
theorem dX12_span_52 : decode cX12_span 52 = .ok (.invokestatic 90, 3) := by decide +kernel
theorem dX12_span_55 : decode cX12_span 55 = .ok (.istore 6, 2) := by decide +kernel
theorem dX12_span_57 : decode cX12_span 57 = .ok (.iload 6, 2) := by decide +kernel
theorem dX12_span_59 : decode cX12_span 59 = .ok (.ifCond .eq 12, 3) := by decide +kernel
theorem dX12_span_62 : decode cX12_span 62 = .ok (.iload_n 3, 1) := by decide +kernel
theorem dX12_span_63 : decode cX12_span 63 = .ok (.ifCond .ge 8, 3) := by decide +kernel
theorem dX12_span_66 : decode cX12_span 66 = .ok (.iload 5, 2) := by decide +kernel
theorem dX12_span_68 : decode cX12_span 68 = .ok (.goto 4, 3) := by decide +kernel
theorem dX12_span_71 : decode cX12_span 71 = .ok (.iload_n 3, 1) := by decide +kernel
theorem dX12_span_72 : decode cX12_span 72 = .ok (.istore_n 3, 1) := by decide +kernel
theorem dX12_span_73 : decode cX12_span 73 = .ok (.iload 6, 2) := by decide +kernel
theorem dX12_span_75 : decode cX12_span 75 = .ok (.ifCond .eq 8, 3) := by decide +kernel
theorem dX12_span_78 : decode cX12_span 78 = .ok (.iload 5, 2) := by decide +kernel
theorem dX12_span_80 : decode cX12_span 80 = .ok (.goto 5, 3) := by decide +kernel
theorem dX12_span_83 : decode cX12_span 83 = .ok (.iload 4, 2) := by decide +kernel
theorem dX12_span_85 : decode cX12_span 85 = .ok (.istore 4, 2) := by decide +kernel
theorem dX12_span_87 : decode cX12_span 87 = .ok (.iinc 5 1, 3) := by decide +kernel
theorem dX12_span_90 : decode cX12_span 90 = .ok (.goto (-60), 3) := by decide +kernel
theorem dX12_span_93 : decode cX12_span 93 = .ok (.iload_n 2, 1) := by decide +kernel
theorem dX12_span_94 : decode cX12_span 94 = .ok (.ifCond .eq 8, 3) := by decide +kernel
theorem dX12_span_97 : decode cX12_span 97 = .ok (.iload 4, 2) := by decide +kernel
theorem dX12_span_99 : decode cX12_span 99 = .ok (.goto 4, 3) := by decide +kernel
theorem dX12_span_102 : decode cX12_span 102 = .ok (.iload_n 3, 1) := by decide +kernel
theorem dX12_span_103 : decode cX12_span 103 = .ok (.ireturn, 1) := by decide +kernel
set_option maxRecDepth 20000 in
theorem ggX12_isFar_X12_isApart : GoodIn wsX12_isFar wsX12_isApart := goodIn_sub (gi_c 6 rfl (gi_a (gi_c 7 rfl (gi_c 1 rfl (gi_c 8 rfl (gi_c 9 rfl (gi_c 5 rfl (gi_c 10 rfl gi_n)))))) pz_X12_isFar_X120)) (by decide +kernel)
set_option maxRecDepth 20000 in
theorem gX12_isFar_X12_isApart : GoodIn wsX12_isFar (wsV RX12 173 RX12 yX12_isApart wsX12_isApart) := goodIn_app (goodIn_of _ (by decide +kernel)) ggX12_isFar_X12_isApart
set_option maxRecDepth 20000 in
theorem ggX12_isFar_X12_reach : GoodIn wsX12_isFar wsX12_reach := goodIn_sub (gi_c 14 rfl (gi_a (gi_c 7 rfl (gi_c 1 rfl (gi_c 8 rfl (gi_c 9 rfl (gi_c 5 rfl (gi_c 10 rfl gi_n)))))) pz_X12_isFar_X120)) (by decide +kernel)
set_option maxRecDepth 20000 in
theorem gX12_isFar_X12_reach : GoodIn wsX12_isFar (wsV RX12 182 RX12 yX12_reach wsX12_reach) := goodIn_app (goodIn_of _ (by decide +kernel)) ggX12_isFar_X12_reach
set_option maxRecDepth 20000 in
theorem ggX12_isFar_X12_has : GoodIn wsX12_isFar wsX12_has := goodIn_sub (gi_c 10 rfl gi_n) (by decide +kernel)
set_option maxRecDepth 20000 in
theorem gX12_isFar_X12_has : GoodIn wsX12_isFar (va_wsS RX12 90 yX12_has wsX12_has) := goodIn_app (goodIn_of _ (by decide +kernel)) ggX12_isFar_X12_has
theorem dX12_isFar_0 : decode cX12_isFar 0 = .ok (.iconst 1, 1) := by decide +kernel
theorem dX12_isFar_1 : decode cX12_isFar 1 = .ok (.iload_n 1, 1) := by decide +kernel
theorem dX12_isFar_2 : decode cX12_isFar 2 = .ok (.ishl, 1) := by decide +kernel
theorem dX12_isFar_3 : decode cX12_isFar 3 = .ok (.iconst 1, 1) := by decide +kernel
theorem dX12_isFar_4 : decode cX12_isFar 4 = .ok (.iload_n 2, 1) := by decide +kernel
theorem dX12_isFar_5 : decode cX12_isFar 5 = .ok (.ishl, 1) := by decide +kernel
theorem dX12_isFar_6 : decode cX12_isFar 6 = .ok (.ior, 1) := by decide +kernel
theorem dX12_isFar_7 : decode cX12_isFar 7 = .ok (.iconst 1, 1) := by decide +kernel
theorem dX12_isFar_8 : decode cX12_isFar 8 = .ok (.iload_n 3, 1) := by decide +kernel
theorem dX12_isFar_9 : decode cX12_isFar 9 = .ok (.ishl, 1) := by decide +kernel
theorem dX12_isFar_10 : decode cX12_isFar 10 = .ok (.ior, 1) := by decide +kernel
theorem dX12_isFar_11 : decode cX12_isFar 11 = .ok (.istore 4, 2) := by decide +kernel
theorem dX12_isFar_13 : decode cX12_isFar 13 = .ok (.aload_n 0, 1) := by decide +kernel
theorem dX12_isFar_14 : decode cX12_isFar 14 = .ok (.iload 4, 2) := by decide +kernel
theorem dX12_isFar_16 : decode cX12_isFar 16 = .ok (.invokevirtual 173, 3) := by decide +kernel
theorem dX12_isFar_19 : decode cX12_isFar 19 = .ok (.ifCond .eq 73, 3) := by decide +kernel
theorem dX12_isFar_22 : decode cX12_isFar 22 = .ok (.aload_n 0, 1) := by decide +kernel
theorem dX12_isFar_23 : decode cX12_isFar 23 = .ok (.iload_n 1, 1) := by decide +kernel
theorem dX12_isFar_24 : decode cX12_isFar 24 = .ok (.aload_n 0, 1) := by decide +kernel
theorem dX12_isFar_25 : decode cX12_isFar 25 = .ok (.getfield 13, 3) := by decide +kernel
theorem dX12_isFar_28 : decode cX12_isFar 28 = .ok (.iload_n 3, 1) := by decide +kernel
theorem dX12_isFar_29 : decode cX12_isFar 29 = .ok (.iaload, 1) := by decide +kernel
theorem dX12_isFar_30 : decode cX12_isFar 30 = .ok (.iconst 1, 1) := by decide +kernel
theorem dX12_isFar_31 : decode cX12_isFar 31 = .ok (.iload_n 3, 1) := by decide +kernel
theorem dX12_isFar_32 : decode cX12_isFar 32 = .ok (.ishl, 1) := by decide +kernel
theorem dX12_isFar_33 : decode cX12_isFar 33 = .ok (.ior, 1) := by decide +kernel
theorem dX12_isFar_34 : decode cX12_isFar 34 = .ok (.invokevirtual 182, 3) := by decide +kernel
theorem dX12_isFar_37 : decode cX12_isFar 37 = .ok (.iload_n 2, 1) := by decide +kernel
theorem dX12_isFar_38 : decode cX12_isFar 38 = .ok (.invokestatic 90, 3) := by decide +kernel
theorem dX12_isFar_41 : decode cX12_isFar 41 = .ok (.ifCond .eq 51, 3) := by decide +kernel
theorem dX12_isFar_44 : decode cX12_isFar 44 = .ok (.aload_n 0, 1) := by decide +kernel
theorem dX12_isFar_45 : decode cX12_isFar 45 = .ok (.iload_n 1, 1) := by decide +kernel
theorem dX12_isFar_46 : decode cX12_isFar 46 = .ok (.aload_n 0, 1) := by decide +kernel
theorem dX12_isFar_47 : decode cX12_isFar 47 = .ok (.getfield 13, 3) := by decide +kernel
theorem dX12_isFar_50 : decode cX12_isFar 50 = .ok (.iload_n 2, 1) := by decide +kernel
theorem dX12_isFar_51 : decode cX12_isFar 51 = .ok (.iaload, 1) := by decide +kernel
theorem dX12_isFar_52 : decode cX12_isFar 52 = .ok (.iconst 1, 1) := by decide +kernel
theorem dX12_isFar_53 : decode cX12_isFar 53 = .ok (.iload_n 2, 1) := by decide +kernel
theorem dX12_isFar_54 : decode cX12_isFar 54 = .ok (.ishl, 1) := by decide +kernel
theorem dX12_isFar_55 : decode cX12_isFar 55 = .ok (.ior, 1) := by decide +kernel
theorem dX12_isFar_56 : decode cX12_isFar 56 = .ok (.invokevirtual 182, 3) := by decide +kernel
theorem dX12_isFar_59 : decode cX12_isFar 59 = .ok (.iload_n 3, 1) := by decide +kernel
theorem dX12_isFar_60 : decode cX12_isFar 60 = .ok (.invokestatic 90, 3) := by decide +kernel
theorem dX12_isFar_63 : decode cX12_isFar 63 = .ok (.ifCond .eq 29, 3) := by decide +kernel
theorem dX12_isFar_66 : decode cX12_isFar 66 = .ok (.aload_n 0, 1) := by decide +kernel
theorem dX12_isFar_67 : decode cX12_isFar 67 = .ok (.iload_n 2, 1) := by decide +kernel
theorem dX12_isFar_68 : decode cX12_isFar 68 = .ok (.aload_n 0, 1) := by decide +kernel
theorem dX12_isFar_69 : decode cX12_isFar 69 = .ok (.getfield 13, 3) := by decide +kernel
theorem dX12_isFar_72 : decode cX12_isFar 72 = .ok (.iload_n 1, 1) := by decide +kernel
theorem dX12_isFar_73 : decode cX12_isFar 73 = .ok (.iaload, 1) := by decide +kernel
theorem dX12_isFar_74 : decode cX12_isFar 74 = .ok (.iconst 1, 1) := by decide +kernel
theorem dX12_isFar_75 : decode cX12_isFar 75 = .ok (.iload_n 1, 1) := by decide +kernel
theorem dX12_isFar_76 : decode cX12_isFar 76 = .ok (.ishl, 1) := by decide +kernel
theorem dX12_isFar_77 : decode cX12_isFar 77 = .ok (.ior, 1) := by decide +kernel
theorem dX12_isFar_78 : decode cX12_isFar 78 = .ok (.invokevirtual 182, 3) := by decide +kernel
theorem dX12_isFar_81 : decode cX12_isFar 81 = .ok (.iload_n 3, 1) := by decide +kernel
theorem dX12_isFar_82 : decode cX12_isFar 82 = .ok (.invokestatic 90, 3) := by decide +kernel
theorem dX12_isFar_85 : decode cX12_isFar 85 = .ok (.ifCond .eq 7, 3) := by decide +kernel
theorem dX12_isFar_88 : decode cX12_isFar 88 = .ok (.iconst 1, 1) := by decide +kernel
theorem dX12_isFar_89 : decode cX12_isFar 89 = .ok (.goto 4, 3) := by decide +kernel
theorem dX12_isFar_92 : decode cX12_isFar 92 = .ok (.iconst 0, 1) := by decide +kernel
theorem dX12_isFar_93 : decode cX12_isFar 93 = .ok (.ireturn, 1) := by decide +kernel
set_option maxRecDepth 20000 in
theorem ggX12_far_X12_isFar : GoodIn wsX12_far wsX12_isFar := goodIn_sub (gi_c 6 rfl (gi_a (gi_c 7 rfl (gi_c 8 rfl (gi_c 9 rfl (gi_c 10 rfl (gi_c 5 rfl (gi_c 11 rfl (gi_c 1 rfl (gi_c 12 rfl (gi_c 13 rfl (gi_c 14 rfl (gi_c 15 rfl (gi_c 16 rfl (gi_c 17 rfl (gi_c 18 rfl gi_n)))))))))))))) pz_X12_far_X120)) (by decide +kernel)
set_option maxRecDepth 20000 in
theorem gX12_far_X12_isFar : GoodIn wsX12_far (wsV RX12 206 RX12 yX12_isFar wsX12_isFar) := goodIn_app (goodIn_of _ (by decide +kernel)) ggX12_far_X12_isFar
theorem dX12_far_0 : decode cX12_far 0 = .ok (.iconst 0, 1) := by decide +kernel
theorem dX12_far_1 : decode cX12_far 1 = .ok (.istore_n 2, 1) := by decide +kernel
theorem dX12_far_2 : decode cX12_far 2 = .ok (.iload_n 2, 1) := by decide +kernel
theorem dX12_far_3 : decode cX12_far 3 = .ok (.aload_n 0, 1) := by decide +kernel
theorem dX12_far_4 : decode cX12_far 4 = .ok (.getfield 73, 3) := by decide +kernel
theorem dX12_far_7 : decode cX12_far 7 = .ok (.if_icmp .ge 88, 3) := by decide +kernel
theorem dX12_far_10 : decode cX12_far 10 = .ok (.iload_n 2, 1) := by decide +kernel
theorem dX12_far_11 : decode cX12_far 11 = .ok (.iconst 1, 1) := by decide +kernel
theorem dX12_far_12 : decode cX12_far 12 = .ok (.iadd, 1) := by decide +kernel
theorem dX12_far_13 : decode cX12_far 13 = .ok (.istore_n 3, 1) := by decide +kernel
theorem dX12_far_14 : decode cX12_far 14 = .ok (.iload_n 3, 1) := by decide +kernel
theorem dX12_far_15 : decode cX12_far 15 = .ok (.aload_n 0, 1) := by decide +kernel
theorem dX12_far_16 : decode cX12_far 16 = .ok (.getfield 73, 3) := by decide +kernel
theorem dX12_far_19 : decode cX12_far 19 = .ok (.if_icmp .ge 70, 3) := by decide +kernel
theorem dX12_far_22 : decode cX12_far 22 = .ok (.iload_n 3, 1) := by decide +kernel
theorem dX12_far_23 : decode cX12_far 23 = .ok (.iconst 1, 1) := by decide +kernel
theorem dX12_far_24 : decode cX12_far 24 = .ok (.iadd, 1) := by decide +kernel
theorem dX12_far_25 : decode cX12_far 25 = .ok (.istore 4, 2) := by decide +kernel
theorem dX12_far_27 : decode cX12_far 27 = .ok (.iload 4, 2) := by decide +kernel
theorem dX12_far_29 : decode cX12_far 29 = .ok (.aload_n 0, 1) := by decide +kernel
theorem dX12_far_30 : decode cX12_far 30 = .ok (.getfield 73, 3) := by decide +kernel
theorem dX12_far_33 : decode cX12_far 33 = .ok (.if_icmp .ge 50, 3) := by decide +kernel
theorem dX12_far_36 : decode cX12_far 36 = .ok (.aload_n 0, 1) := by decide +kernel
theorem dX12_far_37 : decode cX12_far 37 = .ok (.iload_n 2, 1) := by decide +kernel
theorem dX12_far_38 : decode cX12_far 38 = .ok (.iload_n 3, 1) := by decide +kernel
theorem dX12_far_39 : decode cX12_far 39 = .ok (.iload 4, 2) := by decide +kernel
theorem dX12_far_41 : decode cX12_far 41 = .ok (.invokevirtual 206, 3) := by decide +kernel
theorem dX12_far_44 : decode cX12_far 44 = .ok (.ifCond .eq 33, 3) := by decide +kernel
theorem dX12_far_47 : decode cX12_far 47 = .ok (.iload_n 1, 1) := by decide +kernel
theorem dX12_far_48 : decode cX12_far 48 = .ok (.ifCond .ne 7, 3) := by decide +kernel
theorem dX12_far_51 : decode cX12_far 51 = .ok (.iload_n 2, 1) := by decide +kernel
theorem dX12_far_52 : decode cX12_far 52 = .ok (.goto 24, 3) := by decide +kernel
theorem dX12_far_55 : decode cX12_far 55 = .ok (.iload_n 1, 1) := by decide +kernel
theorem dX12_far_56 : decode cX12_far 56 = .ok (.iconst 1, 1) := by decide +kernel
theorem dX12_far_57 : decode cX12_far 57 = .ok (.if_icmp .ne 7, 3) := by decide +kernel
theorem dX12_far_60 : decode cX12_far 60 = .ok (.iload_n 3, 1) := by decide +kernel
theorem dX12_far_61 : decode cX12_far 61 = .ok (.goto 15, 3) := by decide +kernel
theorem dX12_far_64 : decode cX12_far 64 = .ok (.iload_n 1, 1) := by decide +kernel
theorem dX12_far_65 : decode cX12_far 65 = .ok (.iconst 2, 1) := by decide +kernel
theorem dX12_far_66 : decode cX12_far 66 = .ok (.if_icmp .ne 8, 3) := by decide +kernel
theorem dX12_far_69 : decode cX12_far 69 = .ok (.iload 4, 2) := by decide +kernel
theorem dX12_far_71 : decode cX12_far 71 = .ok (.goto 5, 3) := by decide +kernel
theorem dX12_far_74 : decode cX12_far 74 = .ok (.bipush (-9), 2) := by decide +kernel
theorem dX12_far_76 : decode cX12_far 76 = .ok (.ireturn, 1) := by decide +kernel
theorem dX12_far_77 : decode cX12_far 77 = .ok (.iinc 4 1, 3) := by decide +kernel
theorem dX12_far_80 : decode cX12_far 80 = .ok (.goto (-53), 3) := by decide +kernel
theorem dX12_far_83 : decode cX12_far 83 = .ok (.iinc 3 1, 3) := by decide +kernel
theorem dX12_far_86 : decode cX12_far 86 = .ok (.goto (-72), 3) := by decide +kernel
theorem dX12_far_89 : decode cX12_far 89 = .ok (.iinc 2 1, 3) := by decide +kernel
theorem dX12_far_92 : decode cX12_far 92 = .ok (.goto (-90), 3) := by decide +kernel
theorem dX12_far_95 : decode cX12_far 95 = .ok (.bipush (-9), 2) := by decide +kernel
theorem dX12_far_97 : decode cX12_far 97 = .ok (.ireturn, 1) := by decide +kernel
set_option maxRecDepth 20000 in
theorem ggX12_columns_X12_meets : GoodIn wsX12_columns wsX12_meets := goodIn_sub (gi_c 7 rfl (gi_a (gi_c 8 rfl (gi_c 9 rfl gi_n)) pz_X12_columns_X120)) (by decide +kernel)
set_option maxRecDepth 20000 in
theorem gX12_columns_X12_meets : GoodIn wsX12_columns (wsV RX12 112 RX12 yX12_meets wsX12_meets) := goodIn_app (goodIn_of _ (by decide +kernel)) ggX12_columns_X12_meets
theorem dX12_columns_0 : decode cX12_columns 0 = .ok (.iload_n 1, 1) := by decide +kernel
theorem dX12_columns_1 : decode cX12_columns 1 = .ok (.bipush 8, 2) := by decide +kernel
theorem dX12_columns_3 : decode cX12_columns 3 = .ok (.if_icmp .le 5, 3) := by decide +kernel
theorem dX12_columns_6 : decode cX12_columns 6 = .ok (.iconst (-1), 1) := by decide +kernel
theorem dX12_columns_7 : decode cX12_columns 7 = .ok (.ireturn, 1) := by decide +kernel
theorem dX12_columns_8 : decode cX12_columns 8 = .ok (.iload_n 1, 1) := by decide +kernel
theorem dX12_columns_9 : decode cX12_columns 9 = .ok (.ifCond .ge 9, 3) := by decide +kernel
theorem dX12_columns_12 : decode cX12_columns 12 = .ok (.aload_n 0, 1) := by decide +kernel
theorem dX12_columns_13 : decode cX12_columns 13 = .ok (.iconst 4, 1) := by decide +kernel
theorem dX12_columns_14 : decode cX12_columns 14 = .ok (.invokevirtual 112, 3) := by decide +kernel
theorem dX12_columns_17 : decode cX12_columns 17 = .ok (.ireturn, 1) := by decide +kernel
theorem dX12_columns_18 : decode cX12_columns 18 = .ok (.aload_n 0, 1) := by decide +kernel
theorem dX12_columns_19 : decode cX12_columns 19 = .ok (.iload_n 1, 1) := by decide +kernel
theorem dX12_columns_20 : decode cX12_columns 20 = .ok (.putfield 128, 3) := by decide +kernel
theorem dX12_columns_23 : decode cX12_columns 23 = .ok (.iconst 0, 1) := by decide +kernel
theorem dX12_columns_24 : decode cX12_columns 24 = .ok (.istore_n 2, 1) := by decide +kernel
theorem dX12_columns_25 : decode cX12_columns 25 = .ok (.iload_n 2, 1) := by decide +kernel
theorem dX12_columns_26 : decode cX12_columns 26 = .ok (.bipush 12, 2) := by decide +kernel
theorem dX12_columns_28 : decode cX12_columns 28 = .ok (.if_icmp .ge 17, 3) := by decide +kernel
theorem dX12_columns_31 : decode cX12_columns 31 = .ok (.aload_n 0, 1) := by decide +kernel
theorem dX12_columns_32 : decode cX12_columns 32 = .ok (.getfield 16, 3) := by decide +kernel
theorem dX12_columns_35 : decode cX12_columns 35 = .ok (.iload_n 2, 1) := by decide +kernel
theorem dX12_columns_36 : decode cX12_columns 36 = .ok (.bipush (-9), 2) := by decide +kernel
theorem dX12_columns_38 : decode cX12_columns 38 = .ok (.iastore, 1) := by decide +kernel
theorem dX12_columns_39 : decode cX12_columns 39 = .ok (.iinc 2 1, 3) := by decide +kernel
theorem dX12_columns_42 : decode cX12_columns 42 = .ok (.goto (-17), 3) := by decide +kernel
theorem dX12_columns_45 : decode cX12_columns 45 = .ok (.iload_n 1, 1) := by decide +kernel
theorem dX12_columns_46 : decode cX12_columns 46 = .ok (.ireturn, 1) := by decide +kernel
set_option maxRecDepth 20000 in
theorem ggX12_row_X12_in : GoodIn wsX12_row wsX12_in := goodIn_sub (gi_c 6 rfl gi_n) (by decide +kernel)
set_option maxRecDepth 20000 in
theorem gX12_row_X12_in : GoodIn wsX12_row (va_wsS RX12 76 yX12_in wsX12_in) := goodIn_app (goodIn_of _ (by decide +kernel)) ggX12_row_X12_in
set_option maxRecDepth 20000 in
theorem ggX12_row_X12_meets : GoodIn wsX12_row wsX12_meets := goodIn_sub (gi_c 10 rfl (gi_a (gi_c 11 rfl (gi_c 12 rfl gi_n)) pz_X12_row_X120)) (by decide +kernel)
set_option maxRecDepth 20000 in
theorem gX12_row_X12_meets : GoodIn wsX12_row (wsV RX12 112 RX12 yX12_meets wsX12_meets) := goodIn_app (goodIn_of _ (by decide +kernel)) ggX12_row_X12_meets
theorem dX12_row_0 : decode cX12_row 0 = .ok (.iload_n 2, 1) := by decide +kernel
theorem dX12_row_1 : decode cX12_row 1 = .ok (.iconst 0, 1) := by decide +kernel
theorem dX12_row_2 : decode cX12_row 2 = .ok (.iconst 1, 1) := by decide +kernel
theorem dX12_row_3 : decode cX12_row 3 = .ok (.aload_n 0, 1) := by decide +kernel
theorem dX12_row_4 : decode cX12_row 4 = .ok (.getfield 128, 3) := by decide +kernel
theorem dX12_row_7 : decode cX12_row 7 = .ok (.ishl, 1) := by decide +kernel
theorem dX12_row_8 : decode cX12_row 8 = .ok (.iconst 1, 1) := by decide +kernel
theorem dX12_row_9 : decode cX12_row 9 = .ok (.isub, 1) := by decide +kernel
theorem dX12_row_10 : decode cX12_row 10 = .ok (.invokestatic 76, 3) := by decide +kernel
theorem dX12_row_13 : decode cX12_row 13 = .ok (.ifCond .ne 5, 3) := by decide +kernel
theorem dX12_row_16 : decode cX12_row 16 = .ok (.iconst (-1), 1) := by decide +kernel
theorem dX12_row_17 : decode cX12_row 17 = .ok (.ireturn, 1) := by decide +kernel
theorem dX12_row_18 : decode cX12_row 18 = .ok (.iload_n 1, 1) := by decide +kernel
theorem dX12_row_19 : decode cX12_row 19 = .ok (.iconst 0, 1) := by decide +kernel
theorem dX12_row_20 : decode cX12_row 20 = .ok (.bipush 11, 2) := by decide +kernel
theorem dX12_row_22 : decode cX12_row 22 = .ok (.invokestatic 76, 3) := by decide +kernel
theorem dX12_row_25 : decode cX12_row 25 = .ok (.ifCond .ne 9, 3) := by decide +kernel
theorem dX12_row_28 : decode cX12_row 28 = .ok (.aload_n 0, 1) := by decide +kernel
theorem dX12_row_29 : decode cX12_row 29 = .ok (.iconst 2, 1) := by decide +kernel
theorem dX12_row_30 : decode cX12_row 30 = .ok (.invokevirtual 112, 3) := by decide +kernel
theorem dX12_row_33 : decode cX12_row 33 = .ok (.ireturn, 1) := by decide +kernel
theorem dX12_row_34 : decode cX12_row 34 = .ok (.aload_n 0, 1) := by decide +kernel
theorem dX12_row_35 : decode cX12_row 35 = .ok (.getfield 16, 3) := by decide +kernel
theorem dX12_row_38 : decode cX12_row 38 = .ok (.iload_n 1, 1) := by decide +kernel
theorem dX12_row_39 : decode cX12_row 39 = .ok (.iload_n 2, 1) := by decide +kernel
theorem dX12_row_40 : decode cX12_row 40 = .ok (.iastore, 1) := by decide +kernel
theorem dX12_row_41 : decode cX12_row 41 = .ok (.iconst 1, 1) := by decide +kernel
theorem dX12_row_42 : decode cX12_row 42 = .ok (.ireturn, 1) := by decide +kernel
set_option maxRecDepth 20000 in
theorem ggX12_told_X12_in : GoodIn wsX12_told wsX12_in := goodIn_sub (gi_c 5 rfl gi_n) (by decide +kernel)
set_option maxRecDepth 20000 in
theorem gX12_told_X12_in : GoodIn wsX12_told (va_wsS RX12 76 yX12_in wsX12_in) := goodIn_app (goodIn_of _ (by decide +kernel)) ggX12_told_X12_in
set_option maxRecDepth 20000 in
theorem ggX12_told_X12_meets : GoodIn wsX12_told wsX12_meets := goodIn_sub (gi_c 9 rfl (gi_a (gi_c 10 rfl (gi_c 11 rfl gi_n)) pz_X12_told_X120)) (by decide +kernel)
set_option maxRecDepth 20000 in
theorem gX12_told_X12_meets : GoodIn wsX12_told (wsV RX12 112 RX12 yX12_meets wsX12_meets) := goodIn_app (goodIn_of _ (by decide +kernel)) ggX12_told_X12_meets
theorem dX12_told_0 : decode cX12_told 0 = .ok (.iload_n 1, 1) := by decide +kernel
theorem dX12_told_1 : decode cX12_told 1 = .ok (.iconst 0, 1) := by decide +kernel
theorem dX12_told_2 : decode cX12_told 2 = .ok (.bipush 11, 2) := by decide +kernel
theorem dX12_told_4 : decode cX12_told 4 = .ok (.invokestatic 76, 3) := by decide +kernel
theorem dX12_told_7 : decode cX12_told 7 = .ok (.ifCond .ne 11, 3) := by decide +kernel
theorem dX12_told_10 : decode cX12_told 10 = .ok (.aload_n 0, 1) := by decide +kernel
theorem dX12_told_11 : decode cX12_told 11 = .ok (.iconst 2, 1) := by decide +kernel
theorem dX12_told_12 : decode cX12_told 12 = .ok (.invokevirtual 112, 3) := by decide +kernel
theorem dX12_told_15 : decode cX12_told 15 = .ok (.goto 26, 3) := by decide +kernel
theorem dX12_told_18 : decode cX12_told 18 = .ok (.aload_n 0, 1) := by decide +kernel
theorem dX12_told_19 : decode cX12_told 19 = .ok (.getfield 16, 3) := by decide +kernel
theorem dX12_told_22 : decode cX12_told 22 = .ok (.iload_n 1, 1) := by decide +kernel
theorem dX12_told_23 : decode cX12_told 23 = .ok (.iaload, 1) := by decide +kernel
theorem dX12_told_24 : decode cX12_told 24 = .ok (.ifCond .ge 11, 3) := by decide +kernel
theorem dX12_told_27 : decode cX12_told 27 = .ok (.aload_n 0, 1) := by decide +kernel
theorem dX12_told_28 : decode cX12_told 28 = .ok (.iconst 1, 1) := by decide +kernel
theorem dX12_told_29 : decode cX12_told 29 = .ok (.invokevirtual 112, 3) := by decide +kernel
theorem dX12_told_32 : decode cX12_told 32 = .ok (.goto 9, 3) := by decide +kernel
theorem dX12_told_35 : decode cX12_told 35 = .ok (.aload_n 0, 1) := by decide +kernel
theorem dX12_told_36 : decode cX12_told 36 = .ok (.getfield 16, 3) := by decide +kernel
theorem dX12_told_39 : decode cX12_told 39 = .ok (.iload_n 1, 1) := by decide +kernel
theorem dX12_told_40 : decode cX12_told 40 = .ok (.iaload, 1) := by decide +kernel
theorem dX12_told_41 : decode cX12_told 41 = .ok (.ireturn, 1) := by decide +kernel
set_option maxRecDepth 20000 in
theorem ggX12_tear_X12_in : GoodIn wsX12_tear wsX12_in := goodIn_sub (gi_c 5 rfl gi_n) (by decide +kernel)
set_option maxRecDepth 20000 in
theorem gX12_tear_X12_in : GoodIn wsX12_tear (va_wsS RX12 76 yX12_in wsX12_in) := goodIn_app (goodIn_of _ (by decide +kernel)) ggX12_tear_X12_in
set_option maxRecDepth 20000 in
theorem ggX12_tear_X12_meets : GoodIn wsX12_tear wsX12_meets := goodIn_sub (gi_c 9 rfl (gi_a (gi_c 10 rfl (gi_c 11 rfl gi_n)) pz_X12_tear_X120)) (by decide +kernel)
set_option maxRecDepth 20000 in
theorem gX12_tear_X12_meets : GoodIn wsX12_tear (wsV RX12 112 RX12 yX12_meets wsX12_meets) := goodIn_app (goodIn_of _ (by decide +kernel)) ggX12_tear_X12_meets
theorem dX12_tear_0 : decode cX12_tear 0 = .ok (.iload_n 1, 1) := by decide +kernel
theorem dX12_tear_1 : decode cX12_tear 1 = .ok (.iconst 0, 1) := by decide +kernel
theorem dX12_tear_2 : decode cX12_tear 2 = .ok (.bipush 11, 2) := by decide +kernel
theorem dX12_tear_4 : decode cX12_tear 4 = .ok (.invokestatic 76, 3) := by decide +kernel
theorem dX12_tear_7 : decode cX12_tear 7 = .ok (.ifCond .ne 9, 3) := by decide +kernel
theorem dX12_tear_10 : decode cX12_tear 10 = .ok (.aload_n 0, 1) := by decide +kernel
theorem dX12_tear_11 : decode cX12_tear 11 = .ok (.iconst 2, 1) := by decide +kernel
theorem dX12_tear_12 : decode cX12_tear 12 = .ok (.invokevirtual 112, 3) := by decide +kernel
theorem dX12_tear_15 : decode cX12_tear 15 = .ok (.ireturn, 1) := by decide +kernel
theorem dX12_tear_16 : decode cX12_tear 16 = .ok (.aload_n 0, 1) := by decide +kernel
theorem dX12_tear_17 : decode cX12_tear 17 = .ok (.getfield 16, 3) := by decide +kernel
theorem dX12_tear_20 : decode cX12_tear 20 = .ok (.iload_n 1, 1) := by decide +kernel
theorem dX12_tear_21 : decode cX12_tear 21 = .ok (.iaload, 1) := by decide +kernel
theorem dX12_tear_22 : decode cX12_tear 22 = .ok (.ifCond .ge 9, 3) := by decide +kernel
theorem dX12_tear_25 : decode cX12_tear 25 = .ok (.aload_n 0, 1) := by decide +kernel
theorem dX12_tear_26 : decode cX12_tear 26 = .ok (.iconst 1, 1) := by decide +kernel
theorem dX12_tear_27 : decode cX12_tear 27 = .ok (.invokevirtual 112, 3) := by decide +kernel
theorem dX12_tear_30 : decode cX12_tear 30 = .ok (.ireturn, 1) := by decide +kernel
theorem dX12_tear_31 : decode cX12_tear 31 = .ok (.aload_n 0, 1) := by decide +kernel
theorem dX12_tear_32 : decode cX12_tear 32 = .ok (.getfield 16, 3) := by decide +kernel
theorem dX12_tear_35 : decode cX12_tear 35 = .ok (.iload_n 1, 1) := by decide +kernel
theorem dX12_tear_36 : decode cX12_tear 36 = .ok (.bipush (-9), 2) := by decide +kernel
theorem dX12_tear_38 : decode cX12_tear 38 = .ok (.iastore, 1) := by decide +kernel
theorem dX12_tear_39 : decode cX12_tear 39 = .ok (.iconst 1, 1) := by decide +kernel
theorem dX12_tear_40 : decode cX12_tear 40 = .ok (.ireturn, 1) := by decide +kernel
set_option maxRecDepth 20000 in
theorem ggX12_copy_X12_meets : GoodIn wsX12_copy wsX12_meets := goodIn_sub (gi_c 8 rfl (gi_a (gi_c 9 rfl (gi_c 10 rfl gi_n)) pz_X12_copy_X120)) (by decide +kernel)
set_option maxRecDepth 20000 in
theorem gX12_copy_X12_meets : GoodIn wsX12_copy (wsV RX12 112 RX12 yX12_meets wsX12_meets) := goodIn_app (goodIn_of _ (by decide +kernel)) ggX12_copy_X12_meets
theorem dX12_copy_0 : decode cX12_copy 0 = .ok (.iload_n 1, 1) := by decide +kernel
theorem dX12_copy_1 : decode cX12_copy 1 = .ok (.ifCond .lt 35, 3) := by decide +kernel
theorem dX12_copy_4 : decode cX12_copy 4 = .ok (.iload_n 2, 1) := by decide +kernel
theorem dX12_copy_5 : decode cX12_copy 5 = .ok (.ifCond .lt 31, 3) := by decide +kernel
theorem dX12_copy_8 : decode cX12_copy 8 = .ok (.iload_n 3, 1) := by decide +kernel
theorem dX12_copy_9 : decode cX12_copy 9 = .ok (.ifCond .lt 27, 3) := by decide +kernel
theorem dX12_copy_12 : decode cX12_copy 12 = .ok (.iload_n 1, 1) := by decide +kernel
theorem dX12_copy_13 : decode cX12_copy 13 = .ok (.i2l, 1) := by decide +kernel
theorem dX12_copy_14 : decode cX12_copy 14 = .ok (.iload_n 3, 1) := by decide +kernel
theorem dX12_copy_15 : decode cX12_copy 15 = .ok (.i2l, 1) := by decide +kernel
theorem dX12_copy_16 : decode cX12_copy 16 = .ok (.ladd, 1) := by decide +kernel
theorem dX12_copy_17 : decode cX12_copy 17 = .ok (.ldc2_w 209, 3) := by decide +kernel
theorem dX12_copy_20 : decode cX12_copy 20 = .ok (.lcmp, 1) := by decide +kernel
theorem dX12_copy_21 : decode cX12_copy 21 = .ok (.ifCond .gt 15, 3) := by decide +kernel
theorem dX12_copy_24 : decode cX12_copy 24 = .ok (.iload_n 2, 1) := by decide +kernel
theorem dX12_copy_25 : decode cX12_copy 25 = .ok (.i2l, 1) := by decide +kernel
theorem dX12_copy_26 : decode cX12_copy 26 = .ok (.iload_n 3, 1) := by decide +kernel
theorem dX12_copy_27 : decode cX12_copy 27 = .ok (.i2l, 1) := by decide +kernel
theorem dX12_copy_28 : decode cX12_copy 28 = .ok (.ladd, 1) := by decide +kernel
theorem dX12_copy_29 : decode cX12_copy 29 = .ok (.ldc2_w 209, 3) := by decide +kernel
theorem dX12_copy_32 : decode cX12_copy 32 = .ok (.lcmp, 1) := by decide +kernel
theorem dX12_copy_33 : decode cX12_copy 33 = .ok (.ifCond .le 9, 3) := by decide +kernel
theorem dX12_copy_36 : decode cX12_copy 36 = .ok (.aload_n 0, 1) := by decide +kernel
theorem dX12_copy_37 : decode cX12_copy 37 = .ok (.iconst 2, 1) := by decide +kernel
theorem dX12_copy_38 : decode cX12_copy 38 = .ok (.invokevirtual 112, 3) := by decide +kernel
theorem dX12_copy_41 : decode cX12_copy 41 = .ok (.ireturn, 1) := by decide +kernel
theorem dX12_copy_42 : decode cX12_copy 42 = .ok (.iconst 0, 1) := by decide +kernel
theorem dX12_copy_43 : decode cX12_copy 43 = .ok (.istore 4, 2) := by decide +kernel
theorem dX12_copy_45 : decode cX12_copy 45 = .ok (.iload 4, 2) := by decide +kernel
theorem dX12_copy_47 : decode cX12_copy 47 = .ok (.iload_n 3, 1) := by decide +kernel
theorem dX12_copy_48 : decode cX12_copy 48 = .ok (.if_icmp .ge 25, 3) := by decide +kernel
theorem dX12_copy_51 : decode cX12_copy 51 = .ok (.aload_n 0, 1) := by decide +kernel
theorem dX12_copy_52 : decode cX12_copy 52 = .ok (.getfield 67, 3) := by decide +kernel
theorem dX12_copy_55 : decode cX12_copy 55 = .ok (.iload 4, 2) := by decide +kernel
theorem dX12_copy_57 : decode cX12_copy 57 = .ok (.aload_n 0, 1) := by decide +kernel
theorem dX12_copy_58 : decode cX12_copy 58 = .ok (.getfield 16, 3) := by decide +kernel
theorem dX12_copy_61 : decode cX12_copy 61 = .ok (.iload_n 1, 1) := by decide +kernel
theorem dX12_copy_62 : decode cX12_copy 62 = .ok (.iload 4, 2) := by decide +kernel
theorem dX12_copy_64 : decode cX12_copy 64 = .ok (.iadd, 1) := by decide +kernel
theorem dX12_copy_65 : decode cX12_copy 65 = .ok (.iaload, 1) := by decide +kernel
theorem dX12_copy_66 : decode cX12_copy 66 = .ok (.iastore, 1) := by decide +kernel
theorem dX12_copy_67 : decode cX12_copy 67 = .ok (.iinc 4 1, 3) := by decide +kernel
theorem dX12_copy_70 : decode cX12_copy 70 = .ok (.goto (-25), 3) := by decide +kernel
theorem dX12_copy_73 : decode cX12_copy 73 = .ok (.iconst 0, 1) := by decide +kernel
theorem dX12_copy_74 : decode cX12_copy 74 = .ok (.istore 4, 2) := by decide +kernel
theorem dX12_copy_76 : decode cX12_copy 76 = .ok (.iload 4, 2) := by decide +kernel
theorem dX12_copy_78 : decode cX12_copy 78 = .ok (.iload_n 3, 1) := by decide +kernel
theorem dX12_copy_79 : decode cX12_copy 79 = .ok (.if_icmp .ge 25, 3) := by decide +kernel
theorem dX12_copy_82 : decode cX12_copy 82 = .ok (.aload_n 0, 1) := by decide +kernel
theorem dX12_copy_83 : decode cX12_copy 83 = .ok (.getfield 16, 3) := by decide +kernel
theorem dX12_copy_86 : decode cX12_copy 86 = .ok (.iload_n 2, 1) := by decide +kernel
theorem dX12_copy_87 : decode cX12_copy 87 = .ok (.iload 4, 2) := by decide +kernel
theorem dX12_copy_89 : decode cX12_copy 89 = .ok (.iadd, 1) := by decide +kernel
theorem dX12_copy_90 : decode cX12_copy 90 = .ok (.aload_n 0, 1) := by decide +kernel
theorem dX12_copy_91 : decode cX12_copy 91 = .ok (.getfield 67, 3) := by decide +kernel
theorem dX12_copy_94 : decode cX12_copy 94 = .ok (.iload 4, 2) := by decide +kernel
theorem dX12_copy_96 : decode cX12_copy 96 = .ok (.iaload, 1) := by decide +kernel
theorem dX12_copy_97 : decode cX12_copy 97 = .ok (.iastore, 1) := by decide +kernel
theorem dX12_copy_98 : decode cX12_copy 98 = .ok (.iinc 4 1, 3) := by decide +kernel
theorem dX12_copy_101 : decode cX12_copy 101 = .ok (.goto (-25), 3) := by decide +kernel
theorem dX12_copy_104 : decode cX12_copy 104 = .ok (.iconst 1, 1) := by decide +kernel
theorem dX12_copy_105 : decode cX12_copy 105 = .ok (.ireturn, 1) := by decide +kernel
set_option maxRecDepth 20000 in
theorem ggX12_seat_X12_has : GoodIn wsX12_seat wsX12_has := goodIn_sub (gi_c 8 rfl gi_n) (by decide +kernel)
set_option maxRecDepth 20000 in
theorem gX12_seat_X12_has : GoodIn wsX12_seat (va_wsS RX12 90 yX12_has wsX12_has) := goodIn_app (goodIn_of _ (by decide +kernel)) ggX12_seat_X12_has
set_option maxRecDepth 20000 in
theorem ggX12_seat_X12_setLine : GoodIn wsX12_seat wsX12_setLine := goodIn_sub (gi_c 12 rfl (gi_a (gi_c 2 rfl (gi_c 13 rfl (gi_c 14 rfl (gi_c 15 rfl (gi_c 16 rfl (gi_c 5 rfl (gi_c 6 rfl (gi_c 7 rfl (gi_c 8 rfl (gi_c 17 rfl (gi_c 18 rfl (gi_c 19 rfl (gi_c 20 rfl (gi_c 3 rfl gi_n)))))))))))))) pz_X12_seat_X120)) (by decide +kernel)
set_option maxRecDepth 20000 in
theorem gX12_seat_X12_setLine : GoodIn wsX12_seat (wsV RX12 200 RX12 yX12_setLine wsX12_setLine) := goodIn_app (goodIn_of _ (by decide +kernel)) ggX12_seat_X12_setLine
theorem dX12_seat_0 : decode cX12_seat 0 = .ok (.aload_n 0, 1) := by decide +kernel
theorem dX12_seat_1 : decode cX12_seat 1 = .ok (.aload_n 0, 1) := by decide +kernel
theorem dX12_seat_2 : decode cX12_seat 2 = .ok (.getfield 128, 3) := by decide +kernel
theorem dX12_seat_5 : decode cX12_seat 5 = .ok (.putfield 191, 3) := by decide +kernel
theorem dX12_seat_8 : decode cX12_seat 8 = .ok (.iconst 0, 1) := by decide +kernel
theorem dX12_seat_9 : decode cX12_seat 9 = .ok (.istore_n 1, 1) := by decide +kernel
theorem dX12_seat_10 : decode cX12_seat 10 = .ok (.iload_n 1, 1) := by decide +kernel
theorem dX12_seat_11 : decode cX12_seat 11 = .ok (.aload_n 0, 1) := by decide +kernel
theorem dX12_seat_12 : decode cX12_seat 12 = .ok (.getfield 128, 3) := by decide +kernel
theorem dX12_seat_15 : decode cX12_seat 15 = .ok (.if_icmp .ge 68, 3) := by decide +kernel
theorem dX12_seat_18 : decode cX12_seat 18 = .ok (.aload_n 0, 1) := by decide +kernel
theorem dX12_seat_19 : decode cX12_seat 19 = .ok (.getfield 54, 3) := by decide +kernel
theorem dX12_seat_22 : decode cX12_seat 22 = .ok (.iload_n 1, 1) := by decide +kernel
theorem dX12_seat_23 : decode cX12_seat 23 = .ok (.iconst 0, 1) := by decide +kernel
theorem dX12_seat_24 : decode cX12_seat 24 = .ok (.iastore, 1) := by decide +kernel
theorem dX12_seat_25 : decode cX12_seat 25 = .ok (.iconst 0, 1) := by decide +kernel
theorem dX12_seat_26 : decode cX12_seat 26 = .ok (.istore_n 2, 1) := by decide +kernel
theorem dX12_seat_27 : decode cX12_seat 27 = .ok (.iload_n 2, 1) := by decide +kernel
theorem dX12_seat_28 : decode cX12_seat 28 = .ok (.bipush 12, 2) := by decide +kernel
theorem dX12_seat_30 : decode cX12_seat 30 = .ok (.if_icmp .ge 47, 3) := by decide +kernel
theorem dX12_seat_33 : decode cX12_seat 33 = .ok (.aload_n 0, 1) := by decide +kernel
theorem dX12_seat_34 : decode cX12_seat 34 = .ok (.getfield 54, 3) := by decide +kernel
theorem dX12_seat_37 : decode cX12_seat 37 = .ok (.iload_n 1, 1) := by decide +kernel
theorem dX12_seat_38 : decode cX12_seat 38 = .ok (.dup2, 1) := by decide +kernel
theorem dX12_seat_39 : decode cX12_seat 39 = .ok (.iaload, 1) := by decide +kernel
theorem dX12_seat_40 : decode cX12_seat 40 = .ok (.aload_n 0, 1) := by decide +kernel
theorem dX12_seat_41 : decode cX12_seat 41 = .ok (.getfield 16, 3) := by decide +kernel
theorem dX12_seat_44 : decode cX12_seat 44 = .ok (.iload_n 2, 1) := by decide +kernel
theorem dX12_seat_45 : decode cX12_seat 45 = .ok (.iaload, 1) := by decide +kernel
theorem dX12_seat_46 : decode cX12_seat 46 = .ok (.ifCond .lt 22, 3) := by decide +kernel
theorem dX12_seat_49 : decode cX12_seat 49 = .ok (.aload_n 0, 1) := by decide +kernel
theorem dX12_seat_50 : decode cX12_seat 50 = .ok (.getfield 16, 3) := by decide +kernel
theorem dX12_seat_53 : decode cX12_seat 53 = .ok (.iload_n 2, 1) := by decide +kernel
theorem dX12_seat_54 : decode cX12_seat 54 = .ok (.iaload, 1) := by decide +kernel
theorem dX12_seat_55 : decode cX12_seat 55 = .ok (.iload_n 1, 1) := by decide +kernel
theorem dX12_seat_56 : decode cX12_seat 56 = .ok (.invokestatic 90, 3) := by decide +kernel
theorem dX12_seat_59 : decode cX12_seat 59 = .ok (.ifCond .eq 9, 3) := by decide +kernel
theorem dX12_seat_62 : decode cX12_seat 62 = .ok (.iconst 1, 1) := by decide +kernel
theorem dX12_seat_63 : decode cX12_seat 63 = .ok (.iload_n 2, 1) := by decide +kernel
theorem dX12_seat_64 : decode cX12_seat 64 = .ok (.ishl, 1) := by decide +kernel
theorem dX12_seat_65 : decode cX12_seat 65 = .ok (.goto 4, 3) := by decide +kernel
theorem dX12_seat_68 : decode cX12_seat 68 = .ok (.iconst 0, 1) := by decide +kernel
theorem dX12_seat_69 : decode cX12_seat 69 = .ok (.ior, 1) := by decide +kernel
theorem dX12_seat_70 : decode cX12_seat 70 = .ok (.iastore, 1) := by decide +kernel
theorem dX12_seat_71 : decode cX12_seat 71 = .ok (.iinc 2 1, 3) := by decide +kernel
theorem dX12_seat_74 : decode cX12_seat 74 = .ok (.goto (-47), 3) := by decide +kernel
theorem dX12_seat_77 : decode cX12_seat 77 = .ok (.iinc 1 1, 3) := by decide +kernel
theorem dX12_seat_80 : decode cX12_seat 80 = .ok (.goto (-70), 3) := by decide +kernel
theorem dX12_seat_83 : decode cX12_seat 83 = .ok (.aload_n 0, 1) := by decide +kernel
theorem dX12_seat_84 : decode cX12_seat 84 = .ok (.invokevirtual 200, 3) := by decide +kernel
theorem dX12_seat_87 : decode cX12_seat 87 = .ok (.return_, 1) := by decide +kernel
set_option maxRecDepth 20000 in
theorem ggX12_seatings_X12_seat : GoodIn wsX12_seatings wsX12_seat := goodIn_sub (gi_t pz_X12_seatings_X12_seatings_r1 4 rfl (gi_a (gi_t pz_X12_seatings_X12_seatings_r1 5 rfl (gi_t pz_X12_seatings_X12_seatings_r1 6 rfl (gi_t pz_X12_seatings_X12_seatings_r1 7 rfl (gi_t pz_X12_seatings_X12_seatings_r1 8 rfl (gi_t pz_X12_seatings_X12_seatings_r1 9 rfl (gi_t pz_X12_seatings_X12_seatings_r1 10 rfl (gi_t pz_X12_seatings_X12_seatings_r1 3 rfl (gi_t pz_X12_seatings_X12_seatings_r1 11 rfl (gi_t pz_X12_seatings_X12_seatings_r1 12 rfl (gi_t pz_X12_seatings_X12_seatings_r1 13 rfl (gi_t pz_X12_seatings_X12_seatings_r1 14 rfl (gi_t pz_X12_seatings_X12_seatings_r1 15 rfl (gi_t pz_X12_seatings_X12_seatings_r1 16 rfl (gi_t pz_X12_seatings_X12_seatings_r1 17 rfl (gi_t pz_X12_seatings_X12_seatings_r1 18 rfl (gi_t pz_X12_seatings_X12_seatings_r1 19 rfl (gi_t pz_X12_seatings_X12_seatings_r1 20 rfl (gi_t pz_X12_seatings_X12_seatings_r1 21 rfl (gi_t pz_X12_seatings_X12_seatings_r1 22 rfl (gi_t pz_X12_seatings_X12_seatings_r1 23 rfl gi_n)))))))))))))))))))) pz_X12_seatings_X120)) (by decide +kernel)
set_option maxRecDepth 20000 in
theorem gX12_seatings_X12_seat : GoodIn wsX12_seatings (wsV RX12 211 RX12 yX12_seat wsX12_seat) := goodIn_app (goodIn_of _ (by decide +kernel)) ggX12_seatings_X12_seat
set_option maxRecDepth 20000 in
theorem ggX12_seatings_X12_lines : GoodIn wsX12_seatings wsX12_lines := goodIn_sub (gi_t pz_X12_seatings_X12_seatings_r2 3 rfl (gi_a (gi_t pz_X12_seatings_X12_seatings_r1 6 rfl (gi_t pz_X12_seatings_X12_seatings_r1 16 rfl gi_n)) pz_X12_seatings_X120)) (by decide +kernel)
set_option maxRecDepth 20000 in
theorem gX12_seatings_X12_lines : GoodIn wsX12_seatings (wsV RX12 214 RX12 yX12_lines wsX12_lines) := goodIn_app (goodIn_of _ (by decide +kernel)) ggX12_seatings_X12_lines
theorem dX12_seatings_0 : decode cX12_seatings 0 = .ok (.aload_n 0, 1) := by decide +kernel
theorem dX12_seatings_1 : decode cX12_seatings 1 = .ok (.invokevirtual 211, 3) := by decide +kernel
theorem dX12_seatings_4 : decode cX12_seatings 4 = .ok (.aload_n 0, 1) := by decide +kernel
theorem dX12_seatings_5 : decode cX12_seatings 5 = .ok (.invokevirtual 214, 3) := by decide +kernel
theorem dX12_seatings_8 : decode cX12_seatings 8 = .ok (.ireturn, 1) := by decide +kernel
set_option maxRecDepth 20000 in
theorem ggX12_seat__X12_seat : GoodIn wsX12_seat_ wsX12_seat := goodIn_sub (gi_t pz_X12_seat__X12_seat__r1 7 rfl (gi_a (gi_t pz_X12_seat__X12_seat__r1 1 rfl (gi_t pz_X12_seat__X12_seat__r1 8 rfl (gi_t pz_X12_seat__X12_seat__r1 9 rfl (gi_t pz_X12_seat__X12_seat__r1 10 rfl (gi_t pz_X12_seat__X12_seat__r1 11 rfl (gi_t pz_X12_seat__X12_seat__r1 12 rfl (gi_t pz_X12_seat__X12_seat__r1 6 rfl (gi_t pz_X12_seat__X12_seat__r1 13 rfl (gi_t pz_X12_seat__X12_seat__r1 14 rfl (gi_t pz_X12_seat__X12_seat__r1 15 rfl (gi_t pz_X12_seat__X12_seat__r1 16 rfl (gi_t pz_X12_seat__X12_seat__r1 17 rfl (gi_t pz_X12_seat__X12_seat__r1 18 rfl (gi_t pz_X12_seat__X12_seat__r1 19 rfl (gi_t pz_X12_seat__X12_seat__r1 0 rfl (gi_t pz_X12_seat__X12_seat__r1 2 rfl (gi_t pz_X12_seat__X12_seat__r1 20 rfl (gi_t pz_X12_seat__X12_seat__r1 21 rfl (gi_t pz_X12_seat__X12_seat__r1 22 rfl (gi_t pz_X12_seat__X12_seat__r1 23 rfl gi_n)))))))))))))))))))) pz_X12_seat__X120)) (by decide +kernel)
set_option maxRecDepth 20000 in
theorem gX12_seat__X12_seat : GoodIn wsX12_seat_ (wsV RX12 211 RX12 yX12_seat wsX12_seat) := goodIn_app (goodIn_of _ (by decide +kernel)) ggX12_seat__X12_seat
set_option maxRecDepth 20000 in
theorem ggX12_seat__X12_in : GoodIn wsX12_seat_ wsX12_in := goodIn_sub (gi_t pz_X12_seat__X12_seat__r2 2 rfl gi_n) (by decide +kernel)
set_option maxRecDepth 20000 in
theorem gX12_seat__X12_in : GoodIn wsX12_seat_ (va_wsS RX12 76 yX12_in wsX12_in) := goodIn_app (goodIn_of _ (by decide +kernel)) ggX12_seat__X12_in
theorem dX12_seat__0 : decode cX12_seat_ 0 = .ok (.aload_n 0, 1) := by decide +kernel
theorem dX12_seat__1 : decode cX12_seat_ 1 = .ok (.invokevirtual 211, 3) := by decide +kernel
theorem dX12_seat__4 : decode cX12_seat_ 4 = .ok (.aload_n 0, 1) := by decide +kernel
theorem dX12_seat__5 : decode cX12_seat_ 5 = .ok (.getfield 197, 3) := by decide +kernel
theorem dX12_seat__8 : decode cX12_seat_ 8 = .ok (.aload_n 0, 1) := by decide +kernel
theorem dX12_seat__9 : decode cX12_seat_ 9 = .ok (.getfield 128, 3) := by decide +kernel
theorem dX12_seat__12 : decode cX12_seat_ 12 = .ok (.if_icmp .ne 26, 3) := by decide +kernel
theorem dX12_seat__15 : decode cX12_seat_ 15 = .ok (.iload_n 1, 1) := by decide +kernel
theorem dX12_seat__16 : decode cX12_seat_ 16 = .ok (.iconst 0, 1) := by decide +kernel
theorem dX12_seat__17 : decode cX12_seat_ 17 = .ok (.aload_n 0, 1) := by decide +kernel
theorem dX12_seat__18 : decode cX12_seat_ 18 = .ok (.getfield 197, 3) := by decide +kernel
theorem dX12_seat__21 : decode cX12_seat_ 21 = .ok (.iconst 1, 1) := by decide +kernel
theorem dX12_seat__22 : decode cX12_seat_ 22 = .ok (.isub, 1) := by decide +kernel
theorem dX12_seat__23 : decode cX12_seat_ 23 = .ok (.invokestatic 76, 3) := by decide +kernel
theorem dX12_seat__26 : decode cX12_seat_ 26 = .ok (.ifCond .eq 12, 3) := by decide +kernel
theorem dX12_seat__29 : decode cX12_seat_ 29 = .ok (.aload_n 0, 1) := by decide +kernel
theorem dX12_seat__30 : decode cX12_seat_ 30 = .ok (.getfield 64, 3) := by decide +kernel
theorem dX12_seat__33 : decode cX12_seat_ 33 = .ok (.iload_n 1, 1) := by decide +kernel
theorem dX12_seat__34 : decode cX12_seat_ 34 = .ok (.iaload, 1) := by decide +kernel
theorem dX12_seat__35 : decode cX12_seat_ 35 = .ok (.goto 5, 3) := by decide +kernel
theorem dX12_seat__38 : decode cX12_seat_ 38 = .ok (.bipush (-9), 2) := by decide +kernel
theorem dX12_seat__40 : decode cX12_seat_ 40 = .ok (.ireturn, 1) := by decide +kernel
set_option maxRecDepth 20000 in
theorem ggX12_count_X12_pairs : GoodIn wsX12_count wsX12_pairs := goodIn_sub (gi_c 9 rfl (gi_a (gi_c 2 rfl (gi_c 10 rfl (gi_c 11 rfl (gi_c 12 rfl (gi_c 8 rfl (gi_c 13 rfl gi_n)))))) pz_X12_count_X120)) (by decide +kernel)
set_option maxRecDepth 20000 in
theorem gX12_count_X12_pairs : GoodIn wsX12_count (wsV RX12 131 RX12 yX12_pairs wsX12_pairs) := goodIn_app (goodIn_of _ (by decide +kernel)) ggX12_count_X12_pairs
theorem dX12_count_0 : decode cX12_count 0 = .ok (.iconst 0, 1) := by decide +kernel
theorem dX12_count_1 : decode cX12_count 1 = .ok (.istore_n 2, 1) := by decide +kernel
theorem dX12_count_2 : decode cX12_count 2 = .ok (.iconst 0, 1) := by decide +kernel
theorem dX12_count_3 : decode cX12_count 3 = .ok (.istore_n 3, 1) := by decide +kernel
theorem dX12_count_4 : decode cX12_count 4 = .ok (.iload_n 3, 1) := by decide +kernel
theorem dX12_count_5 : decode cX12_count 5 = .ok (.bipush 12, 2) := by decide +kernel
theorem dX12_count_7 : decode cX12_count 7 = .ok (.if_icmp .ge 26, 3) := by decide +kernel
theorem dX12_count_10 : decode cX12_count 10 = .ok (.iload_n 2, 1) := by decide +kernel
theorem dX12_count_11 : decode cX12_count 11 = .ok (.aload_n 0, 1) := by decide +kernel
theorem dX12_count_12 : decode cX12_count 12 = .ok (.getfield 16, 3) := by decide +kernel
theorem dX12_count_15 : decode cX12_count 15 = .ok (.iload_n 3, 1) := by decide +kernel
theorem dX12_count_16 : decode cX12_count 16 = .ok (.iaload, 1) := by decide +kernel
theorem dX12_count_17 : decode cX12_count 17 = .ok (.ifCond .lt 7, 3) := by decide +kernel
theorem dX12_count_20 : decode cX12_count 20 = .ok (.iconst 1, 1) := by decide +kernel
theorem dX12_count_21 : decode cX12_count 21 = .ok (.goto 4, 3) := by decide +kernel
theorem dX12_count_24 : decode cX12_count 24 = .ok (.iconst 0, 1) := by decide +kernel
theorem dX12_count_25 : decode cX12_count 25 = .ok (.iadd, 1) := by decide +kernel
theorem dX12_count_26 : decode cX12_count 26 = .ok (.istore_n 2, 1) := by decide +kernel
theorem dX12_count_27 : decode cX12_count 27 = .ok (.iinc 3 1, 3) := by decide +kernel
theorem dX12_count_30 : decode cX12_count 30 = .ok (.goto (-26), 3) := by decide +kernel
theorem dX12_count_33 : decode cX12_count 33 = .ok (.iload_n 1, 1) := by decide +kernel
theorem dX12_count_34 : decode cX12_count 34 = .ok (.tableswitch 56 0 4 #[34, 39, 44, 49, 51], 34) := by decide +kernel
theorem dX12_count_68 : decode cX12_count 68 = .ok (.aload_n 0, 1) := by decide +kernel
theorem dX12_count_69 : decode cX12_count 69 = .ok (.getfield 73, 3) := by decide +kernel
theorem dX12_count_72 : decode cX12_count 72 = .ok (.ireturn, 1) := by decide +kernel
theorem dX12_count_73 : decode cX12_count 73 = .ok (.aload_n 0, 1) := by decide +kernel
theorem dX12_count_74 : decode cX12_count 74 = .ok (.invokevirtual 131, 3) := by decide +kernel
theorem dX12_count_77 : decode cX12_count 77 = .ok (.ireturn, 1) := by decide +kernel
theorem dX12_count_78 : decode cX12_count 78 = .ok (.aload_n 0, 1) := by decide +kernel
theorem dX12_count_79 : decode cX12_count 79 = .ok (.getfield 128, 3) := by decide +kernel
theorem dX12_count_82 : decode cX12_count 82 = .ok (.ireturn, 1) := by decide +kernel
theorem dX12_count_83 : decode cX12_count 83 = .ok (.iload_n 2, 1) := by decide +kernel
theorem dX12_count_84 : decode cX12_count 84 = .ok (.ireturn, 1) := by decide +kernel
theorem dX12_count_85 : decode cX12_count 85 = .ok (.aload_n 0, 1) := by decide +kernel
theorem dX12_count_86 : decode cX12_count 86 = .ok (.getfield 80, 3) := by decide +kernel
theorem dX12_count_89 : decode cX12_count 89 = .ok (.ireturn, 1) := by decide +kernel
theorem dX12_count_90 : decode cX12_count 90 = .ok (.iconst (-1), 1) := by decide +kernel
theorem dX12_count_91 : decode cX12_count 91 = .ok (.ireturn, 1) := by decide +kernel
theorem dX12_finding_0 : decode cX12_finding 0 = .ok (.aload_n 0, 1) := by decide +kernel
theorem dX12_finding_1 : decode cX12_finding 1 = .ok (.getfield 70, 3) := by decide +kernel
theorem dX12_finding_4 : decode cX12_finding 4 = .ok (.ireturn, 1) := by decide +kernel
set_option maxRecDepth 20000 in
theorem ggX12_findings_X12_in : GoodIn wsX12_findings wsX12_in := goodIn_sub (gi_c 5 rfl gi_n) (by decide +kernel)
set_option maxRecDepth 20000 in
theorem gX12_findings_X12_in : GoodIn wsX12_findings (va_wsS RX12 76 yX12_in wsX12_in) := goodIn_app (goodIn_of _ (by decide +kernel)) ggX12_findings_X12_in
theorem dX12_findings_0 : decode cX12_findings 0 = .ok (.iload_n 1, 1) := by decide +kernel
theorem dX12_findings_1 : decode cX12_findings 1 = .ok (.iconst 1, 1) := by decide +kernel
theorem dX12_findings_2 : decode cX12_findings 2 = .ok (.iconst 4, 1) := by decide +kernel
theorem dX12_findings_3 : decode cX12_findings 3 = .ok (.invokestatic 76, 3) := by decide +kernel
theorem dX12_findings_6 : decode cX12_findings 6 = .ok (.ifCond .eq 12, 3) := by decide +kernel
theorem dX12_findings_9 : decode cX12_findings 9 = .ok (.aload_n 0, 1) := by decide +kernel
theorem dX12_findings_10 : decode cX12_findings 10 = .ok (.getfield 7, 3) := by decide +kernel
theorem dX12_findings_13 : decode cX12_findings 13 = .ok (.iload_n 1, 1) := by decide +kernel
theorem dX12_findings_14 : decode cX12_findings 14 = .ok (.iaload, 1) := by decide +kernel
theorem dX12_findings_15 : decode cX12_findings 15 = .ok (.goto 4, 3) := by decide +kernel
theorem dX12_findings_18 : decode cX12_findings 18 = .ok (.iconst (-1), 1) := by decide +kernel
theorem dX12_findings_19 : decode cX12_findings 19 = .ok (.ireturn, 1) := by decide +kernel
theorem dX12_digest_0 : decode cX12_digest 0 = .ok (.ldc2_w 217, 3) := by decide +kernel
theorem dX12_digest_3 : decode cX12_digest 3 = .ok (.aload_n 0, 1) := by decide +kernel
theorem dX12_digest_4 : decode cX12_digest 4 = .ok (.getfield 73, 3) := by decide +kernel
theorem dX12_digest_7 : decode cX12_digest 7 = .ok (.i2l, 1) := by decide +kernel
theorem dX12_digest_8 : decode cX12_digest 8 = .ok (.ladd, 1) := by decide +kernel
theorem dX12_digest_9 : decode cX12_digest 9 = .ok (.lstore_n 1, 1) := by decide +kernel
theorem dX12_digest_10 : decode cX12_digest 10 = .ok (.iconst 0, 1) := by decide +kernel
theorem dX12_digest_11 : decode cX12_digest 11 = .ok (.istore_n 3, 1) := by decide +kernel
theorem dX12_digest_12 : decode cX12_digest 12 = .ok (.iload_n 3, 1) := by decide +kernel
theorem dX12_digest_13 : decode cX12_digest 13 = .ok (.aload_n 0, 1) := by decide +kernel
theorem dX12_digest_14 : decode cX12_digest 14 = .ok (.getfield 73, 3) := by decide +kernel
theorem dX12_digest_17 : decode cX12_digest 17 = .ok (.if_icmp .ge 23, 3) := by decide +kernel
theorem dX12_digest_20 : decode cX12_digest 20 = .ok (.ldc2_w 219, 3) := by decide +kernel
theorem dX12_digest_23 : decode cX12_digest 23 = .ok (.lload_n 1, 1) := by decide +kernel
theorem dX12_digest_24 : decode cX12_digest 24 = .ok (.lmul, 1) := by decide +kernel
theorem dX12_digest_25 : decode cX12_digest 25 = .ok (.aload_n 0, 1) := by decide +kernel
theorem dX12_digest_26 : decode cX12_digest 26 = .ok (.getfield 13, 3) := by decide +kernel
theorem dX12_digest_29 : decode cX12_digest 29 = .ok (.iload_n 3, 1) := by decide +kernel
theorem dX12_digest_30 : decode cX12_digest 30 = .ok (.iaload, 1) := by decide +kernel
theorem dX12_digest_31 : decode cX12_digest 31 = .ok (.i2l, 1) := by decide +kernel
theorem dX12_digest_32 : decode cX12_digest 32 = .ok (.ladd, 1) := by decide +kernel
theorem dX12_digest_33 : decode cX12_digest 33 = .ok (.lstore_n 1, 1) := by decide +kernel
theorem dX12_digest_34 : decode cX12_digest 34 = .ok (.iinc 3 1, 3) := by decide +kernel
theorem dX12_digest_37 : decode cX12_digest 37 = .ok (.goto (-25), 3) := by decide +kernel
theorem dX12_digest_40 : decode cX12_digest 40 = .ok (.iconst 0, 1) := by decide +kernel
theorem dX12_digest_41 : decode cX12_digest 41 = .ok (.istore_n 3, 1) := by decide +kernel
theorem dX12_digest_42 : decode cX12_digest 42 = .ok (.iload_n 3, 1) := by decide +kernel
theorem dX12_digest_43 : decode cX12_digest 43 = .ok (.aload_n 0, 1) := by decide +kernel
theorem dX12_digest_44 : decode cX12_digest 44 = .ok (.getfield 28, 3) := by decide +kernel
theorem dX12_digest_47 : decode cX12_digest 47 = .ok (.if_icmp .ge 23, 3) := by decide +kernel
theorem dX12_digest_50 : decode cX12_digest 50 = .ok (.ldc2_w 219, 3) := by decide +kernel
theorem dX12_digest_53 : decode cX12_digest 53 = .ok (.lload_n 1, 1) := by decide +kernel
theorem dX12_digest_54 : decode cX12_digest 54 = .ok (.lmul, 1) := by decide +kernel
theorem dX12_digest_55 : decode cX12_digest 55 = .ok (.aload_n 0, 1) := by decide +kernel
theorem dX12_digest_56 : decode cX12_digest 56 = .ok (.getfield 25, 3) := by decide +kernel
theorem dX12_digest_59 : decode cX12_digest 59 = .ok (.iload_n 3, 1) := by decide +kernel
theorem dX12_digest_60 : decode cX12_digest 60 = .ok (.iaload, 1) := by decide +kernel
theorem dX12_digest_61 : decode cX12_digest 61 = .ok (.i2l, 1) := by decide +kernel
theorem dX12_digest_62 : decode cX12_digest 62 = .ok (.ladd, 1) := by decide +kernel
theorem dX12_digest_63 : decode cX12_digest 63 = .ok (.lstore_n 1, 1) := by decide +kernel
theorem dX12_digest_64 : decode cX12_digest 64 = .ok (.iinc 3 1, 3) := by decide +kernel
theorem dX12_digest_67 : decode cX12_digest 67 = .ok (.goto (-25), 3) := by decide +kernel
theorem dX12_digest_70 : decode cX12_digest 70 = .ok (.ldc2_w 219, 3) := by decide +kernel
theorem dX12_digest_73 : decode cX12_digest 73 = .ok (.lload_n 1, 1) := by decide +kernel
theorem dX12_digest_74 : decode cX12_digest 74 = .ok (.lmul, 1) := by decide +kernel
theorem dX12_digest_75 : decode cX12_digest 75 = .ok (.aload_n 0, 1) := by decide +kernel
theorem dX12_digest_76 : decode cX12_digest 76 = .ok (.getfield 128, 3) := by decide +kernel
theorem dX12_digest_79 : decode cX12_digest 79 = .ok (.i2l, 1) := by decide +kernel
theorem dX12_digest_80 : decode cX12_digest 80 = .ok (.ladd, 1) := by decide +kernel
theorem dX12_digest_81 : decode cX12_digest 81 = .ok (.lstore_n 1, 1) := by decide +kernel
theorem dX12_digest_82 : decode cX12_digest 82 = .ok (.iconst 0, 1) := by decide +kernel
theorem dX12_digest_83 : decode cX12_digest 83 = .ok (.istore_n 3, 1) := by decide +kernel
theorem dX12_digest_84 : decode cX12_digest 84 = .ok (.iload_n 3, 1) := by decide +kernel
theorem dX12_digest_85 : decode cX12_digest 85 = .ok (.bipush 12, 2) := by decide +kernel
theorem dX12_digest_87 : decode cX12_digest 87 = .ok (.if_icmp .ge 36, 3) := by decide +kernel
theorem dX12_digest_90 : decode cX12_digest 90 = .ok (.ldc2_w 219, 3) := by decide +kernel
theorem dX12_digest_93 : decode cX12_digest 93 = .ok (.lload_n 1, 1) := by decide +kernel
theorem dX12_digest_94 : decode cX12_digest 94 = .ok (.lmul, 1) := by decide +kernel
theorem dX12_digest_95 : decode cX12_digest 95 = .ok (.aload_n 0, 1) := by decide +kernel
theorem dX12_digest_96 : decode cX12_digest 96 = .ok (.getfield 16, 3) := by decide +kernel
theorem dX12_digest_99 : decode cX12_digest 99 = .ok (.iload_n 3, 1) := by decide +kernel
theorem dX12_digest_100 : decode cX12_digest 100 = .ok (.iaload, 1) := by decide +kernel
theorem dX12_digest_101 : decode cX12_digest 101 = .ok (.ifCond .ge 7, 3) := by decide +kernel
theorem dX12_digest_104 : decode cX12_digest 104 = .ok (.iconst (-1), 1) := by decide +kernel
theorem dX12_digest_105 : decode cX12_digest 105 = .ok (.goto 9, 3) := by decide +kernel
theorem dX12_digest_108 : decode cX12_digest 108 = .ok (.aload_n 0, 1) := by decide +kernel
theorem dX12_digest_109 : decode cX12_digest 109 = .ok (.getfield 16, 3) := by decide +kernel
theorem dX12_digest_112 : decode cX12_digest 112 = .ok (.iload_n 3, 1) := by decide +kernel
theorem dX12_digest_113 : decode cX12_digest 113 = .ok (.iaload, 1) := by decide +kernel
theorem dX12_digest_114 : decode cX12_digest 114 = .ok (.i2l, 1) := by decide +kernel
theorem dX12_digest_115 : decode cX12_digest 115 = .ok (.ladd, 1) := by decide +kernel
theorem dX12_digest_116 : decode cX12_digest 116 = .ok (.lstore_n 1, 1) := by decide +kernel
theorem dX12_digest_117 : decode cX12_digest 117 = .ok (.iinc 3 1, 3) := by decide +kernel
theorem dX12_digest_120 : decode cX12_digest 120 = .ok (.goto (-36), 3) := by decide +kernel
theorem dX12_digest_123 : decode cX12_digest 123 = .ok (.iconst 0, 1) := by decide +kernel
theorem dX12_digest_124 : decode cX12_digest 124 = .ok (.istore_n 3, 1) := by decide +kernel
theorem dX12_digest_125 : decode cX12_digest 125 = .ok (.iload_n 3, 1) := by decide +kernel
theorem dX12_digest_126 : decode cX12_digest 126 = .ok (.aload_n 0, 1) := by decide +kernel
theorem dX12_digest_127 : decode cX12_digest 127 = .ok (.getfield 80, 3) := by decide +kernel
theorem dX12_digest_130 : decode cX12_digest 130 = .ok (.if_icmp .ge 23, 3) := by decide +kernel
theorem dX12_digest_133 : decode cX12_digest 133 = .ok (.ldc2_w 219, 3) := by decide +kernel
theorem dX12_digest_136 : decode cX12_digest 136 = .ok (.lload_n 1, 1) := by decide +kernel
theorem dX12_digest_137 : decode cX12_digest 137 = .ok (.lmul, 1) := by decide +kernel
theorem dX12_digest_138 : decode cX12_digest 138 = .ok (.aload_n 0, 1) := by decide +kernel
theorem dX12_digest_139 : decode cX12_digest 139 = .ok (.getfield 22, 3) := by decide +kernel
theorem dX12_digest_142 : decode cX12_digest 142 = .ok (.iload_n 3, 1) := by decide +kernel
theorem dX12_digest_143 : decode cX12_digest 143 = .ok (.iaload, 1) := by decide +kernel
theorem dX12_digest_144 : decode cX12_digest 144 = .ok (.i2l, 1) := by decide +kernel
theorem dX12_digest_145 : decode cX12_digest 145 = .ok (.ladd, 1) := by decide +kernel
theorem dX12_digest_146 : decode cX12_digest 146 = .ok (.lstore_n 1, 1) := by decide +kernel
theorem dX12_digest_147 : decode cX12_digest 147 = .ok (.iinc 3 1, 3) := by decide +kernel
theorem dX12_digest_150 : decode cX12_digest 150 = .ok (.goto (-25), 3) := by decide +kernel
theorem dX12_digest_153 : decode cX12_digest 153 = .ok (.lload_n 1, 1) := by decide +kernel
theorem dX12_digest_154 : decode cX12_digest 154 = .ok (.lreturn, 1) := by decide +kernel
