theorem pz_X11_digest_X60 : ∀ x ∈ wsX60, x ∈ wsX11_digest := fun _ h => (List.mem_cons_of_mem _ (List.mem_append_left _ (List.mem_append_right _ h)))
theorem pz_X11_startGraph_X11_startGraph_r1 : ∀ x ∈ wsX11_startGraph_r1, x ∈ wsX11_startGraph := fun _ h => (List.mem_cons_of_mem _ (List.mem_append_left _ (List.mem_append_left _ (List.mem_append_left _ (List.mem_append_left _ h)))))
theorem pz_X11_startGraph_X40 : ∀ x ∈ wsX40, x ∈ wsX11_startGraph := fun _ h => (List.mem_cons_of_mem _ (List.mem_append_left _ (List.mem_append_right _ h)))
theorem pz_X11_startGraph_X60 : ∀ x ∈ wsX60, x ∈ wsX11_startGraph := fun _ h => (List.mem_cons_of_mem _ (List.mem_append_right _ h))
theorem pz_X11_startGraph_X11_startGraph_r2 : ∀ x ∈ wsX11_startGraph_r2, x ∈ wsX11_startGraph := fun _ h => (List.mem_cons_of_mem _ (List.mem_append_left _ (List.mem_append_left _ (List.mem_append_left _ (List.mem_append_right _ h)))))
theorem pz_X11_isKind_X40 : ∀ x ∈ wsX40, x ∈ wsX11_isKind := fun _ h => (List.mem_cons_of_mem _ (List.mem_append_right _ h))
theorem pz_X11_bringSpans_X11_bringSpans_r2 : ∀ x ∈ wsX11_bringSpans_r2, x ∈ wsX11_bringSpans := fun _ h => (List.mem_cons_of_mem _ (List.mem_append_left _ (List.mem_append_left _ (List.mem_append_left _ (List.mem_append_left _ (List.mem_append_right _ (List.mem_append_left _ h)))))))
theorem pz_X11_bringSpans_X11_bringSpans_r1 : ∀ x ∈ wsX11_bringSpans_r1, x ∈ wsX11_bringSpans := fun _ h => (List.mem_cons_of_mem _ (List.mem_append_left _ (List.mem_append_left _ (List.mem_append_left _ (List.mem_append_left _ (List.mem_append_left _ h))))))
theorem pz_X11_bringSpans_X10 : ∀ x ∈ wsX10, x ∈ wsX11_bringSpans := fun _ h => (List.mem_cons_of_mem _ (List.mem_append_right _ h))
theorem pz_X11_bringSpans_X40 : ∀ x ∈ wsX40, x ∈ wsX11_bringSpans := fun _ h => (List.mem_cons_of_mem _ (List.mem_append_left _ (List.mem_append_right _ h)))
theorem pz_X11_bringSpans_X00 : ∀ x ∈ wsX00, x ∈ wsX11_bringSpans := fun _ h => (List.mem_cons_of_mem _ (List.mem_append_left _ (List.mem_append_left _ (List.mem_append_right _ h))))
theorem pz_X11_bringSpans_X11_bringSpans_r3 : ∀ x ∈ wsX11_bringSpans_r3, x ∈ wsX11_bringSpans := fun _ h => (List.mem_cons_of_mem _ (List.mem_append_left _ (List.mem_append_left _ (List.mem_append_left _ (List.mem_append_left _ (List.mem_append_right _ (List.mem_append_right _ (List.mem_append_left _ h))))))))
theorem pz_X11_bringSpans_X11_bringSpans_r4 : ∀ x ∈ wsX11_bringSpans_r4, x ∈ wsX11_bringSpans := fun _ h => (List.mem_cons_of_mem _ (List.mem_append_left _ (List.mem_append_left _ (List.mem_append_left _ (List.mem_append_left _ (List.mem_append_right _ (List.mem_append_right _ (List.mem_append_right _ h))))))))
theorem pz_X11_bringSeats_X11_bringSeats_r1 : ∀ x ∈ wsX11_bringSeats_r1, x ∈ wsX11_bringSeats := fun _ h => (List.mem_cons_of_mem _ (List.mem_append_left _ (List.mem_append_left _ (List.mem_append_left _ (List.mem_append_left _ h)))))
theorem pz_X11_bringSeats_X00 : ∀ x ∈ wsX00, x ∈ wsX11_bringSeats := fun _ h => (List.mem_cons_of_mem _ (List.mem_append_left _ (List.mem_append_right _ h)))
theorem pz_X11_bringSeats_X11_bringSeats_r2 : ∀ x ∈ wsX11_bringSeats_r2, x ∈ wsX11_bringSeats := fun _ h => (List.mem_cons_of_mem _ (List.mem_append_left _ (List.mem_append_left _ (List.mem_append_left _ (List.mem_append_right _ h)))))
theorem dX11_count_40 : decode cX11_count 40 = .ok (.getfield 142, 3) := by decide +kernel
theorem dX11_count_43 : decode cX11_count 43 = .ok (.ireturn, 1) := by decide +kernel
theorem dX11_count_44 : decode cX11_count 44 = .ok (.aload_n 0, 1) := by decide +kernel
theorem dX11_count_45 : decode cX11_count 45 = .ok (.getfield 10, 3) := by decide +kernel
theorem dX11_count_48 : decode cX11_count 48 = .ok (.invokevirtual 148, 3) := by decide +kernel
theorem dX11_count_51 : decode cX11_count 51 = .ok (.ireturn, 1) := by decide +kernel
theorem dX11_count_52 : decode cX11_count 52 = .ok (.aload_n 0, 1) := by decide +kernel
theorem dX11_count_53 : decode cX11_count 53 = .ok (.getfield 19, 3) := by decide +kernel
theorem dX11_count_56 : decode cX11_count 56 = .ok (.getfield 133, 3) := by decide +kernel
theorem dX11_count_59 : decode cX11_count 59 = .ok (.ireturn, 1) := by decide +kernel
theorem dX11_count_60 : decode cX11_count 60 = .ok (.aload_n 0, 1) := by decide +kernel
theorem dX11_count_61 : decode cX11_count 61 = .ok (.getfield 19, 3) := by decide +kernel
theorem dX11_count_64 : decode cX11_count 64 = .ok (.invokevirtual 272, 3) := by decide +kernel
theorem dX11_count_67 : decode cX11_count 67 = .ok (.ireturn, 1) := by decide +kernel
theorem dX11_count_68 : decode cX11_count 68 = .ok (.aload_n 0, 1) := by decide +kernel
theorem dX11_count_69 : decode cX11_count 69 = .ok (.getfield 26, 3) := by decide +kernel
theorem dX11_count_72 : decode cX11_count 72 = .ok (.getfield 158, 3) := by decide +kernel
theorem dX11_count_75 : decode cX11_count 75 = .ok (.ireturn, 1) := by decide +kernel
theorem dX11_count_76 : decode cX11_count 76 = .ok (.iconst (-1), 1) := by decide +kernel
theorem dX11_count_77 : decode cX11_count 77 = .ok (.ireturn, 1) := by decide +kernel
theorem dX11_finding_0 : decode cX11_finding 0 = .ok (.aload_n 0, 1) := by decide +kernel
theorem dX11_finding_1 : decode cX11_finding 1 = .ok (.getfield 86, 3) := by decide +kernel
theorem dX11_finding_4 : decode cX11_finding 4 = .ok (.ireturn, 1) := by decide +kernel
theorem dX11_findings_0 : decode cX11_findings 0 = .ok (.iload_n 1, 1) := by decide +kernel
theorem dX11_findings_1 : decode cX11_findings 1 = .ok (.iconst 1, 1) := by decide +kernel
theorem dX11_findings_2 : decode cX11_findings 2 = .ok (.if_icmp .lt 17, 3) := by decide +kernel
theorem dX11_findings_5 : decode cX11_findings 5 = .ok (.iload_n 1, 1) := by decide +kernel
theorem dX11_findings_6 : decode cX11_findings 6 = .ok (.iconst 4, 1) := by decide +kernel
theorem dX11_findings_7 : decode cX11_findings 7 = .ok (.if_icmp .gt 12, 3) := by decide +kernel
theorem dX11_findings_10 : decode cX11_findings 10 = .ok (.aload_n 0, 1) := by decide +kernel
theorem dX11_findings_11 : decode cX11_findings 11 = .ok (.getfield 82, 3) := by decide +kernel
theorem dX11_findings_14 : decode cX11_findings 14 = .ok (.iload_n 1, 1) := by decide +kernel
theorem dX11_findings_15 : decode cX11_findings 15 = .ok (.iaload, 1) := by decide +kernel
theorem dX11_findings_16 : decode cX11_findings 16 = .ok (.goto 4, 3) := by decide +kernel
theorem dX11_findings_19 : decode cX11_findings 19 = .ok (.iconst (-1), 1) := by decide +kernel
theorem dX11_findings_20 : decode cX11_findings 20 = .ok (.ireturn, 1) := by decide +kernel
set_option maxRecDepth 20000 in
theorem ggX11_digest_X11_mix : GoodIn wsX11_digest wsX11_mix := goodIn_sub (gi_c 8 rfl (gi_c 9 rfl gi_n)) (by decide +kernel)
set_option maxRecDepth 20000 in
theorem gX11_digest_X11_mix : GoodIn wsX11_digest (va_wsS RX11 277 yX11_mix wsX11_mix) := goodIn_app (goodIn_of _ (by decide +kernel)) ggX11_digest_X11_mix
set_option maxRecDepth 20000 in
theorem ggX11_digest_X11_mixAll : GoodIn wsX11_digest wsX11_mixAll := goodIn_sub (gi_c 12 rfl (gi_c 5 rfl (gi_c 6 rfl (gi_c 7 rfl (gi_c 8 rfl (gi_c 9 rfl gi_n)))))) (by decide +kernel)
set_option maxRecDepth 20000 in
theorem gX11_digest_X11_mixAll : GoodIn wsX11_digest (va_wsS RX11 281 yX11_mixAll wsX11_mixAll) := goodIn_app (goodIn_of _ (by decide +kernel)) ggX11_digest_X11_mixAll
set_option maxRecDepth 20000 in
theorem ggX11_digest_X6_length : GoodIn wsX11_digest wsX6_length := goodIn_sub (gi_c 16 rfl (gi_a (gi_c 17 rfl (gi_c 18 rfl gi_n)) pz_X11_digest_X60)) (by decide +kernel)
set_option maxRecDepth 20000 in
theorem gX11_digest_X6_length_n181 : GoodIn wsX11_digest (wsX6_length) := ggX11_digest_X6_length
theorem dX11_digest_0 : decode cX11_digest 0 = .ok (.ldc2_w 275, 3) := by decide +kernel
theorem dX11_digest_3 : decode cX11_digest 3 = .ok (.aload_n 0, 1) := by decide +kernel
theorem dX11_digest_4 : decode cX11_digest 4 = .ok (.getfield 10, 3) := by decide +kernel
theorem dX11_digest_7 : decode cX11_digest 7 = .ok (.getfield 142, 3) := by decide +kernel
theorem dX11_digest_10 : decode cX11_digest 10 = .ok (.invokestatic 277, 3) := by decide +kernel
theorem dX11_digest_13 : decode cX11_digest 13 = .ok (.lstore_n 1, 1) := by decide +kernel
theorem dX11_digest_14 : decode cX11_digest 14 = .ok (.lload_n 1, 1) := by decide +kernel
theorem dX11_digest_15 : decode cX11_digest 15 = .ok (.aload_n 0, 1) := by decide +kernel
theorem dX11_digest_16 : decode cX11_digest 16 = .ok (.getfield 10, 3) := by decide +kernel
theorem dX11_digest_19 : decode cX11_digest 19 = .ok (.getfield 108, 3) := by decide +kernel
theorem dX11_digest_22 : decode cX11_digest 22 = .ok (.aload_n 0, 1) := by decide +kernel
theorem dX11_digest_23 : decode cX11_digest 23 = .ok (.getfield 10, 3) := by decide +kernel
theorem dX11_digest_26 : decode cX11_digest 26 = .ok (.getfield 142, 3) := by decide +kernel
theorem dX11_digest_29 : decode cX11_digest 29 = .ok (.invokestatic 281, 3) := by decide +kernel
theorem dX11_digest_32 : decode cX11_digest 32 = .ok (.lstore_n 1, 1) := by decide +kernel
theorem dX11_digest_33 : decode cX11_digest 33 = .ok (.lload_n 1, 1) := by decide +kernel
theorem dX11_digest_34 : decode cX11_digest 34 = .ok (.aload_n 0, 1) := by decide +kernel
theorem dX11_digest_35 : decode cX11_digest 35 = .ok (.getfield 26, 3) := by decide +kernel
theorem dX11_digest_38 : decode cX11_digest 38 = .ok (.getfield 183, 3) := by decide +kernel
theorem dX11_digest_41 : decode cX11_digest 41 = .ok (.aload_n 0, 1) := by decide +kernel
theorem dX11_digest_42 : decode cX11_digest 42 = .ok (.getfield 26, 3) := by decide +kernel
theorem dX11_digest_45 : decode cX11_digest 45 = .ok (.invokevirtual 181, 3) := by decide +kernel
theorem dX11_digest_48 : decode cX11_digest 48 = .ok (.invokestatic 281, 3) := by decide +kernel
theorem dX11_digest_51 : decode cX11_digest 51 = .ok (.lstore_n 1, 1) := by decide +kernel
theorem dX11_digest_52 : decode cX11_digest 52 = .ok (.lload_n 1, 1) := by decide +kernel
theorem dX11_digest_53 : decode cX11_digest 53 = .ok (.aload_n 0, 1) := by decide +kernel
theorem dX11_digest_54 : decode cX11_digest 54 = .ok (.getfield 19, 3) := by decide +kernel
theorem dX11_digest_57 : decode cX11_digest 57 = .ok (.getfield 133, 3) := by decide +kernel
theorem dX11_digest_60 : decode cX11_digest 60 = .ok (.invokestatic 277, 3) := by decide +kernel
theorem dX11_digest_63 : decode cX11_digest 63 = .ok (.lstore_n 1, 1) := by decide +kernel
theorem dX11_digest_64 : decode cX11_digest 64 = .ok (.lload_n 1, 1) := by decide +kernel
theorem dX11_digest_65 : decode cX11_digest 65 = .ok (.aload_n 0, 1) := by decide +kernel
theorem dX11_digest_66 : decode cX11_digest 66 = .ok (.getfield 19, 3) := by decide +kernel
theorem dX11_digest_69 : decode cX11_digest 69 = .ok (.getfield 136, 3) := by decide +kernel
theorem dX11_digest_72 : decode cX11_digest 72 = .ok (.bipush 12, 2) := by decide +kernel
theorem dX11_digest_74 : decode cX11_digest 74 = .ok (.invokestatic 281, 3) := by decide +kernel
theorem dX11_digest_77 : decode cX11_digest 77 = .ok (.lstore_n 1, 1) := by decide +kernel
theorem dX11_digest_78 : decode cX11_digest 78 = .ok (.lload_n 1, 1) := by decide +kernel
theorem dX11_digest_79 : decode cX11_digest 79 = .ok (.aload_n 0, 1) := by decide +kernel
theorem dX11_digest_80 : decode cX11_digest 80 = .ok (.getfield 26, 3) := by decide +kernel
theorem dX11_digest_83 : decode cX11_digest 83 = .ok (.getfield 285, 3) := by decide +kernel
theorem dX11_digest_86 : decode cX11_digest 86 = .ok (.aload_n 0, 1) := by decide +kernel
theorem dX11_digest_87 : decode cX11_digest 87 = .ok (.getfield 26, 3) := by decide +kernel
theorem dX11_digest_90 : decode cX11_digest 90 = .ok (.getfield 158, 3) := by decide +kernel
theorem dX11_digest_93 : decode cX11_digest 93 = .ok (.invokestatic 281, 3) := by decide +kernel
theorem dX11_digest_96 : decode cX11_digest 96 = .ok (.lreturn, 1) := by decide +kernel
theorem dX11_mix_0 : decode cX11_mix 0 = .ok (.ldc2_w 288, 3) := by decide +kernel
theorem dX11_mix_3 : decode cX11_mix 3 = .ok (.lload_n 0, 1) := by decide +kernel
theorem dX11_mix_4 : decode cX11_mix 4 = .ok (.lmul, 1) := by decide +kernel
theorem dX11_mix_5 : decode cX11_mix 5 = .ok (.iload_n 2, 1) := by decide +kernel
theorem dX11_mix_6 : decode cX11_mix 6 = .ok (.i2l, 1) := by decide +kernel
theorem dX11_mix_7 : decode cX11_mix 7 = .ok (.ladd, 1) := by decide +kernel
theorem dX11_mix_8 : decode cX11_mix 8 = .ok (.lreturn, 1) := by decide +kernel
set_option maxRecDepth 20000 in
theorem ggX11_mixAll_X11_mix : GoodIn wsX11_mixAll wsX11_mix := goodIn_sub (gi_c 4 rfl (gi_c 5 rfl gi_n)) (by decide +kernel)
set_option maxRecDepth 20000 in
theorem gX11_mixAll_X11_mix : GoodIn wsX11_mixAll (va_wsS RX11 277 yX11_mix wsX11_mix) := goodIn_app (goodIn_of _ (by decide +kernel)) ggX11_mixAll_X11_mix
theorem dX11_mixAll_0 : decode cX11_mixAll 0 = .ok (.lload_n 0, 1) := by decide +kernel
theorem dX11_mixAll_1 : decode cX11_mixAll 1 = .ok (.lstore 4, 2) := by decide +kernel
theorem dX11_mixAll_3 : decode cX11_mixAll 3 = .ok (.iconst 0, 1) := by decide +kernel
theorem dX11_mixAll_4 : decode cX11_mixAll 4 = .ok (.istore 6, 2) := by decide +kernel
theorem dX11_mixAll_6 : decode cX11_mixAll 6 = .ok (.iload 6, 2) := by decide +kernel
theorem dX11_mixAll_8 : decode cX11_mixAll 8 = .ok (.iload_n 3, 1) := by decide +kernel
theorem dX11_mixAll_9 : decode cX11_mixAll 9 = .ok (.if_icmp .ge 27, 3) := by decide +kernel
theorem dX11_mixAll_12 : decode cX11_mixAll 12 = .ok (.iload 6, 2) := by decide +kernel
theorem dX11_mixAll_14 : decode cX11_mixAll 14 = .ok (.aload_n 2, 1) := by decide +kernel
theorem dX11_mixAll_15 : decode cX11_mixAll 15 = .ok (.arraylength, 1) := by decide +kernel
theorem dX11_mixAll_16 : decode cX11_mixAll 16 = .ok (.if_icmp .ge 20, 3) := by decide +kernel
theorem dX11_mixAll_19 : decode cX11_mixAll 19 = .ok (.lload 4, 2) := by decide +kernel
theorem dX11_mixAll_21 : decode cX11_mixAll 21 = .ok (.aload_n 2, 1) := by decide +kernel
theorem dX11_mixAll_22 : decode cX11_mixAll 22 = .ok (.iload 6, 2) := by decide +kernel
theorem dX11_mixAll_24 : decode cX11_mixAll 24 = .ok (.iaload, 1) := by decide +kernel
theorem dX11_mixAll_25 : decode cX11_mixAll 25 = .ok (.invokestatic 277, 3) := by decide +kernel
theorem dX11_mixAll_28 : decode cX11_mixAll 28 = .ok (.lstore 4, 2) := by decide +kernel
theorem dX11_mixAll_30 : decode cX11_mixAll 30 = .ok (.iinc 6 1, 3) := by decide +kernel
theorem dX11_mixAll_33 : decode cX11_mixAll 33 = .ok (.goto (-27), 3) := by decide +kernel
theorem dX11_mixAll_36 : decode cX11_mixAll 36 = .ok (.lload 4, 2) := by decide +kernel
theorem dX11_mixAll_38 : decode cX11_mixAll 38 = .ok (.lreturn, 1) := by decide +kernel
theorem dX11_found_0 : decode cX11_found 0 = .ok (.aload_n 0, 1) := by decide +kernel
theorem dX11_found_1 : decode cX11_found 1 = .ok (.iload_n 1, 1) := by decide +kernel
theorem dX11_found_2 : decode cX11_found 2 = .ok (.putfield 86, 3) := by decide +kernel
theorem dX11_found_5 : decode cX11_found 5 = .ok (.aload_n 0, 1) := by decide +kernel
theorem dX11_found_6 : decode cX11_found 6 = .ok (.getfield 82, 3) := by decide +kernel
theorem dX11_found_9 : decode cX11_found 9 = .ok (.iload_n 1, 1) := by decide +kernel
theorem dX11_found_10 : decode cX11_found 10 = .ok (.dup2, 1) := by decide +kernel
theorem dX11_found_11 : decode cX11_found 11 = .ok (.iaload, 1) := by decide +kernel
theorem dX11_found_12 : decode cX11_found 12 = .ok (.iconst 1, 1) := by decide +kernel
theorem dX11_found_13 : decode cX11_found 13 = .ok (.iadd, 1) := by decide +kernel
theorem dX11_found_14 : decode cX11_found 14 = .ok (.iastore, 1) := by decide +kernel
theorem dX11_found_15 : decode cX11_found 15 = .ok (.bipush (-3), 2) := by decide +kernel
theorem dX11_found_17 : decode cX11_found 17 = .ok (.ireturn, 1) := by decide +kernel
set_option maxRecDepth 20000 in
theorem ggX11_startGraph_X4_restart : GoodIn wsX11_startGraph wsX4_restart := goodIn_sub (gi_t pz_X11_startGraph_X11_startGraph_r1 5 rfl (gi_a (gi_t pz_X11_startGraph_X11_startGraph_r1 6 rfl (gi_t pz_X11_startGraph_X11_startGraph_r1 7 rfl (gi_t pz_X11_startGraph_X11_startGraph_r1 8 rfl (gi_t pz_X11_startGraph_X11_startGraph_r1 9 rfl (gi_t pz_X11_startGraph_X11_startGraph_r1 10 rfl (gi_t pz_X11_startGraph_X11_startGraph_r1 11 rfl (gi_t pz_X11_startGraph_X11_startGraph_r1 12 rfl gi_n))))))) pz_X11_startGraph_X40)) (by decide +kernel)
set_option maxRecDepth 20000 in
theorem gX11_startGraph_X4_restart_n290 : GoodIn wsX11_startGraph (wsX4_restart) := ggX11_startGraph_X4_restart
set_option maxRecDepth 20000 in
theorem ggX11_startGraph_X6_drop : GoodIn wsX11_startGraph wsX6_drop := goodIn_sub (gi_t pz_X11_startGraph_X11_startGraph_r1 16 rfl (gi_a (gi_t pz_X11_startGraph_X11_startGraph_r1 17 rfl gi_n) pz_X11_startGraph_X60)) (by decide +kernel)
set_option maxRecDepth 20000 in
theorem gX11_startGraph_X6_drop_n105 : GoodIn wsX11_startGraph (wsX6_drop) := ggX11_startGraph_X6_drop
set_option maxRecDepth 20000 in
theorem ggX11_startGraph_X4_all : GoodIn wsX11_startGraph wsX4_all := goodIn_sub (gi_t pz_X11_startGraph_X11_startGraph_r1 20 rfl (gi_a (gi_t pz_X11_startGraph_X11_startGraph_r1 6 rfl gi_n) pz_X11_startGraph_X40)) (by decide +kernel)
set_option maxRecDepth 20000 in
theorem gX11_startGraph_X4_all_n164 : GoodIn wsX11_startGraph (wsX4_all) := ggX11_startGraph_X4_all
set_option maxRecDepth 20000 in
theorem ggX11_startGraph_X6_keepDrafted : GoodIn wsX11_startGraph wsX6_keepDrafted := goodIn_sub (gi_t pz_X11_startGraph_X11_startGraph_r1 23 rfl (gi_a (gi_t pz_X11_startGraph_X11_startGraph_r2 0 rfl (gi_t pz_X11_startGraph_X11_startGraph_r2 1 rfl (gi_t pz_X11_startGraph_X11_startGraph_r2 2 rfl (gi_t pz_X11_startGraph_X11_startGraph_r2 3 rfl (gi_t pz_X11_startGraph_X11_startGraph_r2 4 rfl gi_n))))) pz_X11_startGraph_X60)) (by decide +kernel)
set_option maxRecDepth 20000 in
theorem gX11_startGraph_X6_keepDrafted_n291 : GoodIn wsX11_startGraph (wsX6_keepDrafted) := ggX11_startGraph_X6_keepDrafted
theorem dX11_startGraph_0 : decode cX11_startGraph 0 = .ok (.aload_n 0, 1) := by decide +kernel
theorem dX11_startGraph_1 : decode cX11_startGraph 1 = .ok (.getfield 10, 3) := by decide +kernel
theorem dX11_startGraph_4 : decode cX11_startGraph 4 = .ok (.iload_n 1, 1) := by decide +kernel
theorem dX11_startGraph_5 : decode cX11_startGraph 5 = .ok (.invokevirtual 290, 3) := by decide +kernel
theorem dX11_startGraph_8 : decode cX11_startGraph 8 = .ok (.aload_n 0, 1) := by decide +kernel
theorem dX11_startGraph_9 : decode cX11_startGraph 9 = .ok (.getfield 26, 3) := by decide +kernel
theorem dX11_startGraph_12 : decode cX11_startGraph 12 = .ok (.invokevirtual 105, 3) := by decide +kernel
theorem dX11_startGraph_15 : decode cX11_startGraph 15 = .ok (.aload_n 0, 1) := by decide +kernel
theorem dX11_startGraph_16 : decode cX11_startGraph 16 = .ok (.getfield 26, 3) := by decide +kernel
theorem dX11_startGraph_19 : decode cX11_startGraph 19 = .ok (.aload_n 0, 1) := by decide +kernel
theorem dX11_startGraph_20 : decode cX11_startGraph 20 = .ok (.getfield 10, 3) := by decide +kernel
theorem dX11_startGraph_23 : decode cX11_startGraph 23 = .ok (.invokevirtual 164, 3) := by decide +kernel
theorem dX11_startGraph_26 : decode cX11_startGraph 26 = .ok (.invokevirtual 291, 3) := by decide +kernel
theorem dX11_startGraph_29 : decode cX11_startGraph 29 = .ok (.return_, 1) := by decide +kernel
set_option maxRecDepth 20000 in
theorem ggX11_isKind_X4_isClique : GoodIn wsX11_isKind wsX4_isClique := goodIn_sub (gi_c 5 rfl (gi_a (gi_c 6 rfl (gi_c 7 rfl (gi_c 8 rfl (gi_c 9 rfl (gi_c 10 rfl gi_n))))) pz_X11_isKind_X40)) (by decide +kernel)
set_option maxRecDepth 20000 in
theorem gX11_isKind_X4_isClique_n202 : GoodIn wsX11_isKind (wsX4_isClique) := ggX11_isKind_X4_isClique
set_option maxRecDepth 20000 in
theorem ggX11_isKind_X4_all : GoodIn wsX11_isKind wsX4_all := goodIn_sub (gi_c 13 rfl (gi_a (gi_c 6 rfl gi_n) pz_X11_isKind_X40)) (by decide +kernel)
set_option maxRecDepth 20000 in
theorem gX11_isKind_X4_all_n164 : GoodIn wsX11_isKind (wsX4_all) := ggX11_isKind_X4_all
theorem dX11_isKind_0 : decode cX11_isKind 0 = .ok (.aload_n 0, 1) := by decide +kernel
theorem dX11_isKind_1 : decode cX11_isKind 1 = .ok (.getfield 10, 3) := by decide +kernel
theorem dX11_isKind_4 : decode cX11_isKind 4 = .ok (.getfield 108, 3) := by decide +kernel
theorem dX11_isKind_7 : decode cX11_isKind 7 = .ok (.iload_n 1, 1) := by decide +kernel
theorem dX11_isKind_8 : decode cX11_isKind 8 = .ok (.iaload, 1) := by decide +kernel
theorem dX11_isKind_9 : decode cX11_isKind 9 = .ok (.istore_n 3, 1) := by decide +kernel
theorem dX11_isKind_10 : decode cX11_isKind 10 = .ok (.iload_n 2, 1) := by decide +kernel
theorem dX11_isKind_11 : decode cX11_isKind 11 = .ok (.tableswitch 46 0 2 #[25, 27, 36], 25) := by decide +kernel
theorem dX11_isKind_36 : decode cX11_isKind 36 = .ok (.iconst 1, 1) := by decide +kernel
theorem dX11_isKind_37 : decode cX11_isKind 37 = .ok (.ireturn, 1) := by decide +kernel
theorem dX11_isKind_38 : decode cX11_isKind 38 = .ok (.aload_n 0, 1) := by decide +kernel
theorem dX11_isKind_39 : decode cX11_isKind 39 = .ok (.getfield 10, 3) := by decide +kernel
theorem dX11_isKind_42 : decode cX11_isKind 42 = .ok (.iload_n 3, 1) := by decide +kernel
theorem dX11_isKind_43 : decode cX11_isKind 43 = .ok (.invokevirtual 202, 3) := by decide +kernel
theorem dX11_isKind_46 : decode cX11_isKind 46 = .ok (.ireturn, 1) := by decide +kernel
theorem dX11_isKind_47 : decode cX11_isKind 47 = .ok (.iload_n 3, 1) := by decide +kernel
theorem dX11_isKind_48 : decode cX11_isKind 48 = .ok (.ifCond .ne 7, 3) := by decide +kernel
theorem dX11_isKind_51 : decode cX11_isKind 51 = .ok (.iconst 1, 1) := by decide +kernel
theorem dX11_isKind_52 : decode cX11_isKind 52 = .ok (.goto 4, 3) := by decide +kernel
theorem dX11_isKind_55 : decode cX11_isKind 55 = .ok (.iconst 0, 1) := by decide +kernel
theorem dX11_isKind_56 : decode cX11_isKind 56 = .ok (.ireturn, 1) := by decide +kernel
theorem dX11_isKind_57 : decode cX11_isKind 57 = .ok (.iload_n 3, 1) := by decide +kernel
theorem dX11_isKind_58 : decode cX11_isKind 58 = .ok (.iconst 1, 1) := by decide +kernel
theorem dX11_isKind_59 : decode cX11_isKind 59 = .ok (.iload_n 1, 1) := by decide +kernel
theorem dX11_isKind_60 : decode cX11_isKind 60 = .ok (.ishl, 1) := by decide +kernel
theorem dX11_isKind_61 : decode cX11_isKind 61 = .ok (.ior, 1) := by decide +kernel
theorem dX11_isKind_62 : decode cX11_isKind 62 = .ok (.aload_n 0, 1) := by decide +kernel
theorem dX11_isKind_63 : decode cX11_isKind 63 = .ok (.getfield 10, 3) := by decide +kernel
theorem dX11_isKind_66 : decode cX11_isKind 66 = .ok (.invokevirtual 164, 3) := by decide +kernel
theorem dX11_isKind_69 : decode cX11_isKind 69 = .ok (.if_icmp .ne 18, 3) := by decide +kernel
theorem dX11_isKind_72 : decode cX11_isKind 72 = .ok (.aload_n 0, 1) := by decide +kernel
theorem dX11_isKind_73 : decode cX11_isKind 73 = .ok (.getfield 10, 3) := by decide +kernel
theorem dX11_isKind_76 : decode cX11_isKind 76 = .ok (.iload_n 3, 1) := by decide +kernel
theorem dX11_isKind_77 : decode cX11_isKind 77 = .ok (.invokevirtual 202, 3) := by decide +kernel
theorem dX11_isKind_80 : decode cX11_isKind 80 = .ok (.ifCond .ne 7, 3) := by decide +kernel
theorem dX11_isKind_83 : decode cX11_isKind 83 = .ok (.iconst 1, 1) := by decide +kernel
theorem dX11_isKind_84 : decode cX11_isKind 84 = .ok (.goto 4, 3) := by decide +kernel
theorem dX11_isKind_87 : decode cX11_isKind 87 = .ok (.iconst 0, 1) := by decide +kernel
theorem dX11_isKind_88 : decode cX11_isKind 88 = .ok (.ireturn, 1) := by decide +kernel
set_option maxRecDepth 20000 in
theorem ggX11_bringSpans_X1_bring : GoodIn wsX11_bringSpans wsX1_bring := goodIn_sub (gi_t pz_X11_bringSpans_X11_bringSpans_r1 6 rfl (gi_a (gi_a (gi_a (gi_t pz_X11_bringSpans_X11_bringSpans_r1 7 rfl (gi_t pz_X11_bringSpans_X11_bringSpans_r1 8 rfl (gi_t pz_X11_bringSpans_X11_bringSpans_r1 9 rfl (gi_t pz_X11_bringSpans_X11_bringSpans_r1 10 rfl (gi_t pz_X11_bringSpans_X11_bringSpans_r1 11 rfl (gi_t pz_X11_bringSpans_X11_bringSpans_r1 12 rfl (gi_t pz_X11_bringSpans_X11_bringSpans_r1 13 rfl (gi_t pz_X11_bringSpans_X11_bringSpans_r1 14 rfl (gi_t pz_X11_bringSpans_X11_bringSpans_r1 15 rfl (gi_t pz_X11_bringSpans_X11_bringSpans_r1 16 rfl (gi_t pz_X11_bringSpans_X11_bringSpans_r1 17 rfl (gi_t pz_X11_bringSpans_X11_bringSpans_r1 4 rfl (gi_t pz_X11_bringSpans_X11_bringSpans_r1 18 rfl (gi_t pz_X11_bringSpans_X11_bringSpans_r1 19 rfl (gi_t pz_X11_bringSpans_X11_bringSpans_r1 20 rfl (gi_t pz_X11_bringSpans_X11_bringSpans_r1 21 rfl (gi_t pz_X11_bringSpans_X11_bringSpans_r1 22 rfl (gi_t pz_X11_bringSpans_X11_bringSpans_r1 23 rfl (gi_t pz_X11_bringSpans_X11_bringSpans_r2 0 rfl (gi_t pz_X11_bringSpans_X11_bringSpans_r2 1 rfl (gi_t pz_X11_bringSpans_X11_bringSpans_r2 2 rfl (gi_t pz_X11_bringSpans_X11_bringSpans_r2 3 rfl (gi_t pz_X11_bringSpans_X11_bringSpans_r2 4 rfl (gi_t pz_X11_bringSpans_X11_bringSpans_r2 5 rfl gi_n)))))))))))))))))))))))) (gi_t pz_X11_bringSpans_X11_bringSpans_r2 6 rfl (gi_t pz_X11_bringSpans_X11_bringSpans_r2 7 rfl (gi_t pz_X11_bringSpans_X11_bringSpans_r2 8 rfl (gi_t pz_X11_bringSpans_X11_bringSpans_r2 9 rfl (gi_t pz_X11_bringSpans_X11_bringSpans_r2 10 rfl (gi_t pz_X11_bringSpans_X11_bringSpans_r2 11 rfl gi_n))))))) pz_X11_bringSpans_X10) pz_X11_bringSpans_X40)) (by decide +kernel)
set_option maxRecDepth 20000 in
theorem gX11_bringSpans_X1_bring_n193 : GoodIn wsX11_bringSpans (wsX1_bring) := ggX11_bringSpans_X1_bring
set_option maxRecDepth 20000 in
theorem ggX11_bringSpans_X0_refuse : GoodIn wsX11_bringSpans wsX0_refuse := goodIn_sub (gi_t pz_X11_bringSpans_X11_bringSpans_r2 15 rfl (gi_a (gi_t pz_X11_bringSpans_X11_bringSpans_r2 16 rfl (gi_t pz_X11_bringSpans_X11_bringSpans_r2 17 rfl (gi_t pz_X11_bringSpans_X11_bringSpans_r2 18 rfl (gi_t pz_X11_bringSpans_X11_bringSpans_r2 19 rfl (gi_t pz_X11_bringSpans_X11_bringSpans_r2 13 rfl (gi_t pz_X11_bringSpans_X11_bringSpans_r2 20 rfl (gi_t pz_X11_bringSpans_X11_bringSpans_r2 21 rfl (gi_t pz_X11_bringSpans_X11_bringSpans_r2 22 rfl gi_n)))))))) pz_X11_bringSpans_X00)) (by decide +kernel)
set_option maxRecDepth 20000 in
theorem gX11_bringSpans_X0_refuse_n300 : GoodIn wsX11_bringSpans (wsX0_refuse) := ggX11_bringSpans_X0_refuse
set_option maxRecDepth 20000 in
theorem ggX11_bringSpans_X0_restart : GoodIn wsX11_bringSpans wsX0_restart := goodIn_sub (gi_t pz_X11_bringSpans_X11_bringSpans_r2 20 rfl (gi_a (gi_t pz_X11_bringSpans_X11_bringSpans_r2 21 rfl (gi_t pz_X11_bringSpans_X11_bringSpans_r2 22 rfl gi_n)) pz_X11_bringSpans_X00)) (by decide +kernel)
set_option maxRecDepth 20000 in
theorem gX11_bringSpans_X0_restart_n303 : GoodIn wsX11_bringSpans (wsX0_restart) := ggX11_bringSpans_X0_restart
set_option maxRecDepth 20000 in
theorem ggX11_bringSpans_X1_with : GoodIn wsX11_bringSpans wsX1_with := goodIn_sub (gi_t pz_X11_bringSpans_X11_bringSpans_r3 1 rfl (gi_a (gi_t pz_X11_bringSpans_X11_bringSpans_r1 8 rfl (gi_t pz_X11_bringSpans_X11_bringSpans_r2 6 rfl (gi_t pz_X11_bringSpans_X11_bringSpans_r1 23 rfl (gi_t pz_X11_bringSpans_X11_bringSpans_r2 0 rfl (gi_t pz_X11_bringSpans_X11_bringSpans_r2 1 rfl gi_n))))) pz_X11_bringSpans_X10)) (by decide +kernel)
set_option maxRecDepth 20000 in
theorem gX11_bringSpans_X1_with_n304 : GoodIn wsX11_bringSpans (wsX1_with) := ggX11_bringSpans_X1_with
set_option maxRecDepth 20000 in
theorem ggX11_bringSpans_X0_addRow : GoodIn wsX11_bringSpans wsX0_addRow := goodIn_sub (gi_t pz_X11_bringSpans_X11_bringSpans_r3 4 rfl (gi_a (gi_t pz_X11_bringSpans_X11_bringSpans_r2 22 rfl (gi_t pz_X11_bringSpans_X11_bringSpans_r3 5 rfl gi_n)) pz_X11_bringSpans_X00)) (by decide +kernel)
set_option maxRecDepth 20000 in
theorem gX11_bringSpans_X0_addRow_n307 : GoodIn wsX11_bringSpans (wsX0_addRow) := ggX11_bringSpans_X0_addRow
set_option maxRecDepth 20000 in
theorem ggX11_bringSpans_X0_findFirst : GoodIn wsX11_bringSpans wsX0_findFirst := goodIn_sub (gi_t pz_X11_bringSpans_X11_bringSpans_r3 8 rfl (gi_a (gi_t pz_X11_bringSpans_X11_bringSpans_r3 9 rfl (gi_t pz_X11_bringSpans_X11_bringSpans_r2 21 rfl (gi_t pz_X11_bringSpans_X11_bringSpans_r2 16 rfl (gi_t pz_X11_bringSpans_X11_bringSpans_r3 10 rfl (gi_t pz_X11_bringSpans_X11_bringSpans_r3 11 rfl (gi_t pz_X11_bringSpans_X11_bringSpans_r3 12 rfl (gi_t pz_X11_bringSpans_X11_bringSpans_r3 13 rfl (gi_t pz_X11_bringSpans_X11_bringSpans_r3 14 rfl (gi_t pz_X11_bringSpans_X11_bringSpans_r3 15 rfl (gi_t pz_X11_bringSpans_X11_bringSpans_r3 16 rfl (gi_t pz_X11_bringSpans_X11_bringSpans_r3 17 rfl (gi_t pz_X11_bringSpans_X11_bringSpans_r3 18 rfl (gi_t pz_X11_bringSpans_X11_bringSpans_r2 13 rfl (gi_t pz_X11_bringSpans_X11_bringSpans_r3 19 rfl (gi_t pz_X11_bringSpans_X11_bringSpans_r3 20 rfl (gi_t pz_X11_bringSpans_X11_bringSpans_r3 21 rfl (gi_t pz_X11_bringSpans_X11_bringSpans_r3 22 rfl (gi_t pz_X11_bringSpans_X11_bringSpans_r3 23 rfl (gi_t pz_X11_bringSpans_X11_bringSpans_r4 0 rfl (gi_t pz_X11_bringSpans_X11_bringSpans_r2 22 rfl (gi_t pz_X11_bringSpans_X11_bringSpans_r3 5 rfl (gi_t pz_X11_bringSpans_X11_bringSpans_r1 23 rfl (gi_t pz_X11_bringSpans_X11_bringSpans_r2 0 rfl (gi_t pz_X11_bringSpans_X11_bringSpans_r2 1 rfl gi_n)))))))))))))))))))))))) pz_X11_bringSpans_X00)) (by decide +kernel)
set_option maxRecDepth 20000 in
theorem gX11_bringSpans_X0_findFirst_n310 : GoodIn wsX11_bringSpans (wsX0_findFirst) := ggX11_bringSpans_X0_findFirst
theorem dX11_bringSpans_0 : decode cX11_bringSpans 0 = .ok (.aload_n 0, 1) := by decide +kernel
theorem dX11_bringSpans_1 : decode cX11_bringSpans 1 = .ok (.getfield 75, 3) := by decide +kernel
theorem dX11_bringSpans_4 : decode cX11_bringSpans 4 = .ok (.getfield 294, 3) := by decide +kernel
theorem dX11_bringSpans_7 : decode cX11_bringSpans 7 = .ok (.aload_n 0, 1) := by decide +kernel
theorem dX11_bringSpans_8 : decode cX11_bringSpans 8 = .ok (.getfield 10, 3) := by decide +kernel
theorem dX11_bringSpans_11 : decode cX11_bringSpans 11 = .ok (.getfield 297, 3) := by decide +kernel
theorem dX11_bringSpans_14 : decode cX11_bringSpans 14 = .ok (.if_icmp .ne 4, 3) := by decide +kernel
theorem dX11_bringSpans_17 : decode cX11_bringSpans 17 = .ok (.return_, 1) := by decide +kernel
theorem dX11_bringSpans_18 : decode cX11_bringSpans 18 = .ok (.aload_n 0, 1) := by decide +kernel
theorem dX11_bringSpans_19 : decode cX11_bringSpans 19 = .ok (.getfield 75, 3) := by decide +kernel
theorem dX11_bringSpans_22 : decode cX11_bringSpans 22 = .ok (.aload_n 0, 1) := by decide +kernel
theorem dX11_bringSpans_23 : decode cX11_bringSpans 23 = .ok (.getfield 10, 3) := by decide +kernel
theorem dX11_bringSpans_26 : decode cX11_bringSpans 26 = .ok (.getfield 297, 3) := by decide +kernel
theorem dX11_bringSpans_29 : decode cX11_bringSpans 29 = .ok (.putfield 294, 3) := by decide +kernel
theorem dX11_bringSpans_32 : decode cX11_bringSpans 32 = .ok (.aload_n 0, 1) := by decide +kernel
theorem dX11_bringSpans_33 : decode cX11_bringSpans 33 = .ok (.getfield 42, 3) := by decide +kernel
theorem dX11_bringSpans_36 : decode cX11_bringSpans 36 = .ok (.aload_n 0, 1) := by decide +kernel
theorem dX11_bringSpans_37 : decode cX11_bringSpans 37 = .ok (.getfield 10, 3) := by decide +kernel
theorem dX11_bringSpans_40 : decode cX11_bringSpans 40 = .ok (.invokevirtual 193, 3) := by decide +kernel
theorem dX11_bringSpans_43 : decode cX11_bringSpans 43 = .ok (.aload_n 0, 1) := by decide +kernel
theorem dX11_bringSpans_44 : decode cX11_bringSpans 44 = .ok (.getfield 42, 3) := by decide +kernel
theorem dX11_bringSpans_47 : decode cX11_bringSpans 47 = .ok (.getfield 194, 3) := by decide +kernel
theorem dX11_bringSpans_50 : decode cX11_bringSpans 50 = .ok (.bipush 12, 2) := by decide +kernel
theorem dX11_bringSpans_52 : decode cX11_bringSpans 52 = .ok (.if_icmp .le 11, 3) := by decide +kernel
theorem dX11_bringSpans_55 : decode cX11_bringSpans 55 = .ok (.aload_n 0, 1) := by decide +kernel
theorem dX11_bringSpans_56 : decode cX11_bringSpans 56 = .ok (.getfield 75, 3) := by decide +kernel
theorem dX11_bringSpans_59 : decode cX11_bringSpans 59 = .ok (.invokevirtual 300, 3) := by decide +kernel
theorem dX11_bringSpans_62 : decode cX11_bringSpans 62 = .ok (.return_, 1) := by decide +kernel
theorem dX11_bringSpans_63 : decode cX11_bringSpans 63 = .ok (.aload_n 0, 1) := by decide +kernel
theorem dX11_bringSpans_64 : decode cX11_bringSpans 64 = .ok (.getfield 75, 3) := by decide +kernel
theorem dX11_bringSpans_67 : decode cX11_bringSpans 67 = .ok (.aload_n 0, 1) := by decide +kernel
theorem dX11_bringSpans_68 : decode cX11_bringSpans 68 = .ok (.getfield 42, 3) := by decide +kernel
theorem dX11_bringSpans_71 : decode cX11_bringSpans 71 = .ok (.getfield 194, 3) := by decide +kernel
theorem dX11_bringSpans_74 : decode cX11_bringSpans 74 = .ok (.invokevirtual 303, 3) := by decide +kernel
theorem dX11_bringSpans_77 : decode cX11_bringSpans 77 = .ok (.iconst 0, 1) := by decide +kernel
theorem dX11_bringSpans_78 : decode cX11_bringSpans 78 = .ok (.istore_n 1, 1) := by decide +kernel
theorem dX11_bringSpans_79 : decode cX11_bringSpans 79 = .ok (.iload_n 1, 1) := by decide +kernel
theorem dX11_bringSpans_80 : decode cX11_bringSpans 80 = .ok (.aload_n 0, 1) := by decide +kernel
theorem dX11_bringSpans_81 : decode cX11_bringSpans 81 = .ok (.getfield 10, 3) := by decide +kernel
theorem dX11_bringSpans_84 : decode cX11_bringSpans 84 = .ok (.getfield 142, 3) := by decide +kernel
theorem dX11_bringSpans_87 : decode cX11_bringSpans 87 = .ok (.if_icmp .ge 24, 3) := by decide +kernel
theorem dX11_bringSpans_90 : decode cX11_bringSpans 90 = .ok (.aload_n 0, 1) := by decide +kernel
theorem dX11_bringSpans_91 : decode cX11_bringSpans 91 = .ok (.getfield 75, 3) := by decide +kernel
theorem dX11_bringSpans_94 : decode cX11_bringSpans 94 = .ok (.aload_n 0, 1) := by decide +kernel
theorem dX11_bringSpans_95 : decode cX11_bringSpans 95 = .ok (.getfield 42, 3) := by decide +kernel
theorem dX11_bringSpans_98 : decode cX11_bringSpans 98 = .ok (.iload_n 1, 1) := by decide +kernel
theorem dX11_bringSpans_99 : decode cX11_bringSpans 99 = .ok (.invokevirtual 304, 3) := by decide +kernel
theorem dX11_bringSpans_102 : decode cX11_bringSpans 102 = .ok (.invokevirtual 307, 3) := by decide +kernel
theorem dX11_bringSpans_105 : decode cX11_bringSpans 105 = .ok (.iinc 1 1, 3) := by decide +kernel
theorem dX11_bringSpans_108 : decode cX11_bringSpans 108 = .ok (.goto (-29), 3) := by decide +kernel
theorem dX11_bringSpans_111 : decode cX11_bringSpans 111 = .ok (.aload_n 0, 1) := by decide +kernel
theorem dX11_bringSpans_112 : decode cX11_bringSpans 112 = .ok (.getfield 75, 3) := by decide +kernel
theorem dX11_bringSpans_115 : decode cX11_bringSpans 115 = .ok (.invokevirtual 310, 3) := by decide +kernel
theorem dX11_bringSpans_118 : decode cX11_bringSpans 118 = .ok (.return_, 1) := by decide +kernel
set_option maxRecDepth 20000 in
theorem ggX11_bringSeats_X0_restart : GoodIn wsX11_bringSeats wsX0_restart := goodIn_sub (gi_t pz_X11_bringSeats_X11_bringSeats_r1 5 rfl (gi_a (gi_t pz_X11_bringSeats_X11_bringSeats_r1 6 rfl (gi_t pz_X11_bringSeats_X11_bringSeats_r1 7 rfl gi_n)) pz_X11_bringSeats_X00)) (by decide +kernel)
set_option maxRecDepth 20000 in
theorem gX11_bringSeats_X0_restart_n303 : GoodIn wsX11_bringSeats (wsX0_restart) := ggX11_bringSeats_X0_restart
set_option maxRecDepth 20000 in
theorem ggX11_bringSeats_X0_addRow : GoodIn wsX11_bringSeats wsX0_addRow := goodIn_sub (gi_t pz_X11_bringSeats_X11_bringSeats_r1 10 rfl (gi_a (gi_t pz_X11_bringSeats_X11_bringSeats_r1 7 rfl (gi_t pz_X11_bringSeats_X11_bringSeats_r1 11 rfl gi_n)) pz_X11_bringSeats_X00)) (by decide +kernel)
set_option maxRecDepth 20000 in
theorem gX11_bringSeats_X0_addRow_n307 : GoodIn wsX11_bringSeats (wsX0_addRow) := ggX11_bringSeats_X0_addRow
set_option maxRecDepth 20000 in
theorem ggX11_bringSeats_X0_findFirst : GoodIn wsX11_bringSeats wsX0_findFirst := goodIn_sub (gi_t pz_X11_bringSeats_X11_bringSeats_r1 14 rfl (gi_a (gi_t pz_X11_bringSeats_X11_bringSeats_r1 15 rfl (gi_t pz_X11_bringSeats_X11_bringSeats_r1 6 rfl (gi_t pz_X11_bringSeats_X11_bringSeats_r1 16 rfl (gi_t pz_X11_bringSeats_X11_bringSeats_r1 17 rfl (gi_t pz_X11_bringSeats_X11_bringSeats_r1 18 rfl (gi_t pz_X11_bringSeats_X11_bringSeats_r1 19 rfl (gi_t pz_X11_bringSeats_X11_bringSeats_r1 20 rfl (gi_t pz_X11_bringSeats_X11_bringSeats_r1 21 rfl (gi_t pz_X11_bringSeats_X11_bringSeats_r1 22 rfl (gi_t pz_X11_bringSeats_X11_bringSeats_r1 23 rfl (gi_t pz_X11_bringSeats_X11_bringSeats_r2 0 rfl (gi_t pz_X11_bringSeats_X11_bringSeats_r2 1 rfl (gi_t pz_X11_bringSeats_X11_bringSeats_r1 3 rfl (gi_t pz_X11_bringSeats_X11_bringSeats_r2 2 rfl (gi_t pz_X11_bringSeats_X11_bringSeats_r2 3 rfl (gi_t pz_X11_bringSeats_X11_bringSeats_r2 4 rfl (gi_t pz_X11_bringSeats_X11_bringSeats_r2 5 rfl (gi_t pz_X11_bringSeats_X11_bringSeats_r2 6 rfl (gi_t pz_X11_bringSeats_X11_bringSeats_r2 7 rfl (gi_t pz_X11_bringSeats_X11_bringSeats_r1 7 rfl (gi_t pz_X11_bringSeats_X11_bringSeats_r1 11 rfl (gi_t pz_X11_bringSeats_X11_bringSeats_r2 8 rfl (gi_t pz_X11_bringSeats_X11_bringSeats_r2 9 rfl (gi_t pz_X11_bringSeats_X11_bringSeats_r2 10 rfl gi_n)))))))))))))))))))))))) pz_X11_bringSeats_X00)) (by decide +kernel)
set_option maxRecDepth 20000 in
theorem gX11_bringSeats_X0_findFirst_n310 : GoodIn wsX11_bringSeats (wsX0_findFirst) := ggX11_bringSeats_X0_findFirst
set_option maxRecDepth 20000 in
theorem ggX11_bringSeats_X0_countWays : GoodIn wsX11_bringSeats wsX0_countWays := goodIn_sub (gi_t pz_X11_bringSeats_X11_bringSeats_r2 13 rfl (gi_a (gi_t pz_X11_bringSeats_X11_bringSeats_r1 6 rfl (gi_t pz_X11_bringSeats_X11_bringSeats_r1 15 rfl (gi_t pz_X11_bringSeats_X11_bringSeats_r2 14 rfl (gi_t pz_X11_bringSeats_X11_bringSeats_r1 17 rfl (gi_t pz_X11_bringSeats_X11_bringSeats_r1 18 rfl (gi_t pz_X11_bringSeats_X11_bringSeats_r1 19 rfl (gi_t pz_X11_bringSeats_X11_bringSeats_r1 20 rfl (gi_t pz_X11_bringSeats_X11_bringSeats_r1 21 rfl (gi_t pz_X11_bringSeats_X11_bringSeats_r1 22 rfl (gi_t pz_X11_bringSeats_X11_bringSeats_r1 23 rfl (gi_t pz_X11_bringSeats_X11_bringSeats_r2 4 rfl (gi_t pz_X11_bringSeats_X11_bringSeats_r2 5 rfl (gi_t pz_X11_bringSeats_X11_bringSeats_r2 6 rfl (gi_t pz_X11_bringSeats_X11_bringSeats_r1 3 rfl (gi_t pz_X11_bringSeats_X11_bringSeats_r2 7 rfl (gi_t pz_X11_bringSeats_X11_bringSeats_r1 7 rfl (gi_t pz_X11_bringSeats_X11_bringSeats_r1 11 rfl (gi_t pz_X11_bringSeats_X11_bringSeats_r2 8 rfl (gi_t pz_X11_bringSeats_X11_bringSeats_r2 9 rfl (gi_t pz_X11_bringSeats_X11_bringSeats_r2 10 rfl gi_n)))))))))))))))))))) pz_X11_bringSeats_X00)) (by decide +kernel)
set_option maxRecDepth 20000 in
theorem gX11_bringSeats_X0_countWays_n314 : GoodIn wsX11_bringSeats (wsX0_countWays) := ggX11_bringSeats_X0_countWays
theorem dX11_bringSeats_0 : decode cX11_bringSeats 0 = .ok (.aload_n 0, 1) := by decide +kernel
theorem dX11_bringSeats_1 : decode cX11_bringSeats 1 = .ok (.getfield 79, 3) := by decide +kernel
theorem dX11_bringSeats_4 : decode cX11_bringSeats 4 = .ok (.getfield 294, 3) := by decide +kernel
theorem dX11_bringSeats_7 : decode cX11_bringSeats 7 = .ok (.aload_n 0, 1) := by decide +kernel
theorem dX11_bringSeats_8 : decode cX11_bringSeats 8 = .ok (.getfield 19, 3) := by decide +kernel
theorem dX11_bringSeats_11 : decode cX11_bringSeats 11 = .ok (.getfield 313, 3) := by decide +kernel
theorem dX11_bringSeats_14 : decode cX11_bringSeats 14 = .ok (.if_icmp .ne 4, 3) := by decide +kernel
theorem dX11_bringSeats_17 : decode cX11_bringSeats 17 = .ok (.return_, 1) := by decide +kernel
theorem dX11_bringSeats_18 : decode cX11_bringSeats 18 = .ok (.aload_n 0, 1) := by decide +kernel
theorem dX11_bringSeats_19 : decode cX11_bringSeats 19 = .ok (.getfield 79, 3) := by decide +kernel
theorem dX11_bringSeats_22 : decode cX11_bringSeats 22 = .ok (.aload_n 0, 1) := by decide +kernel
theorem dX11_bringSeats_23 : decode cX11_bringSeats 23 = .ok (.getfield 19, 3) := by decide +kernel
theorem dX11_bringSeats_26 : decode cX11_bringSeats 26 = .ok (.getfield 313, 3) := by decide +kernel
theorem dX11_bringSeats_29 : decode cX11_bringSeats 29 = .ok (.putfield 294, 3) := by decide +kernel
theorem dX11_bringSeats_32 : decode cX11_bringSeats 32 = .ok (.aload_n 0, 1) := by decide +kernel
theorem dX11_bringSeats_33 : decode cX11_bringSeats 33 = .ok (.getfield 79, 3) := by decide +kernel
theorem dX11_bringSeats_36 : decode cX11_bringSeats 36 = .ok (.aload_n 0, 1) := by decide +kernel
theorem dX11_bringSeats_37 : decode cX11_bringSeats 37 = .ok (.getfield 19, 3) := by decide +kernel
theorem dX11_bringSeats_40 : decode cX11_bringSeats 40 = .ok (.getfield 133, 3) := by decide +kernel
theorem dX11_bringSeats_43 : decode cX11_bringSeats 43 = .ok (.invokevirtual 303, 3) := by decide +kernel
theorem dX11_bringSeats_46 : decode cX11_bringSeats 46 = .ok (.iconst 0, 1) := by decide +kernel
theorem dX11_bringSeats_47 : decode cX11_bringSeats 47 = .ok (.istore_n 1, 1) := by decide +kernel
theorem dX11_bringSeats_48 : decode cX11_bringSeats 48 = .ok (.iload_n 1, 1) := by decide +kernel
theorem dX11_bringSeats_49 : decode cX11_bringSeats 49 = .ok (.bipush 12, 2) := by decide +kernel
theorem dX11_bringSeats_51 : decode cX11_bringSeats 51 = .ok (.if_icmp .ge 38, 3) := by decide +kernel
theorem dX11_bringSeats_54 : decode cX11_bringSeats 54 = .ok (.aload_n 0, 1) := by decide +kernel
theorem dX11_bringSeats_55 : decode cX11_bringSeats 55 = .ok (.getfield 19, 3) := by decide +kernel
theorem dX11_bringSeats_58 : decode cX11_bringSeats 58 = .ok (.getfield 136, 3) := by decide +kernel
theorem dX11_bringSeats_61 : decode cX11_bringSeats 61 = .ok (.iload_n 1, 1) := by decide +kernel
theorem dX11_bringSeats_62 : decode cX11_bringSeats 62 = .ok (.iaload, 1) := by decide +kernel
theorem dX11_bringSeats_63 : decode cX11_bringSeats 63 = .ok (.iconst (-1), 1) := by decide +kernel
theorem dX11_bringSeats_64 : decode cX11_bringSeats 64 = .ok (.if_icmp .eq 19, 3) := by decide +kernel
theorem dX11_bringSeats_67 : decode cX11_bringSeats 67 = .ok (.aload_n 0, 1) := by decide +kernel
theorem dX11_bringSeats_68 : decode cX11_bringSeats 68 = .ok (.getfield 79, 3) := by decide +kernel
theorem dX11_bringSeats_71 : decode cX11_bringSeats 71 = .ok (.aload_n 0, 1) := by decide +kernel
theorem dX11_bringSeats_72 : decode cX11_bringSeats 72 = .ok (.getfield 19, 3) := by decide +kernel
theorem dX11_bringSeats_75 : decode cX11_bringSeats 75 = .ok (.getfield 136, 3) := by decide +kernel
theorem dX11_bringSeats_78 : decode cX11_bringSeats 78 = .ok (.iload_n 1, 1) := by decide +kernel
theorem dX11_bringSeats_79 : decode cX11_bringSeats 79 = .ok (.iaload, 1) := by decide +kernel
theorem dX11_bringSeats_80 : decode cX11_bringSeats 80 = .ok (.invokevirtual 307, 3) := by decide +kernel
theorem dX11_bringSeats_83 : decode cX11_bringSeats 83 = .ok (.iinc 1 1, 3) := by decide +kernel
theorem dX11_bringSeats_86 : decode cX11_bringSeats 86 = .ok (.goto (-38), 3) := by decide +kernel
theorem dX11_bringSeats_89 : decode cX11_bringSeats 89 = .ok (.aload_n 0, 1) := by decide +kernel
theorem dX11_bringSeats_90 : decode cX11_bringSeats 90 = .ok (.getfield 79, 3) := by decide +kernel
theorem dX11_bringSeats_93 : decode cX11_bringSeats 93 = .ok (.invokevirtual 310, 3) := by decide +kernel
theorem dX11_bringSeats_96 : decode cX11_bringSeats 96 = .ok (.aload_n 0, 1) := by decide +kernel
theorem dX11_bringSeats_97 : decode cX11_bringSeats 97 = .ok (.getfield 79, 3) := by decide +kernel
theorem dX11_bringSeats_100 : decode cX11_bringSeats 100 = .ok (.invokevirtual 314, 3) := by decide +kernel
theorem dX11_bringSeats_103 : decode cX11_bringSeats 103 = .ok (.return_, 1) := by decide +kernel
theorem dX11_in_0 : decode cX11_in 0 = .ok (.iload_n 0, 1) := by decide +kernel
theorem dX11_in_1 : decode cX11_in 1 = .ok (.iload_n 1, 1) := by decide +kernel
theorem dX11_in_2 : decode cX11_in 2 = .ok (.ishr, 1) := by decide +kernel
theorem dX11_in_3 : decode cX11_in 3 = .ok (.iconst 1, 1) := by decide +kernel
theorem dX11_in_4 : decode cX11_in 4 = .ok (.iand, 1) := by decide +kernel
theorem dX11_in_5 : decode cX11_in 5 = .ok (.ifCond .eq 7, 3) := by decide +kernel
theorem dX11_in_8 : decode cX11_in 8 = .ok (.iconst 1, 1) := by decide +kernel
theorem dX11_in_9 : decode cX11_in 9 = .ok (.goto 4, 3) := by decide +kernel
theorem dX11_in_12 : decode cX11_in 12 = .ok (.iconst 0, 1) := by decide +kernel
theorem dX11_in_13 : decode cX11_in 13 = .ok (.ireturn, 1) := by decide +kernel
theorem dX11_withoutLeast_0 : decode cX11_withoutLeast 0 = .ok (.iload_n 0, 1) := by decide +kernel
theorem dX11_withoutLeast_1 : decode cX11_withoutLeast 1 = .ok (.iload_n 0, 1) := by decide +kernel
theorem dX11_withoutLeast_2 : decode cX11_withoutLeast 2 = .ok (.iconst 1, 1) := by decide +kernel
theorem dX11_withoutLeast_3 : decode cX11_withoutLeast 3 = .ok (.isub, 1) := by decide +kernel
theorem dX11_withoutLeast_4 : decode cX11_withoutLeast 4 = .ok (.iand, 1) := by decide +kernel
theorem dX11_withoutLeast_5 : decode cX11_withoutLeast 5 = .ok (.ireturn, 1) := by decide +kernel
set_option maxRecDepth 20000 in
theorem ggX11_reached_J6_numberOfTrailingZeros_0f7a4 : GoodIn wsX11_reached wsJ6_numberOfTrailingZeros_0f7a4 := goodIn_sub (gi_c 4 rfl (gi_c 5 rfl gi_n)) (by decide +kernel)
set_option maxRecDepth 20000 in
theorem gX11_reached_J6_numberOfTrailingZeros_0f7a4 : GoodIn wsX11_reached (va_wsS RX11 317 yJ6_numberOfTrailingZeros_0f7a4 wsJ6_numberOfTrailingZeros_0f7a4) := goodIn_app (goodIn_of _ (by decide +kernel)) ggX11_reached_J6_numberOfTrailingZeros_0f7a4
set_option maxRecDepth 20000 in
theorem ggX11_reached_X11_withoutLeast : GoodIn wsX11_reached wsX11_withoutLeast := goodIn_sub (gi_c 9 rfl gi_n) (by decide +kernel)
set_option maxRecDepth 20000 in
theorem gX11_reached_X11_withoutLeast : GoodIn wsX11_reached (va_wsS RX11 320 yX11_withoutLeast wsX11_withoutLeast) := goodIn_app (goodIn_of _ (by decide +kernel)) ggX11_reached_X11_withoutLeast
theorem dX11_reached_0 : decode cX11_reached 0 = .ok (.iconst 1, 1) := by decide +kernel
theorem dX11_reached_1 : decode cX11_reached 1 = .ok (.iload_n 1, 1) := by decide +kernel
theorem dX11_reached_2 : decode cX11_reached 2 = .ok (.ishl, 1) := by decide +kernel
theorem dX11_reached_3 : decode cX11_reached 3 = .ok (.istore_n 3, 1) := by decide +kernel
theorem dX11_reached_4 : decode cX11_reached 4 = .ok (.iload_n 3, 1) := by decide +kernel
theorem dX11_reached_5 : decode cX11_reached 5 = .ok (.istore 4, 2) := by decide +kernel
theorem dX11_reached_7 : decode cX11_reached 7 = .ok (.iconst 0, 1) := by decide +kernel
theorem dX11_reached_8 : decode cX11_reached 8 = .ok (.istore 5, 2) := by decide +kernel
theorem dX11_reached_10 : decode cX11_reached 10 = .ok (.iload 5, 2) := by decide +kernel
theorem dX11_reached_12 : decode cX11_reached 12 = .ok (.bipush 12, 2) := by decide +kernel
theorem dX11_reached_14 : decode cX11_reached 14 = .ok (.if_icmp .ge 44, 3) := by decide +kernel
theorem dX11_reached_17 : decode cX11_reached 17 = .ok (.iload 4, 2) := by decide +kernel
theorem dX11_reached_19 : decode cX11_reached 19 = .ok (.ifCond .eq 39, 3) := by decide +kernel
theorem dX11_reached_22 : decode cX11_reached 22 = .ok (.aload_n 0, 1) := by decide +kernel
theorem dX11_reached_23 : decode cX11_reached 23 = .ok (.iload 4, 2) := by decide +kernel
theorem dX11_reached_25 : decode cX11_reached 25 = .ok (.invokestatic 317, 3) := by decide +kernel
theorem dX11_reached_28 : decode cX11_reached 28 = .ok (.iaload, 1) := by decide +kernel
theorem dX11_reached_29 : decode cX11_reached 29 = .ok (.iload_n 2, 1) := by decide +kernel
theorem dX11_reached_30 : decode cX11_reached 30 = .ok (.iand, 1) := by decide +kernel
theorem dX11_reached_31 : decode cX11_reached 31 = .ok (.iload_n 3, 1) := by decide +kernel
theorem dX11_reached_32 : decode cX11_reached 32 = .ok (.iconst (-1), 1) := by decide +kernel
theorem dX11_reached_33 : decode cX11_reached 33 = .ok (.ixor, 1) := by decide +kernel
theorem dX11_reached_34 : decode cX11_reached 34 = .ok (.iand, 1) := by decide +kernel
theorem dX11_reached_35 : decode cX11_reached 35 = .ok (.istore 6, 2) := by decide +kernel
theorem dX11_reached_37 : decode cX11_reached 37 = .ok (.iload_n 3, 1) := by decide +kernel
theorem dX11_reached_38 : decode cX11_reached 38 = .ok (.iload 6, 2) := by decide +kernel
theorem dX11_reached_40 : decode cX11_reached 40 = .ok (.ior, 1) := by decide +kernel
theorem dX11_reached_41 : decode cX11_reached 41 = .ok (.istore_n 3, 1) := by decide +kernel
theorem dX11_reached_42 : decode cX11_reached 42 = .ok (.iload 4, 2) := by decide +kernel
theorem dX11_reached_44 : decode cX11_reached 44 = .ok (.invokestatic 320, 3) := by decide +kernel
theorem dX11_reached_47 : decode cX11_reached 47 = .ok (.iload 6, 2) := by decide +kernel
theorem dX11_reached_49 : decode cX11_reached 49 = .ok (.ior, 1) := by decide +kernel
theorem dX11_reached_50 : decode cX11_reached 50 = .ok (.istore 4, 2) := by decide +kernel
theorem dX11_reached_52 : decode cX11_reached 52 = .ok (.iinc 5 1, 3) := by decide +kernel
theorem dX11_reached_55 : decode cX11_reached 55 = .ok (.goto (-45), 3) := by decide +kernel
theorem dX11_reached_58 : decode cX11_reached 58 = .ok (.iload_n 3, 1) := by decide +kernel
theorem dX11_reached_59 : decode cX11_reached 59 = .ok (.ireturn, 1) := by decide +kernel
theorem dJ6_numberOfLeadingZeros_0f7a4_0 : decode cJ6_numberOfLeadingZeros_0f7a4 0 = .ok (.iload_n 0, 1) := by decide +kernel
theorem dJ6_numberOfLeadingZeros_0f7a4_1 : decode cJ6_numberOfLeadingZeros_0f7a4 1 = .ok (.ifCond .gt 14, 3) := by decide +kernel
theorem dJ6_numberOfLeadingZeros_0f7a4_15 : decode cJ6_numberOfLeadingZeros_0f7a4 15 = .ok (.bipush 31, 2) := by decide +kernel
theorem dJ6_numberOfLeadingZeros_0f7a4_17 : decode cJ6_numberOfLeadingZeros_0f7a4 17 = .ok (.istore_n 1, 1) := by decide +kernel
theorem dJ6_numberOfLeadingZeros_0f7a4_18 : decode cJ6_numberOfLeadingZeros_0f7a4 18 = .ok (.iload_n 0, 1) := by decide +kernel
theorem dJ6_numberOfLeadingZeros_0f7a4_19 : decode cJ6_numberOfLeadingZeros_0f7a4 19 = .ok (.ldc_w 264, 3) := by decide +kernel
theorem dJ6_numberOfLeadingZeros_0f7a4_22 : decode cJ6_numberOfLeadingZeros_0f7a4 22 = .ok (.if_icmp .lt 11, 3) := by decide +kernel
theorem dJ6_numberOfLeadingZeros_0f7a4_33 : decode cJ6_numberOfLeadingZeros_0f7a4 33 = .ok (.iload_n 0, 1) := by decide +kernel
theorem dJ6_numberOfLeadingZeros_0f7a4_34 : decode cJ6_numberOfLeadingZeros_0f7a4 34 = .ok (.sipush 256, 3) := by decide +kernel
theorem dJ6_numberOfLeadingZeros_0f7a4_37 : decode cJ6_numberOfLeadingZeros_0f7a4 37 = .ok (.if_icmp .lt 11, 3) := by decide +kernel
theorem dJ6_numberOfLeadingZeros_0f7a4_40 : decode cJ6_numberOfLeadingZeros_0f7a4 40 = .ok (.iinc 1 (-8), 3) := by decide +kernel
theorem dJ6_numberOfLeadingZeros_0f7a4_43 : decode cJ6_numberOfLeadingZeros_0f7a4 43 = .ok (.iload_n 0, 1) := by decide +kernel
theorem dJ6_numberOfLeadingZeros_0f7a4_44 : decode cJ6_numberOfLeadingZeros_0f7a4 44 = .ok (.bipush 8, 2) := by decide +kernel
theorem dJ6_numberOfLeadingZeros_0f7a4_46 : decode cJ6_numberOfLeadingZeros_0f7a4 46 = .ok (.iushr, 1) := by decide +kernel
theorem dJ6_numberOfLeadingZeros_0f7a4_47 : decode cJ6_numberOfLeadingZeros_0f7a4 47 = .ok (.istore_n 0, 1) := by decide +kernel
theorem dJ6_numberOfLeadingZeros_0f7a4_48 : decode cJ6_numberOfLeadingZeros_0f7a4 48 = .ok (.iload_n 0, 1) := by decide +kernel
theorem dJ6_numberOfLeadingZeros_0f7a4_49 : decode cJ6_numberOfLeadingZeros_0f7a4 49 = .ok (.bipush 16, 2) := by decide +kernel
theorem dJ6_numberOfLeadingZeros_0f7a4_51 : decode cJ6_numberOfLeadingZeros_0f7a4 51 = .ok (.if_icmp .lt 10, 3) := by decide +kernel
theorem dJ6_numberOfLeadingZeros_0f7a4_54 : decode cJ6_numberOfLeadingZeros_0f7a4 54 = .ok (.iinc 1 (-4), 3) := by decide +kernel
theorem dJ6_numberOfLeadingZeros_0f7a4_57 : decode cJ6_numberOfLeadingZeros_0f7a4 57 = .ok (.iload_n 0, 1) := by decide +kernel
theorem dJ6_numberOfLeadingZeros_0f7a4_58 : decode cJ6_numberOfLeadingZeros_0f7a4 58 = .ok (.iconst 4, 1) := by decide +kernel
theorem dJ6_numberOfLeadingZeros_0f7a4_59 : decode cJ6_numberOfLeadingZeros_0f7a4 59 = .ok (.iushr, 1) := by decide +kernel
theorem dJ6_numberOfLeadingZeros_0f7a4_60 : decode cJ6_numberOfLeadingZeros_0f7a4 60 = .ok (.istore_n 0, 1) := by decide +kernel
theorem dJ6_numberOfLeadingZeros_0f7a4_61 : decode cJ6_numberOfLeadingZeros_0f7a4 61 = .ok (.iload_n 0, 1) := by decide +kernel
theorem dJ6_numberOfLeadingZeros_0f7a4_62 : decode cJ6_numberOfLeadingZeros_0f7a4 62 = .ok (.iconst 4, 1) := by decide +kernel
theorem dJ6_numberOfLeadingZeros_0f7a4_63 : decode cJ6_numberOfLeadingZeros_0f7a4 63 = .ok (.if_icmp .lt 10, 3) := by decide +kernel
theorem dJ6_numberOfLeadingZeros_0f7a4_66 : decode cJ6_numberOfLeadingZeros_0f7a4 66 = .ok (.iinc 1 (-2), 3) := by decide +kernel
theorem dJ6_numberOfLeadingZeros_0f7a4_69 : decode cJ6_numberOfLeadingZeros_0f7a4 69 = .ok (.iload_n 0, 1) := by decide +kernel
theorem dJ6_numberOfLeadingZeros_0f7a4_70 : decode cJ6_numberOfLeadingZeros_0f7a4 70 = .ok (.iconst 2, 1) := by decide +kernel
theorem dJ6_numberOfLeadingZeros_0f7a4_71 : decode cJ6_numberOfLeadingZeros_0f7a4 71 = .ok (.iushr, 1) := by decide +kernel
theorem dJ6_numberOfLeadingZeros_0f7a4_72 : decode cJ6_numberOfLeadingZeros_0f7a4 72 = .ok (.istore_n 0, 1) := by decide +kernel
theorem dJ6_numberOfLeadingZeros_0f7a4_73 : decode cJ6_numberOfLeadingZeros_0f7a4 73 = .ok (.iload_n 1, 1) := by decide +kernel
theorem dJ6_numberOfLeadingZeros_0f7a4_74 : decode cJ6_numberOfLeadingZeros_0f7a4 74 = .ok (.iload_n 0, 1) := by decide +kernel
theorem dJ6_numberOfLeadingZeros_0f7a4_75 : decode cJ6_numberOfLeadingZeros_0f7a4 75 = .ok (.iconst 1, 1) := by decide +kernel
theorem dJ6_numberOfLeadingZeros_0f7a4_76 : decode cJ6_numberOfLeadingZeros_0f7a4 76 = .ok (.iushr, 1) := by decide +kernel
theorem dJ6_numberOfLeadingZeros_0f7a4_77 : decode cJ6_numberOfLeadingZeros_0f7a4 77 = .ok (.isub, 1) := by decide +kernel
theorem dJ6_numberOfLeadingZeros_0f7a4_78 : decode cJ6_numberOfLeadingZeros_0f7a4 78 = .ok (.ireturn, 1) := by decide +kernel
theorem dJ6_numberOfTrailingZeros_0f7a4_0 : decode cJ6_numberOfTrailingZeros_0f7a4 0 = .ok (.iload_n 0, 1) := by decide +kernel
theorem dJ6_numberOfTrailingZeros_0f7a4_1 : decode cJ6_numberOfTrailingZeros_0f7a4 1 = .ok (.iconst (-1), 1) := by decide +kernel
theorem dJ6_numberOfTrailingZeros_0f7a4_2 : decode cJ6_numberOfTrailingZeros_0f7a4 2 = .ok (.ixor, 1) := by decide +kernel
theorem dJ6_numberOfTrailingZeros_0f7a4_3 : decode cJ6_numberOfTrailingZeros_0f7a4 3 = .ok (.iload_n 0, 1) := by decide +kernel
theorem dJ6_numberOfTrailingZeros_0f7a4_4 : decode cJ6_numberOfTrailingZeros_0f7a4 4 = .ok (.iconst 1, 1) := by decide +kernel
theorem dJ6_numberOfTrailingZeros_0f7a4_5 : decode cJ6_numberOfTrailingZeros_0f7a4 5 = .ok (.isub, 1) := by decide +kernel
theorem dJ6_numberOfTrailingZeros_0f7a4_6 : decode cJ6_numberOfTrailingZeros_0f7a4 6 = .ok (.iand, 1) := by decide +kernel
theorem dJ6_numberOfTrailingZeros_0f7a4_7 : decode cJ6_numberOfTrailingZeros_0f7a4 7 = .ok (.istore_n 0, 1) := by decide +kernel
theorem dJ6_numberOfTrailingZeros_0f7a4_8 : decode cJ6_numberOfTrailingZeros_0f7a4 8 = .ok (.iload_n 0, 1) := by decide +kernel
theorem dJ6_numberOfTrailingZeros_0f7a4_9 : decode cJ6_numberOfTrailingZeros_0f7a4 9 = .ok (.ifCond .gt 8, 3) := by decide +kernel
theorem dJ6_numberOfTrailingZeros_0f7a4_12 : decode cJ6_numberOfTrailingZeros_0f7a4 12 = .ok (.iload_n 0, 1) := by decide +kernel
theorem dJ6_numberOfTrailingZeros_0f7a4_13 : decode cJ6_numberOfTrailingZeros_0f7a4 13 = .ok (.bipush 32, 2) := by decide +kernel
theorem dJ6_numberOfTrailingZeros_0f7a4_15 : decode cJ6_numberOfTrailingZeros_0f7a4 15 = .ok (.iand, 1) := by decide +kernel
theorem dJ6_numberOfTrailingZeros_0f7a4_16 : decode cJ6_numberOfTrailingZeros_0f7a4 16 = .ok (.ireturn, 1) := by decide +kernel
theorem dJ6_numberOfTrailingZeros_0f7a4_17 : decode cJ6_numberOfTrailingZeros_0f7a4 17 = .ok (.iconst 1, 1) := by decide +kernel
theorem dJ6_numberOfTrailingZeros_0f7a4_18 : decode cJ6_numberOfTrailingZeros_0f7a4 18 = .ok (.istore_n 1, 1) := by decide +kernel
theorem dJ6_numberOfTrailingZeros_0f7a4_19 : decode cJ6_numberOfTrailingZeros_0f7a4 19 = .ok (.iload_n 0, 1) := by decide +kernel
theorem dJ6_numberOfTrailingZeros_0f7a4_20 : decode cJ6_numberOfTrailingZeros_0f7a4 20 = .ok (.ldc_w 264, 3) := by decide +kernel
theorem dJ6_numberOfTrailingZeros_0f7a4_23 : decode cJ6_numberOfTrailingZeros_0f7a4 23 = .ok (.if_icmp .le 11, 3) := by decide +kernel
theorem dJ6_numberOfTrailingZeros_0f7a4_34 : decode cJ6_numberOfTrailingZeros_0f7a4 34 = .ok (.iload_n 0, 1) := by decide +kernel
theorem dJ6_numberOfTrailingZeros_0f7a4_35 : decode cJ6_numberOfTrailingZeros_0f7a4 35 = .ok (.sipush 256, 3) := by decide +kernel
theorem dJ6_numberOfTrailingZeros_0f7a4_38 : decode cJ6_numberOfTrailingZeros_0f7a4 38 = .ok (.if_icmp .le 11, 3) := by decide +kernel
theorem dJ6_numberOfTrailingZeros_0f7a4_41 : decode cJ6_numberOfTrailingZeros_0f7a4 41 = .ok (.iinc 1 8, 3) := by decide +kernel
theorem dJ6_numberOfTrailingZeros_0f7a4_44 : decode cJ6_numberOfTrailingZeros_0f7a4 44 = .ok (.iload_n 0, 1) := by decide +kernel
theorem dJ6_numberOfTrailingZeros_0f7a4_45 : decode cJ6_numberOfTrailingZeros_0f7a4 45 = .ok (.bipush 8, 2) := by decide +kernel
theorem dJ6_numberOfTrailingZeros_0f7a4_47 : decode cJ6_numberOfTrailingZeros_0f7a4 47 = .ok (.iushr, 1) := by decide +kernel
theorem dJ6_numberOfTrailingZeros_0f7a4_48 : decode cJ6_numberOfTrailingZeros_0f7a4 48 = .ok (.istore_n 0, 1) := by decide +kernel
theorem dJ6_numberOfTrailingZeros_0f7a4_49 : decode cJ6_numberOfTrailingZeros_0f7a4 49 = .ok (.iload_n 0, 1) := by decide +kernel
theorem dJ6_numberOfTrailingZeros_0f7a4_50 : decode cJ6_numberOfTrailingZeros_0f7a4 50 = .ok (.bipush 16, 2) := by decide +kernel
theorem dJ6_numberOfTrailingZeros_0f7a4_52 : decode cJ6_numberOfTrailingZeros_0f7a4 52 = .ok (.if_icmp .le 10, 3) := by decide +kernel
theorem dJ6_numberOfTrailingZeros_0f7a4_55 : decode cJ6_numberOfTrailingZeros_0f7a4 55 = .ok (.iinc 1 4, 3) := by decide +kernel
theorem dJ6_numberOfTrailingZeros_0f7a4_58 : decode cJ6_numberOfTrailingZeros_0f7a4 58 = .ok (.iload_n 0, 1) := by decide +kernel
theorem dJ6_numberOfTrailingZeros_0f7a4_59 : decode cJ6_numberOfTrailingZeros_0f7a4 59 = .ok (.iconst 4, 1) := by decide +kernel
theorem dJ6_numberOfTrailingZeros_0f7a4_60 : decode cJ6_numberOfTrailingZeros_0f7a4 60 = .ok (.iushr, 1) := by decide +kernel
theorem dJ6_numberOfTrailingZeros_0f7a4_61 : decode cJ6_numberOfTrailingZeros_0f7a4 61 = .ok (.istore_n 0, 1) := by decide +kernel
theorem dJ6_numberOfTrailingZeros_0f7a4_62 : decode cJ6_numberOfTrailingZeros_0f7a4 62 = .ok (.iload_n 0, 1) := by decide +kernel
theorem dJ6_numberOfTrailingZeros_0f7a4_63 : decode cJ6_numberOfTrailingZeros_0f7a4 63 = .ok (.iconst 4, 1) := by decide +kernel
theorem dJ6_numberOfTrailingZeros_0f7a4_64 : decode cJ6_numberOfTrailingZeros_0f7a4 64 = .ok (.if_icmp .le 10, 3) := by decide +kernel
theorem dJ6_numberOfTrailingZeros_0f7a4_67 : decode cJ6_numberOfTrailingZeros_0f7a4 67 = .ok (.iinc 1 2, 3) := by decide +kernel
theorem dJ6_numberOfTrailingZeros_0f7a4_70 : decode cJ6_numberOfTrailingZeros_0f7a4 70 = .ok (.iload_n 0, 1) := by decide +kernel
theorem dJ6_numberOfTrailingZeros_0f7a4_71 : decode cJ6_numberOfTrailingZeros_0f7a4 71 = .ok (.iconst 2, 1) := by decide +kernel
theorem dJ6_numberOfTrailingZeros_0f7a4_72 : decode cJ6_numberOfTrailingZeros_0f7a4 72 = .ok (.iushr, 1) := by decide +kernel
theorem dJ6_numberOfTrailingZeros_0f7a4_73 : decode cJ6_numberOfTrailingZeros_0f7a4 73 = .ok (.istore_n 0, 1) := by decide +kernel
theorem dJ6_numberOfTrailingZeros_0f7a4_74 : decode cJ6_numberOfTrailingZeros_0f7a4 74 = .ok (.iload_n 1, 1) := by decide +kernel
theorem dJ6_numberOfTrailingZeros_0f7a4_75 : decode cJ6_numberOfTrailingZeros_0f7a4 75 = .ok (.iload_n 0, 1) := by decide +kernel
theorem dJ6_numberOfTrailingZeros_0f7a4_76 : decode cJ6_numberOfTrailingZeros_0f7a4 76 = .ok (.iconst 1, 1) := by decide +kernel
theorem dJ6_numberOfTrailingZeros_0f7a4_77 : decode cJ6_numberOfTrailingZeros_0f7a4 77 = .ok (.iushr, 1) := by decide +kernel
theorem dJ6_numberOfTrailingZeros_0f7a4_78 : decode cJ6_numberOfTrailingZeros_0f7a4 78 = .ok (.iadd, 1) := by decide +kernel
theorem dJ6_numberOfTrailingZeros_0f7a4_79 : decode cJ6_numberOfTrailingZeros_0f7a4 79 = .ok (.ireturn, 1) := by decide +kernel
theorem dJ6_bitCount_0f7a4_0 : decode cJ6_bitCount_0f7a4 0 = .ok (.iload_n 0, 1) := by decide +kernel
theorem dJ6_bitCount_0f7a4_1 : decode cJ6_bitCount_0f7a4 1 = .ok (.iload_n 0, 1) := by decide +kernel
theorem dJ6_bitCount_0f7a4_2 : decode cJ6_bitCount_0f7a4 2 = .ok (.iconst 1, 1) := by decide +kernel
theorem dJ6_bitCount_0f7a4_3 : decode cJ6_bitCount_0f7a4 3 = .ok (.iushr, 1) := by decide +kernel
theorem dJ6_bitCount_0f7a4_4 : decode cJ6_bitCount_0f7a4 4 = .ok (.ldc_w 265, 3) := by decide +kernel
theorem dJ6_bitCount_0f7a4_7 : decode cJ6_bitCount_0f7a4 7 = .ok (.iand, 1) := by decide +kernel
theorem dJ6_bitCount_0f7a4_8 : decode cJ6_bitCount_0f7a4 8 = .ok (.isub, 1) := by decide +kernel
theorem dJ6_bitCount_0f7a4_9 : decode cJ6_bitCount_0f7a4 9 = .ok (.istore_n 0, 1) := by decide +kernel
theorem dJ6_bitCount_0f7a4_10 : decode cJ6_bitCount_0f7a4 10 = .ok (.iload_n 0, 1) := by decide +kernel
theorem dJ6_bitCount_0f7a4_11 : decode cJ6_bitCount_0f7a4 11 = .ok (.ldc_w 266, 3) := by decide +kernel
theorem dJ6_bitCount_0f7a4_14 : decode cJ6_bitCount_0f7a4 14 = .ok (.iand, 1) := by decide +kernel
theorem dJ6_bitCount_0f7a4_15 : decode cJ6_bitCount_0f7a4 15 = .ok (.iload_n 0, 1) := by decide +kernel
theorem dJ6_bitCount_0f7a4_16 : decode cJ6_bitCount_0f7a4 16 = .ok (.iconst 2, 1) := by decide +kernel
theorem dJ6_bitCount_0f7a4_17 : decode cJ6_bitCount_0f7a4 17 = .ok (.iushr, 1) := by decide +kernel
theorem dJ6_bitCount_0f7a4_18 : decode cJ6_bitCount_0f7a4 18 = .ok (.ldc_w 266, 3) := by decide +kernel
theorem dJ6_bitCount_0f7a4_21 : decode cJ6_bitCount_0f7a4 21 = .ok (.iand, 1) := by decide +kernel
theorem dJ6_bitCount_0f7a4_22 : decode cJ6_bitCount_0f7a4 22 = .ok (.iadd, 1) := by decide +kernel
theorem dJ6_bitCount_0f7a4_23 : decode cJ6_bitCount_0f7a4 23 = .ok (.istore_n 0, 1) := by decide +kernel
theorem dJ6_bitCount_0f7a4_24 : decode cJ6_bitCount_0f7a4 24 = .ok (.iload_n 0, 1) := by decide +kernel
theorem dJ6_bitCount_0f7a4_25 : decode cJ6_bitCount_0f7a4 25 = .ok (.iload_n 0, 1) := by decide +kernel
theorem dJ6_bitCount_0f7a4_26 : decode cJ6_bitCount_0f7a4 26 = .ok (.iconst 4, 1) := by decide +kernel
theorem dJ6_bitCount_0f7a4_27 : decode cJ6_bitCount_0f7a4 27 = .ok (.iushr, 1) := by decide +kernel
theorem dJ6_bitCount_0f7a4_28 : decode cJ6_bitCount_0f7a4 28 = .ok (.iadd, 1) := by decide +kernel
theorem dJ6_bitCount_0f7a4_29 : decode cJ6_bitCount_0f7a4 29 = .ok (.ldc_w 267, 3) := by decide +kernel
theorem dJ6_bitCount_0f7a4_32 : decode cJ6_bitCount_0f7a4 32 = .ok (.iand, 1) := by decide +kernel
theorem dJ6_bitCount_0f7a4_33 : decode cJ6_bitCount_0f7a4 33 = .ok (.istore_n 0, 1) := by decide +kernel
theorem dJ6_bitCount_0f7a4_34 : decode cJ6_bitCount_0f7a4 34 = .ok (.iload_n 0, 1) := by decide +kernel
theorem dJ6_bitCount_0f7a4_35 : decode cJ6_bitCount_0f7a4 35 = .ok (.iload_n 0, 1) := by decide +kernel
theorem dJ6_bitCount_0f7a4_36 : decode cJ6_bitCount_0f7a4 36 = .ok (.bipush 8, 2) := by decide +kernel
theorem dJ6_bitCount_0f7a4_38 : decode cJ6_bitCount_0f7a4 38 = .ok (.iushr, 1) := by decide +kernel
theorem dJ6_bitCount_0f7a4_39 : decode cJ6_bitCount_0f7a4 39 = .ok (.iadd, 1) := by decide +kernel
theorem dJ6_bitCount_0f7a4_40 : decode cJ6_bitCount_0f7a4 40 = .ok (.istore_n 0, 1) := by decide +kernel
theorem dJ6_bitCount_0f7a4_41 : decode cJ6_bitCount_0f7a4 41 = .ok (.iload_n 0, 1) := by decide +kernel
theorem dJ6_bitCount_0f7a4_42 : decode cJ6_bitCount_0f7a4 42 = .ok (.iload_n 0, 1) := by decide +kernel
theorem dJ6_bitCount_0f7a4_43 : decode cJ6_bitCount_0f7a4 43 = .ok (.bipush 16, 2) := by decide +kernel
theorem dJ6_bitCount_0f7a4_45 : decode cJ6_bitCount_0f7a4 45 = .ok (.iushr, 1) := by decide +kernel
theorem dJ6_bitCount_0f7a4_46 : decode cJ6_bitCount_0f7a4 46 = .ok (.iadd, 1) := by decide +kernel
theorem dJ6_bitCount_0f7a4_47 : decode cJ6_bitCount_0f7a4 47 = .ok (.istore_n 0, 1) := by decide +kernel
theorem dJ6_bitCount_0f7a4_48 : decode cJ6_bitCount_0f7a4 48 = .ok (.iload_n 0, 1) := by decide +kernel
theorem dJ6_bitCount_0f7a4_49 : decode cJ6_bitCount_0f7a4 49 = .ok (.bipush 63, 2) := by decide +kernel
theorem dJ6_bitCount_0f7a4_51 : decode cJ6_bitCount_0f7a4 51 = .ok (.iand, 1) := by decide +kernel
theorem dJ6_bitCount_0f7a4_52 : decode cJ6_bitCount_0f7a4 52 = .ok (.ireturn, 1) := by decide +kernel
theorem dJ7_rangeCheck_23922_0 : decode cJ7_rangeCheck_23922 0 = .ok (.iload_n 1, 1) := by decide +kernel
theorem dJ7_rangeCheck_23922_1 : decode cJ7_rangeCheck_23922 1 = .ok (.iload_n 2, 1) := by decide +kernel
theorem dJ7_rangeCheck_23922_2 : decode cJ7_rangeCheck_23922 2 = .ok (.if_icmp .le 44, 3) := by decide +kernel
theorem dJ7_rangeCheck_23922_46 : decode cJ7_rangeCheck_23922 46 = .ok (.iload_n 1, 1) := by decide +kernel
theorem dJ7_rangeCheck_23922_47 : decode cJ7_rangeCheck_23922 47 = .ok (.ifCond .ge 12, 3) := by decide +kernel
theorem dJ7_rangeCheck_23922_59 : decode cJ7_rangeCheck_23922 59 = .ok (.iload_n 2, 1) := by decide +kernel
theorem dJ7_rangeCheck_23922_60 : decode cJ7_rangeCheck_23922 60 = .ok (.iload_n 0, 1) := by decide +kernel
theorem dJ7_rangeCheck_23922_61 : decode cJ7_rangeCheck_23922 61 = .ok (.if_icmp .le 12, 3) := by decide +kernel
theorem dJ7_rangeCheck_23922_73 : decode cJ7_rangeCheck_23922 73 = .ok (.return_, 1) := by decide +kernel
theorem dJ7_fill_53178_0 : decode cJ7_fill_53178 0 = .ok (.iconst 0, 1) := by decide +kernel
theorem dJ7_fill_53178_1 : decode cJ7_fill_53178 1 = .ok (.istore_n 2, 1) := by decide +kernel
theorem dJ7_fill_53178_2 : decode cJ7_fill_53178 2 = .ok (.aload_n 0, 1) := by decide +kernel
theorem dJ7_fill_53178_3 : decode cJ7_fill_53178 3 = .ok (.arraylength, 1) := by decide +kernel
theorem dJ7_fill_53178_4 : decode cJ7_fill_53178 4 = .ok (.istore_n 3, 1) := by decide +kernel
theorem dJ7_fill_53178_5 : decode cJ7_fill_53178 5 = .ok (.iload_n 2, 1) := by decide +kernel
theorem dJ7_fill_53178_6 : decode cJ7_fill_53178 6 = .ok (.iload_n 3, 1) := by decide +kernel
theorem dJ7_fill_53178_7 : decode cJ7_fill_53178 7 = .ok (.if_icmp .ge 13, 3) := by decide +kernel
theorem dJ7_fill_53178_10 : decode cJ7_fill_53178 10 = .ok (.aload_n 0, 1) := by decide +kernel
theorem dJ7_fill_53178_11 : decode cJ7_fill_53178 11 = .ok (.iload_n 2, 1) := by decide +kernel
theorem dJ7_fill_53178_12 : decode cJ7_fill_53178 12 = .ok (.iload_n 1, 1) := by decide +kernel
theorem dJ7_fill_53178_13 : decode cJ7_fill_53178 13 = .ok (.iastore, 1) := by decide +kernel
theorem dJ7_fill_53178_14 : decode cJ7_fill_53178 14 = .ok (.iinc 2 1, 3) := by decide +kernel
theorem dJ7_fill_53178_17 : decode cJ7_fill_53178 17 = .ok (.goto (-12), 3) := by decide +kernel
theorem dJ7_fill_53178_20 : decode cJ7_fill_53178 20 = .ok (.return_, 1) := by decide +kernel
set_option maxRecDepth 20000 in
theorem ggJ7_fill_fda19_J7_rangeCheck_23922 : GoodIn wsJ7_fill_fda19 wsJ7_rangeCheck_23922 := goodIn_sub (gi_c 4 rfl gi_n) (by decide +kernel)
set_option maxRecDepth 20000 in
theorem gJ7_fill_fda19_J7_rangeCheck_23922 : GoodIn wsJ7_fill_fda19 (va_wsS RJ7 13 yJ7_rangeCheck_23922 wsJ7_rangeCheck_23922) := goodIn_app (goodIn_of _ (by decide +kernel)) ggJ7_fill_fda19_J7_rangeCheck_23922
theorem dJ7_fill_fda19_0 : decode cJ7_fill_fda19 0 = .ok (.aload_n 0, 1) := by decide +kernel
theorem dJ7_fill_fda19_1 : decode cJ7_fill_fda19 1 = .ok (.arraylength, 1) := by decide +kernel
theorem dJ7_fill_fda19_2 : decode cJ7_fill_fda19 2 = .ok (.iload_n 1, 1) := by decide +kernel
theorem dJ7_fill_fda19_3 : decode cJ7_fill_fda19 3 = .ok (.iload_n 2, 1) := by decide +kernel
theorem dJ7_fill_fda19_4 : decode cJ7_fill_fda19 4 = .ok (.invokestatic 13, 3) := by decide +kernel
theorem dJ7_fill_fda19_7 : decode cJ7_fill_fda19 7 = .ok (.iload_n 1, 1) := by decide +kernel
theorem dJ7_fill_fda19_8 : decode cJ7_fill_fda19 8 = .ok (.istore 4, 2) := by decide +kernel
theorem dJ7_fill_fda19_10 : decode cJ7_fill_fda19 10 = .ok (.iload 4, 2) := by decide +kernel
theorem dJ7_fill_fda19_12 : decode cJ7_fill_fda19 12 = .ok (.iload_n 2, 1) := by decide +kernel
theorem dJ7_fill_fda19_13 : decode cJ7_fill_fda19 13 = .ok (.if_icmp .ge 14, 3) := by decide +kernel
theorem dJ7_fill_fda19_16 : decode cJ7_fill_fda19 16 = .ok (.aload_n 0, 1) := by decide +kernel
theorem dJ7_fill_fda19_17 : decode cJ7_fill_fda19 17 = .ok (.iload 4, 2) := by decide +kernel
theorem dJ7_fill_fda19_19 : decode cJ7_fill_fda19 19 = .ok (.iload_n 3, 1) := by decide +kernel
theorem dJ7_fill_fda19_20 : decode cJ7_fill_fda19 20 = .ok (.iastore, 1) := by decide +kernel
theorem dJ7_fill_fda19_21 : decode cJ7_fill_fda19 21 = .ok (.iinc 4 1, 3) := by decide +kernel
theorem dJ7_fill_fda19_24 : decode cJ7_fill_fda19 24 = .ok (.goto (-14), 3) := by decide +kernel
theorem dJ7_fill_fda19_27 : decode cJ7_fill_fda19 27 = .ok (.return_, 1) := by decide +kernel
