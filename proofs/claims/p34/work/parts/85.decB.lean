theorem pz_L_law_L_law_r2 : ∀ x ∈ wsL_law_r2, x ∈ wsL_law := fun _ h => (List.mem_append_left _ (List.mem_append_left _ (List.mem_append_left _ (List.mem_append_left _ (List.mem_append_left _ (List.mem_append_left _ (List.mem_append_left _ (List.mem_append_left _ (List.mem_append_left _ (List.mem_append_left _ (List.mem_append_left _ (List.mem_append_left _ (List.mem_append_left _ (List.mem_append_left _ (List.mem_append_right _ (List.mem_append_left _ h))))))))))))))))
theorem pz_L_law_L_law_r1 : ∀ x ∈ wsL_law_r1, x ∈ wsL_law := fun _ h => (List.mem_append_left _ (List.mem_append_left _ (List.mem_append_left _ (List.mem_append_left _ (List.mem_append_left _ (List.mem_append_left _ (List.mem_append_left _ (List.mem_append_left _ (List.mem_append_left _ (List.mem_append_left _ (List.mem_append_left _ (List.mem_append_left _ (List.mem_append_left _ (List.mem_append_left _ (List.mem_append_left _ h)))))))))))))))
theorem pz_L_law_L_law_r3 : ∀ x ∈ wsL_law_r3, x ∈ wsL_law := fun _ h => (List.mem_append_left _ (List.mem_append_left _ (List.mem_append_left _ (List.mem_append_left _ (List.mem_append_left _ (List.mem_append_left _ (List.mem_append_left _ (List.mem_append_left _ (List.mem_append_left _ (List.mem_append_left _ (List.mem_append_left _ (List.mem_append_left _ (List.mem_append_left _ (List.mem_append_left _ (List.mem_append_right _ (List.mem_append_right _ (List.mem_append_left _ h)))))))))))))))))
theorem pz_L_law_L_law_r4 : ∀ x ∈ wsL_law_r4, x ∈ wsL_law := fun _ h => (List.mem_append_left _ (List.mem_append_left _ (List.mem_append_left _ (List.mem_append_left _ (List.mem_append_left _ (List.mem_append_left _ (List.mem_append_left _ (List.mem_append_left _ (List.mem_append_left _ (List.mem_append_left _ (List.mem_append_left _ (List.mem_append_left _ (List.mem_append_left _ (List.mem_append_left _ (List.mem_append_right _ (List.mem_append_right _ (List.mem_append_right _ (List.mem_append_left _ h))))))))))))))))))
theorem pz_L_law_L_law_r5 : ∀ x ∈ wsL_law_r5, x ∈ wsL_law := fun _ h => (List.mem_append_left _ (List.mem_append_left _ (List.mem_append_left _ (List.mem_append_left _ (List.mem_append_left _ (List.mem_append_left _ (List.mem_append_left _ (List.mem_append_left _ (List.mem_append_left _ (List.mem_append_left _ (List.mem_append_left _ (List.mem_append_left _ (List.mem_append_left _ (List.mem_append_left _ (List.mem_append_right _ (List.mem_append_right _ (List.mem_append_right _ (List.mem_append_right _ (List.mem_append_left _ h)))))))))))))))))))
theorem pz_L_law_L_law_r6 : ∀ x ∈ wsL_law_r6, x ∈ wsL_law := fun _ h => (List.mem_append_left _ (List.mem_append_left _ (List.mem_append_left _ (List.mem_append_left _ (List.mem_append_left _ (List.mem_append_left _ (List.mem_append_left _ (List.mem_append_left _ (List.mem_append_left _ (List.mem_append_left _ (List.mem_append_left _ (List.mem_append_left _ (List.mem_append_left _ (List.mem_append_left _ (List.mem_append_right _ (List.mem_append_right _ (List.mem_append_right _ (List.mem_append_right _ (List.mem_append_right _ (List.mem_append_left _ h))))))))))))))))))))
theorem pz_L_law_L_law_r7 : ∀ x ∈ wsL_law_r7, x ∈ wsL_law := fun _ h => (List.mem_append_left _ (List.mem_append_left _ (List.mem_append_left _ (List.mem_append_left _ (List.mem_append_left _ (List.mem_append_left _ (List.mem_append_left _ (List.mem_append_left _ (List.mem_append_left _ (List.mem_append_left _ (List.mem_append_left _ (List.mem_append_left _ (List.mem_append_left _ (List.mem_append_left _ (List.mem_append_right _ (List.mem_append_right _ (List.mem_append_right _ (List.mem_append_right _ (List.mem_append_right _ (List.mem_append_right _ (List.mem_append_left _ h)))))))))))))))))))))
theorem pz_L_law_X40 : ∀ x ∈ wsX40, x ∈ wsL_law := fun _ h => (List.mem_append_left _ (List.mem_append_left _ (List.mem_append_left _ (List.mem_append_left _ (List.mem_append_left _ (List.mem_append_left _ (List.mem_append_left _ (List.mem_append_left _ (List.mem_append_left _ (List.mem_append_left _ (List.mem_append_left _ (List.mem_append_right _ h))))))))))))
theorem pz_L_law_X110 : ∀ x ∈ wsX110, x ∈ wsL_law := fun _ h => (List.mem_append_left _ (List.mem_append_left _ (List.mem_append_left _ (List.mem_append_left _ (List.mem_append_left _ (List.mem_append_left _ (List.mem_append_left _ (List.mem_append_left _ (List.mem_append_left _ (List.mem_append_left _ (List.mem_append_left _ (List.mem_append_left _ (List.mem_append_left _ (List.mem_append_right _ h))))))))))))))
theorem pz_L_law_X100 : ∀ x ∈ wsX100, x ∈ wsL_law := fun _ h => (List.mem_append_left _ (List.mem_append_left _ (List.mem_append_left _ (List.mem_append_left _ (List.mem_append_left _ (List.mem_append_left _ (List.mem_append_left _ (List.mem_append_left _ (List.mem_append_left _ (List.mem_append_left _ (List.mem_append_right _ h)))))))))))
theorem pz_L_law_X60 : ∀ x ∈ wsX60, x ∈ wsL_law := fun _ h => (List.mem_append_left _ (List.mem_append_left _ (List.mem_append_left _ (List.mem_append_left _ (List.mem_append_left _ (List.mem_append_left _ (List.mem_append_left _ (List.mem_append_left _ (List.mem_append_left _ (List.mem_append_right _ h))))))))))
theorem pz_L_law_X90 : ∀ x ∈ wsX90, x ∈ wsL_law := fun _ h => (List.mem_append_left _ (List.mem_append_left _ (List.mem_append_left _ (List.mem_append_left _ (List.mem_append_left _ (List.mem_append_left _ (List.mem_append_left _ (List.mem_append_left _ (List.mem_append_right _ h)))))))))
theorem pz_L_law_X10 : ∀ x ∈ wsX10, x ∈ wsL_law := fun _ h => (List.mem_append_left _ (List.mem_append_left _ (List.mem_append_left _ (List.mem_append_left _ (List.mem_append_left _ (List.mem_append_left _ (List.mem_append_left _ (List.mem_append_right _ h))))))))
theorem pz_L_law_X70 : ∀ x ∈ wsX70, x ∈ wsL_law := fun _ h => (List.mem_append_left _ (List.mem_append_left _ (List.mem_append_left _ (List.mem_append_left _ (List.mem_append_left _ (List.mem_append_left _ (List.mem_append_right _ h)))))))
theorem pz_L_law_X80 : ∀ x ∈ wsX80, x ∈ wsL_law := fun _ h => (List.mem_append_left _ (List.mem_append_left _ (List.mem_append_left _ (List.mem_append_left _ (List.mem_append_left _ (List.mem_append_right _ h))))))
theorem pz_L_law_X20 : ∀ x ∈ wsX20, x ∈ wsL_law := fun _ h => (List.mem_append_left _ (List.mem_append_left _ (List.mem_append_left _ (List.mem_append_left _ (List.mem_append_right _ h)))))
theorem pz_L_law_X00 : ∀ x ∈ wsX00, x ∈ wsL_law := fun _ h => (List.mem_append_left _ (List.mem_append_left _ (List.mem_append_left _ (List.mem_append_right _ h))))
theorem pz_L_law_X30 : ∀ x ∈ wsX30, x ∈ wsL_law := fun _ h => (List.mem_append_left _ (List.mem_append_left _ (List.mem_append_right _ h)))
theorem pz_L_law_X50 : ∀ x ∈ wsX50, x ∈ wsL_law := fun _ h => (List.mem_append_left _ (List.mem_append_right _ h))
theorem pz_L_law_L_law_r8 : ∀ x ∈ wsL_law_r8, x ∈ wsL_law := fun _ h => (List.mem_append_left _ (List.mem_append_left _ (List.mem_append_left _ (List.mem_append_left _ (List.mem_append_left _ (List.mem_append_left _ (List.mem_append_left _ (List.mem_append_left _ (List.mem_append_left _ (List.mem_append_left _ (List.mem_append_left _ (List.mem_append_left _ (List.mem_append_left _ (List.mem_append_left _ (List.mem_append_right _ (List.mem_append_right _ (List.mem_append_right _ (List.mem_append_right _ (List.mem_append_right _ (List.mem_append_right _ (List.mem_append_right _ (List.mem_append_left _ h))))))))))))))))))))))
theorem pz_L_law_X120 : ∀ x ∈ wsX120, x ∈ wsL_law := fun _ h => (List.mem_append_left _ (List.mem_append_left _ (List.mem_append_left _ (List.mem_append_left _ (List.mem_append_left _ (List.mem_append_left _ (List.mem_append_left _ (List.mem_append_left _ (List.mem_append_left _ (List.mem_append_left _ (List.mem_append_left _ (List.mem_append_left _ (List.mem_append_right _ h)))))))))))))
theorem pz_L_law_L_law_r9 : ∀ x ∈ wsL_law_r9, x ∈ wsL_law := fun _ h => (List.mem_append_left _ (List.mem_append_left _ (List.mem_append_left _ (List.mem_append_left _ (List.mem_append_left _ (List.mem_append_left _ (List.mem_append_left _ (List.mem_append_left _ (List.mem_append_left _ (List.mem_append_left _ (List.mem_append_left _ (List.mem_append_left _ (List.mem_append_left _ (List.mem_append_left _ (List.mem_append_right _ (List.mem_append_right _ (List.mem_append_right _ (List.mem_append_right _ (List.mem_append_right _ (List.mem_append_right _ (List.mem_append_right _ (List.mem_append_right _ (List.mem_append_left _ h)))))))))))))))))))))))
theorem pz_L_law_L_law_r10 : ∀ x ∈ wsL_law_r10, x ∈ wsL_law := fun _ h => (List.mem_append_left _ (List.mem_append_left _ (List.mem_append_left _ (List.mem_append_left _ (List.mem_append_left _ (List.mem_append_left _ (List.mem_append_left _ (List.mem_append_left _ (List.mem_append_left _ (List.mem_append_left _ (List.mem_append_left _ (List.mem_append_left _ (List.mem_append_left _ (List.mem_append_left _ (List.mem_append_right _ (List.mem_append_right _ (List.mem_append_right _ (List.mem_append_right _ (List.mem_append_right _ (List.mem_append_right _ (List.mem_append_right _ (List.mem_append_right _ (List.mem_append_right _ (List.mem_append_left _ h))))))))))))))))))))))))
theorem pz_L_law_L_law_r11 : ∀ x ∈ wsL_law_r11, x ∈ wsL_law := fun _ h => (List.mem_append_left _ (List.mem_append_left _ (List.mem_append_left _ (List.mem_append_left _ (List.mem_append_left _ (List.mem_append_left _ (List.mem_append_left _ (List.mem_append_left _ (List.mem_append_left _ (List.mem_append_left _ (List.mem_append_left _ (List.mem_append_left _ (List.mem_append_left _ (List.mem_append_left _ (List.mem_append_right _ (List.mem_append_right _ (List.mem_append_right _ (List.mem_append_right _ (List.mem_append_right _ (List.mem_append_right _ (List.mem_append_right _ (List.mem_append_right _ (List.mem_append_right _ (List.mem_append_right _ (List.mem_append_left _ h)))))))))))))))))))))))))
theorem pz_L_law_L_law_r12 : ∀ x ∈ wsL_law_r12, x ∈ wsL_law := fun _ h => (List.mem_append_left _ (List.mem_append_left _ (List.mem_append_left _ (List.mem_append_left _ (List.mem_append_left _ (List.mem_append_left _ (List.mem_append_left _ (List.mem_append_left _ (List.mem_append_left _ (List.mem_append_left _ (List.mem_append_left _ (List.mem_append_left _ (List.mem_append_left _ (List.mem_append_left _ (List.mem_append_right _ (List.mem_append_right _ (List.mem_append_right _ (List.mem_append_right _ (List.mem_append_right _ (List.mem_append_right _ (List.mem_append_right _ (List.mem_append_right _ (List.mem_append_right _ (List.mem_append_right _ (List.mem_append_right _ (List.mem_append_left _ h))))))))))))))))))))))))))
theorem pz_L_law_L_law_r13 : ∀ x ∈ wsL_law_r13, x ∈ wsL_law := fun _ h => (List.mem_append_left _ (List.mem_append_left _ (List.mem_append_left _ (List.mem_append_left _ (List.mem_append_left _ (List.mem_append_left _ (List.mem_append_left _ (List.mem_append_left _ (List.mem_append_left _ (List.mem_append_left _ (List.mem_append_left _ (List.mem_append_left _ (List.mem_append_left _ (List.mem_append_left _ (List.mem_append_right _ (List.mem_append_right _ (List.mem_append_right _ (List.mem_append_right _ (List.mem_append_right _ (List.mem_append_right _ (List.mem_append_right _ (List.mem_append_right _ (List.mem_append_right _ (List.mem_append_right _ (List.mem_append_right _ (List.mem_append_right _ (List.mem_append_left _ h)))))))))))))))))))))))))))
theorem pz_L_law_L_law_r14 : ∀ x ∈ wsL_law_r14, x ∈ wsL_law := fun _ h => (List.mem_append_left _ (List.mem_append_left _ (List.mem_append_left _ (List.mem_append_left _ (List.mem_append_left _ (List.mem_append_left _ (List.mem_append_left _ (List.mem_append_left _ (List.mem_append_left _ (List.mem_append_left _ (List.mem_append_left _ (List.mem_append_left _ (List.mem_append_left _ (List.mem_append_left _ (List.mem_append_right _ (List.mem_append_right _ (List.mem_append_right _ (List.mem_append_right _ (List.mem_append_right _ (List.mem_append_right _ (List.mem_append_right _ (List.mem_append_right _ (List.mem_append_right _ (List.mem_append_right _ (List.mem_append_right _ (List.mem_append_right _ (List.mem_append_right _ (List.mem_append_left _ h))))))))))))))))))))))))))))
theorem pz_L_law_L_law_r15 : ∀ x ∈ wsL_law_r15, x ∈ wsL_law := fun _ h => (List.mem_append_left _ (List.mem_append_left _ (List.mem_append_left _ (List.mem_append_left _ (List.mem_append_left _ (List.mem_append_left _ (List.mem_append_left _ (List.mem_append_left _ (List.mem_append_left _ (List.mem_append_left _ (List.mem_append_left _ (List.mem_append_left _ (List.mem_append_left _ (List.mem_append_left _ (List.mem_append_right _ (List.mem_append_right _ (List.mem_append_right _ (List.mem_append_right _ (List.mem_append_right _ (List.mem_append_right _ (List.mem_append_right _ (List.mem_append_right _ (List.mem_append_right _ (List.mem_append_right _ (List.mem_append_right _ (List.mem_append_right _ (List.mem_append_right _ (List.mem_append_right _ (List.mem_append_left _ h)))))))))))))))))))))))))))))
theorem pz_L_law_L_law_r16 : ∀ x ∈ wsL_law_r16, x ∈ wsL_law := fun _ h => (List.mem_append_left _ (List.mem_append_left _ (List.mem_append_left _ (List.mem_append_left _ (List.mem_append_left _ (List.mem_append_left _ (List.mem_append_left _ (List.mem_append_left _ (List.mem_append_left _ (List.mem_append_left _ (List.mem_append_left _ (List.mem_append_left _ (List.mem_append_left _ (List.mem_append_left _ (List.mem_append_right _ (List.mem_append_right _ (List.mem_append_right _ (List.mem_append_right _ (List.mem_append_right _ (List.mem_append_right _ (List.mem_append_right _ (List.mem_append_right _ (List.mem_append_right _ (List.mem_append_right _ (List.mem_append_right _ (List.mem_append_right _ (List.mem_append_right _ (List.mem_append_right _ (List.mem_append_right _ (List.mem_append_left _ h))))))))))))))))))))))))))))))
theorem pz_L_law_L_law_r17 : ∀ x ∈ wsL_law_r17, x ∈ wsL_law := fun _ h => (List.mem_append_left _ (List.mem_append_left _ (List.mem_append_left _ (List.mem_append_left _ (List.mem_append_left _ (List.mem_append_left _ (List.mem_append_left _ (List.mem_append_left _ (List.mem_append_left _ (List.mem_append_left _ (List.mem_append_left _ (List.mem_append_left _ (List.mem_append_left _ (List.mem_append_left _ (List.mem_append_right _ (List.mem_append_right _ (List.mem_append_right _ (List.mem_append_right _ (List.mem_append_right _ (List.mem_append_right _ (List.mem_append_right _ (List.mem_append_right _ (List.mem_append_right _ (List.mem_append_right _ (List.mem_append_right _ (List.mem_append_right _ (List.mem_append_right _ (List.mem_append_right _ (List.mem_append_right _ (List.mem_append_right _ (List.mem_append_left _ h)))))))))))))))))))))))))))))))
theorem pz_L_law_L_law_r18 : ∀ x ∈ wsL_law_r18, x ∈ wsL_law := fun _ h => (List.mem_append_left _ (List.mem_append_left _ (List.mem_append_left _ (List.mem_append_left _ (List.mem_append_left _ (List.mem_append_left _ (List.mem_append_left _ (List.mem_append_left _ (List.mem_append_left _ (List.mem_append_left _ (List.mem_append_left _ (List.mem_append_left _ (List.mem_append_left _ (List.mem_append_left _ (List.mem_append_right _ (List.mem_append_right _ (List.mem_append_right _ (List.mem_append_right _ (List.mem_append_right _ (List.mem_append_right _ (List.mem_append_right _ (List.mem_append_right _ (List.mem_append_right _ (List.mem_append_right _ (List.mem_append_right _ (List.mem_append_right _ (List.mem_append_right _ (List.mem_append_right _ (List.mem_append_right _ (List.mem_append_right _ (List.mem_append_right _ (List.mem_append_left _ h))))))))))))))))))))))))))))))))
theorem pz_L_law_L_law_r19 : ∀ x ∈ wsL_law_r19, x ∈ wsL_law := fun _ h => (List.mem_append_left _ (List.mem_append_left _ (List.mem_append_left _ (List.mem_append_left _ (List.mem_append_left _ (List.mem_append_left _ (List.mem_append_left _ (List.mem_append_left _ (List.mem_append_left _ (List.mem_append_left _ (List.mem_append_left _ (List.mem_append_left _ (List.mem_append_left _ (List.mem_append_left _ (List.mem_append_right _ (List.mem_append_right _ (List.mem_append_right _ (List.mem_append_right _ (List.mem_append_right _ (List.mem_append_right _ (List.mem_append_right _ (List.mem_append_right _ (List.mem_append_right _ (List.mem_append_right _ (List.mem_append_right _ (List.mem_append_right _ (List.mem_append_right _ (List.mem_append_right _ (List.mem_append_right _ (List.mem_append_right _ (List.mem_append_right _ (List.mem_append_right _ (List.mem_append_left _ h)))))))))))))))))))))))))))))))))
theorem pz_L_law_L_law_r20 : ∀ x ∈ wsL_law_r20, x ∈ wsL_law := fun _ h => (List.mem_append_left _ (List.mem_append_left _ (List.mem_append_left _ (List.mem_append_left _ (List.mem_append_left _ (List.mem_append_left _ (List.mem_append_left _ (List.mem_append_left _ (List.mem_append_left _ (List.mem_append_left _ (List.mem_append_left _ (List.mem_append_left _ (List.mem_append_left _ (List.mem_append_left _ (List.mem_append_right _ (List.mem_append_right _ (List.mem_append_right _ (List.mem_append_right _ (List.mem_append_right _ (List.mem_append_right _ (List.mem_append_right _ (List.mem_append_right _ (List.mem_append_right _ (List.mem_append_right _ (List.mem_append_right _ (List.mem_append_right _ (List.mem_append_right _ (List.mem_append_right _ (List.mem_append_right _ (List.mem_append_right _ (List.mem_append_right _ (List.mem_append_right _ (List.mem_append_right _ (List.mem_append_left _ h))))))))))))))))))))))))))))))))))
theorem pz_L_law_L_law_r21 : ∀ x ∈ wsL_law_r21, x ∈ wsL_law := fun _ h => (List.mem_append_left _ (List.mem_append_left _ (List.mem_append_left _ (List.mem_append_left _ (List.mem_append_left _ (List.mem_append_left _ (List.mem_append_left _ (List.mem_append_left _ (List.mem_append_left _ (List.mem_append_left _ (List.mem_append_left _ (List.mem_append_left _ (List.mem_append_left _ (List.mem_append_left _ (List.mem_append_right _ (List.mem_append_right _ (List.mem_append_right _ (List.mem_append_right _ (List.mem_append_right _ (List.mem_append_right _ (List.mem_append_right _ (List.mem_append_right _ (List.mem_append_right _ (List.mem_append_right _ (List.mem_append_right _ (List.mem_append_right _ (List.mem_append_right _ (List.mem_append_right _ (List.mem_append_right _ (List.mem_append_right _ (List.mem_append_right _ (List.mem_append_right _ (List.mem_append_right _ (List.mem_append_right _ (List.mem_append_left _ h)))))))))))))))))))))))))))))))))))
theorem pz_L_law_L_law_r22 : ∀ x ∈ wsL_law_r22, x ∈ wsL_law := fun _ h => (List.mem_append_left _ (List.mem_append_left _ (List.mem_append_left _ (List.mem_append_left _ (List.mem_append_left _ (List.mem_append_left _ (List.mem_append_left _ (List.mem_append_left _ (List.mem_append_left _ (List.mem_append_left _ (List.mem_append_left _ (List.mem_append_left _ (List.mem_append_left _ (List.mem_append_left _ (List.mem_append_right _ (List.mem_append_right _ (List.mem_append_right _ (List.mem_append_right _ (List.mem_append_right _ (List.mem_append_right _ (List.mem_append_right _ (List.mem_append_right _ (List.mem_append_right _ (List.mem_append_right _ (List.mem_append_right _ (List.mem_append_right _ (List.mem_append_right _ (List.mem_append_right _ (List.mem_append_right _ (List.mem_append_right _ (List.mem_append_right _ (List.mem_append_right _ (List.mem_append_right _ (List.mem_append_right _ (List.mem_append_right _ (List.mem_append_left _ h))))))))))))))))))))))))))))))))))))
theorem pz_L_law_L_law_r23 : ∀ x ∈ wsL_law_r23, x ∈ wsL_law := fun _ h => (List.mem_append_left _ (List.mem_append_left _ (List.mem_append_left _ (List.mem_append_left _ (List.mem_append_left _ (List.mem_append_left _ (List.mem_append_left _ (List.mem_append_left _ (List.mem_append_left _ (List.mem_append_left _ (List.mem_append_left _ (List.mem_append_left _ (List.mem_append_left _ (List.mem_append_left _ (List.mem_append_right _ (List.mem_append_right _ (List.mem_append_right _ (List.mem_append_right _ (List.mem_append_right _ (List.mem_append_right _ (List.mem_append_right _ (List.mem_append_right _ (List.mem_append_right _ (List.mem_append_right _ (List.mem_append_right _ (List.mem_append_right _ (List.mem_append_right _ (List.mem_append_right _ (List.mem_append_right _ (List.mem_append_right _ (List.mem_append_right _ (List.mem_append_right _ (List.mem_append_right _ (List.mem_append_right _ (List.mem_append_right _ (List.mem_append_right _ (List.mem_append_left _ h)))))))))))))))))))))))))))))))))))))
theorem pz_L_law_L_law_r24 : ∀ x ∈ wsL_law_r24, x ∈ wsL_law := fun _ h => (List.mem_append_left _ (List.mem_append_left _ (List.mem_append_left _ (List.mem_append_left _ (List.mem_append_left _ (List.mem_append_left _ (List.mem_append_left _ (List.mem_append_left _ (List.mem_append_left _ (List.mem_append_left _ (List.mem_append_left _ (List.mem_append_left _ (List.mem_append_left _ (List.mem_append_left _ (List.mem_append_right _ (List.mem_append_right _ (List.mem_append_right _ (List.mem_append_right _ (List.mem_append_right _ (List.mem_append_right _ (List.mem_append_right _ (List.mem_append_right _ (List.mem_append_right _ (List.mem_append_right _ (List.mem_append_right _ (List.mem_append_right _ (List.mem_append_right _ (List.mem_append_right _ (List.mem_append_right _ (List.mem_append_right _ (List.mem_append_right _ (List.mem_append_right _ (List.mem_append_right _ (List.mem_append_right _ (List.mem_append_right _ (List.mem_append_right _ (List.mem_append_right _ (List.mem_append_left _ h))))))))))))))))))))))))))))))))))))))
theorem pz_L_law_L_law_r25 : ∀ x ∈ wsL_law_r25, x ∈ wsL_law := fun _ h => (List.mem_append_left _ (List.mem_append_left _ (List.mem_append_left _ (List.mem_append_left _ (List.mem_append_left _ (List.mem_append_left _ (List.mem_append_left _ (List.mem_append_left _ (List.mem_append_left _ (List.mem_append_left _ (List.mem_append_left _ (List.mem_append_left _ (List.mem_append_left _ (List.mem_append_left _ (List.mem_append_right _ (List.mem_append_right _ (List.mem_append_right _ (List.mem_append_right _ (List.mem_append_right _ (List.mem_append_right _ (List.mem_append_right _ (List.mem_append_right _ (List.mem_append_right _ (List.mem_append_right _ (List.mem_append_right _ (List.mem_append_right _ (List.mem_append_right _ (List.mem_append_right _ (List.mem_append_right _ (List.mem_append_right _ (List.mem_append_right _ (List.mem_append_right _ (List.mem_append_right _ (List.mem_append_right _ (List.mem_append_right _ (List.mem_append_right _ (List.mem_append_right _ (List.mem_append_right _ (List.mem_append_left _ h)))))))))))))))))))))))))))))))))))))))
theorem pz_L_law_L_law_r26 : ∀ x ∈ wsL_law_r26, x ∈ wsL_law := fun _ h => (List.mem_append_left _ (List.mem_append_left _ (List.mem_append_left _ (List.mem_append_left _ (List.mem_append_left _ (List.mem_append_left _ (List.mem_append_left _ (List.mem_append_left _ (List.mem_append_left _ (List.mem_append_left _ (List.mem_append_left _ (List.mem_append_left _ (List.mem_append_left _ (List.mem_append_left _ (List.mem_append_right _ (List.mem_append_right _ (List.mem_append_right _ (List.mem_append_right _ (List.mem_append_right _ (List.mem_append_right _ (List.mem_append_right _ (List.mem_append_right _ (List.mem_append_right _ (List.mem_append_right _ (List.mem_append_right _ (List.mem_append_right _ (List.mem_append_right _ (List.mem_append_right _ (List.mem_append_right _ (List.mem_append_right _ (List.mem_append_right _ (List.mem_append_right _ (List.mem_append_right _ (List.mem_append_right _ (List.mem_append_right _ (List.mem_append_right _ (List.mem_append_right _ (List.mem_append_right _ (List.mem_append_right _ (List.mem_append_left _ h))))))))))))))))))))))))))))))))))))))))
theorem pz_L_law_L_law_r27 : ∀ x ∈ wsL_law_r27, x ∈ wsL_law := fun _ h => (List.mem_append_left _ (List.mem_append_left _ (List.mem_append_left _ (List.mem_append_left _ (List.mem_append_left _ (List.mem_append_left _ (List.mem_append_left _ (List.mem_append_left _ (List.mem_append_left _ (List.mem_append_left _ (List.mem_append_left _ (List.mem_append_left _ (List.mem_append_left _ (List.mem_append_left _ (List.mem_append_right _ (List.mem_append_right _ (List.mem_append_right _ (List.mem_append_right _ (List.mem_append_right _ (List.mem_append_right _ (List.mem_append_right _ (List.mem_append_right _ (List.mem_append_right _ (List.mem_append_right _ (List.mem_append_right _ (List.mem_append_right _ (List.mem_append_right _ (List.mem_append_right _ (List.mem_append_right _ (List.mem_append_right _ (List.mem_append_right _ (List.mem_append_right _ (List.mem_append_right _ (List.mem_append_right _ (List.mem_append_right _ (List.mem_append_right _ (List.mem_append_right _ (List.mem_append_right _ (List.mem_append_right _ (List.mem_append_right _ (List.mem_append_left _ h)))))))))))))))))))))))))))))))))))))))))
theorem pz_L_law_L_law_r28 : ∀ x ∈ wsL_law_r28, x ∈ wsL_law := fun _ h => (List.mem_append_left _ (List.mem_append_left _ (List.mem_append_left _ (List.mem_append_left _ (List.mem_append_left _ (List.mem_append_left _ (List.mem_append_left _ (List.mem_append_left _ (List.mem_append_left _ (List.mem_append_left _ (List.mem_append_left _ (List.mem_append_left _ (List.mem_append_left _ (List.mem_append_left _ (List.mem_append_right _ (List.mem_append_right _ (List.mem_append_right _ (List.mem_append_right _ (List.mem_append_right _ (List.mem_append_right _ (List.mem_append_right _ (List.mem_append_right _ (List.mem_append_right _ (List.mem_append_right _ (List.mem_append_right _ (List.mem_append_right _ (List.mem_append_right _ (List.mem_append_right _ (List.mem_append_right _ (List.mem_append_right _ (List.mem_append_right _ (List.mem_append_right _ (List.mem_append_right _ (List.mem_append_right _ (List.mem_append_right _ (List.mem_append_right _ (List.mem_append_right _ (List.mem_append_right _ (List.mem_append_right _ (List.mem_append_right _ (List.mem_append_right _ (List.mem_append_left _ h))))))))))))))))))))))))))))))))))))))))))
theorem pz_L_law_L_law_r29 : ∀ x ∈ wsL_law_r29, x ∈ wsL_law := fun _ h => (List.mem_append_left _ (List.mem_append_left _ (List.mem_append_left _ (List.mem_append_left _ (List.mem_append_left _ (List.mem_append_left _ (List.mem_append_left _ (List.mem_append_left _ (List.mem_append_left _ (List.mem_append_left _ (List.mem_append_left _ (List.mem_append_left _ (List.mem_append_left _ (List.mem_append_left _ (List.mem_append_right _ (List.mem_append_right _ (List.mem_append_right _ (List.mem_append_right _ (List.mem_append_right _ (List.mem_append_right _ (List.mem_append_right _ (List.mem_append_right _ (List.mem_append_right _ (List.mem_append_right _ (List.mem_append_right _ (List.mem_append_right _ (List.mem_append_right _ (List.mem_append_right _ (List.mem_append_right _ (List.mem_append_right _ (List.mem_append_right _ (List.mem_append_right _ (List.mem_append_right _ (List.mem_append_right _ (List.mem_append_right _ (List.mem_append_right _ (List.mem_append_right _ (List.mem_append_right _ (List.mem_append_right _ (List.mem_append_right _ (List.mem_append_right _ (List.mem_append_right _ (List.mem_append_left _ h)))))))))))))))))))))))))))))))))))))))))))
theorem pz_L_law_L_law_r30 : ∀ x ∈ wsL_law_r30, x ∈ wsL_law := fun _ h => (List.mem_append_left _ (List.mem_append_left _ (List.mem_append_left _ (List.mem_append_left _ (List.mem_append_left _ (List.mem_append_left _ (List.mem_append_left _ (List.mem_append_left _ (List.mem_append_left _ (List.mem_append_left _ (List.mem_append_left _ (List.mem_append_left _ (List.mem_append_left _ (List.mem_append_left _ (List.mem_append_right _ (List.mem_append_right _ (List.mem_append_right _ (List.mem_append_right _ (List.mem_append_right _ (List.mem_append_right _ (List.mem_append_right _ (List.mem_append_right _ (List.mem_append_right _ (List.mem_append_right _ (List.mem_append_right _ (List.mem_append_right _ (List.mem_append_right _ (List.mem_append_right _ (List.mem_append_right _ (List.mem_append_right _ (List.mem_append_right _ (List.mem_append_right _ (List.mem_append_right _ (List.mem_append_right _ (List.mem_append_right _ (List.mem_append_right _ (List.mem_append_right _ (List.mem_append_right _ (List.mem_append_right _ (List.mem_append_right _ (List.mem_append_right _ (List.mem_append_right _ (List.mem_append_right _ (List.mem_append_left _ h))))))))))))))))))))))))))))))))))))))))))))
theorem pz_L_law_L_law_r31 : ∀ x ∈ wsL_law_r31, x ∈ wsL_law := fun _ h => (List.mem_append_left _ (List.mem_append_left _ (List.mem_append_left _ (List.mem_append_left _ (List.mem_append_left _ (List.mem_append_left _ (List.mem_append_left _ (List.mem_append_left _ (List.mem_append_left _ (List.mem_append_left _ (List.mem_append_left _ (List.mem_append_left _ (List.mem_append_left _ (List.mem_append_left _ (List.mem_append_right _ (List.mem_append_right _ (List.mem_append_right _ (List.mem_append_right _ (List.mem_append_right _ (List.mem_append_right _ (List.mem_append_right _ (List.mem_append_right _ (List.mem_append_right _ (List.mem_append_right _ (List.mem_append_right _ (List.mem_append_right _ (List.mem_append_right _ (List.mem_append_right _ (List.mem_append_right _ (List.mem_append_right _ (List.mem_append_right _ (List.mem_append_right _ (List.mem_append_right _ (List.mem_append_right _ (List.mem_append_right _ (List.mem_append_right _ (List.mem_append_right _ (List.mem_append_right _ (List.mem_append_right _ (List.mem_append_right _ (List.mem_append_right _ (List.mem_append_right _ (List.mem_append_right _ (List.mem_append_right _ (List.mem_append_left _ h)))))))))))))))))))))))))))))))))))))))))))))
theorem pz_L_law_L_law_r32 : ∀ x ∈ wsL_law_r32, x ∈ wsL_law := fun _ h => (List.mem_append_left _ (List.mem_append_left _ (List.mem_append_left _ (List.mem_append_left _ (List.mem_append_left _ (List.mem_append_left _ (List.mem_append_left _ (List.mem_append_left _ (List.mem_append_left _ (List.mem_append_left _ (List.mem_append_left _ (List.mem_append_left _ (List.mem_append_left _ (List.mem_append_left _ (List.mem_append_right _ (List.mem_append_right _ (List.mem_append_right _ (List.mem_append_right _ (List.mem_append_right _ (List.mem_append_right _ (List.mem_append_right _ (List.mem_append_right _ (List.mem_append_right _ (List.mem_append_right _ (List.mem_append_right _ (List.mem_append_right _ (List.mem_append_right _ (List.mem_append_right _ (List.mem_append_right _ (List.mem_append_right _ (List.mem_append_right _ (List.mem_append_right _ (List.mem_append_right _ (List.mem_append_right _ (List.mem_append_right _ (List.mem_append_right _ (List.mem_append_right _ (List.mem_append_right _ (List.mem_append_right _ (List.mem_append_right _ (List.mem_append_right _ (List.mem_append_right _ (List.mem_append_right _ (List.mem_append_right _ (List.mem_append_right _ (List.mem_append_left _ h))))))))))))))))))))))))))))))))))))))))))))))
theorem pz_L_law_L_law_r33 : ∀ x ∈ wsL_law_r33, x ∈ wsL_law := fun _ h => (List.mem_append_left _ (List.mem_append_left _ (List.mem_append_left _ (List.mem_append_left _ (List.mem_append_left _ (List.mem_append_left _ (List.mem_append_left _ (List.mem_append_left _ (List.mem_append_left _ (List.mem_append_left _ (List.mem_append_left _ (List.mem_append_left _ (List.mem_append_left _ (List.mem_append_left _ (List.mem_append_right _ (List.mem_append_right _ (List.mem_append_right _ (List.mem_append_right _ (List.mem_append_right _ (List.mem_append_right _ (List.mem_append_right _ (List.mem_append_right _ (List.mem_append_right _ (List.mem_append_right _ (List.mem_append_right _ (List.mem_append_right _ (List.mem_append_right _ (List.mem_append_right _ (List.mem_append_right _ (List.mem_append_right _ (List.mem_append_right _ (List.mem_append_right _ (List.mem_append_right _ (List.mem_append_right _ (List.mem_append_right _ (List.mem_append_right _ (List.mem_append_right _ (List.mem_append_right _ (List.mem_append_right _ (List.mem_append_right _ (List.mem_append_right _ (List.mem_append_right _ (List.mem_append_right _ (List.mem_append_right _ (List.mem_append_right _ (List.mem_append_right _ (List.mem_append_left _ h)))))))))))))))))))))))))))))))))))))))))))))))
theorem pz_L_law_L_law_r34 : ∀ x ∈ wsL_law_r34, x ∈ wsL_law := fun _ h => (List.mem_append_left _ (List.mem_append_left _ (List.mem_append_left _ (List.mem_append_left _ (List.mem_append_left _ (List.mem_append_left _ (List.mem_append_left _ (List.mem_append_left _ (List.mem_append_left _ (List.mem_append_left _ (List.mem_append_left _ (List.mem_append_left _ (List.mem_append_left _ (List.mem_append_left _ (List.mem_append_right _ (List.mem_append_right _ (List.mem_append_right _ (List.mem_append_right _ (List.mem_append_right _ (List.mem_append_right _ (List.mem_append_right _ (List.mem_append_right _ (List.mem_append_right _ (List.mem_append_right _ (List.mem_append_right _ (List.mem_append_right _ (List.mem_append_right _ (List.mem_append_right _ (List.mem_append_right _ (List.mem_append_right _ (List.mem_append_right _ (List.mem_append_right _ (List.mem_append_right _ (List.mem_append_right _ (List.mem_append_right _ (List.mem_append_right _ (List.mem_append_right _ (List.mem_append_right _ (List.mem_append_right _ (List.mem_append_right _ (List.mem_append_right _ (List.mem_append_right _ (List.mem_append_right _ (List.mem_append_right _ (List.mem_append_right _ (List.mem_append_right _ (List.mem_append_right _ (List.mem_append_left _ h))))))))))))))))))))))))))))))))))))))))))))))))
theorem pz_L_law_L_law_r35 : ∀ x ∈ wsL_law_r35, x ∈ wsL_law := fun _ h => (List.mem_append_left _ (List.mem_append_left _ (List.mem_append_left _ (List.mem_append_left _ (List.mem_append_left _ (List.mem_append_left _ (List.mem_append_left _ (List.mem_append_left _ (List.mem_append_left _ (List.mem_append_left _ (List.mem_append_left _ (List.mem_append_left _ (List.mem_append_left _ (List.mem_append_left _ (List.mem_append_right _ (List.mem_append_right _ (List.mem_append_right _ (List.mem_append_right _ (List.mem_append_right _ (List.mem_append_right _ (List.mem_append_right _ (List.mem_append_right _ (List.mem_append_right _ (List.mem_append_right _ (List.mem_append_right _ (List.mem_append_right _ (List.mem_append_right _ (List.mem_append_right _ (List.mem_append_right _ (List.mem_append_right _ (List.mem_append_right _ (List.mem_append_right _ (List.mem_append_right _ (List.mem_append_right _ (List.mem_append_right _ (List.mem_append_right _ (List.mem_append_right _ (List.mem_append_right _ (List.mem_append_right _ (List.mem_append_right _ (List.mem_append_right _ (List.mem_append_right _ (List.mem_append_right _ (List.mem_append_right _ (List.mem_append_right _ (List.mem_append_right _ (List.mem_append_right _ (List.mem_append_right _ (List.mem_append_left _ h)))))))))))))))))))))))))))))))))))))))))))))))))
theorem pz_L_law_L_law_r36 : ∀ x ∈ wsL_law_r36, x ∈ wsL_law := fun _ h => (List.mem_append_left _ (List.mem_append_left _ (List.mem_append_left _ (List.mem_append_left _ (List.mem_append_left _ (List.mem_append_left _ (List.mem_append_left _ (List.mem_append_left _ (List.mem_append_left _ (List.mem_append_left _ (List.mem_append_left _ (List.mem_append_left _ (List.mem_append_left _ (List.mem_append_left _ (List.mem_append_right _ (List.mem_append_right _ (List.mem_append_right _ (List.mem_append_right _ (List.mem_append_right _ (List.mem_append_right _ (List.mem_append_right _ (List.mem_append_right _ (List.mem_append_right _ (List.mem_append_right _ (List.mem_append_right _ (List.mem_append_right _ (List.mem_append_right _ (List.mem_append_right _ (List.mem_append_right _ (List.mem_append_right _ (List.mem_append_right _ (List.mem_append_right _ (List.mem_append_right _ (List.mem_append_right _ (List.mem_append_right _ (List.mem_append_right _ (List.mem_append_right _ (List.mem_append_right _ (List.mem_append_right _ (List.mem_append_right _ (List.mem_append_right _ (List.mem_append_right _ (List.mem_append_right _ (List.mem_append_right _ (List.mem_append_right _ (List.mem_append_right _ (List.mem_append_right _ (List.mem_append_right _ (List.mem_append_right _ (List.mem_append_left _ h))))))))))))))))))))))))))))))))))))))))))))))))))
theorem pz_L_law_L_law_r37 : ∀ x ∈ wsL_law_r37, x ∈ wsL_law := fun _ h => (List.mem_append_left _ (List.mem_append_left _ (List.mem_append_left _ (List.mem_append_left _ (List.mem_append_left _ (List.mem_append_left _ (List.mem_append_left _ (List.mem_append_left _ (List.mem_append_left _ (List.mem_append_left _ (List.mem_append_left _ (List.mem_append_left _ (List.mem_append_left _ (List.mem_append_left _ (List.mem_append_right _ (List.mem_append_right _ (List.mem_append_right _ (List.mem_append_right _ (List.mem_append_right _ (List.mem_append_right _ (List.mem_append_right _ (List.mem_append_right _ (List.mem_append_right _ (List.mem_append_right _ (List.mem_append_right _ (List.mem_append_right _ (List.mem_append_right _ (List.mem_append_right _ (List.mem_append_right _ (List.mem_append_right _ (List.mem_append_right _ (List.mem_append_right _ (List.mem_append_right _ (List.mem_append_right _ (List.mem_append_right _ (List.mem_append_right _ (List.mem_append_right _ (List.mem_append_right _ (List.mem_append_right _ (List.mem_append_right _ (List.mem_append_right _ (List.mem_append_right _ (List.mem_append_right _ (List.mem_append_right _ (List.mem_append_right _ (List.mem_append_right _ (List.mem_append_right _ (List.mem_append_right _ (List.mem_append_right _ (List.mem_append_right _ (List.mem_append_left _ h)))))))))))))))))))))))))))))))))))))))))))))))))))
theorem pz_L_law_L_law_r38 : ∀ x ∈ wsL_law_r38, x ∈ wsL_law := fun _ h => (List.mem_append_left _ (List.mem_append_left _ (List.mem_append_left _ (List.mem_append_left _ (List.mem_append_left _ (List.mem_append_left _ (List.mem_append_left _ (List.mem_append_left _ (List.mem_append_left _ (List.mem_append_left _ (List.mem_append_left _ (List.mem_append_left _ (List.mem_append_left _ (List.mem_append_left _ (List.mem_append_right _ (List.mem_append_right _ (List.mem_append_right _ (List.mem_append_right _ (List.mem_append_right _ (List.mem_append_right _ (List.mem_append_right _ (List.mem_append_right _ (List.mem_append_right _ (List.mem_append_right _ (List.mem_append_right _ (List.mem_append_right _ (List.mem_append_right _ (List.mem_append_right _ (List.mem_append_right _ (List.mem_append_right _ (List.mem_append_right _ (List.mem_append_right _ (List.mem_append_right _ (List.mem_append_right _ (List.mem_append_right _ (List.mem_append_right _ (List.mem_append_right _ (List.mem_append_right _ (List.mem_append_right _ (List.mem_append_right _ (List.mem_append_right _ (List.mem_append_right _ (List.mem_append_right _ (List.mem_append_right _ (List.mem_append_right _ (List.mem_append_right _ (List.mem_append_right _ (List.mem_append_right _ (List.mem_append_right _ (List.mem_append_right _ (List.mem_append_right _ (List.mem_append_left _ h))))))))))))))))))))))))))))))))))))))))))))))))))))
theorem pz_L_law_L_law_r39 : ∀ x ∈ wsL_law_r39, x ∈ wsL_law := fun _ h => (List.mem_append_left _ (List.mem_append_left _ (List.mem_append_left _ (List.mem_append_left _ (List.mem_append_left _ (List.mem_append_left _ (List.mem_append_left _ (List.mem_append_left _ (List.mem_append_left _ (List.mem_append_left _ (List.mem_append_left _ (List.mem_append_left _ (List.mem_append_left _ (List.mem_append_left _ (List.mem_append_right _ (List.mem_append_right _ (List.mem_append_right _ (List.mem_append_right _ (List.mem_append_right _ (List.mem_append_right _ (List.mem_append_right _ (List.mem_append_right _ (List.mem_append_right _ (List.mem_append_right _ (List.mem_append_right _ (List.mem_append_right _ (List.mem_append_right _ (List.mem_append_right _ (List.mem_append_right _ (List.mem_append_right _ (List.mem_append_right _ (List.mem_append_right _ (List.mem_append_right _ (List.mem_append_right _ (List.mem_append_right _ (List.mem_append_right _ (List.mem_append_right _ (List.mem_append_right _ (List.mem_append_right _ (List.mem_append_right _ (List.mem_append_right _ (List.mem_append_right _ (List.mem_append_right _ (List.mem_append_right _ (List.mem_append_right _ (List.mem_append_right _ (List.mem_append_right _ (List.mem_append_right _ (List.mem_append_right _ (List.mem_append_right _ (List.mem_append_right _ (List.mem_append_right _ (List.mem_append_left _ h)))))))))))))))))))))))))))))))))))))))))))))))))))))
theorem pz_L_law_L_law_r40 : ∀ x ∈ wsL_law_r40, x ∈ wsL_law := fun _ h => (List.mem_append_left _ (List.mem_append_left _ (List.mem_append_left _ (List.mem_append_left _ (List.mem_append_left _ (List.mem_append_left _ (List.mem_append_left _ (List.mem_append_left _ (List.mem_append_left _ (List.mem_append_left _ (List.mem_append_left _ (List.mem_append_left _ (List.mem_append_left _ (List.mem_append_left _ (List.mem_append_right _ (List.mem_append_right _ (List.mem_append_right _ (List.mem_append_right _ (List.mem_append_right _ (List.mem_append_right _ (List.mem_append_right _ (List.mem_append_right _ (List.mem_append_right _ (List.mem_append_right _ (List.mem_append_right _ (List.mem_append_right _ (List.mem_append_right _ (List.mem_append_right _ (List.mem_append_right _ (List.mem_append_right _ (List.mem_append_right _ (List.mem_append_right _ (List.mem_append_right _ (List.mem_append_right _ (List.mem_append_right _ (List.mem_append_right _ (List.mem_append_right _ (List.mem_append_right _ (List.mem_append_right _ (List.mem_append_right _ (List.mem_append_right _ (List.mem_append_right _ (List.mem_append_right _ (List.mem_append_right _ (List.mem_append_right _ (List.mem_append_right _ (List.mem_append_right _ (List.mem_append_right _ (List.mem_append_right _ (List.mem_append_right _ (List.mem_append_right _ (List.mem_append_right _ (List.mem_append_right _ (List.mem_append_left _ h))))))))))))))))))))))))))))))))))))))))))))))))))))))
theorem pz_L_law_L_law_r41 : ∀ x ∈ wsL_law_r41, x ∈ wsL_law := fun _ h => (List.mem_append_left _ (List.mem_append_left _ (List.mem_append_left _ (List.mem_append_left _ (List.mem_append_left _ (List.mem_append_left _ (List.mem_append_left _ (List.mem_append_left _ (List.mem_append_left _ (List.mem_append_left _ (List.mem_append_left _ (List.mem_append_left _ (List.mem_append_left _ (List.mem_append_left _ (List.mem_append_right _ (List.mem_append_right _ (List.mem_append_right _ (List.mem_append_right _ (List.mem_append_right _ (List.mem_append_right _ (List.mem_append_right _ (List.mem_append_right _ (List.mem_append_right _ (List.mem_append_right _ (List.mem_append_right _ (List.mem_append_right _ (List.mem_append_right _ (List.mem_append_right _ (List.mem_append_right _ (List.mem_append_right _ (List.mem_append_right _ (List.mem_append_right _ (List.mem_append_right _ (List.mem_append_right _ (List.mem_append_right _ (List.mem_append_right _ (List.mem_append_right _ (List.mem_append_right _ (List.mem_append_right _ (List.mem_append_right _ (List.mem_append_right _ (List.mem_append_right _ (List.mem_append_right _ (List.mem_append_right _ (List.mem_append_right _ (List.mem_append_right _ (List.mem_append_right _ (List.mem_append_right _ (List.mem_append_right _ (List.mem_append_right _ (List.mem_append_right _ (List.mem_append_right _ (List.mem_append_right _ (List.mem_append_right _ h))))))))))))))))))))))))))))))))))))))))))))))))))))))
set_option maxRecDepth 20000 in
theorem ggL_law_X11_init : GoodIn wsL_law wsX11_init := goodIn_sub (gi_t pz_L_law_L_law_r1 8 rfl (gi_a (gi_a (gi_a (gi_a (gi_a (gi_a (gi_a (gi_a (gi_a (gi_a (gi_a (gi_a (gi_a (gi_t pz_L_law_L_law_r1 9 rfl (gi_t pz_L_law_L_law_r1 10 rfl (gi_t pz_L_law_L_law_r1 11 rfl (gi_t pz_L_law_L_law_r1 12 rfl (gi_t pz_L_law_L_law_r1 13 rfl (gi_t pz_L_law_L_law_r1 14 rfl (gi_t pz_L_law_L_law_r1 15 rfl (gi_t pz_L_law_L_law_r1 16 rfl (gi_t pz_L_law_L_law_r1 17 rfl (gi_t pz_L_law_L_law_r1 18 rfl (gi_t pz_L_law_L_law_r1 19 rfl (gi_t pz_L_law_L_law_r1 20 rfl (gi_t pz_L_law_L_law_r1 21 rfl (gi_t pz_L_law_L_law_r1 22 rfl (gi_t pz_L_law_L_law_r1 23 rfl (gi_t pz_L_law_L_law_r2 0 rfl (gi_t pz_L_law_L_law_r2 1 rfl (gi_t pz_L_law_L_law_r2 2 rfl (gi_t pz_L_law_L_law_r2 3 rfl (gi_t pz_L_law_L_law_r2 4 rfl (gi_t pz_L_law_L_law_r2 5 rfl (gi_t pz_L_law_L_law_r2 6 rfl (gi_t pz_L_law_L_law_r2 7 rfl (gi_t pz_L_law_L_law_r2 8 rfl gi_n)))))))))))))))))))))))) (gi_a (gi_t pz_L_law_L_law_r2 9 rfl (gi_t pz_L_law_L_law_r2 10 rfl (gi_t pz_L_law_L_law_r2 11 rfl (gi_t pz_L_law_L_law_r2 12 rfl (gi_t pz_L_law_L_law_r2 13 rfl (gi_t pz_L_law_L_law_r2 14 rfl (gi_t pz_L_law_L_law_r2 15 rfl (gi_t pz_L_law_L_law_r2 16 rfl (gi_t pz_L_law_L_law_r2 17 rfl (gi_t pz_L_law_L_law_r2 18 rfl (gi_t pz_L_law_L_law_r2 19 rfl (gi_t pz_L_law_L_law_r2 20 rfl (gi_t pz_L_law_L_law_r2 21 rfl (gi_t pz_L_law_L_law_r2 22 rfl (gi_t pz_L_law_L_law_r2 23 rfl (gi_t pz_L_law_L_law_r3 0 rfl (gi_t pz_L_law_L_law_r3 1 rfl (gi_t pz_L_law_L_law_r3 2 rfl (gi_t pz_L_law_L_law_r3 3 rfl (gi_t pz_L_law_L_law_r3 4 rfl (gi_t pz_L_law_L_law_r3 5 rfl (gi_t pz_L_law_L_law_r3 6 rfl (gi_t pz_L_law_L_law_r3 7 rfl (gi_t pz_L_law_L_law_r3 8 rfl gi_n)))))))))))))))))))))))) (gi_a (gi_t pz_L_law_L_law_r3 9 rfl (gi_t pz_L_law_L_law_r3 10 rfl (gi_t pz_L_law_L_law_r3 11 rfl (gi_t pz_L_law_L_law_r3 12 rfl (gi_t pz_L_law_L_law_r3 13 rfl (gi_t pz_L_law_L_law_r3 14 rfl (gi_t pz_L_law_L_law_r3 15 rfl (gi_t pz_L_law_L_law_r3 16 rfl (gi_t pz_L_law_L_law_r3 17 rfl (gi_t pz_L_law_L_law_r3 18 rfl (gi_t pz_L_law_L_law_r3 19 rfl (gi_t pz_L_law_L_law_r3 20 rfl (gi_t pz_L_law_L_law_r3 21 rfl (gi_t pz_L_law_L_law_r3 22 rfl (gi_t pz_L_law_L_law_r3 23 rfl (gi_t pz_L_law_L_law_r4 0 rfl (gi_t pz_L_law_L_law_r4 1 rfl (gi_t pz_L_law_L_law_r4 2 rfl (gi_t pz_L_law_L_law_r4 3 rfl (gi_t pz_L_law_L_law_r4 4 rfl (gi_t pz_L_law_L_law_r4 5 rfl (gi_t pz_L_law_L_law_r4 6 rfl (gi_t pz_L_law_L_law_r4 7 rfl (gi_t pz_L_law_L_law_r4 8 rfl gi_n)))))))))))))))))))))))) (gi_a (gi_t pz_L_law_L_law_r4 9 rfl (gi_t pz_L_law_L_law_r4 10 rfl (gi_t pz_L_law_L_law_r4 11 rfl (gi_t pz_L_law_L_law_r4 12 rfl (gi_t pz_L_law_L_law_r4 13 rfl (gi_t pz_L_law_L_law_r4 14 rfl (gi_t pz_L_law_L_law_r4 15 rfl (gi_t pz_L_law_L_law_r4 16 rfl (gi_t pz_L_law_L_law_r4 17 rfl (gi_t pz_L_law_L_law_r4 18 rfl (gi_t pz_L_law_L_law_r4 19 rfl (gi_t pz_L_law_L_law_r4 20 rfl (gi_t pz_L_law_L_law_r4 21 rfl (gi_t pz_L_law_L_law_r4 22 rfl (gi_t pz_L_law_L_law_r4 23 rfl (gi_t pz_L_law_L_law_r5 0 rfl (gi_t pz_L_law_L_law_r5 1 rfl (gi_t pz_L_law_L_law_r5 2 rfl (gi_t pz_L_law_L_law_r5 3 rfl (gi_t pz_L_law_L_law_r5 4 rfl (gi_t pz_L_law_L_law_r5 5 rfl (gi_t pz_L_law_L_law_r5 6 rfl (gi_t pz_L_law_L_law_r5 7 rfl (gi_t pz_L_law_L_law_r5 8 rfl gi_n)))))))))))))))))))))))) (gi_a (gi_t pz_L_law_L_law_r5 9 rfl (gi_t pz_L_law_L_law_r5 10 rfl (gi_t pz_L_law_L_law_r5 11 rfl (gi_t pz_L_law_L_law_r5 12 rfl (gi_t pz_L_law_L_law_r5 13 rfl (gi_t pz_L_law_L_law_r5 14 rfl (gi_t pz_L_law_L_law_r5 15 rfl (gi_t pz_L_law_L_law_r5 16 rfl (gi_t pz_L_law_L_law_r5 17 rfl (gi_t pz_L_law_L_law_r5 18 rfl (gi_t pz_L_law_L_law_r5 19 rfl (gi_t pz_L_law_L_law_r5 20 rfl (gi_t pz_L_law_L_law_r5 21 rfl (gi_t pz_L_law_L_law_r5 22 rfl (gi_t pz_L_law_L_law_r5 23 rfl (gi_t pz_L_law_L_law_r6 0 rfl (gi_t pz_L_law_L_law_r6 1 rfl (gi_t pz_L_law_L_law_r6 2 rfl (gi_t pz_L_law_L_law_r6 3 rfl (gi_t pz_L_law_L_law_r6 4 rfl (gi_t pz_L_law_L_law_r6 5 rfl (gi_t pz_L_law_L_law_r6 6 rfl (gi_t pz_L_law_L_law_r6 7 rfl (gi_t pz_L_law_L_law_r6 8 rfl gi_n)))))))))))))))))))))))) (gi_a (gi_t pz_L_law_L_law_r6 9 rfl (gi_t pz_L_law_L_law_r6 10 rfl (gi_t pz_L_law_L_law_r6 11 rfl (gi_t pz_L_law_L_law_r6 12 rfl (gi_t pz_L_law_L_law_r6 13 rfl (gi_t pz_L_law_L_law_r6 14 rfl (gi_t pz_L_law_L_law_r6 15 rfl (gi_t pz_L_law_L_law_r6 16 rfl (gi_t pz_L_law_L_law_r6 17 rfl (gi_t pz_L_law_L_law_r6 18 rfl (gi_t pz_L_law_L_law_r6 19 rfl (gi_t pz_L_law_L_law_r6 20 rfl (gi_t pz_L_law_L_law_r6 21 rfl (gi_t pz_L_law_L_law_r6 22 rfl (gi_t pz_L_law_L_law_r6 23 rfl (gi_t pz_L_law_L_law_r7 0 rfl (gi_t pz_L_law_L_law_r7 1 rfl (gi_t pz_L_law_L_law_r7 2 rfl (gi_t pz_L_law_L_law_r7 3 rfl (gi_t pz_L_law_L_law_r7 4 rfl (gi_t pz_L_law_L_law_r7 5 rfl (gi_t pz_L_law_L_law_r7 6 rfl (gi_t pz_L_law_L_law_r7 7 rfl (gi_t pz_L_law_L_law_r7 8 rfl gi_n)))))))))))))))))))))))) (gi_t pz_L_law_L_law_r7 9 rfl (gi_t pz_L_law_L_law_r7 10 rfl (gi_t pz_L_law_L_law_r7 11 rfl (gi_t pz_L_law_L_law_r7 12 rfl (gi_t pz_L_law_L_law_r7 13 rfl (gi_t pz_L_law_L_law_r7 14 rfl (gi_t pz_L_law_L_law_r7 15 rfl (gi_t pz_L_law_L_law_r7 16 rfl gi_n)))))))))))))) pz_L_law_X40) pz_L_law_X110) pz_L_law_X100) pz_L_law_X60) pz_L_law_X90) pz_L_law_X10) pz_L_law_X70) pz_L_law_X80) pz_L_law_X20) pz_L_law_X00) pz_L_law_X30) pz_L_law_X50)) (by decide +kernel)
set_option maxRecDepth 20000 in
theorem gL_law_X11_init : GoodIn wsL_law (wsX11_init) := ggL_law_X11_init
set_option maxRecDepth 20000 in
theorem ggL_law_X12_init : GoodIn wsL_law wsX12_init := goodIn_sub (gi_t pz_L_law_L_law_r7 19 rfl (gi_a (gi_a (gi_t pz_L_law_L_law_r7 20 rfl (gi_t pz_L_law_L_law_r1 10 rfl (gi_t pz_L_law_L_law_r1 11 rfl (gi_t pz_L_law_L_law_r3 2 rfl (gi_t pz_L_law_L_law_r7 21 rfl (gi_t pz_L_law_L_law_r7 22 rfl (gi_t pz_L_law_L_law_r7 23 rfl (gi_t pz_L_law_L_law_r8 0 rfl (gi_t pz_L_law_L_law_r8 1 rfl (gi_t pz_L_law_L_law_r8 2 rfl (gi_t pz_L_law_L_law_r8 3 rfl (gi_t pz_L_law_L_law_r8 4 rfl (gi_t pz_L_law_L_law_r8 5 rfl (gi_t pz_L_law_L_law_r8 6 rfl (gi_t pz_L_law_L_law_r8 7 rfl (gi_t pz_L_law_L_law_r8 8 rfl (gi_t pz_L_law_L_law_r8 9 rfl (gi_t pz_L_law_L_law_r8 10 rfl (gi_t pz_L_law_L_law_r8 11 rfl (gi_t pz_L_law_L_law_r8 12 rfl (gi_t pz_L_law_L_law_r8 13 rfl (gi_t pz_L_law_L_law_r8 14 rfl (gi_t pz_L_law_L_law_r8 15 rfl (gi_t pz_L_law_L_law_r8 16 rfl gi_n)))))))))))))))))))))))) (gi_t pz_L_law_L_law_r8 17 rfl gi_n)) pz_L_law_X120)) (by decide +kernel)
set_option maxRecDepth 20000 in
theorem gL_law_X12_init : GoodIn wsL_law (wsX12_init) := ggL_law_X12_init
set_option maxRecDepth 20000 in
theorem ggL_law_X11_nodes : GoodIn wsL_law wsX11_nodes := goodIn_sub (gi_t pz_L_law_L_law_r8 21 rfl (gi_a (gi_a (gi_a (gi_a (gi_t pz_L_law_L_law_r8 22 rfl (gi_t pz_L_law_L_law_r8 23 rfl (gi_t pz_L_law_L_law_r9 0 rfl (gi_t pz_L_law_L_law_r1 2 rfl (gi_t pz_L_law_L_law_r9 1 rfl (gi_t pz_L_law_L_law_r1 15 rfl (gi_t pz_L_law_L_law_r1 23 rfl (gi_t pz_L_law_L_law_r9 2 rfl (gi_t pz_L_law_L_law_r1 14 rfl (gi_t pz_L_law_L_law_r9 3 rfl (gi_t pz_L_law_L_law_r9 4 rfl (gi_t pz_L_law_L_law_r3 9 rfl (gi_t pz_L_law_L_law_r3 8 rfl (gi_t pz_L_law_L_law_r3 10 rfl (gi_t pz_L_law_L_law_r9 5 rfl (gi_t pz_L_law_L_law_r3 18 rfl (gi_t pz_L_law_L_law_r3 19 rfl (gi_t pz_L_law_L_law_r3 20 rfl (gi_t pz_L_law_L_law_r9 6 rfl (gi_t pz_L_law_L_law_r1 22 rfl (gi_t pz_L_law_L_law_r9 7 rfl (gi_t pz_L_law_L_law_r9 8 rfl (gi_t pz_L_law_L_law_r4 12 rfl (gi_t pz_L_law_L_law_r9 9 rfl gi_n)))))))))))))))))))))))) (gi_t pz_L_law_L_law_r9 10 rfl (gi_t pz_L_law_L_law_r9 11 rfl (gi_t pz_L_law_L_law_r9 12 rfl (gi_t pz_L_law_L_law_r9 13 rfl (gi_t pz_L_law_L_law_r9 14 rfl (gi_t pz_L_law_L_law_r4 10 rfl (gi_t pz_L_law_L_law_r4 9 rfl (gi_t pz_L_law_L_law_r9 15 rfl (gi_t pz_L_law_L_law_r9 16 rfl gi_n)))))))))) pz_L_law_X110) pz_L_law_X40) pz_L_law_X60)) (by decide +kernel)
set_option maxRecDepth 20000 in
theorem gL_law_X11_nodes : GoodIn wsL_law (wsV RL 13 RX11 yX11_nodes wsX11_nodes) := goodIn_app (goodIn_of _ (by decide +kernel)) ggL_law_X11_nodes
set_option maxRecDepth 20000 in
theorem ggL_law_X12_nodes : GoodIn wsL_law wsX12_nodes := goodIn_sub (gi_t pz_L_law_L_law_r9 20 rfl (gi_a (gi_t pz_L_law_L_law_r9 21 rfl (gi_t pz_L_law_L_law_r7 22 rfl (gi_t pz_L_law_L_law_r9 22 rfl (gi_t pz_L_law_L_law_r9 23 rfl (gi_t pz_L_law_L_law_r10 0 rfl (gi_t pz_L_law_L_law_r1 5 rfl (gi_t pz_L_law_L_law_r10 1 rfl (gi_t pz_L_law_L_law_r10 2 rfl (gi_t pz_L_law_L_law_r10 3 rfl (gi_t pz_L_law_L_law_r10 4 rfl (gi_t pz_L_law_L_law_r10 5 rfl (gi_t pz_L_law_L_law_r8 3 rfl gi_n)))))))))))) pz_L_law_X120)) (by decide +kernel)
set_option maxRecDepth 20000 in
theorem gL_law_X12_nodes : GoodIn wsL_law (wsV RL 17 RX12 yX12_nodes wsX12_nodes) := goodIn_app (goodIn_of _ (by decide +kernel)) ggL_law_X12_nodes
set_option maxRecDepth 20000 in
theorem ggL_law_X11_join : GoodIn wsL_law wsX11_join := goodIn_sub (gi_t pz_L_law_L_law_r10 9 rfl (gi_a (gi_a (gi_a (gi_t pz_L_law_L_law_r1 15 rfl (gi_t pz_L_law_L_law_r1 23 rfl (gi_t pz_L_law_L_law_r10 10 rfl (gi_t pz_L_law_L_law_r1 14 rfl (gi_t pz_L_law_L_law_r10 11 rfl (gi_t pz_L_law_L_law_r10 12 rfl (gi_t pz_L_law_L_law_r3 9 rfl (gi_t pz_L_law_L_law_r10 13 rfl (gi_t pz_L_law_L_law_r10 14 rfl (gi_t pz_L_law_L_law_r10 15 rfl (gi_t pz_L_law_L_law_r3 8 rfl (gi_t pz_L_law_L_law_r9 15 rfl (gi_t pz_L_law_L_law_r1 2 rfl (gi_t pz_L_law_L_law_r9 16 rfl (gi_t pz_L_law_L_law_r10 16 rfl (gi_t pz_L_law_L_law_r10 17 rfl (gi_t pz_L_law_L_law_r10 18 rfl (gi_t pz_L_law_L_law_r3 10 rfl (gi_t pz_L_law_L_law_r9 6 rfl (gi_t pz_L_law_L_law_r1 22 rfl (gi_t pz_L_law_L_law_r9 7 rfl (gi_t pz_L_law_L_law_r9 8 rfl (gi_t pz_L_law_L_law_r4 12 rfl gi_n))))))))))))))))))))))) pz_L_law_X110) pz_L_law_X40) pz_L_law_X60)) (by decide +kernel)
set_option maxRecDepth 20000 in
theorem gL_law_X11_join : GoodIn wsL_law (wsV RL 18 RX11 yX11_join wsX11_join) := goodIn_app (goodIn_of _ (by decide +kernel)) ggL_law_X11_join
set_option maxRecDepth 20000 in
theorem ggL_law_X12_join : GoodIn wsL_law wsX12_join := goodIn_sub (gi_t pz_L_law_L_law_r10 22 rfl (gi_a (gi_t pz_L_law_L_law_r7 22 rfl (gi_t pz_L_law_L_law_r10 23 rfl (gi_t pz_L_law_L_law_r11 0 rfl (gi_t pz_L_law_L_law_r11 1 rfl (gi_t pz_L_law_L_law_r1 5 rfl (gi_t pz_L_law_L_law_r11 2 rfl (gi_t pz_L_law_L_law_r9 21 rfl (gi_t pz_L_law_L_law_r9 23 rfl (gi_t pz_L_law_L_law_r10 0 rfl (gi_t pz_L_law_L_law_r10 1 rfl (gi_t pz_L_law_L_law_r11 3 rfl (gi_t pz_L_law_L_law_r11 4 rfl (gi_t pz_L_law_L_law_r11 5 rfl (gi_t pz_L_law_L_law_r11 6 rfl (gi_t pz_L_law_L_law_r11 7 rfl (gi_t pz_L_law_L_law_r11 8 rfl (gi_t pz_L_law_L_law_r11 9 rfl (gi_t pz_L_law_L_law_r10 2 rfl (gi_t pz_L_law_L_law_r10 3 rfl (gi_t pz_L_law_L_law_r10 4 rfl (gi_t pz_L_law_L_law_r10 5 rfl (gi_t pz_L_law_L_law_r8 3 rfl gi_n)))))))))))))))))))))) pz_L_law_X120)) (by decide +kernel)
set_option maxRecDepth 20000 in
theorem gL_law_X12_join : GoodIn wsL_law (wsV RL 22 RX12 yX12_join wsX12_join) := goodIn_app (goodIn_of _ (by decide +kernel)) ggL_law_X12_join
set_option maxRecDepth 20000 in
theorem ggL_law_X11_joined : GoodIn wsL_law wsX11_joined := goodIn_sub (gi_t pz_L_law_L_law_r11 13 rfl (gi_a (gi_a (gi_t pz_L_law_L_law_r1 15 rfl (gi_t pz_L_law_L_law_r10 10 rfl (gi_t pz_L_law_L_law_r1 14 rfl (gi_t pz_L_law_L_law_r10 11 rfl (gi_t pz_L_law_L_law_r10 12 rfl (gi_t pz_L_law_L_law_r3 9 rfl gi_n)))))) pz_L_law_X110) pz_L_law_X40)) (by decide +kernel)
set_option maxRecDepth 20000 in
theorem gL_law_X11_joined : GoodIn wsL_law (wsV RL 23 RX11 yX11_joined wsX11_joined) := goodIn_app (goodIn_of _ (by decide +kernel)) ggL_law_X11_joined
set_option maxRecDepth 20000 in
theorem ggL_law_X12_joined : GoodIn wsL_law wsX12_joined := goodIn_sub (gi_t pz_L_law_L_law_r11 17 rfl (gi_a (gi_t pz_L_law_L_law_r7 22 rfl (gi_t pz_L_law_L_law_r10 23 rfl (gi_t pz_L_law_L_law_r11 0 rfl (gi_t pz_L_law_L_law_r11 1 rfl (gi_t pz_L_law_L_law_r1 5 rfl (gi_t pz_L_law_L_law_r11 2 rfl (gi_t pz_L_law_L_law_r9 21 rfl (gi_t pz_L_law_L_law_r9 23 rfl (gi_t pz_L_law_L_law_r10 0 rfl (gi_t pz_L_law_L_law_r10 1 rfl gi_n)))))))))) pz_L_law_X120)) (by decide +kernel)
set_option maxRecDepth 20000 in
theorem gL_law_X12_joined : GoodIn wsL_law (wsV RL 26 RX12 yX12_joined wsX12_joined) := goodIn_app (goodIn_of _ (by decide +kernel)) ggL_law_X12_joined
set_option maxRecDepth 20000 in
theorem ggL_law_X11_kind : GoodIn wsL_law wsX11_kind := goodIn_sub (gi_t pz_L_law_L_law_r11 21 rfl (gi_a (gi_a (gi_t pz_L_law_L_law_r1 15 rfl (gi_t pz_L_law_L_law_r10 10 rfl (gi_t pz_L_law_L_law_r1 14 rfl (gi_t pz_L_law_L_law_r10 11 rfl (gi_t pz_L_law_L_law_r10 12 rfl (gi_t pz_L_law_L_law_r3 9 rfl (gi_t pz_L_law_L_law_r11 22 rfl (gi_t pz_L_law_L_law_r11 23 rfl (gi_t pz_L_law_L_law_r12 0 rfl (gi_t pz_L_law_L_law_r1 2 rfl (gi_t pz_L_law_L_law_r12 1 rfl (gi_t pz_L_law_L_law_r12 2 rfl (gi_t pz_L_law_L_law_r12 3 rfl (gi_t pz_L_law_L_law_r12 4 rfl (gi_t pz_L_law_L_law_r3 8 rfl (gi_t pz_L_law_L_law_r9 15 rfl (gi_t pz_L_law_L_law_r9 16 rfl (gi_t pz_L_law_L_law_r9 9 rfl (gi_t pz_L_law_L_law_r9 10 rfl (gi_t pz_L_law_L_law_r9 11 rfl gi_n)))))))))))))))))))) pz_L_law_X110) pz_L_law_X40)) (by decide +kernel)
set_option maxRecDepth 20000 in
theorem gL_law_X11_kind : GoodIn wsL_law (wsV RL 27 RX11 yX11_kind wsX11_kind) := goodIn_app (goodIn_of _ (by decide +kernel)) ggL_law_X11_kind
set_option maxRecDepth 20000 in
theorem ggL_law_X12_kind : GoodIn wsL_law wsX12_kind := goodIn_sub (gi_t pz_L_law_L_law_r12 8 rfl (gi_a (gi_a (gi_t pz_L_law_L_law_r10 23 rfl (gi_t pz_L_law_L_law_r11 0 rfl (gi_t pz_L_law_L_law_r11 1 rfl (gi_t pz_L_law_L_law_r1 5 rfl (gi_t pz_L_law_L_law_r11 2 rfl (gi_t pz_L_law_L_law_r9 21 rfl (gi_t pz_L_law_L_law_r9 23 rfl (gi_t pz_L_law_L_law_r10 0 rfl (gi_t pz_L_law_L_law_r10 1 rfl (gi_t pz_L_law_L_law_r12 9 rfl (gi_t pz_L_law_L_law_r12 10 rfl (gi_t pz_L_law_L_law_r12 11 rfl (gi_t pz_L_law_L_law_r12 12 rfl (gi_t pz_L_law_L_law_r7 22 rfl (gi_t pz_L_law_L_law_r12 13 rfl (gi_t pz_L_law_L_law_r12 14 rfl (gi_t pz_L_law_L_law_r12 15 rfl (gi_t pz_L_law_L_law_r12 16 rfl (gi_t pz_L_law_L_law_r11 3 rfl (gi_t pz_L_law_L_law_r11 4 rfl (gi_t pz_L_law_L_law_r11 5 rfl (gi_t pz_L_law_L_law_r12 17 rfl (gi_t pz_L_law_L_law_r12 18 rfl (gi_t pz_L_law_L_law_r12 19 rfl gi_n)))))))))))))))))))))))) (gi_t pz_L_law_L_law_r12 20 rfl gi_n)) pz_L_law_X120)) (by decide +kernel)
set_option maxRecDepth 20000 in
theorem gL_law_X12_kind : GoodIn wsL_law (wsV RL 30 RX12 yX12_kind wsX12_kind) := goodIn_app (goodIn_of _ (by decide +kernel)) ggL_law_X12_kind
set_option maxRecDepth 20000 in
theorem ggL_law_X11_degree : GoodIn wsL_law wsX11_degree := goodIn_sub (gi_t pz_L_law_L_law_r13 0 rfl (gi_a (gi_a (gi_a (gi_t pz_L_law_L_law_r1 15 rfl (gi_t pz_L_law_L_law_r10 10 rfl (gi_t pz_L_law_L_law_r1 14 rfl (gi_t pz_L_law_L_law_r10 11 rfl (gi_t pz_L_law_L_law_r10 12 rfl (gi_t pz_L_law_L_law_r3 9 rfl (gi_t pz_L_law_L_law_r11 22 rfl (gi_t pz_L_law_L_law_r11 23 rfl (gi_t pz_L_law_L_law_r12 0 rfl (gi_t pz_L_law_L_law_r1 2 rfl (gi_t pz_L_law_L_law_r12 1 rfl (gi_t pz_L_law_L_law_r12 2 rfl (gi_t pz_L_law_L_law_r12 3 rfl (gi_t pz_L_law_L_law_r12 4 rfl (gi_t pz_L_law_L_law_r3 8 rfl (gi_t pz_L_law_L_law_r9 15 rfl (gi_t pz_L_law_L_law_r9 16 rfl (gi_t pz_L_law_L_law_r9 9 rfl (gi_t pz_L_law_L_law_r9 10 rfl (gi_t pz_L_law_L_law_r9 11 rfl (gi_t pz_L_law_L_law_r13 1 rfl (gi_t pz_L_law_L_law_r13 2 rfl (gi_t pz_L_law_L_law_r13 3 rfl (gi_t pz_L_law_L_law_r13 4 rfl gi_n)))))))))))))))))))))))) (gi_t pz_L_law_L_law_r3 4 rfl (gi_t pz_L_law_L_law_r3 3 rfl (gi_t pz_L_law_L_law_r13 5 rfl (gi_t pz_L_law_L_law_r13 6 rfl (gi_t pz_L_law_L_law_r13 7 rfl (gi_t pz_L_law_L_law_r13 8 rfl (gi_t pz_L_law_L_law_r13 9 rfl (gi_t pz_L_law_L_law_r13 10 rfl (gi_t pz_L_law_L_law_r13 11 rfl gi_n)))))))))) pz_L_law_X110) pz_L_law_X40)) (by decide +kernel)
set_option maxRecDepth 20000 in
theorem gL_law_X11_degree : GoodIn wsL_law (wsV RL 31 RX11 yX11_degree wsX11_degree) := goodIn_app (goodIn_of _ (by decide +kernel)) ggL_law_X11_degree
set_option maxRecDepth 20000 in
theorem ggL_law_X12_degree : GoodIn wsL_law wsX12_degree := goodIn_sub (gi_t pz_L_law_L_law_r13 15 rfl (gi_a (gi_a (gi_t pz_L_law_L_law_r7 22 rfl (gi_t pz_L_law_L_law_r10 23 rfl (gi_t pz_L_law_L_law_r11 0 rfl (gi_t pz_L_law_L_law_r11 1 rfl (gi_t pz_L_law_L_law_r1 5 rfl (gi_t pz_L_law_L_law_r11 2 rfl (gi_t pz_L_law_L_law_r9 21 rfl (gi_t pz_L_law_L_law_r9 23 rfl (gi_t pz_L_law_L_law_r10 0 rfl (gi_t pz_L_law_L_law_r10 1 rfl (gi_t pz_L_law_L_law_r12 9 rfl (gi_t pz_L_law_L_law_r12 10 rfl (gi_t pz_L_law_L_law_r12 11 rfl (gi_t pz_L_law_L_law_r12 12 rfl (gi_t pz_L_law_L_law_r12 13 rfl (gi_t pz_L_law_L_law_r12 14 rfl (gi_t pz_L_law_L_law_r12 15 rfl (gi_t pz_L_law_L_law_r12 16 rfl (gi_t pz_L_law_L_law_r11 3 rfl (gi_t pz_L_law_L_law_r11 4 rfl (gi_t pz_L_law_L_law_r11 5 rfl (gi_t pz_L_law_L_law_r12 17 rfl (gi_t pz_L_law_L_law_r12 18 rfl (gi_t pz_L_law_L_law_r12 19 rfl gi_n)))))))))))))))))))))))) (gi_t pz_L_law_L_law_r12 20 rfl (gi_t pz_L_law_L_law_r13 16 rfl (gi_t pz_L_law_L_law_r13 17 rfl (gi_t pz_L_law_L_law_r13 18 rfl (gi_t pz_L_law_L_law_r13 19 rfl (gi_t pz_L_law_L_law_r13 20 rfl (gi_t pz_L_law_L_law_r13 21 rfl (gi_t pz_L_law_L_law_r13 22 rfl (gi_t pz_L_law_L_law_r13 23 rfl (gi_t pz_L_law_L_law_r7 21 rfl gi_n))))))))))) pz_L_law_X120)) (by decide +kernel)
set_option maxRecDepth 20000 in
theorem gL_law_X12_degree : GoodIn wsL_law (wsV RL 35 RX12 yX12_degree wsX12_degree) := goodIn_app (goodIn_of _ (by decide +kernel)) ggL_law_X12_degree
set_option maxRecDepth 20000 in
theorem ggL_law_X11_sound : GoodIn wsL_law wsX11_sound := goodIn_sub (gi_t pz_L_law_L_law_r14 3 rfl (gi_a (gi_a (gi_a (gi_a (gi_a (gi_t pz_L_law_L_law_r2 3 rfl (gi_t pz_L_law_L_law_r1 15 rfl (gi_t pz_L_law_L_law_r14 4 rfl (gi_t pz_L_law_L_law_r2 2 rfl (gi_t pz_L_law_L_law_r14 5 rfl (gi_t pz_L_law_L_law_r14 6 rfl (gi_t pz_L_law_L_law_r5 15 rfl (gi_t pz_L_law_L_law_r5 12 rfl (gi_t pz_L_law_L_law_r5 14 rfl (gi_t pz_L_law_L_law_r14 7 rfl (gi_t pz_L_law_L_law_r4 2 rfl (gi_t pz_L_law_L_law_r14 8 rfl (gi_t pz_L_law_L_law_r14 9 rfl (gi_t pz_L_law_L_law_r4 20 rfl (gi_t pz_L_law_L_law_r14 10 rfl (gi_t pz_L_law_L_law_r14 11 rfl (gi_t pz_L_law_L_law_r14 12 rfl (gi_t pz_L_law_L_law_r14 13 rfl (gi_t pz_L_law_L_law_r4 19 rfl (gi_t pz_L_law_L_law_r14 14 rfl (gi_t pz_L_law_L_law_r14 15 rfl (gi_t pz_L_law_L_law_r14 16 rfl (gi_t pz_L_law_L_law_r14 17 rfl (gi_t pz_L_law_L_law_r9 9 rfl gi_n)))))))))))))))))))))))) (gi_a (gi_t pz_L_law_L_law_r1 14 rfl (gi_t pz_L_law_L_law_r9 10 rfl (gi_t pz_L_law_L_law_r9 11 rfl (gi_t pz_L_law_L_law_r3 9 rfl (gi_t pz_L_law_L_law_r14 18 rfl (gi_t pz_L_law_L_law_r14 19 rfl (gi_t pz_L_law_L_law_r14 20 rfl (gi_t pz_L_law_L_law_r14 21 rfl (gi_t pz_L_law_L_law_r9 15 rfl (gi_t pz_L_law_L_law_r1 2 rfl (gi_t pz_L_law_L_law_r9 16 rfl (gi_t pz_L_law_L_law_r14 22 rfl (gi_t pz_L_law_L_law_r14 23 rfl (gi_t pz_L_law_L_law_r15 0 rfl (gi_t pz_L_law_L_law_r15 1 rfl (gi_t pz_L_law_L_law_r15 2 rfl (gi_t pz_L_law_L_law_r15 3 rfl (gi_t pz_L_law_L_law_r13 7 rfl (gi_t pz_L_law_L_law_r15 4 rfl (gi_t pz_L_law_L_law_r15 5 rfl (gi_t pz_L_law_L_law_r15 6 rfl (gi_t pz_L_law_L_law_r15 7 rfl (gi_t pz_L_law_L_law_r15 8 rfl (gi_t pz_L_law_L_law_r15 9 rfl gi_n)))))))))))))))))))))))) (gi_t pz_L_law_L_law_r15 10 rfl (gi_t pz_L_law_L_law_r15 11 rfl (gi_t pz_L_law_L_law_r15 12 rfl (gi_t pz_L_law_L_law_r15 13 rfl (gi_t pz_L_law_L_law_r15 14 rfl (gi_t pz_L_law_L_law_r15 15 rfl (gi_t pz_L_law_L_law_r5 13 rfl (gi_t pz_L_law_L_law_r15 16 rfl (gi_t pz_L_law_L_law_r15 17 rfl (gi_t pz_L_law_L_law_r15 18 rfl (gi_t pz_L_law_L_law_r15 19 rfl (gi_t pz_L_law_L_law_r15 20 rfl (gi_t pz_L_law_L_law_r15 21 rfl (gi_t pz_L_law_L_law_r15 22 rfl (gi_t pz_L_law_L_law_r15 23 rfl (gi_t pz_L_law_L_law_r16 0 rfl (gi_t pz_L_law_L_law_r16 1 rfl gi_n))))))))))))))))))) pz_L_law_X110) pz_L_law_X90) pz_L_law_X40) pz_L_law_X30)) (by decide +kernel)
set_option maxRecDepth 20000 in
theorem gL_law_X11_sound : GoodIn wsL_law (wsV RL 36 RX11 yX11_sound wsX11_sound) := goodIn_app (goodIn_of _ (by decide +kernel)) ggL_law_X11_sound
set_option maxRecDepth 20000 in
theorem ggL_law_X12_sound : GoodIn wsL_law wsX12_sound := goodIn_sub (gi_t pz_L_law_L_law_r16 5 rfl (gi_a (gi_t pz_L_law_L_law_r16 6 rfl (gi_t pz_L_law_L_law_r16 7 rfl (gi_t pz_L_law_L_law_r16 8 rfl (gi_t pz_L_law_L_law_r1 5 rfl (gi_t pz_L_law_L_law_r16 9 rfl (gi_t pz_L_law_L_law_r9 21 rfl (gi_t pz_L_law_L_law_r7 22 rfl (gi_t pz_L_law_L_law_r12 17 rfl (gi_t pz_L_law_L_law_r12 18 rfl (gi_t pz_L_law_L_law_r12 19 rfl (gi_t pz_L_law_L_law_r12 20 rfl (gi_t pz_L_law_L_law_r11 3 rfl (gi_t pz_L_law_L_law_r11 4 rfl (gi_t pz_L_law_L_law_r11 5 rfl (gi_t pz_L_law_L_law_r12 13 rfl (gi_t pz_L_law_L_law_r12 14 rfl (gi_t pz_L_law_L_law_r12 15 rfl (gi_t pz_L_law_L_law_r12 16 rfl gi_n)))))))))))))))))) pz_L_law_X120)) (by decide +kernel)
set_option maxRecDepth 20000 in
theorem gL_law_X12_sound : GoodIn wsL_law (wsV RL 40 RX12 yX12_sound wsX12_sound) := goodIn_app (goodIn_of _ (by decide +kernel)) ggL_law_X12_sound
set_option maxRecDepth 20000 in
theorem ggL_law_X11_hole : GoodIn wsL_law wsX11_hole := goodIn_sub (gi_t pz_L_law_L_law_r16 13 rfl (gi_a (gi_a (gi_a (gi_a (gi_a (gi_t pz_L_law_L_law_r2 3 rfl (gi_t pz_L_law_L_law_r1 15 rfl (gi_t pz_L_law_L_law_r14 4 rfl (gi_t pz_L_law_L_law_r2 2 rfl (gi_t pz_L_law_L_law_r14 5 rfl (gi_t pz_L_law_L_law_r14 6 rfl (gi_t pz_L_law_L_law_r5 15 rfl (gi_t pz_L_law_L_law_r5 12 rfl (gi_t pz_L_law_L_law_r5 14 rfl (gi_t pz_L_law_L_law_r14 7 rfl (gi_t pz_L_law_L_law_r4 2 rfl (gi_t pz_L_law_L_law_r14 8 rfl (gi_t pz_L_law_L_law_r14 9 rfl (gi_t pz_L_law_L_law_r4 20 rfl (gi_t pz_L_law_L_law_r14 10 rfl (gi_t pz_L_law_L_law_r14 11 rfl (gi_t pz_L_law_L_law_r14 12 rfl (gi_t pz_L_law_L_law_r14 13 rfl (gi_t pz_L_law_L_law_r4 19 rfl (gi_t pz_L_law_L_law_r14 14 rfl (gi_t pz_L_law_L_law_r14 15 rfl (gi_t pz_L_law_L_law_r14 16 rfl (gi_t pz_L_law_L_law_r14 17 rfl (gi_t pz_L_law_L_law_r9 9 rfl gi_n)))))))))))))))))))))))) (gi_a (gi_t pz_L_law_L_law_r1 14 rfl (gi_t pz_L_law_L_law_r9 10 rfl (gi_t pz_L_law_L_law_r9 11 rfl (gi_t pz_L_law_L_law_r3 9 rfl (gi_t pz_L_law_L_law_r14 18 rfl (gi_t pz_L_law_L_law_r14 19 rfl (gi_t pz_L_law_L_law_r14 20 rfl (gi_t pz_L_law_L_law_r14 21 rfl (gi_t pz_L_law_L_law_r9 15 rfl (gi_t pz_L_law_L_law_r1 2 rfl (gi_t pz_L_law_L_law_r9 16 rfl (gi_t pz_L_law_L_law_r14 22 rfl (gi_t pz_L_law_L_law_r14 23 rfl (gi_t pz_L_law_L_law_r15 0 rfl (gi_t pz_L_law_L_law_r15 1 rfl (gi_t pz_L_law_L_law_r15 2 rfl (gi_t pz_L_law_L_law_r15 3 rfl (gi_t pz_L_law_L_law_r13 7 rfl (gi_t pz_L_law_L_law_r15 4 rfl (gi_t pz_L_law_L_law_r15 5 rfl (gi_t pz_L_law_L_law_r15 6 rfl (gi_t pz_L_law_L_law_r15 7 rfl (gi_t pz_L_law_L_law_r15 8 rfl (gi_t pz_L_law_L_law_r15 9 rfl gi_n)))))))))))))))))))))))) (gi_t pz_L_law_L_law_r15 10 rfl (gi_t pz_L_law_L_law_r15 11 rfl (gi_t pz_L_law_L_law_r15 12 rfl (gi_t pz_L_law_L_law_r15 13 rfl (gi_t pz_L_law_L_law_r15 14 rfl (gi_t pz_L_law_L_law_r15 15 rfl (gi_t pz_L_law_L_law_r5 13 rfl (gi_t pz_L_law_L_law_r15 16 rfl (gi_t pz_L_law_L_law_r15 17 rfl (gi_t pz_L_law_L_law_r15 18 rfl (gi_t pz_L_law_L_law_r15 19 rfl (gi_t pz_L_law_L_law_r15 20 rfl (gi_t pz_L_law_L_law_r15 21 rfl (gi_t pz_L_law_L_law_r15 22 rfl (gi_t pz_L_law_L_law_r15 23 rfl (gi_t pz_L_law_L_law_r16 0 rfl (gi_t pz_L_law_L_law_r16 1 rfl gi_n))))))))))))))))))) pz_L_law_X110) pz_L_law_X90) pz_L_law_X40) pz_L_law_X30)) (by decide +kernel)
set_option maxRecDepth 20000 in
theorem gL_law_X11_hole : GoodIn wsL_law (wsV RL 41 RX11 yX11_hole wsX11_hole) := goodIn_app (goodIn_of _ (by decide +kernel)) ggL_law_X11_hole
set_option maxRecDepth 20000 in
theorem ggL_law_X12_hole : GoodIn wsL_law wsX12_hole := goodIn_sub (gi_t pz_L_law_L_law_r16 17 rfl (gi_a (gi_t pz_L_law_L_law_r16 18 rfl (gi_t pz_L_law_L_law_r8 0 rfl (gi_t pz_L_law_L_law_r16 19 rfl (gi_t pz_L_law_L_law_r16 20 rfl (gi_t pz_L_law_L_law_r16 21 rfl (gi_t pz_L_law_L_law_r1 5 rfl (gi_t pz_L_law_L_law_r16 22 rfl (gi_t pz_L_law_L_law_r9 21 rfl (gi_t pz_L_law_L_law_r16 23 rfl (gi_t pz_L_law_L_law_r17 0 rfl (gi_t pz_L_law_L_law_r17 1 rfl (gi_t pz_L_law_L_law_r17 2 rfl (gi_t pz_L_law_L_law_r7 22 rfl (gi_t pz_L_law_L_law_r11 3 rfl (gi_t pz_L_law_L_law_r11 4 rfl (gi_t pz_L_law_L_law_r11 5 rfl (gi_t pz_L_law_L_law_r9 23 rfl (gi_t pz_L_law_L_law_r10 0 rfl (gi_t pz_L_law_L_law_r10 1 rfl gi_n))))))))))))))))))) pz_L_law_X120)) (by decide +kernel)
set_option maxRecDepth 20000 in
theorem gL_law_X12_hole : GoodIn wsL_law (wsV RL 44 RX12 yX12_hole wsX12_hole) := goodIn_app (goodIn_of _ (by decide +kernel)) ggL_law_X12_hole
set_option maxRecDepth 20000 in
theorem ggL_law_X11_fromTable : GoodIn wsL_law wsX11_fromTable := goodIn_sub (gi_t pz_L_law_L_law_r17 6 rfl (gi_a (gi_a (gi_a (gi_a (gi_a (gi_t pz_L_law_L_law_r1 19 rfl (gi_t pz_L_law_L_law_r1 15 rfl (gi_t pz_L_law_L_law_r8 22 rfl (gi_t pz_L_law_L_law_r8 23 rfl (gi_t pz_L_law_L_law_r9 0 rfl (gi_t pz_L_law_L_law_r1 2 rfl (gi_t pz_L_law_L_law_r9 1 rfl (gi_t pz_L_law_L_law_r1 23 rfl (gi_t pz_L_law_L_law_r9 2 rfl (gi_t pz_L_law_L_law_r1 14 rfl (gi_t pz_L_law_L_law_r9 3 rfl (gi_t pz_L_law_L_law_r9 4 rfl (gi_t pz_L_law_L_law_r3 9 rfl (gi_t pz_L_law_L_law_r3 8 rfl (gi_t pz_L_law_L_law_r3 10 rfl (gi_t pz_L_law_L_law_r9 5 rfl (gi_t pz_L_law_L_law_r3 18 rfl (gi_t pz_L_law_L_law_r3 19 rfl (gi_t pz_L_law_L_law_r3 20 rfl (gi_t pz_L_law_L_law_r9 6 rfl (gi_t pz_L_law_L_law_r1 22 rfl (gi_t pz_L_law_L_law_r9 7 rfl (gi_t pz_L_law_L_law_r9 8 rfl (gi_t pz_L_law_L_law_r4 12 rfl gi_n)))))))))))))))))))))))) (gi_t pz_L_law_L_law_r9 9 rfl (gi_t pz_L_law_L_law_r9 10 rfl (gi_t pz_L_law_L_law_r9 11 rfl (gi_t pz_L_law_L_law_r9 12 rfl (gi_t pz_L_law_L_law_r9 13 rfl (gi_t pz_L_law_L_law_r9 14 rfl (gi_t pz_L_law_L_law_r4 10 rfl (gi_t pz_L_law_L_law_r4 9 rfl (gi_t pz_L_law_L_law_r9 15 rfl (gi_t pz_L_law_L_law_r9 16 rfl (gi_t pz_L_law_L_law_r17 7 rfl (gi_t pz_L_law_L_law_r17 8 rfl (gi_t pz_L_law_L_law_r17 9 rfl gi_n)))))))))))))) pz_L_law_X110) pz_L_law_X100) pz_L_law_X40) pz_L_law_X60)) (by decide +kernel)
set_option maxRecDepth 20000 in
theorem gL_law_X11_fromTable : GoodIn wsL_law (wsV RL 45 RX11 yX11_fromTable wsX11_fromTable) := goodIn_app (goodIn_of _ (by decide +kernel)) ggL_law_X11_fromTable
set_option maxRecDepth 20000 in
theorem ggL_law_X12_fromTable : GoodIn wsL_law wsX12_fromTable := goodIn_sub (gi_t pz_L_law_L_law_r17 13 rfl (gi_a (gi_t pz_L_law_L_law_r17 14 rfl (gi_t pz_L_law_L_law_r9 21 rfl (gi_t pz_L_law_L_law_r7 22 rfl (gi_t pz_L_law_L_law_r7 23 rfl (gi_t pz_L_law_L_law_r9 22 rfl (gi_t pz_L_law_L_law_r11 3 rfl (gi_t pz_L_law_L_law_r11 4 rfl (gi_t pz_L_law_L_law_r1 5 rfl (gi_t pz_L_law_L_law_r11 5 rfl (gi_t pz_L_law_L_law_r11 6 rfl (gi_t pz_L_law_L_law_r11 7 rfl (gi_t pz_L_law_L_law_r11 8 rfl (gi_t pz_L_law_L_law_r11 9 rfl (gi_t pz_L_law_L_law_r10 2 rfl (gi_t pz_L_law_L_law_r10 3 rfl (gi_t pz_L_law_L_law_r10 4 rfl (gi_t pz_L_law_L_law_r10 5 rfl (gi_t pz_L_law_L_law_r8 3 rfl gi_n)))))))))))))))))) pz_L_law_X120)) (by decide +kernel)
set_option maxRecDepth 20000 in
theorem gL_law_X12_fromTable : GoodIn wsL_law (wsV RL 48 RX12 yX12_fromTable wsX12_fromTable) := goodIn_app (goodIn_of _ (by decide +kernel)) ggL_law_X12_fromTable
set_option maxRecDepth 20000 in
theorem ggL_law_X11_turn : GoodIn wsL_law wsX11_turn := goodIn_sub (gi_t pz_L_law_L_law_r17 18 rfl (gi_a (gi_a (gi_a (gi_a (gi_t pz_L_law_L_law_r1 15 rfl (gi_t pz_L_law_L_law_r1 23 rfl (gi_t pz_L_law_L_law_r17 19 rfl (gi_t pz_L_law_L_law_r1 14 rfl (gi_t pz_L_law_L_law_r17 20 rfl (gi_t pz_L_law_L_law_r17 21 rfl (gi_t pz_L_law_L_law_r3 9 rfl (gi_t pz_L_law_L_law_r3 8 rfl (gi_t pz_L_law_L_law_r3 10 rfl (gi_t pz_L_law_L_law_r17 22 rfl (gi_t pz_L_law_L_law_r9 9 rfl (gi_t pz_L_law_L_law_r9 10 rfl (gi_t pz_L_law_L_law_r9 11 rfl (gi_t pz_L_law_L_law_r9 6 rfl (gi_t pz_L_law_L_law_r1 22 rfl (gi_t pz_L_law_L_law_r9 7 rfl (gi_t pz_L_law_L_law_r9 8 rfl (gi_t pz_L_law_L_law_r4 12 rfl (gi_t pz_L_law_L_law_r17 23 rfl (gi_t pz_L_law_L_law_r18 0 rfl (gi_t pz_L_law_L_law_r18 1 rfl (gi_t pz_L_law_L_law_r18 2 rfl (gi_t pz_L_law_L_law_r13 6 rfl (gi_t pz_L_law_L_law_r13 7 rfl gi_n)))))))))))))))))))))))) (gi_t pz_L_law_L_law_r13 8 rfl (gi_t pz_L_law_L_law_r13 9 rfl (gi_t pz_L_law_L_law_r13 10 rfl (gi_t pz_L_law_L_law_r13 11 rfl gi_n))))) pz_L_law_X110) pz_L_law_X40) pz_L_law_X60)) (by decide +kernel)
set_option maxRecDepth 20000 in
theorem gL_law_X11_turn : GoodIn wsL_law (wsV RL 49 RX11 yX11_turn wsX11_turn) := goodIn_app (goodIn_of _ (by decide +kernel)) ggL_law_X11_turn
set_option maxRecDepth 20000 in
theorem ggL_law_X12_turn : GoodIn wsL_law wsX12_turn := goodIn_sub (gi_t pz_L_law_L_law_r18 6 rfl (gi_a (gi_t pz_L_law_L_law_r9 21 rfl (gi_t pz_L_law_L_law_r7 22 rfl (gi_t pz_L_law_L_law_r12 17 rfl (gi_t pz_L_law_L_law_r12 18 rfl (gi_t pz_L_law_L_law_r12 19 rfl (gi_t pz_L_law_L_law_r1 5 rfl (gi_t pz_L_law_L_law_r12 20 rfl (gi_t pz_L_law_L_law_r10 2 rfl (gi_t pz_L_law_L_law_r10 3 rfl (gi_t pz_L_law_L_law_r10 4 rfl (gi_t pz_L_law_L_law_r10 5 rfl (gi_t pz_L_law_L_law_r8 3 rfl (gi_t pz_L_law_L_law_r18 7 rfl (gi_t pz_L_law_L_law_r18 8 rfl (gi_t pz_L_law_L_law_r18 9 rfl (gi_t pz_L_law_L_law_r18 10 rfl (gi_t pz_L_law_L_law_r13 16 rfl (gi_t pz_L_law_L_law_r13 17 rfl (gi_t pz_L_law_L_law_r13 18 rfl gi_n))))))))))))))))))) pz_L_law_X120)) (by decide +kernel)
set_option maxRecDepth 20000 in
theorem gL_law_X12_turn : GoodIn wsL_law (wsV RL 52 RX12 yX12_turn wsX12_turn) := goodIn_app (goodIn_of _ (by decide +kernel)) ggL_law_X12_turn
set_option maxRecDepth 20000 in
theorem ggL_law_X11_draft : GoodIn wsL_law wsX11_draft := goodIn_sub (gi_t pz_L_law_L_law_r18 14 rfl (gi_a (gi_a (gi_a (gi_t pz_L_law_L_law_r1 15 rfl (gi_t pz_L_law_L_law_r1 23 rfl (gi_t pz_L_law_L_law_r10 10 rfl (gi_t pz_L_law_L_law_r1 14 rfl (gi_t pz_L_law_L_law_r10 11 rfl (gi_t pz_L_law_L_law_r10 12 rfl (gi_t pz_L_law_L_law_r3 9 rfl (gi_t pz_L_law_L_law_r18 15 rfl (gi_t pz_L_law_L_law_r1 22 rfl (gi_t pz_L_law_L_law_r18 16 rfl (gi_t pz_L_law_L_law_r18 17 rfl (gi_t pz_L_law_L_law_r18 18 rfl (gi_t pz_L_law_L_law_r18 19 rfl (gi_t pz_L_law_L_law_r18 20 rfl (gi_t pz_L_law_L_law_r18 21 rfl (gi_t pz_L_law_L_law_r4 10 rfl (gi_t pz_L_law_L_law_r4 9 rfl (gi_t pz_L_law_L_law_r9 15 rfl (gi_t pz_L_law_L_law_r1 2 rfl (gi_t pz_L_law_L_law_r9 16 rfl (gi_t pz_L_law_L_law_r18 22 rfl (gi_t pz_L_law_L_law_r18 23 rfl (gi_t pz_L_law_L_law_r19 0 rfl gi_n))))))))))))))))))))))) pz_L_law_X110) pz_L_law_X60) pz_L_law_X40)) (by decide +kernel)
set_option maxRecDepth 20000 in
theorem gL_law_X11_draft : GoodIn wsL_law (wsV RL 53 RX11 yX11_draft wsX11_draft) := goodIn_app (goodIn_of _ (by decide +kernel)) ggL_law_X11_draft
set_option maxRecDepth 20000 in
theorem ggL_law_X12_draft : GoodIn wsL_law wsX12_draft := goodIn_sub (gi_t pz_L_law_L_law_r19 4 rfl (gi_a (gi_t pz_L_law_L_law_r9 22 rfl (gi_t pz_L_law_L_law_r8 1 rfl (gi_t pz_L_law_L_law_r10 23 rfl (gi_t pz_L_law_L_law_r11 0 rfl (gi_t pz_L_law_L_law_r11 1 rfl (gi_t pz_L_law_L_law_r1 5 rfl (gi_t pz_L_law_L_law_r11 2 rfl (gi_t pz_L_law_L_law_r9 21 rfl (gi_t pz_L_law_L_law_r9 23 rfl (gi_t pz_L_law_L_law_r10 0 rfl (gi_t pz_L_law_L_law_r10 1 rfl gi_n))))))))))) pz_L_law_X120)) (by decide +kernel)
set_option maxRecDepth 20000 in
theorem gL_law_X12_draft : GoodIn wsL_law (wsV RL 56 RX12 yX12_draft wsX12_draft) := goodIn_app (goodIn_of _ (by decide +kernel)) ggL_law_X12_draft
set_option maxRecDepth 20000 in
theorem ggL_law_X11_take : GoodIn wsL_law wsX11_take := goodIn_sub (gi_t pz_L_law_L_law_r19 8 rfl (gi_a (gi_a (gi_a (gi_a (gi_a (gi_t pz_L_law_L_law_r1 23 rfl (gi_t pz_L_law_L_law_r1 15 rfl (gi_t pz_L_law_L_law_r18 19 rfl (gi_t pz_L_law_L_law_r1 22 rfl (gi_t pz_L_law_L_law_r18 20 rfl (gi_t pz_L_law_L_law_r18 21 rfl (gi_t pz_L_law_L_law_r4 10 rfl (gi_t pz_L_law_L_law_r4 9 rfl (gi_t pz_L_law_L_law_r9 9 rfl (gi_t pz_L_law_L_law_r1 14 rfl (gi_t pz_L_law_L_law_r9 10 rfl (gi_t pz_L_law_L_law_r9 11 rfl (gi_t pz_L_law_L_law_r3 9 rfl (gi_t pz_L_law_L_law_r19 9 rfl (gi_t pz_L_law_L_law_r19 10 rfl (gi_t pz_L_law_L_law_r19 11 rfl (gi_t pz_L_law_L_law_r4 11 rfl (gi_t pz_L_law_L_law_r19 12 rfl (gi_t pz_L_law_L_law_r19 13 rfl (gi_t pz_L_law_L_law_r19 14 rfl (gi_t pz_L_law_L_law_r19 15 rfl (gi_t pz_L_law_L_law_r4 3 rfl (gi_t pz_L_law_L_law_r4 12 rfl (gi_t pz_L_law_L_law_r4 13 rfl gi_n)))))))))))))))))))))))) (gi_a (gi_t pz_L_law_L_law_r4 14 rfl (gi_t pz_L_law_L_law_r14 11 rfl (gi_t pz_L_law_L_law_r4 2 rfl (gi_t pz_L_law_L_law_r14 12 rfl (gi_t pz_L_law_L_law_r14 13 rfl (gi_t pz_L_law_L_law_r4 20 rfl (gi_t pz_L_law_L_law_r4 19 rfl (gi_t pz_L_law_L_law_r14 14 rfl (gi_t pz_L_law_L_law_r14 15 rfl (gi_t pz_L_law_L_law_r14 16 rfl (gi_t pz_L_law_L_law_r14 17 rfl (gi_t pz_L_law_L_law_r19 16 rfl (gi_t pz_L_law_L_law_r19 17 rfl (gi_t pz_L_law_L_law_r19 18 rfl (gi_t pz_L_law_L_law_r19 19 rfl (gi_t pz_L_law_L_law_r4 8 rfl (gi_t pz_L_law_L_law_r19 20 rfl (gi_t pz_L_law_L_law_r7 6 rfl (gi_t pz_L_law_L_law_r7 7 rfl (gi_t pz_L_law_L_law_r7 8 rfl (gi_t pz_L_law_L_law_r19 21 rfl (gi_t pz_L_law_L_law_r19 22 rfl (gi_t pz_L_law_L_law_r19 23 rfl (gi_t pz_L_law_L_law_r15 2 rfl gi_n)))))))))))))))))))))))) (gi_t pz_L_law_L_law_r15 3 rfl (gi_t pz_L_law_L_law_r13 7 rfl (gi_t pz_L_law_L_law_r15 4 rfl (gi_t pz_L_law_L_law_r15 5 rfl (gi_t pz_L_law_L_law_r20 0 rfl (gi_t pz_L_law_L_law_r13 6 rfl (gi_t pz_L_law_L_law_r13 8 rfl (gi_t pz_L_law_L_law_r13 9 rfl (gi_t pz_L_law_L_law_r13 10 rfl (gi_t pz_L_law_L_law_r13 11 rfl (gi_t pz_L_law_L_law_r15 6 rfl (gi_t pz_L_law_L_law_r1 2 rfl (gi_t pz_L_law_L_law_r15 7 rfl (gi_t pz_L_law_L_law_r20 1 rfl (gi_t pz_L_law_L_law_r20 2 rfl (gi_t pz_L_law_L_law_r20 3 rfl (gi_t pz_L_law_L_law_r15 9 rfl (gi_t pz_L_law_L_law_r15 10 rfl (gi_t pz_L_law_L_law_r15 11 rfl gi_n))))))))))))))))))))) pz_L_law_X110) pz_L_law_X60) pz_L_law_X40) pz_L_law_X30)) (by decide +kernel)
set_option maxRecDepth 20000 in
theorem gL_law_X11_take : GoodIn wsL_law (wsV RL 57 RX11 yX11_take wsX11_take) := goodIn_app (goodIn_of _ (by decide +kernel)) ggL_law_X11_take
set_option maxRecDepth 20000 in
theorem ggL_law_X12_take : GoodIn wsL_law wsX12_take := goodIn_sub (gi_t pz_L_law_L_law_r20 7 rfl (gi_a (gi_a (gi_t pz_L_law_L_law_r9 22 rfl (gi_t pz_L_law_L_law_r9 21 rfl (gi_t pz_L_law_L_law_r8 1 rfl (gi_t pz_L_law_L_law_r20 8 rfl (gi_t pz_L_law_L_law_r20 9 rfl (gi_t pz_L_law_L_law_r20 10 rfl (gi_t pz_L_law_L_law_r20 11 rfl (gi_t pz_L_law_L_law_r1 5 rfl (gi_t pz_L_law_L_law_r20 12 rfl (gi_t pz_L_law_L_law_r8 3 rfl (gi_t pz_L_law_L_law_r20 13 rfl (gi_t pz_L_law_L_law_r8 4 rfl (gi_t pz_L_law_L_law_r7 22 rfl (gi_t pz_L_law_L_law_r8 5 rfl (gi_t pz_L_law_L_law_r20 14 rfl (gi_t pz_L_law_L_law_r20 15 rfl (gi_t pz_L_law_L_law_r20 16 rfl (gi_t pz_L_law_L_law_r20 17 rfl (gi_t pz_L_law_L_law_r8 2 rfl (gi_t pz_L_law_L_law_r20 18 rfl (gi_t pz_L_law_L_law_r20 19 rfl (gi_t pz_L_law_L_law_r20 20 rfl (gi_t pz_L_law_L_law_r20 21 rfl (gi_t pz_L_law_L_law_r11 3 rfl gi_n)))))))))))))))))))))))) (gi_t pz_L_law_L_law_r11 4 rfl (gi_t pz_L_law_L_law_r11 5 rfl (gi_t pz_L_law_L_law_r13 16 rfl (gi_t pz_L_law_L_law_r13 17 rfl (gi_t pz_L_law_L_law_r13 18 rfl gi_n)))))) pz_L_law_X120)) (by decide +kernel)
set_option maxRecDepth 20000 in
theorem gL_law_X12_take : GoodIn wsL_law (wsV RL 60 RX12 yX12_take wsX12_take) := goodIn_app (goodIn_of _ (by decide +kernel)) ggL_law_X12_take
set_option maxRecDepth 20000 in
theorem ggL_law_X11_rule : GoodIn wsL_law wsX11_rule := goodIn_sub (gi_t pz_L_law_L_law_r21 1 rfl (gi_a (gi_a (gi_a (gi_a (gi_a (gi_t pz_L_law_L_law_r1 23 rfl (gi_t pz_L_law_L_law_r1 15 rfl (gi_t pz_L_law_L_law_r21 2 rfl (gi_t pz_L_law_L_law_r1 22 rfl (gi_t pz_L_law_L_law_r21 3 rfl (gi_t pz_L_law_L_law_r21 4 rfl (gi_t pz_L_law_L_law_r4 11 rfl (gi_t pz_L_law_L_law_r4 3 rfl (gi_t pz_L_law_L_law_r19 12 rfl (gi_t pz_L_law_L_law_r19 13 rfl (gi_t pz_L_law_L_law_r19 14 rfl (gi_t pz_L_law_L_law_r19 15 rfl (gi_t pz_L_law_L_law_r4 12 rfl (gi_t pz_L_law_L_law_r4 13 rfl (gi_t pz_L_law_L_law_r4 14 rfl (gi_t pz_L_law_L_law_r14 11 rfl (gi_t pz_L_law_L_law_r4 2 rfl (gi_t pz_L_law_L_law_r14 12 rfl (gi_t pz_L_law_L_law_r14 13 rfl (gi_t pz_L_law_L_law_r4 20 rfl (gi_t pz_L_law_L_law_r4 19 rfl (gi_t pz_L_law_L_law_r14 14 rfl (gi_t pz_L_law_L_law_r14 15 rfl (gi_t pz_L_law_L_law_r14 16 rfl gi_n)))))))))))))))))))))))) (gi_a (gi_t pz_L_law_L_law_r14 17 rfl (gi_t pz_L_law_L_law_r9 9 rfl (gi_t pz_L_law_L_law_r1 14 rfl (gi_t pz_L_law_L_law_r9 10 rfl (gi_t pz_L_law_L_law_r9 11 rfl (gi_t pz_L_law_L_law_r3 9 rfl (gi_t pz_L_law_L_law_r21 5 rfl (gi_t pz_L_law_L_law_r21 6 rfl (gi_t pz_L_law_L_law_r21 7 rfl (gi_t pz_L_law_L_law_r9 15 rfl (gi_t pz_L_law_L_law_r1 2 rfl (gi_t pz_L_law_L_law_r9 16 rfl (gi_t pz_L_law_L_law_r21 8 rfl (gi_t pz_L_law_L_law_r21 9 rfl (gi_t pz_L_law_L_law_r21 10 rfl (gi_t pz_L_law_L_law_r21 11 rfl (gi_t pz_L_law_L_law_r14 22 rfl (gi_t pz_L_law_L_law_r14 23 rfl (gi_t pz_L_law_L_law_r15 0 rfl (gi_t pz_L_law_L_law_r15 1 rfl (gi_t pz_L_law_L_law_r15 2 rfl (gi_t pz_L_law_L_law_r15 3 rfl (gi_t pz_L_law_L_law_r13 7 rfl (gi_t pz_L_law_L_law_r15 4 rfl gi_n)))))))))))))))))))))))) (gi_a (gi_t pz_L_law_L_law_r15 5 rfl (gi_t pz_L_law_L_law_r15 6 rfl (gi_t pz_L_law_L_law_r15 7 rfl (gi_t pz_L_law_L_law_r21 12 rfl (gi_t pz_L_law_L_law_r20 1 rfl (gi_t pz_L_law_L_law_r20 2 rfl (gi_t pz_L_law_L_law_r20 3 rfl (gi_t pz_L_law_L_law_r20 0 rfl (gi_t pz_L_law_L_law_r13 6 rfl (gi_t pz_L_law_L_law_r13 8 rfl (gi_t pz_L_law_L_law_r13 9 rfl (gi_t pz_L_law_L_law_r13 10 rfl (gi_t pz_L_law_L_law_r13 11 rfl (gi_t pz_L_law_L_law_r21 13 rfl (gi_t pz_L_law_L_law_r19 21 rfl (gi_t pz_L_law_L_law_r19 22 rfl (gi_t pz_L_law_L_law_r19 23 rfl (gi_t pz_L_law_L_law_r19 16 rfl (gi_t pz_L_law_L_law_r19 17 rfl (gi_t pz_L_law_L_law_r19 18 rfl (gi_t pz_L_law_L_law_r19 19 rfl (gi_t pz_L_law_L_law_r4 8 rfl (gi_t pz_L_law_L_law_r19 20 rfl (gi_t pz_L_law_L_law_r7 6 rfl gi_n)))))))))))))))))))))))) (gi_t pz_L_law_L_law_r7 7 rfl (gi_t pz_L_law_L_law_r7 8 rfl (gi_t pz_L_law_L_law_r15 9 rfl (gi_t pz_L_law_L_law_r15 10 rfl (gi_t pz_L_law_L_law_r15 11 rfl gi_n)))))))) pz_L_law_X110) pz_L_law_X60) pz_L_law_X40) pz_L_law_X30)) (by decide +kernel)
set_option maxRecDepth 20000 in
theorem gL_law_X11_rule : GoodIn wsL_law (wsV RL 61 RX11 yX11_rule wsX11_rule) := goodIn_app (goodIn_of _ (by decide +kernel)) ggL_law_X11_rule
set_option maxRecDepth 20000 in
theorem ggL_law_X12_rule : GoodIn wsL_law wsX12_rule := goodIn_sub (gi_t pz_L_law_L_law_r21 17 rfl (gi_a (gi_a (gi_t pz_L_law_L_law_r9 21 rfl (gi_t pz_L_law_L_law_r20 8 rfl (gi_t pz_L_law_L_law_r9 23 rfl (gi_t pz_L_law_L_law_r10 0 rfl (gi_t pz_L_law_L_law_r1 5 rfl (gi_t pz_L_law_L_law_r10 1 rfl (gi_t pz_L_law_L_law_r20 9 rfl (gi_t pz_L_law_L_law_r20 10 rfl (gi_t pz_L_law_L_law_r20 11 rfl (gi_t pz_L_law_L_law_r20 12 rfl (gi_t pz_L_law_L_law_r8 3 rfl (gi_t pz_L_law_L_law_r20 13 rfl (gi_t pz_L_law_L_law_r8 4 rfl (gi_t pz_L_law_L_law_r7 22 rfl (gi_t pz_L_law_L_law_r8 5 rfl (gi_t pz_L_law_L_law_r12 17 rfl (gi_t pz_L_law_L_law_r12 18 rfl (gi_t pz_L_law_L_law_r12 19 rfl (gi_t pz_L_law_L_law_r12 20 rfl (gi_t pz_L_law_L_law_r11 3 rfl (gi_t pz_L_law_L_law_r11 4 rfl (gi_t pz_L_law_L_law_r11 5 rfl (gi_t pz_L_law_L_law_r21 18 rfl (gi_t pz_L_law_L_law_r21 19 rfl gi_n)))))))))))))))))))))))) (gi_t pz_L_law_L_law_r21 20 rfl (gi_t pz_L_law_L_law_r21 21 rfl (gi_t pz_L_law_L_law_r20 18 rfl (gi_t pz_L_law_L_law_r20 19 rfl (gi_t pz_L_law_L_law_r20 20 rfl (gi_t pz_L_law_L_law_r20 21 rfl (gi_t pz_L_law_L_law_r13 16 rfl (gi_t pz_L_law_L_law_r13 17 rfl (gi_t pz_L_law_L_law_r13 18 rfl (gi_t pz_L_law_L_law_r20 14 rfl (gi_t pz_L_law_L_law_r20 15 rfl (gi_t pz_L_law_L_law_r20 16 rfl (gi_t pz_L_law_L_law_r20 17 rfl (gi_t pz_L_law_L_law_r8 2 rfl gi_n))))))))))))))) pz_L_law_X120)) (by decide +kernel)
set_option maxRecDepth 20000 in
theorem gL_law_X12_rule : GoodIn wsL_law (wsV RL 64 RX12 yX12_rule wsX12_rule) := goodIn_app (goodIn_of _ (by decide +kernel)) ggL_law_X12_rule
set_option maxRecDepth 20000 in
theorem ggL_law_X11_least : GoodIn wsL_law wsX11_least := goodIn_sub (gi_t pz_L_law_L_law_r22 1 rfl (gi_a (gi_a (gi_a (gi_a (gi_a (gi_a (gi_t pz_L_law_L_law_r1 23 rfl (gi_t pz_L_law_L_law_r1 15 rfl (gi_t pz_L_law_L_law_r22 2 rfl (gi_t pz_L_law_L_law_r1 22 rfl (gi_t pz_L_law_L_law_r22 3 rfl (gi_t pz_L_law_L_law_r22 4 rfl (gi_t pz_L_law_L_law_r4 7 rfl (gi_t pz_L_law_L_law_r4 11 rfl (gi_t pz_L_law_L_law_r4 13 rfl (gi_t pz_L_law_L_law_r19 12 rfl (gi_t pz_L_law_L_law_r19 13 rfl (gi_t pz_L_law_L_law_r19 14 rfl (gi_t pz_L_law_L_law_r19 15 rfl (gi_t pz_L_law_L_law_r4 3 rfl (gi_t pz_L_law_L_law_r4 12 rfl (gi_t pz_L_law_L_law_r4 14 rfl (gi_t pz_L_law_L_law_r14 11 rfl (gi_t pz_L_law_L_law_r4 2 rfl (gi_t pz_L_law_L_law_r14 12 rfl (gi_t pz_L_law_L_law_r14 13 rfl (gi_t pz_L_law_L_law_r4 20 rfl (gi_t pz_L_law_L_law_r4 19 rfl (gi_t pz_L_law_L_law_r14 14 rfl (gi_t pz_L_law_L_law_r14 15 rfl gi_n)))))))))))))))))))))))) (gi_a (gi_t pz_L_law_L_law_r14 16 rfl (gi_t pz_L_law_L_law_r14 17 rfl (gi_t pz_L_law_L_law_r22 5 rfl (gi_t pz_L_law_L_law_r4 6 rfl (gi_t pz_L_law_L_law_r22 6 rfl (gi_t pz_L_law_L_law_r22 7 rfl (gi_t pz_L_law_L_law_r5 1 rfl (gi_t pz_L_law_L_law_r5 5 rfl (gi_t pz_L_law_L_law_r5 6 rfl (gi_t pz_L_law_L_law_r5 7 rfl (gi_t pz_L_law_L_law_r5 2 rfl (gi_t pz_L_law_L_law_r9 9 rfl (gi_t pz_L_law_L_law_r1 14 rfl (gi_t pz_L_law_L_law_r9 10 rfl (gi_t pz_L_law_L_law_r9 11 rfl (gi_t pz_L_law_L_law_r3 9 rfl (gi_t pz_L_law_L_law_r22 8 rfl (gi_t pz_L_law_L_law_r22 9 rfl (gi_t pz_L_law_L_law_r3 19 rfl (gi_t pz_L_law_L_law_r22 10 rfl (gi_t pz_L_law_L_law_r22 11 rfl (gi_t pz_L_law_L_law_r22 12 rfl (gi_t pz_L_law_L_law_r22 13 rfl (gi_t pz_L_law_L_law_r22 14 rfl gi_n)))))))))))))))))))))))) (gi_a (gi_t pz_L_law_L_law_r22 15 rfl (gi_t pz_L_law_L_law_r22 16 rfl (gi_t pz_L_law_L_law_r5 4 rfl (gi_t pz_L_law_L_law_r22 17 rfl (gi_t pz_L_law_L_law_r22 18 rfl (gi_t pz_L_law_L_law_r7 7 rfl (gi_t pz_L_law_L_law_r22 19 rfl (gi_t pz_L_law_L_law_r22 20 rfl (gi_t pz_L_law_L_law_r22 21 rfl (gi_t pz_L_law_L_law_r22 22 rfl (gi_t pz_L_law_L_law_r22 23 rfl (gi_t pz_L_law_L_law_r9 15 rfl (gi_t pz_L_law_L_law_r1 2 rfl (gi_t pz_L_law_L_law_r9 16 rfl (gi_t pz_L_law_L_law_r21 9 rfl (gi_t pz_L_law_L_law_r21 10 rfl (gi_t pz_L_law_L_law_r21 11 rfl (gi_t pz_L_law_L_law_r14 22 rfl (gi_t pz_L_law_L_law_r14 23 rfl (gi_t pz_L_law_L_law_r15 0 rfl (gi_t pz_L_law_L_law_r15 1 rfl (gi_t pz_L_law_L_law_r15 2 rfl (gi_t pz_L_law_L_law_r15 3 rfl (gi_t pz_L_law_L_law_r13 7 rfl gi_n)))))))))))))))))))))))) (gi_a (gi_t pz_L_law_L_law_r15 4 rfl (gi_t pz_L_law_L_law_r15 5 rfl (gi_t pz_L_law_L_law_r15 6 rfl (gi_t pz_L_law_L_law_r15 7 rfl (gi_t pz_L_law_L_law_r21 12 rfl (gi_t pz_L_law_L_law_r20 1 rfl (gi_t pz_L_law_L_law_r20 2 rfl (gi_t pz_L_law_L_law_r20 3 rfl (gi_t pz_L_law_L_law_r20 0 rfl (gi_t pz_L_law_L_law_r13 6 rfl (gi_t pz_L_law_L_law_r13 8 rfl (gi_t pz_L_law_L_law_r13 9 rfl (gi_t pz_L_law_L_law_r13 10 rfl (gi_t pz_L_law_L_law_r13 11 rfl (gi_t pz_L_law_L_law_r21 13 rfl (gi_t pz_L_law_L_law_r19 21 rfl (gi_t pz_L_law_L_law_r19 22 rfl (gi_t pz_L_law_L_law_r19 23 rfl (gi_t pz_L_law_L_law_r23 0 rfl (gi_t pz_L_law_L_law_r23 1 rfl (gi_t pz_L_law_L_law_r23 2 rfl (gi_t pz_L_law_L_law_r23 3 rfl (gi_t pz_L_law_L_law_r14 19 rfl (gi_t pz_L_law_L_law_r14 20 rfl gi_n)))))))))))))))))))))))) (gi_a (gi_t pz_L_law_L_law_r14 21 rfl (gi_t pz_L_law_L_law_r23 4 rfl (gi_t pz_L_law_L_law_r23 5 rfl (gi_t pz_L_law_L_law_r23 6 rfl (gi_t pz_L_law_L_law_r23 7 rfl (gi_t pz_L_law_L_law_r23 8 rfl (gi_t pz_L_law_L_law_r23 9 rfl (gi_t pz_L_law_L_law_r23 10 rfl (gi_t pz_L_law_L_law_r15 9 rfl (gi_t pz_L_law_L_law_r15 10 rfl (gi_t pz_L_law_L_law_r15 11 rfl (gi_t pz_L_law_L_law_r23 11 rfl (gi_t pz_L_law_L_law_r23 12 rfl (gi_t pz_L_law_L_law_r23 13 rfl (gi_t pz_L_law_L_law_r23 14 rfl (gi_t pz_L_law_L_law_r23 15 rfl (gi_t pz_L_law_L_law_r7 6 rfl (gi_t pz_L_law_L_law_r7 8 rfl (gi_t pz_L_law_L_law_r23 16 rfl (gi_t pz_L_law_L_law_r23 17 rfl (gi_t pz_L_law_L_law_r23 18 rfl (gi_t pz_L_law_L_law_r19 16 rfl (gi_t pz_L_law_L_law_r19 17 rfl (gi_t pz_L_law_L_law_r19 18 rfl gi_n)))))))))))))))))))))))) (gi_t pz_L_law_L_law_r19 19 rfl (gi_t pz_L_law_L_law_r4 8 rfl (gi_t pz_L_law_L_law_r19 20 rfl gi_n)))))))) pz_L_law_X110) pz_L_law_X60) pz_L_law_X40) pz_L_law_X30) pz_L_law_X50)) (by decide +kernel)
set_option maxRecDepth 20000 in
theorem gL_law_X11_least : GoodIn wsL_law (wsV RL 65 RX11 yX11_least wsX11_least) := goodIn_app (goodIn_of _ (by decide +kernel)) ggL_law_X11_least
set_option maxRecDepth 20000 in
theorem ggL_law_X12_least : GoodIn wsL_law wsX12_least := goodIn_sub (gi_t pz_L_law_L_law_r23 22 rfl (gi_a (gi_a (gi_t pz_L_law_L_law_r8 8 rfl (gi_t pz_L_law_L_law_r9 21 rfl (gi_t pz_L_law_L_law_r9 23 rfl (gi_t pz_L_law_L_law_r10 0 rfl (gi_t pz_L_law_L_law_r1 5 rfl (gi_t pz_L_law_L_law_r10 1 rfl (gi_t pz_L_law_L_law_r23 23 rfl (gi_t pz_L_law_L_law_r24 0 rfl (gi_t pz_L_law_L_law_r24 1 rfl (gi_t pz_L_law_L_law_r24 2 rfl (gi_t pz_L_law_L_law_r8 7 rfl (gi_t pz_L_law_L_law_r7 22 rfl (gi_t pz_L_law_L_law_r12 17 rfl (gi_t pz_L_law_L_law_r12 18 rfl (gi_t pz_L_law_L_law_r12 19 rfl (gi_t pz_L_law_L_law_r12 20 rfl (gi_t pz_L_law_L_law_r11 3 rfl (gi_t pz_L_law_L_law_r11 4 rfl (gi_t pz_L_law_L_law_r11 5 rfl (gi_t pz_L_law_L_law_r24 3 rfl (gi_t pz_L_law_L_law_r24 4 rfl (gi_t pz_L_law_L_law_r24 5 rfl (gi_t pz_L_law_L_law_r24 6 rfl (gi_t pz_L_law_L_law_r24 7 rfl gi_n)))))))))))))))))))))))) (gi_t pz_L_law_L_law_r24 8 rfl (gi_t pz_L_law_L_law_r24 9 rfl (gi_t pz_L_law_L_law_r24 10 rfl (gi_t pz_L_law_L_law_r13 16 rfl (gi_t pz_L_law_L_law_r13 17 rfl (gi_t pz_L_law_L_law_r13 18 rfl (gi_t pz_L_law_L_law_r20 9 rfl (gi_t pz_L_law_L_law_r20 10 rfl (gi_t pz_L_law_L_law_r20 11 rfl (gi_t pz_L_law_L_law_r20 12 rfl (gi_t pz_L_law_L_law_r8 3 rfl (gi_t pz_L_law_L_law_r20 8 rfl (gi_t pz_L_law_L_law_r20 13 rfl (gi_t pz_L_law_L_law_r8 4 rfl (gi_t pz_L_law_L_law_r8 5 rfl (gi_t pz_L_law_L_law_r20 14 rfl (gi_t pz_L_law_L_law_r20 15 rfl (gi_t pz_L_law_L_law_r20 16 rfl (gi_t pz_L_law_L_law_r20 17 rfl (gi_t pz_L_law_L_law_r8 2 rfl (gi_t pz_L_law_L_law_r20 18 rfl (gi_t pz_L_law_L_law_r20 19 rfl (gi_t pz_L_law_L_law_r20 20 rfl (gi_t pz_L_law_L_law_r20 21 rfl gi_n))))))))))))))))))))))))) pz_L_law_X120)) (by decide +kernel)
set_option maxRecDepth 20000 in
theorem gL_law_X12_least : GoodIn wsL_law (wsV RL 68 RX12 yX12_least wsX12_least) := goodIn_app (goodIn_of _ (by decide +kernel)) ggL_law_X12_least
set_option maxRecDepth 20000 in
theorem ggL_law_X11_order : GoodIn wsL_law wsX11_order := goodIn_sub (gi_t pz_L_law_L_law_r24 14 rfl (gi_a (gi_a (gi_t pz_L_law_L_law_r1 23 rfl (gi_t pz_L_law_L_law_r24 15 rfl (gi_t pz_L_law_L_law_r1 22 rfl (gi_t pz_L_law_L_law_r24 16 rfl (gi_t pz_L_law_L_law_r24 17 rfl (gi_t pz_L_law_L_law_r4 12 rfl (gi_t pz_L_law_L_law_r4 11 rfl gi_n))))))) pz_L_law_X110) pz_L_law_X60)) (by decide +kernel)
set_option maxRecDepth 20000 in
theorem gL_law_X11_order : GoodIn wsL_law (wsV RL 69 RX11 yX11_order wsX11_order) := goodIn_app (goodIn_of _ (by decide +kernel)) ggL_law_X11_order
set_option maxRecDepth 20000 in
theorem ggL_law_X12_order : GoodIn wsL_law wsX12_order := goodIn_sub (gi_t pz_L_law_L_law_r24 21 rfl (gi_a (gi_t pz_L_law_L_law_r8 3 rfl (gi_t pz_L_law_L_law_r8 2 rfl (gi_t pz_L_law_L_law_r9 23 rfl (gi_t pz_L_law_L_law_r10 0 rfl (gi_t pz_L_law_L_law_r1 5 rfl (gi_t pz_L_law_L_law_r10 1 rfl gi_n)))))) pz_L_law_X120)) (by decide +kernel)
set_option maxRecDepth 20000 in
theorem gL_law_X12_order : GoodIn wsL_law (wsV RL 72 RX12 yX12_order wsX12_order) := goodIn_app (goodIn_of _ (by decide +kernel)) ggL_law_X12_order
set_option maxRecDepth 20000 in
theorem ggL_law_X11_about : GoodIn wsL_law wsX11_about := goodIn_sub (gi_t pz_L_law_L_law_r25 1 rfl (gi_a (gi_a (gi_t pz_L_law_L_law_r1 23 rfl gi_n) pz_L_law_X110) pz_L_law_X60)) (by decide +kernel)
set_option maxRecDepth 20000 in
theorem gL_law_X11_about : GoodIn wsL_law (wsV RL 73 RX11 yX11_about wsX11_about) := goodIn_app (goodIn_of _ (by decide +kernel)) ggL_law_X11_about
set_option maxRecDepth 20000 in
theorem ggL_law_X12_about : GoodIn wsL_law wsX12_about := goodIn_sub (gi_t pz_L_law_L_law_r25 5 rfl (gi_a (gi_t pz_L_law_L_law_r8 3 rfl (gi_t pz_L_law_L_law_r20 8 rfl (gi_t pz_L_law_L_law_r20 13 rfl (gi_t pz_L_law_L_law_r9 23 rfl (gi_t pz_L_law_L_law_r10 0 rfl (gi_t pz_L_law_L_law_r1 5 rfl (gi_t pz_L_law_L_law_r10 1 rfl gi_n))))))) pz_L_law_X120)) (by decide +kernel)
set_option maxRecDepth 20000 in
theorem gL_law_X12_about : GoodIn wsL_law (wsV RL 76 RX12 yX12_about wsX12_about) := goodIn_app (goodIn_of _ (by decide +kernel)) ggL_law_X12_about
set_option maxRecDepth 20000 in
theorem ggL_law_X11_fill : GoodIn wsL_law wsX11_fill := goodIn_sub (gi_t pz_L_law_L_law_r25 9 rfl (gi_a (gi_a (gi_a (gi_a (gi_a (gi_t pz_L_law_L_law_r1 23 rfl (gi_t pz_L_law_L_law_r1 15 rfl (gi_t pz_L_law_L_law_r25 10 rfl (gi_t pz_L_law_L_law_r1 22 rfl (gi_t pz_L_law_L_law_r25 11 rfl (gi_t pz_L_law_L_law_r25 12 rfl (gi_t pz_L_law_L_law_r4 3 rfl (gi_t pz_L_law_L_law_r4 11 rfl (gi_t pz_L_law_L_law_r4 8 rfl (gi_t pz_L_law_L_law_r14 11 rfl (gi_t pz_L_law_L_law_r4 2 rfl (gi_t pz_L_law_L_law_r14 12 rfl (gi_t pz_L_law_L_law_r14 13 rfl (gi_t pz_L_law_L_law_r4 20 rfl (gi_t pz_L_law_L_law_r4 19 rfl (gi_t pz_L_law_L_law_r14 14 rfl (gi_t pz_L_law_L_law_r14 15 rfl (gi_t pz_L_law_L_law_r14 16 rfl (gi_t pz_L_law_L_law_r14 17 rfl (gi_t pz_L_law_L_law_r17 7 rfl (gi_t pz_L_law_L_law_r1 14 rfl (gi_t pz_L_law_L_law_r17 8 rfl (gi_t pz_L_law_L_law_r17 9 rfl (gi_t pz_L_law_L_law_r3 9 rfl gi_n)))))))))))))))))))))))) (gi_t pz_L_law_L_law_r3 8 rfl (gi_t pz_L_law_L_law_r3 10 rfl (gi_t pz_L_law_L_law_r9 15 rfl (gi_t pz_L_law_L_law_r1 2 rfl (gi_t pz_L_law_L_law_r9 16 rfl (gi_t pz_L_law_L_law_r15 9 rfl (gi_t pz_L_law_L_law_r15 10 rfl (gi_t pz_L_law_L_law_r15 11 rfl (gi_t pz_L_law_L_law_r15 2 rfl (gi_t pz_L_law_L_law_r15 3 rfl (gi_t pz_L_law_L_law_r13 7 rfl (gi_t pz_L_law_L_law_r15 4 rfl (gi_t pz_L_law_L_law_r15 5 rfl (gi_t pz_L_law_L_law_r15 6 rfl (gi_t pz_L_law_L_law_r15 7 rfl (gi_t pz_L_law_L_law_r9 6 rfl (gi_t pz_L_law_L_law_r9 7 rfl (gi_t pz_L_law_L_law_r9 8 rfl (gi_t pz_L_law_L_law_r4 12 rfl gi_n)))))))))))))))))))) pz_L_law_X110) pz_L_law_X60) pz_L_law_X30) pz_L_law_X40)) (by decide +kernel)
set_option maxRecDepth 20000 in
theorem gL_law_X11_fill : GoodIn wsL_law (wsV RL 77 RX11 yX11_fill wsX11_fill) := goodIn_app (goodIn_of _ (by decide +kernel)) ggL_law_X11_fill
set_option maxRecDepth 20000 in
theorem ggL_law_X12_fill : GoodIn wsL_law wsX12_fill := goodIn_sub (gi_t pz_L_law_L_law_r25 16 rfl (gi_a (gi_t pz_L_law_L_law_r8 3 rfl (gi_t pz_L_law_L_law_r9 21 rfl (gi_t pz_L_law_L_law_r7 22 rfl (gi_t pz_L_law_L_law_r8 5 rfl (gi_t pz_L_law_L_law_r20 8 rfl (gi_t pz_L_law_L_law_r10 2 rfl (gi_t pz_L_law_L_law_r10 3 rfl (gi_t pz_L_law_L_law_r10 4 rfl (gi_t pz_L_law_L_law_r1 5 rfl (gi_t pz_L_law_L_law_r10 5 rfl gi_n)))))))))) pz_L_law_X120)) (by decide +kernel)
set_option maxRecDepth 20000 in
theorem gL_law_X12_fill : GoodIn wsL_law (wsV RL 80 RX12 yX12_fill wsX12_fill) := goodIn_app (goodIn_of _ (by decide +kernel)) ggL_law_X12_fill
set_option maxRecDepth 20000 in
theorem ggL_law_X11_clique : GoodIn wsL_law wsX11_clique := goodIn_sub (gi_t pz_L_law_L_law_r25 20 rfl (gi_a (gi_a (gi_a (gi_a (gi_t pz_L_law_L_law_r2 7 rfl (gi_t pz_L_law_L_law_r1 15 rfl (gi_t pz_L_law_L_law_r25 21 rfl (gi_t pz_L_law_L_law_r2 6 rfl (gi_t pz_L_law_L_law_r25 22 rfl (gi_t pz_L_law_L_law_r25 23 rfl (gi_t pz_L_law_L_law_r6 0 rfl (gi_t pz_L_law_L_law_r5 23 rfl (gi_t pz_L_law_L_law_r5 19 rfl (gi_t pz_L_law_L_law_r6 2 rfl (gi_t pz_L_law_L_law_r9 9 rfl (gi_t pz_L_law_L_law_r1 14 rfl (gi_t pz_L_law_L_law_r9 10 rfl (gi_t pz_L_law_L_law_r9 11 rfl (gi_t pz_L_law_L_law_r3 9 rfl (gi_t pz_L_law_L_law_r26 0 rfl (gi_t pz_L_law_L_law_r26 1 rfl (gi_t pz_L_law_L_law_r26 2 rfl (gi_t pz_L_law_L_law_r26 3 rfl (gi_t pz_L_law_L_law_r26 4 rfl (gi_t pz_L_law_L_law_r26 5 rfl (gi_t pz_L_law_L_law_r26 6 rfl (gi_t pz_L_law_L_law_r9 15 rfl (gi_t pz_L_law_L_law_r1 2 rfl gi_n)))))))))))))))))))))))) (gi_t pz_L_law_L_law_r9 16 rfl (gi_t pz_L_law_L_law_r26 7 rfl (gi_t pz_L_law_L_law_r26 8 rfl (gi_t pz_L_law_L_law_r26 9 rfl (gi_t pz_L_law_L_law_r26 10 rfl (gi_t pz_L_law_L_law_r5 20 rfl (gi_t pz_L_law_L_law_r26 11 rfl (gi_t pz_L_law_L_law_r26 12 rfl (gi_t pz_L_law_L_law_r13 7 rfl (gi_t pz_L_law_L_law_r26 13 rfl (gi_t pz_L_law_L_law_r15 5 rfl (gi_t pz_L_law_L_law_r26 14 rfl (gi_t pz_L_law_L_law_r26 15 rfl (gi_t pz_L_law_L_law_r26 16 rfl gi_n))))))))))))))) pz_L_law_X110) pz_L_law_X10) pz_L_law_X40)) (by decide +kernel)
set_option maxRecDepth 20000 in
theorem gL_law_X11_clique : GoodIn wsL_law (wsV RL 81 RX11 yX11_clique wsX11_clique) := goodIn_app (goodIn_of _ (by decide +kernel)) ggL_law_X11_clique
set_option maxRecDepth 20000 in
theorem ggL_law_X12_clique : GoodIn wsL_law wsX12_clique := goodIn_sub (gi_t pz_L_law_L_law_r26 20 rfl (gi_a (gi_a (gi_t pz_L_law_L_law_r26 21 rfl (gi_t pz_L_law_L_law_r8 9 rfl (gi_t pz_L_law_L_law_r26 22 rfl (gi_t pz_L_law_L_law_r26 23 rfl (gi_t pz_L_law_L_law_r27 0 rfl (gi_t pz_L_law_L_law_r1 5 rfl (gi_t pz_L_law_L_law_r27 1 rfl (gi_t pz_L_law_L_law_r12 17 rfl (gi_t pz_L_law_L_law_r12 18 rfl (gi_t pz_L_law_L_law_r12 19 rfl (gi_t pz_L_law_L_law_r12 20 rfl (gi_t pz_L_law_L_law_r9 21 rfl (gi_t pz_L_law_L_law_r27 2 rfl (gi_t pz_L_law_L_law_r27 3 rfl (gi_t pz_L_law_L_law_r27 4 rfl (gi_t pz_L_law_L_law_r27 5 rfl (gi_t pz_L_law_L_law_r7 22 rfl (gi_t pz_L_law_L_law_r12 13 rfl (gi_t pz_L_law_L_law_r12 14 rfl (gi_t pz_L_law_L_law_r12 15 rfl (gi_t pz_L_law_L_law_r12 16 rfl (gi_t pz_L_law_L_law_r11 3 rfl (gi_t pz_L_law_L_law_r11 4 rfl (gi_t pz_L_law_L_law_r11 5 rfl gi_n)))))))))))))))))))))))) (gi_t pz_L_law_L_law_r9 23 rfl (gi_t pz_L_law_L_law_r10 0 rfl (gi_t pz_L_law_L_law_r10 1 rfl gi_n)))) pz_L_law_X120)) (by decide +kernel)
set_option maxRecDepth 20000 in
theorem gL_law_X12_clique : GoodIn wsL_law (wsV RL 84 RX12 yX12_clique wsX12_clique) := goodIn_app (goodIn_of _ (by decide +kernel)) ggL_law_X12_clique
set_option maxRecDepth 20000 in
theorem ggL_law_X11_greatest : GoodIn wsL_law wsX11_greatest := goodIn_sub (gi_t pz_L_law_L_law_r27 9 rfl (gi_a (gi_a (gi_a (gi_a (gi_t pz_L_law_L_law_r2 7 rfl (gi_t pz_L_law_L_law_r1 15 rfl (gi_t pz_L_law_L_law_r25 21 rfl (gi_t pz_L_law_L_law_r2 6 rfl (gi_t pz_L_law_L_law_r25 22 rfl (gi_t pz_L_law_L_law_r25 23 rfl (gi_t pz_L_law_L_law_r6 0 rfl (gi_t pz_L_law_L_law_r5 23 rfl (gi_t pz_L_law_L_law_r5 19 rfl (gi_t pz_L_law_L_law_r6 2 rfl (gi_t pz_L_law_L_law_r9 9 rfl (gi_t pz_L_law_L_law_r1 14 rfl (gi_t pz_L_law_L_law_r9 10 rfl (gi_t pz_L_law_L_law_r9 11 rfl (gi_t pz_L_law_L_law_r3 9 rfl (gi_t pz_L_law_L_law_r26 0 rfl (gi_t pz_L_law_L_law_r26 1 rfl (gi_t pz_L_law_L_law_r26 2 rfl (gi_t pz_L_law_L_law_r26 3 rfl (gi_t pz_L_law_L_law_r26 4 rfl (gi_t pz_L_law_L_law_r26 5 rfl (gi_t pz_L_law_L_law_r26 6 rfl (gi_t pz_L_law_L_law_r9 15 rfl (gi_t pz_L_law_L_law_r1 2 rfl gi_n)))))))))))))))))))))))) (gi_t pz_L_law_L_law_r9 16 rfl (gi_t pz_L_law_L_law_r26 7 rfl (gi_t pz_L_law_L_law_r26 8 rfl (gi_t pz_L_law_L_law_r26 9 rfl (gi_t pz_L_law_L_law_r26 10 rfl (gi_t pz_L_law_L_law_r5 20 rfl (gi_t pz_L_law_L_law_r26 11 rfl (gi_t pz_L_law_L_law_r26 12 rfl (gi_t pz_L_law_L_law_r13 7 rfl (gi_t pz_L_law_L_law_r26 13 rfl (gi_t pz_L_law_L_law_r15 5 rfl (gi_t pz_L_law_L_law_r27 10 rfl (gi_t pz_L_law_L_law_r27 11 rfl (gi_t pz_L_law_L_law_r27 12 rfl (gi_t pz_L_law_L_law_r27 13 rfl (gi_t pz_L_law_L_law_r13 6 rfl (gi_t pz_L_law_L_law_r13 8 rfl (gi_t pz_L_law_L_law_r13 9 rfl (gi_t pz_L_law_L_law_r13 10 rfl (gi_t pz_L_law_L_law_r13 11 rfl (gi_t pz_L_law_L_law_r13 5 rfl gi_n)))))))))))))))))))))) pz_L_law_X110) pz_L_law_X10) pz_L_law_X40)) (by decide +kernel)
set_option maxRecDepth 20000 in
theorem gL_law_X11_greatest : GoodIn wsL_law (wsV RL 85 RX11 yX11_greatest wsX11_greatest) := goodIn_app (goodIn_of _ (by decide +kernel)) ggL_law_X11_greatest
set_option maxRecDepth 20000 in
theorem ggL_law_X12_greatest : GoodIn wsL_law wsX12_greatest := goodIn_sub (gi_t pz_L_law_L_law_r27 17 rfl (gi_a (gi_a (gi_t pz_L_law_L_law_r26 21 rfl (gi_t pz_L_law_L_law_r8 9 rfl (gi_t pz_L_law_L_law_r26 22 rfl (gi_t pz_L_law_L_law_r26 23 rfl (gi_t pz_L_law_L_law_r27 0 rfl (gi_t pz_L_law_L_law_r1 5 rfl (gi_t pz_L_law_L_law_r27 1 rfl (gi_t pz_L_law_L_law_r12 17 rfl (gi_t pz_L_law_L_law_r12 18 rfl (gi_t pz_L_law_L_law_r12 19 rfl (gi_t pz_L_law_L_law_r12 20 rfl (gi_t pz_L_law_L_law_r9 21 rfl (gi_t pz_L_law_L_law_r27 2 rfl (gi_t pz_L_law_L_law_r27 3 rfl (gi_t pz_L_law_L_law_r27 4 rfl (gi_t pz_L_law_L_law_r27 5 rfl (gi_t pz_L_law_L_law_r7 22 rfl (gi_t pz_L_law_L_law_r12 13 rfl (gi_t pz_L_law_L_law_r12 14 rfl (gi_t pz_L_law_L_law_r12 15 rfl (gi_t pz_L_law_L_law_r12 16 rfl (gi_t pz_L_law_L_law_r11 3 rfl (gi_t pz_L_law_L_law_r11 4 rfl (gi_t pz_L_law_L_law_r11 5 rfl gi_n)))))))))))))))))))))))) (gi_t pz_L_law_L_law_r13 16 rfl (gi_t pz_L_law_L_law_r13 17 rfl (gi_t pz_L_law_L_law_r13 18 rfl gi_n)))) pz_L_law_X120)) (by decide +kernel)
set_option maxRecDepth 20000 in
theorem gL_law_X12_greatest : GoodIn wsL_law (wsV RL 88 RX12 yX12_greatest wsX12_greatest) := goodIn_app (goodIn_of _ (by decide +kernel)) ggL_law_X12_greatest
set_option maxRecDepth 20000 in
theorem ggL_law_X11_sort : GoodIn wsL_law wsX11_sort := goodIn_sub (gi_t pz_L_law_L_law_r27 21 rfl (gi_a (gi_a (gi_t pz_L_law_L_law_r1 15 rfl (gi_t pz_L_law_L_law_r9 9 rfl (gi_t pz_L_law_L_law_r1 14 rfl (gi_t pz_L_law_L_law_r9 10 rfl (gi_t pz_L_law_L_law_r9 11 rfl (gi_t pz_L_law_L_law_r3 9 rfl (gi_t pz_L_law_L_law_r12 2 rfl (gi_t pz_L_law_L_law_r12 3 rfl (gi_t pz_L_law_L_law_r12 4 rfl (gi_t pz_L_law_L_law_r3 8 rfl (gi_t pz_L_law_L_law_r9 15 rfl (gi_t pz_L_law_L_law_r1 2 rfl (gi_t pz_L_law_L_law_r9 16 rfl (gi_t pz_L_law_L_law_r27 22 rfl (gi_t pz_L_law_L_law_r27 23 rfl (gi_t pz_L_law_L_law_r28 0 rfl gi_n)))))))))))))))) pz_L_law_X110) pz_L_law_X40)) (by decide +kernel)
set_option maxRecDepth 20000 in
theorem gL_law_X11_sort : GoodIn wsL_law (wsV RL 89 RX11 yX11_sort wsX11_sort) := goodIn_app (goodIn_of _ (by decide +kernel)) ggL_law_X11_sort
set_option maxRecDepth 20000 in
theorem ggL_law_X12_sort : GoodIn wsL_law wsX12_sort := goodIn_sub (gi_t pz_L_law_L_law_r28 4 rfl (gi_a (gi_t pz_L_law_L_law_r12 17 rfl (gi_t pz_L_law_L_law_r12 18 rfl (gi_t pz_L_law_L_law_r12 19 rfl (gi_t pz_L_law_L_law_r1 5 rfl (gi_t pz_L_law_L_law_r12 20 rfl (gi_t pz_L_law_L_law_r9 21 rfl (gi_t pz_L_law_L_law_r13 16 rfl (gi_t pz_L_law_L_law_r13 17 rfl (gi_t pz_L_law_L_law_r13 18 rfl (gi_t pz_L_law_L_law_r12 13 rfl (gi_t pz_L_law_L_law_r12 14 rfl (gi_t pz_L_law_L_law_r12 15 rfl (gi_t pz_L_law_L_law_r12 16 rfl (gi_t pz_L_law_L_law_r7 22 rfl (gi_t pz_L_law_L_law_r11 3 rfl (gi_t pz_L_law_L_law_r11 4 rfl (gi_t pz_L_law_L_law_r11 5 rfl (gi_t pz_L_law_L_law_r28 5 rfl (gi_t pz_L_law_L_law_r28 6 rfl (gi_t pz_L_law_L_law_r28 7 rfl (gi_t pz_L_law_L_law_r28 8 rfl gi_n))))))))))))))))))))) pz_L_law_X120)) (by decide +kernel)
set_option maxRecDepth 20000 in
theorem gL_law_X12_sort : GoodIn wsL_law (wsV RL 92 RX12 yX12_sort wsX12_sort) := goodIn_app (goodIn_of _ (by decide +kernel)) ggL_law_X12_sort
set_option maxRecDepth 20000 in
theorem ggL_law_X11_colour : GoodIn wsL_law wsX11_colour := goodIn_sub (gi_t pz_L_law_L_law_r28 12 rfl (gi_a (gi_a (gi_a (gi_a (gi_a (gi_t pz_L_law_L_law_r1 15 rfl (gi_t pz_L_law_L_law_r2 7 rfl (gi_t pz_L_law_L_law_r2 12 rfl (gi_t pz_L_law_L_law_r10 10 rfl (gi_t pz_L_law_L_law_r1 14 rfl (gi_t pz_L_law_L_law_r10 11 rfl (gi_t pz_L_law_L_law_r10 12 rfl (gi_t pz_L_law_L_law_r3 9 rfl (gi_t pz_L_law_L_law_r25 21 rfl (gi_t pz_L_law_L_law_r2 6 rfl (gi_t pz_L_law_L_law_r25 22 rfl (gi_t pz_L_law_L_law_r25 23 rfl (gi_t pz_L_law_L_law_r6 0 rfl (gi_t pz_L_law_L_law_r5 23 rfl (gi_t pz_L_law_L_law_r5 19 rfl (gi_t pz_L_law_L_law_r6 2 rfl (gi_t pz_L_law_L_law_r9 9 rfl (gi_t pz_L_law_L_law_r9 10 rfl (gi_t pz_L_law_L_law_r9 11 rfl (gi_t pz_L_law_L_law_r26 0 rfl (gi_t pz_L_law_L_law_r26 1 rfl (gi_t pz_L_law_L_law_r26 2 rfl (gi_t pz_L_law_L_law_r26 3 rfl (gi_t pz_L_law_L_law_r26 4 rfl gi_n)))))))))))))))))))))))) (gi_a (gi_t pz_L_law_L_law_r26 5 rfl (gi_t pz_L_law_L_law_r26 6 rfl (gi_t pz_L_law_L_law_r9 15 rfl (gi_t pz_L_law_L_law_r1 2 rfl (gi_t pz_L_law_L_law_r9 16 rfl (gi_t pz_L_law_L_law_r26 7 rfl (gi_t pz_L_law_L_law_r26 8 rfl (gi_t pz_L_law_L_law_r26 9 rfl (gi_t pz_L_law_L_law_r26 10 rfl (gi_t pz_L_law_L_law_r5 20 rfl (gi_t pz_L_law_L_law_r26 11 rfl (gi_t pz_L_law_L_law_r26 12 rfl (gi_t pz_L_law_L_law_r13 7 rfl (gi_t pz_L_law_L_law_r26 13 rfl (gi_t pz_L_law_L_law_r15 5 rfl (gi_t pz_L_law_L_law_r27 10 rfl (gi_t pz_L_law_L_law_r27 11 rfl (gi_t pz_L_law_L_law_r27 12 rfl (gi_t pz_L_law_L_law_r27 13 rfl (gi_t pz_L_law_L_law_r13 6 rfl (gi_t pz_L_law_L_law_r13 8 rfl (gi_t pz_L_law_L_law_r13 9 rfl (gi_t pz_L_law_L_law_r13 10 rfl (gi_t pz_L_law_L_law_r13 11 rfl gi_n)))))))))))))))))))))))) (gi_t pz_L_law_L_law_r13 5 rfl (gi_t pz_L_law_L_law_r28 13 rfl (gi_t pz_L_law_L_law_r2 11 rfl (gi_t pz_L_law_L_law_r28 14 rfl (gi_t pz_L_law_L_law_r28 15 rfl (gi_t pz_L_law_L_law_r6 9 rfl (gi_t pz_L_law_L_law_r6 7 rfl (gi_t pz_L_law_L_law_r6 8 rfl (gi_t pz_L_law_L_law_r28 16 rfl (gi_t pz_L_law_L_law_r3 18 rfl (gi_t pz_L_law_L_law_r3 19 rfl (gi_t pz_L_law_L_law_r3 20 rfl (gi_t pz_L_law_L_law_r28 17 rfl (gi_t pz_L_law_L_law_r28 18 rfl (gi_t pz_L_law_L_law_r28 19 rfl (gi_t pz_L_law_L_law_r6 6 rfl (gi_t pz_L_law_L_law_r28 20 rfl (gi_t pz_L_law_L_law_r7 6 rfl (gi_t pz_L_law_L_law_r7 7 rfl (gi_t pz_L_law_L_law_r7 8 rfl gi_n)))))))))))))))))))))) pz_L_law_X110) pz_L_law_X70) pz_L_law_X40) pz_L_law_X10)) (by decide +kernel)
set_option maxRecDepth 20000 in
theorem gL_law_X11_colour : GoodIn wsL_law (wsV RL 93 RX11 yX11_colour wsX11_colour) := goodIn_app (goodIn_of _ (by decide +kernel)) ggL_law_X11_colour
set_option maxRecDepth 20000 in
theorem ggL_law_X12_colour : GoodIn wsL_law wsX12_colour := goodIn_sub (gi_t pz_L_law_L_law_r29 0 rfl (gi_a (gi_t pz_L_law_L_law_r8 10 rfl (gi_t pz_L_law_L_law_r10 23 rfl (gi_t pz_L_law_L_law_r11 0 rfl (gi_t pz_L_law_L_law_r11 1 rfl (gi_t pz_L_law_L_law_r1 5 rfl (gi_t pz_L_law_L_law_r11 2 rfl (gi_t pz_L_law_L_law_r9 21 rfl (gi_t pz_L_law_L_law_r9 23 rfl (gi_t pz_L_law_L_law_r10 0 rfl (gi_t pz_L_law_L_law_r10 1 rfl (gi_t pz_L_law_L_law_r29 1 rfl (gi_t pz_L_law_L_law_r29 2 rfl (gi_t pz_L_law_L_law_r29 3 rfl (gi_t pz_L_law_L_law_r29 4 rfl (gi_t pz_L_law_L_law_r7 22 rfl (gi_t pz_L_law_L_law_r11 3 rfl (gi_t pz_L_law_L_law_r11 4 rfl (gi_t pz_L_law_L_law_r11 5 rfl gi_n)))))))))))))))))) pz_L_law_X120)) (by decide +kernel)
set_option maxRecDepth 20000 in
theorem gL_law_X12_colour : GoodIn wsL_law (wsV RL 96 RX12 yX12_colour wsX12_colour) := goodIn_app (goodIn_of _ (by decide +kernel)) ggL_law_X12_colour
set_option maxRecDepth 20000 in
theorem ggL_law_X11_apart : GoodIn wsL_law wsX11_apart := goodIn_sub (gi_t pz_L_law_L_law_r29 8 rfl (gi_a (gi_a (gi_a (gi_a (gi_t pz_L_law_L_law_r2 8 rfl (gi_t pz_L_law_L_law_r1 15 rfl (gi_t pz_L_law_L_law_r25 21 rfl (gi_t pz_L_law_L_law_r2 6 rfl (gi_t pz_L_law_L_law_r25 22 rfl (gi_t pz_L_law_L_law_r25 23 rfl (gi_t pz_L_law_L_law_r6 0 rfl (gi_t pz_L_law_L_law_r5 23 rfl (gi_t pz_L_law_L_law_r5 19 rfl (gi_t pz_L_law_L_law_r6 2 rfl (gi_t pz_L_law_L_law_r9 9 rfl (gi_t pz_L_law_L_law_r1 14 rfl (gi_t pz_L_law_L_law_r9 10 rfl (gi_t pz_L_law_L_law_r9 11 rfl (gi_t pz_L_law_L_law_r3 9 rfl (gi_t pz_L_law_L_law_r26 0 rfl (gi_t pz_L_law_L_law_r26 1 rfl (gi_t pz_L_law_L_law_r26 2 rfl (gi_t pz_L_law_L_law_r26 3 rfl (gi_t pz_L_law_L_law_r26 4 rfl (gi_t pz_L_law_L_law_r26 5 rfl (gi_t pz_L_law_L_law_r26 6 rfl (gi_t pz_L_law_L_law_r9 15 rfl (gi_t pz_L_law_L_law_r1 2 rfl gi_n)))))))))))))))))))))))) (gi_t pz_L_law_L_law_r9 16 rfl (gi_t pz_L_law_L_law_r26 7 rfl (gi_t pz_L_law_L_law_r26 8 rfl (gi_t pz_L_law_L_law_r26 9 rfl (gi_t pz_L_law_L_law_r26 10 rfl (gi_t pz_L_law_L_law_r5 20 rfl (gi_t pz_L_law_L_law_r26 11 rfl (gi_t pz_L_law_L_law_r26 12 rfl (gi_t pz_L_law_L_law_r13 7 rfl (gi_t pz_L_law_L_law_r26 13 rfl (gi_t pz_L_law_L_law_r15 5 rfl (gi_t pz_L_law_L_law_r27 10 rfl (gi_t pz_L_law_L_law_r27 11 rfl (gi_t pz_L_law_L_law_r27 12 rfl (gi_t pz_L_law_L_law_r27 13 rfl (gi_t pz_L_law_L_law_r13 6 rfl (gi_t pz_L_law_L_law_r13 8 rfl (gi_t pz_L_law_L_law_r13 9 rfl (gi_t pz_L_law_L_law_r13 10 rfl (gi_t pz_L_law_L_law_r13 11 rfl gi_n))))))))))))))))))))) pz_L_law_X110) pz_L_law_X10) pz_L_law_X40)) (by decide +kernel)
set_option maxRecDepth 20000 in
theorem gL_law_X11_apart : GoodIn wsL_law (wsV RL 97 RX11 yX11_apart wsX11_apart) := goodIn_app (goodIn_of _ (by decide +kernel)) ggL_law_X11_apart
set_option maxRecDepth 20000 in
theorem ggL_law_X12_apart : GoodIn wsL_law wsX12_apart := goodIn_sub (gi_t pz_L_law_L_law_r29 12 rfl (gi_a (gi_t pz_L_law_L_law_r12 17 rfl (gi_t pz_L_law_L_law_r12 18 rfl (gi_t pz_L_law_L_law_r12 19 rfl (gi_t pz_L_law_L_law_r1 5 rfl (gi_t pz_L_law_L_law_r12 20 rfl (gi_t pz_L_law_L_law_r9 21 rfl (gi_t pz_L_law_L_law_r13 16 rfl (gi_t pz_L_law_L_law_r13 17 rfl (gi_t pz_L_law_L_law_r13 18 rfl (gi_t pz_L_law_L_law_r28 5 rfl (gi_t pz_L_law_L_law_r28 6 rfl (gi_t pz_L_law_L_law_r28 7 rfl (gi_t pz_L_law_L_law_r28 8 rfl (gi_t pz_L_law_L_law_r7 22 rfl (gi_t pz_L_law_L_law_r11 3 rfl (gi_t pz_L_law_L_law_r11 4 rfl (gi_t pz_L_law_L_law_r11 5 rfl gi_n))))))))))))))))) pz_L_law_X120)) (by decide +kernel)
set_option maxRecDepth 20000 in
theorem gL_law_X12_apart : GoodIn wsL_law (wsV RL 100 RX12 yX12_apart wsX12_apart) := goodIn_app (goodIn_of _ (by decide +kernel)) ggL_law_X12_apart
set_option maxRecDepth 20000 in
theorem ggL_law_X11_tree : GoodIn wsL_law wsX11_tree := goodIn_sub (gi_t pz_L_law_L_law_r29 16 rfl (gi_a (gi_a (gi_a (gi_a (gi_a (gi_a (gi_t pz_L_law_L_law_r2 7 rfl (gi_t pz_L_law_L_law_r1 15 rfl (gi_t pz_L_law_L_law_r2 3 rfl (gi_t pz_L_law_L_law_r25 21 rfl (gi_t pz_L_law_L_law_r2 6 rfl (gi_t pz_L_law_L_law_r25 22 rfl (gi_t pz_L_law_L_law_r25 23 rfl (gi_t pz_L_law_L_law_r6 0 rfl (gi_t pz_L_law_L_law_r5 23 rfl (gi_t pz_L_law_L_law_r5 19 rfl (gi_t pz_L_law_L_law_r6 2 rfl (gi_t pz_L_law_L_law_r9 9 rfl (gi_t pz_L_law_L_law_r1 14 rfl (gi_t pz_L_law_L_law_r9 10 rfl (gi_t pz_L_law_L_law_r9 11 rfl (gi_t pz_L_law_L_law_r3 9 rfl (gi_t pz_L_law_L_law_r26 0 rfl (gi_t pz_L_law_L_law_r26 1 rfl (gi_t pz_L_law_L_law_r26 2 rfl (gi_t pz_L_law_L_law_r26 3 rfl (gi_t pz_L_law_L_law_r26 4 rfl (gi_t pz_L_law_L_law_r26 5 rfl (gi_t pz_L_law_L_law_r26 6 rfl (gi_t pz_L_law_L_law_r9 15 rfl gi_n)))))))))))))))))))))))) (gi_a (gi_t pz_L_law_L_law_r1 2 rfl (gi_t pz_L_law_L_law_r9 16 rfl (gi_t pz_L_law_L_law_r26 7 rfl (gi_t pz_L_law_L_law_r26 8 rfl (gi_t pz_L_law_L_law_r26 9 rfl (gi_t pz_L_law_L_law_r26 10 rfl (gi_t pz_L_law_L_law_r5 20 rfl (gi_t pz_L_law_L_law_r26 11 rfl (gi_t pz_L_law_L_law_r26 12 rfl (gi_t pz_L_law_L_law_r13 7 rfl (gi_t pz_L_law_L_law_r26 13 rfl (gi_t pz_L_law_L_law_r15 5 rfl (gi_t pz_L_law_L_law_r26 14 rfl (gi_t pz_L_law_L_law_r26 15 rfl (gi_t pz_L_law_L_law_r26 16 rfl (gi_t pz_L_law_L_law_r14 4 rfl (gi_t pz_L_law_L_law_r2 2 rfl (gi_t pz_L_law_L_law_r14 5 rfl (gi_t pz_L_law_L_law_r14 6 rfl (gi_t pz_L_law_L_law_r5 15 rfl (gi_t pz_L_law_L_law_r5 12 rfl (gi_t pz_L_law_L_law_r5 14 rfl (gi_t pz_L_law_L_law_r14 7 rfl (gi_t pz_L_law_L_law_r4 2 rfl gi_n)))))))))))))))))))))))) (gi_a (gi_t pz_L_law_L_law_r14 8 rfl (gi_t pz_L_law_L_law_r14 9 rfl (gi_t pz_L_law_L_law_r4 20 rfl (gi_t pz_L_law_L_law_r14 10 rfl (gi_t pz_L_law_L_law_r14 11 rfl (gi_t pz_L_law_L_law_r14 12 rfl (gi_t pz_L_law_L_law_r14 13 rfl (gi_t pz_L_law_L_law_r4 19 rfl (gi_t pz_L_law_L_law_r14 14 rfl (gi_t pz_L_law_L_law_r14 15 rfl (gi_t pz_L_law_L_law_r14 16 rfl (gi_t pz_L_law_L_law_r14 17 rfl (gi_t pz_L_law_L_law_r14 18 rfl (gi_t pz_L_law_L_law_r14 19 rfl (gi_t pz_L_law_L_law_r14 20 rfl (gi_t pz_L_law_L_law_r14 21 rfl (gi_t pz_L_law_L_law_r14 22 rfl (gi_t pz_L_law_L_law_r14 23 rfl (gi_t pz_L_law_L_law_r15 0 rfl (gi_t pz_L_law_L_law_r15 1 rfl (gi_t pz_L_law_L_law_r15 2 rfl (gi_t pz_L_law_L_law_r15 3 rfl (gi_t pz_L_law_L_law_r15 4 rfl (gi_t pz_L_law_L_law_r15 6 rfl gi_n)))))))))))))))))))))))) (gi_a (gi_t pz_L_law_L_law_r15 7 rfl (gi_t pz_L_law_L_law_r15 8 rfl (gi_t pz_L_law_L_law_r15 9 rfl (gi_t pz_L_law_L_law_r15 10 rfl (gi_t pz_L_law_L_law_r15 11 rfl (gi_t pz_L_law_L_law_r15 12 rfl (gi_t pz_L_law_L_law_r15 13 rfl (gi_t pz_L_law_L_law_r15 14 rfl (gi_t pz_L_law_L_law_r15 15 rfl (gi_t pz_L_law_L_law_r5 13 rfl (gi_t pz_L_law_L_law_r15 16 rfl (gi_t pz_L_law_L_law_r15 17 rfl (gi_t pz_L_law_L_law_r15 18 rfl (gi_t pz_L_law_L_law_r15 19 rfl (gi_t pz_L_law_L_law_r15 20 rfl (gi_t pz_L_law_L_law_r15 21 rfl (gi_t pz_L_law_L_law_r15 22 rfl (gi_t pz_L_law_L_law_r15 23 rfl (gi_t pz_L_law_L_law_r16 0 rfl (gi_t pz_L_law_L_law_r16 1 rfl (gi_t pz_L_law_L_law_r29 17 rfl (gi_t pz_L_law_L_law_r29 18 rfl (gi_t pz_L_law_L_law_r29 19 rfl (gi_t pz_L_law_L_law_r6 1 rfl gi_n)))))))))))))))))))))))) (gi_t pz_L_law_L_law_r5 21 rfl (gi_t pz_L_law_L_law_r5 22 rfl (gi_t pz_L_law_L_law_r29 20 rfl (gi_t pz_L_law_L_law_r29 21 rfl (gi_t pz_L_law_L_law_r29 22 rfl (gi_t pz_L_law_L_law_r29 23 rfl (gi_t pz_L_law_L_law_r27 13 rfl (gi_t pz_L_law_L_law_r13 6 rfl (gi_t pz_L_law_L_law_r13 8 rfl (gi_t pz_L_law_L_law_r13 9 rfl (gi_t pz_L_law_L_law_r13 10 rfl (gi_t pz_L_law_L_law_r13 11 rfl gi_n)))))))))))))))) pz_L_law_X110) pz_L_law_X90) pz_L_law_X10) pz_L_law_X40) pz_L_law_X30)) (by decide +kernel)
set_option maxRecDepth 20000 in
theorem gL_law_X11_tree : GoodIn wsL_law (wsV RL 101 RX11 yX11_tree wsX11_tree) := goodIn_app (goodIn_of _ (by decide +kernel)) ggL_law_X11_tree
set_option maxRecDepth 20000 in
theorem ggL_law_X12_tree : GoodIn wsL_law wsX12_tree := goodIn_sub (gi_t pz_L_law_L_law_r30 3 rfl (gi_a (gi_a (gi_t pz_L_law_L_law_r26 21 rfl (gi_t pz_L_law_L_law_r8 11 rfl (gi_t pz_L_law_L_law_r8 9 rfl (gi_t pz_L_law_L_law_r26 22 rfl (gi_t pz_L_law_L_law_r26 23 rfl (gi_t pz_L_law_L_law_r27 0 rfl (gi_t pz_L_law_L_law_r1 5 rfl (gi_t pz_L_law_L_law_r27 1 rfl (gi_t pz_L_law_L_law_r12 17 rfl (gi_t pz_L_law_L_law_r12 18 rfl (gi_t pz_L_law_L_law_r12 19 rfl (gi_t pz_L_law_L_law_r12 20 rfl (gi_t pz_L_law_L_law_r9 21 rfl (gi_t pz_L_law_L_law_r27 2 rfl (gi_t pz_L_law_L_law_r27 3 rfl (gi_t pz_L_law_L_law_r27 4 rfl (gi_t pz_L_law_L_law_r27 5 rfl (gi_t pz_L_law_L_law_r7 22 rfl (gi_t pz_L_law_L_law_r12 13 rfl (gi_t pz_L_law_L_law_r12 14 rfl (gi_t pz_L_law_L_law_r12 15 rfl (gi_t pz_L_law_L_law_r12 16 rfl (gi_t pz_L_law_L_law_r11 3 rfl (gi_t pz_L_law_L_law_r11 4 rfl gi_n)))))))))))))))))))))))) (gi_t pz_L_law_L_law_r11 5 rfl (gi_t pz_L_law_L_law_r9 23 rfl (gi_t pz_L_law_L_law_r10 0 rfl (gi_t pz_L_law_L_law_r10 1 rfl (gi_t pz_L_law_L_law_r16 6 rfl (gi_t pz_L_law_L_law_r16 7 rfl (gi_t pz_L_law_L_law_r16 8 rfl (gi_t pz_L_law_L_law_r16 9 rfl (gi_t pz_L_law_L_law_r30 4 rfl (gi_t pz_L_law_L_law_r30 5 rfl (gi_t pz_L_law_L_law_r30 6 rfl (gi_t pz_L_law_L_law_r30 7 rfl (gi_t pz_L_law_L_law_r13 16 rfl (gi_t pz_L_law_L_law_r13 17 rfl (gi_t pz_L_law_L_law_r13 18 rfl gi_n)))))))))))))))) pz_L_law_X120)) (by decide +kernel)
set_option maxRecDepth 20000 in
theorem gL_law_X12_tree : GoodIn wsL_law (wsV RL 104 RX12 yX12_tree wsX12_tree) := goodIn_app (goodIn_of _ (by decide +kernel)) ggL_law_X12_tree
set_option maxRecDepth 20000 in
theorem ggL_law_X11_part : GoodIn wsL_law wsX11_part := goodIn_sub (gi_t pz_L_law_L_law_r30 11 rfl (gi_a (gi_a (gi_a (gi_a (gi_t pz_L_law_L_law_r1 15 rfl (gi_t pz_L_law_L_law_r2 16 rfl (gi_t pz_L_law_L_law_r10 10 rfl (gi_t pz_L_law_L_law_r1 14 rfl (gi_t pz_L_law_L_law_r10 11 rfl (gi_t pz_L_law_L_law_r10 12 rfl (gi_t pz_L_law_L_law_r3 9 rfl (gi_t pz_L_law_L_law_r10 13 rfl (gi_t pz_L_law_L_law_r10 14 rfl (gi_t pz_L_law_L_law_r10 15 rfl (gi_t pz_L_law_L_law_r3 8 rfl (gi_t pz_L_law_L_law_r9 15 rfl (gi_t pz_L_law_L_law_r1 2 rfl (gi_t pz_L_law_L_law_r9 16 rfl (gi_t pz_L_law_L_law_r30 12 rfl (gi_t pz_L_law_L_law_r2 15 rfl (gi_t pz_L_law_L_law_r30 13 rfl (gi_t pz_L_law_L_law_r30 14 rfl (gi_t pz_L_law_L_law_r6 15 rfl (gi_t pz_L_law_L_law_r6 16 rfl (gi_t pz_L_law_L_law_r6 17 rfl (gi_t pz_L_law_L_law_r6 14 rfl (gi_t pz_L_law_L_law_r9 9 rfl (gi_t pz_L_law_L_law_r9 10 rfl gi_n)))))))))))))))))))))))) (gi_a (gi_t pz_L_law_L_law_r9 11 rfl (gi_t pz_L_law_L_law_r30 15 rfl (gi_t pz_L_law_L_law_r30 16 rfl (gi_t pz_L_law_L_law_r30 17 rfl (gi_t pz_L_law_L_law_r30 18 rfl (gi_t pz_L_law_L_law_r30 19 rfl (gi_t pz_L_law_L_law_r30 20 rfl (gi_t pz_L_law_L_law_r30 21 rfl (gi_t pz_L_law_L_law_r23 7 rfl (gi_t pz_L_law_L_law_r23 8 rfl (gi_t pz_L_law_L_law_r23 9 rfl (gi_t pz_L_law_L_law_r15 3 rfl (gi_t pz_L_law_L_law_r13 7 rfl (gi_t pz_L_law_L_law_r15 4 rfl (gi_t pz_L_law_L_law_r15 5 rfl (gi_t pz_L_law_L_law_r23 10 rfl (gi_t pz_L_law_L_law_r15 6 rfl (gi_t pz_L_law_L_law_r15 7 rfl (gi_t pz_L_law_L_law_r30 22 rfl (gi_t pz_L_law_L_law_r30 23 rfl (gi_t pz_L_law_L_law_r31 0 rfl (gi_t pz_L_law_L_law_r31 1 rfl (gi_t pz_L_law_L_law_r31 2 rfl (gi_t pz_L_law_L_law_r31 3 rfl gi_n)))))))))))))))))))))))) (gi_t pz_L_law_L_law_r31 4 rfl (gi_t pz_L_law_L_law_r31 5 rfl (gi_t pz_L_law_L_law_r6 13 rfl gi_n))))) pz_L_law_X110) pz_L_law_X80) pz_L_law_X40)) (by decide +kernel)
set_option maxRecDepth 20000 in
theorem gL_law_X11_part : GoodIn wsL_law (wsV RL 105 RX11 yX11_part wsX11_part) := goodIn_app (goodIn_of _ (by decide +kernel)) ggL_law_X11_part
set_option maxRecDepth 20000 in
theorem ggL_law_X12_part : GoodIn wsL_law wsX12_part := goodIn_sub (gi_t pz_L_law_L_law_r31 9 rfl (gi_a (gi_a (gi_t pz_L_law_L_law_r7 22 rfl (gi_t pz_L_law_L_law_r10 23 rfl (gi_t pz_L_law_L_law_r11 0 rfl (gi_t pz_L_law_L_law_r11 1 rfl (gi_t pz_L_law_L_law_r1 5 rfl (gi_t pz_L_law_L_law_r11 2 rfl (gi_t pz_L_law_L_law_r9 21 rfl (gi_t pz_L_law_L_law_r9 23 rfl (gi_t pz_L_law_L_law_r10 0 rfl (gi_t pz_L_law_L_law_r10 1 rfl (gi_t pz_L_law_L_law_r11 3 rfl (gi_t pz_L_law_L_law_r11 4 rfl (gi_t pz_L_law_L_law_r11 5 rfl (gi_t pz_L_law_L_law_r12 17 rfl (gi_t pz_L_law_L_law_r12 18 rfl (gi_t pz_L_law_L_law_r12 19 rfl (gi_t pz_L_law_L_law_r12 20 rfl (gi_t pz_L_law_L_law_r31 10 rfl (gi_t pz_L_law_L_law_r31 11 rfl (gi_t pz_L_law_L_law_r31 12 rfl (gi_t pz_L_law_L_law_r31 13 rfl (gi_t pz_L_law_L_law_r31 14 rfl (gi_t pz_L_law_L_law_r31 15 rfl (gi_t pz_L_law_L_law_r31 16 rfl gi_n)))))))))))))))))))))))) (gi_t pz_L_law_L_law_r31 17 rfl (gi_t pz_L_law_L_law_r31 18 rfl (gi_t pz_L_law_L_law_r31 19 rfl (gi_t pz_L_law_L_law_r31 20 rfl (gi_t pz_L_law_L_law_r31 21 rfl gi_n)))))) pz_L_law_X120)) (by decide +kernel)
set_option maxRecDepth 20000 in
theorem gL_law_X12_part : GoodIn wsL_law (wsV RL 109 RX12 yX12_part wsX12_part) := goodIn_app (goodIn_of _ (by decide +kernel)) ggL_law_X12_part
set_option maxRecDepth 20000 in
theorem ggL_law_X11_line : GoodIn wsL_law wsX11_line := goodIn_sub (gi_t pz_L_law_L_law_r32 1 rfl (gi_a (gi_a (gi_a (gi_a (gi_a (gi_t pz_L_law_L_law_r3 0 rfl (gi_t pz_L_law_L_law_r32 2 rfl (gi_t pz_L_law_L_law_r32 3 rfl (gi_t pz_L_law_L_law_r32 4 rfl (gi_t pz_L_law_L_law_r1 2 rfl (gi_t pz_L_law_L_law_r32 5 rfl (gi_t pz_L_law_L_law_r1 15 rfl (gi_t pz_L_law_L_law_r2 7 rfl (gi_t pz_L_law_L_law_r25 21 rfl (gi_t pz_L_law_L_law_r2 6 rfl (gi_t pz_L_law_L_law_r25 22 rfl (gi_t pz_L_law_L_law_r25 23 rfl (gi_t pz_L_law_L_law_r6 0 rfl (gi_t pz_L_law_L_law_r5 23 rfl (gi_t pz_L_law_L_law_r5 19 rfl (gi_t pz_L_law_L_law_r6 2 rfl (gi_t pz_L_law_L_law_r9 9 rfl (gi_t pz_L_law_L_law_r1 14 rfl (gi_t pz_L_law_L_law_r9 10 rfl (gi_t pz_L_law_L_law_r9 11 rfl (gi_t pz_L_law_L_law_r3 9 rfl (gi_t pz_L_law_L_law_r26 0 rfl (gi_t pz_L_law_L_law_r26 1 rfl (gi_t pz_L_law_L_law_r26 2 rfl gi_n)))))))))))))))))))))))) (gi_a (gi_t pz_L_law_L_law_r26 3 rfl (gi_t pz_L_law_L_law_r26 4 rfl (gi_t pz_L_law_L_law_r26 5 rfl (gi_t pz_L_law_L_law_r26 6 rfl (gi_t pz_L_law_L_law_r9 15 rfl (gi_t pz_L_law_L_law_r9 16 rfl (gi_t pz_L_law_L_law_r26 7 rfl (gi_t pz_L_law_L_law_r26 8 rfl (gi_t pz_L_law_L_law_r26 9 rfl (gi_t pz_L_law_L_law_r26 10 rfl (gi_t pz_L_law_L_law_r5 20 rfl (gi_t pz_L_law_L_law_r26 11 rfl (gi_t pz_L_law_L_law_r26 12 rfl (gi_t pz_L_law_L_law_r13 7 rfl (gi_t pz_L_law_L_law_r26 13 rfl (gi_t pz_L_law_L_law_r15 5 rfl (gi_t pz_L_law_L_law_r32 6 rfl (gi_t pz_L_law_L_law_r2 23 rfl (gi_t pz_L_law_L_law_r32 7 rfl (gi_t pz_L_law_L_law_r32 8 rfl (gi_t pz_L_law_L_law_r7 13 rfl (gi_t pz_L_law_L_law_r32 9 rfl (gi_t pz_L_law_L_law_r32 10 rfl (gi_t pz_L_law_L_law_r32 11 rfl gi_n)))))))))))))))))))))))) (gi_a (gi_t pz_L_law_L_law_r32 12 rfl (gi_t pz_L_law_L_law_r7 11 rfl (gi_t pz_L_law_L_law_r7 10 rfl (gi_t pz_L_law_L_law_r32 13 rfl (gi_t pz_L_law_L_law_r32 14 rfl (gi_t pz_L_law_L_law_r32 15 rfl (gi_t pz_L_law_L_law_r32 16 rfl (gi_t pz_L_law_L_law_r32 17 rfl (gi_t pz_L_law_L_law_r32 18 rfl (gi_t pz_L_law_L_law_r7 9 rfl (gi_t pz_L_law_L_law_r32 19 rfl (gi_t pz_L_law_L_law_r32 20 rfl (gi_t pz_L_law_L_law_r32 21 rfl (gi_t pz_L_law_L_law_r7 15 rfl (gi_t pz_L_law_L_law_r32 22 rfl (gi_t pz_L_law_L_law_r22 9 rfl (gi_t pz_L_law_L_law_r3 19 rfl (gi_t pz_L_law_L_law_r22 10 rfl (gi_t pz_L_law_L_law_r22 11 rfl (gi_t pz_L_law_L_law_r22 12 rfl (gi_t pz_L_law_L_law_r22 13 rfl (gi_t pz_L_law_L_law_r32 23 rfl (gi_t pz_L_law_L_law_r33 0 rfl (gi_t pz_L_law_L_law_r33 1 rfl gi_n)))))))))))))))))))))))) (gi_t pz_L_law_L_law_r7 16 rfl (gi_t pz_L_law_L_law_r33 2 rfl (gi_t pz_L_law_L_law_r33 3 rfl (gi_t pz_L_law_L_law_r33 4 rfl (gi_t pz_L_law_L_law_r33 5 rfl gi_n)))))))) pz_L_law_X110) pz_L_law_X00) pz_L_law_X40) pz_L_law_X10)) (by decide +kernel)
set_option maxRecDepth 20000 in
theorem gL_law_X11_line : GoodIn wsL_law (wsV RL 110 RX11 yX11_line wsX11_line) := goodIn_app (goodIn_of _ (by decide +kernel)) ggL_law_X11_line
set_option maxRecDepth 20000 in
theorem ggL_law_X12_line : GoodIn wsL_law wsX12_line := goodIn_sub (gi_t pz_L_law_L_law_r33 9 rfl (gi_a (gi_a (gi_t pz_L_law_L_law_r33 10 rfl (gi_t pz_L_law_L_law_r8 16 rfl (gi_t pz_L_law_L_law_r33 11 rfl (gi_t pz_L_law_L_law_r33 12 rfl (gi_t pz_L_law_L_law_r33 13 rfl (gi_t pz_L_law_L_law_r1 5 rfl (gi_t pz_L_law_L_law_r33 14 rfl (gi_t pz_L_law_L_law_r33 15 rfl (gi_t pz_L_law_L_law_r26 21 rfl (gi_t pz_L_law_L_law_r8 12 rfl (gi_t pz_L_law_L_law_r8 9 rfl (gi_t pz_L_law_L_law_r26 22 rfl (gi_t pz_L_law_L_law_r26 23 rfl (gi_t pz_L_law_L_law_r27 0 rfl (gi_t pz_L_law_L_law_r27 1 rfl (gi_t pz_L_law_L_law_r12 17 rfl (gi_t pz_L_law_L_law_r12 18 rfl (gi_t pz_L_law_L_law_r12 19 rfl (gi_t pz_L_law_L_law_r12 20 rfl (gi_t pz_L_law_L_law_r9 21 rfl (gi_t pz_L_law_L_law_r27 2 rfl (gi_t pz_L_law_L_law_r27 3 rfl (gi_t pz_L_law_L_law_r27 4 rfl (gi_t pz_L_law_L_law_r27 5 rfl gi_n)))))))))))))))))))))))) (gi_a (gi_t pz_L_law_L_law_r7 22 rfl (gi_t pz_L_law_L_law_r12 13 rfl (gi_t pz_L_law_L_law_r12 14 rfl (gi_t pz_L_law_L_law_r12 15 rfl (gi_t pz_L_law_L_law_r12 16 rfl (gi_t pz_L_law_L_law_r11 3 rfl (gi_t pz_L_law_L_law_r11 4 rfl (gi_t pz_L_law_L_law_r11 5 rfl (gi_t pz_L_law_L_law_r16 6 rfl (gi_t pz_L_law_L_law_r16 7 rfl (gi_t pz_L_law_L_law_r16 8 rfl (gi_t pz_L_law_L_law_r16 9 rfl (gi_t pz_L_law_L_law_r33 16 rfl (gi_t pz_L_law_L_law_r33 17 rfl (gi_t pz_L_law_L_law_r33 18 rfl (gi_t pz_L_law_L_law_r33 19 rfl (gi_t pz_L_law_L_law_r8 15 rfl (gi_t pz_L_law_L_law_r8 14 rfl (gi_t pz_L_law_L_law_r33 20 rfl (gi_t pz_L_law_L_law_r33 21 rfl (gi_t pz_L_law_L_law_r33 22 rfl (gi_t pz_L_law_L_law_r33 23 rfl (gi_t pz_L_law_L_law_r9 23 rfl (gi_t pz_L_law_L_law_r10 0 rfl gi_n)))))))))))))))))))))))) (gi_t pz_L_law_L_law_r10 1 rfl gi_n))) pz_L_law_X120)) (by decide +kernel)
set_option maxRecDepth 20000 in
theorem gL_law_X12_line : GoodIn wsL_law (wsV RL 113 RX12 yX12_line wsX12_line) := goodIn_app (goodIn_of _ (by decide +kernel)) ggL_law_X12_line
set_option maxRecDepth 20000 in
theorem ggL_law_X11_span : GoodIn wsL_law wsX11_span := goodIn_sub (gi_t pz_L_law_L_law_r34 3 rfl (gi_a (gi_a (gi_a (gi_a (gi_a (gi_t pz_L_law_L_law_r1 15 rfl (gi_t pz_L_law_L_law_r3 0 rfl (gi_t pz_L_law_L_law_r10 10 rfl (gi_t pz_L_law_L_law_r1 14 rfl (gi_t pz_L_law_L_law_r10 11 rfl (gi_t pz_L_law_L_law_r10 12 rfl (gi_t pz_L_law_L_law_r3 9 rfl (gi_t pz_L_law_L_law_r32 2 rfl (gi_t pz_L_law_L_law_r32 3 rfl (gi_t pz_L_law_L_law_r32 4 rfl (gi_t pz_L_law_L_law_r1 2 rfl (gi_t pz_L_law_L_law_r32 5 rfl (gi_t pz_L_law_L_law_r2 7 rfl (gi_t pz_L_law_L_law_r25 21 rfl (gi_t pz_L_law_L_law_r2 6 rfl (gi_t pz_L_law_L_law_r25 22 rfl (gi_t pz_L_law_L_law_r25 23 rfl (gi_t pz_L_law_L_law_r6 0 rfl (gi_t pz_L_law_L_law_r5 23 rfl (gi_t pz_L_law_L_law_r5 19 rfl (gi_t pz_L_law_L_law_r6 2 rfl (gi_t pz_L_law_L_law_r9 9 rfl (gi_t pz_L_law_L_law_r9 10 rfl (gi_t pz_L_law_L_law_r9 11 rfl gi_n)))))))))))))))))))))))) (gi_a (gi_t pz_L_law_L_law_r26 0 rfl (gi_t pz_L_law_L_law_r26 1 rfl (gi_t pz_L_law_L_law_r26 2 rfl (gi_t pz_L_law_L_law_r26 3 rfl (gi_t pz_L_law_L_law_r26 4 rfl (gi_t pz_L_law_L_law_r26 5 rfl (gi_t pz_L_law_L_law_r26 6 rfl (gi_t pz_L_law_L_law_r9 15 rfl (gi_t pz_L_law_L_law_r9 16 rfl (gi_t pz_L_law_L_law_r26 7 rfl (gi_t pz_L_law_L_law_r26 8 rfl (gi_t pz_L_law_L_law_r26 9 rfl (gi_t pz_L_law_L_law_r26 10 rfl (gi_t pz_L_law_L_law_r5 20 rfl (gi_t pz_L_law_L_law_r26 11 rfl (gi_t pz_L_law_L_law_r26 12 rfl (gi_t pz_L_law_L_law_r13 7 rfl (gi_t pz_L_law_L_law_r26 13 rfl (gi_t pz_L_law_L_law_r15 5 rfl (gi_t pz_L_law_L_law_r32 6 rfl (gi_t pz_L_law_L_law_r2 23 rfl (gi_t pz_L_law_L_law_r32 7 rfl (gi_t pz_L_law_L_law_r32 8 rfl (gi_t pz_L_law_L_law_r7 13 rfl gi_n)))))))))))))))))))))))) (gi_a (gi_t pz_L_law_L_law_r32 9 rfl (gi_t pz_L_law_L_law_r32 10 rfl (gi_t pz_L_law_L_law_r32 11 rfl (gi_t pz_L_law_L_law_r32 12 rfl (gi_t pz_L_law_L_law_r7 11 rfl (gi_t pz_L_law_L_law_r7 10 rfl (gi_t pz_L_law_L_law_r32 13 rfl (gi_t pz_L_law_L_law_r32 14 rfl (gi_t pz_L_law_L_law_r32 15 rfl (gi_t pz_L_law_L_law_r32 16 rfl (gi_t pz_L_law_L_law_r32 17 rfl (gi_t pz_L_law_L_law_r32 18 rfl (gi_t pz_L_law_L_law_r7 9 rfl (gi_t pz_L_law_L_law_r32 19 rfl (gi_t pz_L_law_L_law_r32 20 rfl (gi_t pz_L_law_L_law_r32 21 rfl (gi_t pz_L_law_L_law_r7 15 rfl (gi_t pz_L_law_L_law_r32 22 rfl (gi_t pz_L_law_L_law_r22 9 rfl (gi_t pz_L_law_L_law_r3 19 rfl (gi_t pz_L_law_L_law_r22 10 rfl (gi_t pz_L_law_L_law_r22 11 rfl (gi_t pz_L_law_L_law_r22 12 rfl (gi_t pz_L_law_L_law_r22 13 rfl gi_n)))))))))))))))))))))))) (gi_t pz_L_law_L_law_r32 23 rfl (gi_t pz_L_law_L_law_r33 0 rfl (gi_t pz_L_law_L_law_r33 1 rfl (gi_t pz_L_law_L_law_r7 16 rfl (gi_t pz_L_law_L_law_r33 2 rfl (gi_t pz_L_law_L_law_r33 3 rfl (gi_t pz_L_law_L_law_r33 4 rfl (gi_t pz_L_law_L_law_r33 5 rfl (gi_t pz_L_law_L_law_r34 4 rfl (gi_t pz_L_law_L_law_r34 5 rfl (gi_t pz_L_law_L_law_r34 6 rfl (gi_t pz_L_law_L_law_r34 7 rfl (gi_t pz_L_law_L_law_r34 8 rfl (gi_t pz_L_law_L_law_r34 9 rfl gi_n))))))))))))))))) pz_L_law_X110) pz_L_law_X00) pz_L_law_X40) pz_L_law_X10)) (by decide +kernel)
set_option maxRecDepth 20000 in
theorem gL_law_X11_span : GoodIn wsL_law (wsV RL 114 RX11 yX11_span wsX11_span) := goodIn_app (goodIn_of _ (by decide +kernel)) ggL_law_X11_span
set_option maxRecDepth 20000 in
theorem ggL_law_X12_span : GoodIn wsL_law wsX12_span := goodIn_sub (gi_t pz_L_law_L_law_r34 13 rfl (gi_a (gi_a (gi_t pz_L_law_L_law_r33 10 rfl (gi_t pz_L_law_L_law_r8 9 rfl (gi_t pz_L_law_L_law_r8 16 rfl (gi_t pz_L_law_L_law_r10 23 rfl (gi_t pz_L_law_L_law_r11 0 rfl (gi_t pz_L_law_L_law_r11 1 rfl (gi_t pz_L_law_L_law_r1 5 rfl (gi_t pz_L_law_L_law_r11 2 rfl (gi_t pz_L_law_L_law_r9 21 rfl (gi_t pz_L_law_L_law_r9 23 rfl (gi_t pz_L_law_L_law_r10 0 rfl (gi_t pz_L_law_L_law_r10 1 rfl (gi_t pz_L_law_L_law_r33 11 rfl (gi_t pz_L_law_L_law_r33 12 rfl (gi_t pz_L_law_L_law_r33 13 rfl (gi_t pz_L_law_L_law_r33 14 rfl (gi_t pz_L_law_L_law_r33 15 rfl (gi_t pz_L_law_L_law_r26 21 rfl (gi_t pz_L_law_L_law_r8 12 rfl (gi_t pz_L_law_L_law_r26 22 rfl (gi_t pz_L_law_L_law_r26 23 rfl (gi_t pz_L_law_L_law_r27 0 rfl (gi_t pz_L_law_L_law_r27 1 rfl (gi_t pz_L_law_L_law_r12 17 rfl gi_n)))))))))))))))))))))))) (gi_a (gi_t pz_L_law_L_law_r12 18 rfl (gi_t pz_L_law_L_law_r12 19 rfl (gi_t pz_L_law_L_law_r12 20 rfl (gi_t pz_L_law_L_law_r27 2 rfl (gi_t pz_L_law_L_law_r27 3 rfl (gi_t pz_L_law_L_law_r27 4 rfl (gi_t pz_L_law_L_law_r27 5 rfl (gi_t pz_L_law_L_law_r7 22 rfl (gi_t pz_L_law_L_law_r12 13 rfl (gi_t pz_L_law_L_law_r12 14 rfl (gi_t pz_L_law_L_law_r12 15 rfl (gi_t pz_L_law_L_law_r12 16 rfl (gi_t pz_L_law_L_law_r11 3 rfl (gi_t pz_L_law_L_law_r11 4 rfl (gi_t pz_L_law_L_law_r11 5 rfl (gi_t pz_L_law_L_law_r16 6 rfl (gi_t pz_L_law_L_law_r16 7 rfl (gi_t pz_L_law_L_law_r16 8 rfl (gi_t pz_L_law_L_law_r16 9 rfl (gi_t pz_L_law_L_law_r33 16 rfl (gi_t pz_L_law_L_law_r33 17 rfl (gi_t pz_L_law_L_law_r33 18 rfl (gi_t pz_L_law_L_law_r33 19 rfl (gi_t pz_L_law_L_law_r8 15 rfl gi_n)))))))))))))))))))))))) (gi_t pz_L_law_L_law_r8 14 rfl (gi_t pz_L_law_L_law_r33 20 rfl (gi_t pz_L_law_L_law_r33 21 rfl (gi_t pz_L_law_L_law_r33 22 rfl (gi_t pz_L_law_L_law_r33 23 rfl gi_n))))))) pz_L_law_X120)) (by decide +kernel)
set_option maxRecDepth 20000 in
theorem gL_law_X12_span : GoodIn wsL_law (wsV RL 118 RX12 yX12_span wsX12_span) := goodIn_app (goodIn_of _ (by decide +kernel)) ggL_law_X12_span
set_option maxRecDepth 20000 in
theorem ggL_law_X11_far : GoodIn wsL_law wsX11_far := goodIn_sub (gi_t pz_L_law_L_law_r34 17 rfl (gi_a (gi_a (gi_a (gi_a (gi_t pz_L_law_L_law_r2 20 rfl (gi_t pz_L_law_L_law_r1 15 rfl (gi_t pz_L_law_L_law_r34 18 rfl (gi_t pz_L_law_L_law_r2 19 rfl (gi_t pz_L_law_L_law_r34 19 rfl (gi_t pz_L_law_L_law_r34 20 rfl (gi_t pz_L_law_L_law_r7 1 rfl (gi_t pz_L_law_L_law_r7 0 rfl (gi_t pz_L_law_L_law_r34 21 rfl (gi_t pz_L_law_L_law_r34 22 rfl (gi_t pz_L_law_L_law_r34 23 rfl (gi_t pz_L_law_L_law_r35 0 rfl (gi_t pz_L_law_L_law_r6 22 rfl (gi_t pz_L_law_L_law_r9 9 rfl (gi_t pz_L_law_L_law_r1 14 rfl (gi_t pz_L_law_L_law_r9 10 rfl (gi_t pz_L_law_L_law_r9 11 rfl (gi_t pz_L_law_L_law_r3 9 rfl (gi_t pz_L_law_L_law_r9 15 rfl (gi_t pz_L_law_L_law_r1 2 rfl (gi_t pz_L_law_L_law_r9 16 rfl (gi_t pz_L_law_L_law_r30 19 rfl (gi_t pz_L_law_L_law_r30 20 rfl (gi_t pz_L_law_L_law_r30 21 rfl gi_n)))))))))))))))))))))))) (gi_t pz_L_law_L_law_r3 8 rfl (gi_t pz_L_law_L_law_r23 7 rfl (gi_t pz_L_law_L_law_r23 8 rfl (gi_t pz_L_law_L_law_r23 9 rfl (gi_t pz_L_law_L_law_r15 3 rfl (gi_t pz_L_law_L_law_r13 7 rfl (gi_t pz_L_law_L_law_r15 4 rfl (gi_t pz_L_law_L_law_r15 5 rfl (gi_t pz_L_law_L_law_r23 10 rfl (gi_t pz_L_law_L_law_r15 6 rfl (gi_t pz_L_law_L_law_r15 7 rfl (gi_t pz_L_law_L_law_r35 1 rfl (gi_t pz_L_law_L_law_r35 2 rfl (gi_t pz_L_law_L_law_r35 3 rfl (gi_t pz_L_law_L_law_r35 4 rfl (gi_t pz_L_law_L_law_r6 23 rfl gi_n))))))))))))))))) pz_L_law_X110) pz_L_law_X20) pz_L_law_X40)) (by decide +kernel)
set_option maxRecDepth 20000 in
theorem gL_law_X11_far : GoodIn wsL_law (wsV RL 119 RX11 yX11_far wsX11_far) := goodIn_app (goodIn_of _ (by decide +kernel)) ggL_law_X11_far
set_option maxRecDepth 20000 in
theorem ggL_law_X12_far : GoodIn wsL_law wsX12_far := goodIn_sub (gi_t pz_L_law_L_law_r35 8 rfl (gi_a (gi_t pz_L_law_L_law_r9 21 rfl (gi_t pz_L_law_L_law_r35 9 rfl (gi_t pz_L_law_L_law_r35 10 rfl (gi_t pz_L_law_L_law_r35 11 rfl (gi_t pz_L_law_L_law_r1 5 rfl (gi_t pz_L_law_L_law_r35 12 rfl (gi_t pz_L_law_L_law_r7 22 rfl (gi_t pz_L_law_L_law_r28 5 rfl (gi_t pz_L_law_L_law_r28 6 rfl (gi_t pz_L_law_L_law_r28 7 rfl (gi_t pz_L_law_L_law_r28 8 rfl (gi_t pz_L_law_L_law_r11 3 rfl (gi_t pz_L_law_L_law_r11 4 rfl (gi_t pz_L_law_L_law_r11 5 rfl (gi_t pz_L_law_L_law_r31 18 rfl (gi_t pz_L_law_L_law_r31 19 rfl (gi_t pz_L_law_L_law_r31 20 rfl (gi_t pz_L_law_L_law_r31 21 rfl gi_n)))))))))))))))))) pz_L_law_X120)) (by decide +kernel)
set_option maxRecDepth 20000 in
theorem gL_law_X12_far : GoodIn wsL_law (wsV RL 122 RX12 yX12_far wsX12_far) := goodIn_app (goodIn_of _ (by decide +kernel)) ggL_law_X12_far
set_option maxRecDepth 20000 in
theorem ggL_law_X11_columns : GoodIn wsL_law wsX11_columns := goodIn_sub (gi_t pz_L_law_L_law_r35 16 rfl (gi_a (gi_a (gi_t pz_L_law_L_law_r1 19 rfl (gi_t pz_L_law_L_law_r13 1 rfl (gi_t pz_L_law_L_law_r13 2 rfl (gi_t pz_L_law_L_law_r13 3 rfl (gi_t pz_L_law_L_law_r1 2 rfl (gi_t pz_L_law_L_law_r13 4 rfl (gi_t pz_L_law_L_law_r3 4 rfl (gi_t pz_L_law_L_law_r3 3 rfl (gi_t pz_L_law_L_law_r35 17 rfl (gi_t pz_L_law_L_law_r1 18 rfl (gi_t pz_L_law_L_law_r35 18 rfl (gi_t pz_L_law_L_law_r35 19 rfl (gi_t pz_L_law_L_law_r3 15 rfl (gi_t pz_L_law_L_law_r3 14 rfl (gi_t pz_L_law_L_law_r3 16 rfl (gi_t pz_L_law_L_law_r3 17 rfl (gi_t pz_L_law_L_law_r3 18 rfl (gi_t pz_L_law_L_law_r3 19 rfl (gi_t pz_L_law_L_law_r3 20 rfl gi_n))))))))))))))))))) pz_L_law_X110) pz_L_law_X100)) (by decide +kernel)
set_option maxRecDepth 20000 in
theorem gL_law_X11_columns : GoodIn wsL_law (wsV RL 123 RX11 yX11_columns wsX11_columns) := goodIn_app (goodIn_of _ (by decide +kernel)) ggL_law_X11_columns
set_option maxRecDepth 20000 in
theorem ggL_law_X12_columns : GoodIn wsL_law wsX12_columns := goodIn_sub (gi_t pz_L_law_L_law_r35 23 rfl (gi_a (gi_t pz_L_law_L_law_r17 14 rfl (gi_t pz_L_law_L_law_r7 23 rfl (gi_t pz_L_law_L_law_r13 19 rfl (gi_t pz_L_law_L_law_r13 20 rfl (gi_t pz_L_law_L_law_r13 21 rfl (gi_t pz_L_law_L_law_r1 5 rfl (gi_t pz_L_law_L_law_r13 22 rfl (gi_t pz_L_law_L_law_r13 23 rfl (gi_t pz_L_law_L_law_r7 21 rfl gi_n))))))))) pz_L_law_X120)) (by decide +kernel)
set_option maxRecDepth 20000 in
theorem gL_law_X12_columns : GoodIn wsL_law (wsV RL 126 RX12 yX12_columns wsX12_columns) := goodIn_app (goodIn_of _ (by decide +kernel)) ggL_law_X12_columns
set_option maxRecDepth 20000 in
theorem ggL_law_X11_row : GoodIn wsL_law wsX11_row := goodIn_sub (gi_t pz_L_law_L_law_r36 3 rfl (gi_a (gi_a (gi_t pz_L_law_L_law_r1 19 rfl (gi_t pz_L_law_L_law_r36 4 rfl (gi_t pz_L_law_L_law_r1 18 rfl (gi_t pz_L_law_L_law_r36 5 rfl (gi_t pz_L_law_L_law_r36 6 rfl (gi_t pz_L_law_L_law_r13 1 rfl (gi_t pz_L_law_L_law_r13 2 rfl (gi_t pz_L_law_L_law_r13 3 rfl (gi_t pz_L_law_L_law_r1 2 rfl (gi_t pz_L_law_L_law_r13 4 rfl (gi_t pz_L_law_L_law_r3 4 rfl (gi_t pz_L_law_L_law_r3 3 rfl (gi_t pz_L_law_L_law_r36 7 rfl (gi_t pz_L_law_L_law_r36 8 rfl (gi_t pz_L_law_L_law_r36 9 rfl (gi_t pz_L_law_L_law_r3 14 rfl (gi_t pz_L_law_L_law_r3 16 rfl gi_n))))))))))))))))) pz_L_law_X110) pz_L_law_X100)) (by decide +kernel)
set_option maxRecDepth 20000 in
theorem gL_law_X11_row : GoodIn wsL_law (wsV RL 127 RX11 yX11_row wsX11_row) := goodIn_app (goodIn_of _ (by decide +kernel)) ggL_law_X11_row
set_option maxRecDepth 20000 in
theorem ggL_law_X12_row : GoodIn wsL_law wsX12_row := goodIn_sub (gi_t pz_L_law_L_law_r36 13 rfl (gi_a (gi_t pz_L_law_L_law_r17 14 rfl (gi_t pz_L_law_L_law_r7 23 rfl (gi_t pz_L_law_L_law_r9 23 rfl (gi_t pz_L_law_L_law_r10 0 rfl (gi_t pz_L_law_L_law_r1 5 rfl (gi_t pz_L_law_L_law_r10 1 rfl (gi_t pz_L_law_L_law_r13 19 rfl (gi_t pz_L_law_L_law_r13 20 rfl (gi_t pz_L_law_L_law_r13 21 rfl (gi_t pz_L_law_L_law_r13 22 rfl (gi_t pz_L_law_L_law_r13 23 rfl (gi_t pz_L_law_L_law_r7 21 rfl gi_n)))))))))))) pz_L_law_X120)) (by decide +kernel)
set_option maxRecDepth 20000 in
theorem gL_law_X12_row : GoodIn wsL_law (wsV RL 130 RX12 yX12_row wsX12_row) := goodIn_app (goodIn_of _ (by decide +kernel)) ggL_law_X12_row
set_option maxRecDepth 20000 in
theorem ggL_law_X11_told : GoodIn wsL_law wsX11_told := goodIn_sub (gi_t pz_L_law_L_law_r36 17 rfl (gi_a (gi_a (gi_t pz_L_law_L_law_r1 19 rfl (gi_t pz_L_law_L_law_r36 4 rfl (gi_t pz_L_law_L_law_r1 18 rfl (gi_t pz_L_law_L_law_r36 5 rfl (gi_t pz_L_law_L_law_r36 6 rfl (gi_t pz_L_law_L_law_r13 1 rfl (gi_t pz_L_law_L_law_r13 2 rfl (gi_t pz_L_law_L_law_r13 3 rfl (gi_t pz_L_law_L_law_r1 2 rfl (gi_t pz_L_law_L_law_r13 4 rfl (gi_t pz_L_law_L_law_r3 4 rfl (gi_t pz_L_law_L_law_r3 3 rfl gi_n)))))))))))) pz_L_law_X110) pz_L_law_X100)) (by decide +kernel)
set_option maxRecDepth 20000 in
theorem gL_law_X11_told : GoodIn wsL_law (wsV RL 131 RX11 yX11_told wsX11_told) := goodIn_app (goodIn_of _ (by decide +kernel)) ggL_law_X11_told
set_option maxRecDepth 20000 in
theorem ggL_law_X12_told : GoodIn wsL_law wsX12_told := goodIn_sub (gi_t pz_L_law_L_law_r36 21 rfl (gi_a (gi_t pz_L_law_L_law_r7 23 rfl (gi_t pz_L_law_L_law_r9 23 rfl (gi_t pz_L_law_L_law_r10 0 rfl (gi_t pz_L_law_L_law_r1 5 rfl (gi_t pz_L_law_L_law_r10 1 rfl (gi_t pz_L_law_L_law_r13 19 rfl (gi_t pz_L_law_L_law_r13 20 rfl (gi_t pz_L_law_L_law_r13 21 rfl (gi_t pz_L_law_L_law_r13 22 rfl (gi_t pz_L_law_L_law_r13 23 rfl (gi_t pz_L_law_L_law_r7 21 rfl gi_n))))))))))) pz_L_law_X120)) (by decide +kernel)
set_option maxRecDepth 20000 in
theorem gL_law_X12_told : GoodIn wsL_law (wsV RL 134 RX12 yX12_told wsX12_told) := goodIn_app (goodIn_of _ (by decide +kernel)) ggL_law_X12_told
set_option maxRecDepth 20000 in
theorem ggL_law_X11_tear : GoodIn wsL_law wsX11_tear := goodIn_sub (gi_t pz_L_law_L_law_r37 1 rfl (gi_a (gi_a (gi_t pz_L_law_L_law_r1 19 rfl (gi_t pz_L_law_L_law_r36 4 rfl (gi_t pz_L_law_L_law_r1 18 rfl (gi_t pz_L_law_L_law_r36 5 rfl (gi_t pz_L_law_L_law_r36 6 rfl (gi_t pz_L_law_L_law_r13 1 rfl (gi_t pz_L_law_L_law_r13 2 rfl (gi_t pz_L_law_L_law_r13 3 rfl (gi_t pz_L_law_L_law_r1 2 rfl (gi_t pz_L_law_L_law_r13 4 rfl (gi_t pz_L_law_L_law_r3 4 rfl (gi_t pz_L_law_L_law_r3 3 rfl (gi_t pz_L_law_L_law_r36 7 rfl (gi_t pz_L_law_L_law_r36 8 rfl (gi_t pz_L_law_L_law_r36 9 rfl (gi_t pz_L_law_L_law_r3 14 rfl (gi_t pz_L_law_L_law_r3 16 rfl gi_n))))))))))))))))) pz_L_law_X110) pz_L_law_X100)) (by decide +kernel)
set_option maxRecDepth 20000 in
theorem gL_law_X11_tear : GoodIn wsL_law (wsV RL 135 RX11 yX11_tear wsX11_tear) := goodIn_app (goodIn_of _ (by decide +kernel)) ggL_law_X11_tear
set_option maxRecDepth 20000 in
theorem ggL_law_X12_tear : GoodIn wsL_law wsX12_tear := goodIn_sub (gi_t pz_L_law_L_law_r37 5 rfl (gi_a (gi_t pz_L_law_L_law_r7 23 rfl (gi_t pz_L_law_L_law_r9 23 rfl (gi_t pz_L_law_L_law_r10 0 rfl (gi_t pz_L_law_L_law_r1 5 rfl (gi_t pz_L_law_L_law_r10 1 rfl (gi_t pz_L_law_L_law_r13 19 rfl (gi_t pz_L_law_L_law_r13 20 rfl (gi_t pz_L_law_L_law_r13 21 rfl (gi_t pz_L_law_L_law_r13 22 rfl (gi_t pz_L_law_L_law_r13 23 rfl (gi_t pz_L_law_L_law_r7 21 rfl gi_n))))))))))) pz_L_law_X120)) (by decide +kernel)
set_option maxRecDepth 20000 in
theorem gL_law_X12_tear : GoodIn wsL_law (wsV RL 138 RX12 yX12_tear wsX12_tear) := goodIn_app (goodIn_of _ (by decide +kernel)) ggL_law_X12_tear
set_option maxRecDepth 20000 in
theorem ggL_law_X11_copy : GoodIn wsL_law wsX11_copy := goodIn_sub (gi_t pz_L_law_L_law_r37 9 rfl (gi_a (gi_a (gi_t pz_L_law_L_law_r1 19 rfl (gi_t pz_L_law_L_law_r37 10 rfl (gi_t pz_L_law_L_law_r1 18 rfl (gi_t pz_L_law_L_law_r37 11 rfl (gi_t pz_L_law_L_law_r37 12 rfl (gi_t pz_L_law_L_law_r13 1 rfl (gi_t pz_L_law_L_law_r13 2 rfl (gi_t pz_L_law_L_law_r13 3 rfl (gi_t pz_L_law_L_law_r1 2 rfl (gi_t pz_L_law_L_law_r13 4 rfl (gi_t pz_L_law_L_law_r3 4 rfl (gi_t pz_L_law_L_law_r3 3 rfl (gi_t pz_L_law_L_law_r37 13 rfl (gi_t pz_L_law_L_law_r37 14 rfl (gi_t pz_L_law_L_law_r37 15 rfl (gi_t pz_L_law_L_law_r3 14 rfl (gi_t pz_L_law_L_law_r37 16 rfl (gi_t pz_L_law_L_law_r14 15 rfl (gi_t pz_L_law_L_law_r14 16 rfl (gi_t pz_L_law_L_law_r14 17 rfl (gi_t pz_L_law_L_law_r3 16 rfl gi_n))))))))))))))))))))) pz_L_law_X110) pz_L_law_X100)) (by decide +kernel)
set_option maxRecDepth 20000 in
theorem gL_law_X11_copy : GoodIn wsL_law (wsV RL 139 RX11 yX11_copy wsX11_copy) := goodIn_app (goodIn_of _ (by decide +kernel)) ggL_law_X11_copy
set_option maxRecDepth 20000 in
theorem ggL_law_X12_copy : GoodIn wsL_law wsX12_copy := goodIn_sub (gi_t pz_L_law_L_law_r37 20 rfl (gi_a (gi_t pz_L_law_L_law_r37 21 rfl (gi_t pz_L_law_L_law_r8 17 rfl (gi_t pz_L_law_L_law_r7 23 rfl (gi_t pz_L_law_L_law_r13 19 rfl (gi_t pz_L_law_L_law_r13 20 rfl (gi_t pz_L_law_L_law_r13 21 rfl (gi_t pz_L_law_L_law_r1 5 rfl (gi_t pz_L_law_L_law_r13 22 rfl (gi_t pz_L_law_L_law_r13 23 rfl (gi_t pz_L_law_L_law_r7 21 rfl gi_n)))))))))) pz_L_law_X120)) (by decide +kernel)
set_option maxRecDepth 20000 in
theorem gL_law_X12_copy : GoodIn wsL_law (wsV RL 142 RX12 yX12_copy wsX12_copy) := goodIn_app (goodIn_of _ (by decide +kernel)) ggL_law_X12_copy
set_option maxRecDepth 20000 in
theorem ggL_law_X11_seatings : GoodIn wsL_law wsX11_seatings := goodIn_sub (gi_t pz_L_law_L_law_r38 1 rfl (gi_a (gi_a (gi_a (gi_a (gi_t pz_L_law_L_law_r3 1 rfl (gi_t pz_L_law_L_law_r38 2 rfl (gi_t pz_L_law_L_law_r38 3 rfl (gi_t pz_L_law_L_law_r38 4 rfl (gi_t pz_L_law_L_law_r1 2 rfl (gi_t pz_L_law_L_law_r38 5 rfl (gi_t pz_L_law_L_law_r1 19 rfl (gi_t pz_L_law_L_law_r32 10 rfl (gi_t pz_L_law_L_law_r2 23 rfl (gi_t pz_L_law_L_law_r32 11 rfl (gi_t pz_L_law_L_law_r32 12 rfl (gi_t pz_L_law_L_law_r7 11 rfl (gi_t pz_L_law_L_law_r7 10 rfl (gi_t pz_L_law_L_law_r32 16 rfl (gi_t pz_L_law_L_law_r32 17 rfl (gi_t pz_L_law_L_law_r32 18 rfl (gi_t pz_L_law_L_law_r7 9 rfl (gi_t pz_L_law_L_law_r32 19 rfl (gi_t pz_L_law_L_law_r32 20 rfl (gi_t pz_L_law_L_law_r32 21 rfl (gi_t pz_L_law_L_law_r7 15 rfl (gi_t pz_L_law_L_law_r7 13 rfl (gi_t pz_L_law_L_law_r32 22 rfl (gi_t pz_L_law_L_law_r22 9 rfl gi_n)))))))))))))))))))))))) (gi_t pz_L_law_L_law_r3 19 rfl (gi_t pz_L_law_L_law_r22 10 rfl (gi_t pz_L_law_L_law_r22 11 rfl (gi_t pz_L_law_L_law_r22 12 rfl (gi_t pz_L_law_L_law_r22 13 rfl (gi_t pz_L_law_L_law_r32 23 rfl (gi_t pz_L_law_L_law_r33 0 rfl (gi_t pz_L_law_L_law_r33 1 rfl (gi_t pz_L_law_L_law_r7 16 rfl (gi_t pz_L_law_L_law_r33 2 rfl (gi_t pz_L_law_L_law_r33 3 rfl (gi_t pz_L_law_L_law_r33 4 rfl (gi_t pz_L_law_L_law_r33 5 rfl (gi_t pz_L_law_L_law_r9 15 rfl (gi_t pz_L_law_L_law_r9 16 rfl (gi_t pz_L_law_L_law_r38 6 rfl (gi_t pz_L_law_L_law_r38 7 rfl (gi_t pz_L_law_L_law_r38 8 rfl (gi_t pz_L_law_L_law_r7 12 rfl gi_n)))))))))))))))))))) pz_L_law_X110) pz_L_law_X00) pz_L_law_X100)) (by decide +kernel)
set_option maxRecDepth 20000 in
theorem gL_law_X11_seatings : GoodIn wsL_law (wsV RL 143 RX11 yX11_seatings wsX11_seatings) := goodIn_app (goodIn_of _ (by decide +kernel)) ggL_law_X11_seatings
set_option maxRecDepth 20000 in
theorem ggL_law_X12_seatings : GoodIn wsL_law wsX12_seatings := goodIn_sub (gi_t pz_L_law_L_law_r38 12 rfl (gi_a (gi_a (gi_t pz_L_law_L_law_r38 13 rfl (gi_t pz_L_law_L_law_r38 14 rfl (gi_t pz_L_law_L_law_r38 15 rfl (gi_t pz_L_law_L_law_r1 5 rfl (gi_t pz_L_law_L_law_r38 16 rfl (gi_t pz_L_law_L_law_r17 14 rfl (gi_t pz_L_law_L_law_r33 15 rfl (gi_t pz_L_law_L_law_r8 12 rfl (gi_t pz_L_law_L_law_r7 23 rfl (gi_t pz_L_law_L_law_r11 3 rfl (gi_t pz_L_law_L_law_r11 4 rfl (gi_t pz_L_law_L_law_r11 5 rfl (gi_t pz_L_law_L_law_r33 16 rfl (gi_t pz_L_law_L_law_r33 17 rfl (gi_t pz_L_law_L_law_r33 18 rfl (gi_t pz_L_law_L_law_r33 19 rfl (gi_t pz_L_law_L_law_r8 15 rfl (gi_t pz_L_law_L_law_r8 14 rfl (gi_t pz_L_law_L_law_r33 10 rfl (gi_t pz_L_law_L_law_r8 16 rfl (gi_t pz_L_law_L_law_r33 20 rfl (gi_t pz_L_law_L_law_r33 21 rfl (gi_t pz_L_law_L_law_r33 22 rfl (gi_t pz_L_law_L_law_r33 23 rfl gi_n)))))))))))))))))))))))) (gi_t pz_L_law_L_law_r38 17 rfl (gi_t pz_L_law_L_law_r38 18 rfl (gi_t pz_L_law_L_law_r38 19 rfl (gi_t pz_L_law_L_law_r38 20 rfl gi_n))))) pz_L_law_X120)) (by decide +kernel)
set_option maxRecDepth 20000 in
theorem gL_law_X12_seatings : GoodIn wsL_law (wsV RL 146 RX12 yX12_seatings wsX12_seatings) := goodIn_app (goodIn_of _ (by decide +kernel)) ggL_law_X12_seatings
set_option maxRecDepth 20000 in
theorem ggL_law_X11_seat : GoodIn wsL_law wsX11_seat := goodIn_sub (gi_t pz_L_law_L_law_r39 0 rfl (gi_a (gi_a (gi_a (gi_a (gi_t pz_L_law_L_law_r3 1 rfl (gi_t pz_L_law_L_law_r38 2 rfl (gi_t pz_L_law_L_law_r38 3 rfl (gi_t pz_L_law_L_law_r38 4 rfl (gi_t pz_L_law_L_law_r1 2 rfl (gi_t pz_L_law_L_law_r38 5 rfl (gi_t pz_L_law_L_law_r1 19 rfl (gi_t pz_L_law_L_law_r32 10 rfl (gi_t pz_L_law_L_law_r2 23 rfl (gi_t pz_L_law_L_law_r32 11 rfl (gi_t pz_L_law_L_law_r32 12 rfl (gi_t pz_L_law_L_law_r7 11 rfl (gi_t pz_L_law_L_law_r7 10 rfl (gi_t pz_L_law_L_law_r32 16 rfl (gi_t pz_L_law_L_law_r32 17 rfl (gi_t pz_L_law_L_law_r32 18 rfl (gi_t pz_L_law_L_law_r7 9 rfl (gi_t pz_L_law_L_law_r32 19 rfl (gi_t pz_L_law_L_law_r32 20 rfl (gi_t pz_L_law_L_law_r32 21 rfl (gi_t pz_L_law_L_law_r7 15 rfl (gi_t pz_L_law_L_law_r7 13 rfl (gi_t pz_L_law_L_law_r32 22 rfl (gi_t pz_L_law_L_law_r22 9 rfl gi_n)))))))))))))))))))))))) (gi_t pz_L_law_L_law_r3 19 rfl (gi_t pz_L_law_L_law_r22 10 rfl (gi_t pz_L_law_L_law_r22 11 rfl (gi_t pz_L_law_L_law_r22 12 rfl (gi_t pz_L_law_L_law_r22 13 rfl (gi_t pz_L_law_L_law_r32 23 rfl (gi_t pz_L_law_L_law_r33 0 rfl (gi_t pz_L_law_L_law_r33 1 rfl (gi_t pz_L_law_L_law_r7 16 rfl (gi_t pz_L_law_L_law_r33 2 rfl (gi_t pz_L_law_L_law_r33 3 rfl (gi_t pz_L_law_L_law_r33 4 rfl (gi_t pz_L_law_L_law_r33 5 rfl (gi_t pz_L_law_L_law_r9 15 rfl (gi_t pz_L_law_L_law_r9 16 rfl (gi_t pz_L_law_L_law_r38 6 rfl (gi_t pz_L_law_L_law_r38 7 rfl (gi_t pz_L_law_L_law_r38 8 rfl (gi_t pz_L_law_L_law_r7 12 rfl gi_n)))))))))))))))))))) pz_L_law_X110) pz_L_law_X00) pz_L_law_X100)) (by decide +kernel)
set_option maxRecDepth 20000 in
theorem gL_law_X11_seat : GoodIn wsL_law (wsV RL 147 RX11 yX11_seat wsX11_seat) := goodIn_app (goodIn_of _ (by decide +kernel)) ggL_law_X11_seat
set_option maxRecDepth 20000 in
theorem ggL_law_X12_seat_ : GoodIn wsL_law wsX12_seat_ := goodIn_sub (gi_t pz_L_law_L_law_r39 4 rfl (gi_a (gi_a (gi_t pz_L_law_L_law_r33 10 rfl (gi_t pz_L_law_L_law_r17 14 rfl (gi_t pz_L_law_L_law_r8 16 rfl (gi_t pz_L_law_L_law_r38 13 rfl (gi_t pz_L_law_L_law_r38 14 rfl (gi_t pz_L_law_L_law_r38 15 rfl (gi_t pz_L_law_L_law_r1 5 rfl (gi_t pz_L_law_L_law_r38 16 rfl (gi_t pz_L_law_L_law_r33 15 rfl (gi_t pz_L_law_L_law_r8 12 rfl (gi_t pz_L_law_L_law_r7 23 rfl (gi_t pz_L_law_L_law_r11 3 rfl (gi_t pz_L_law_L_law_r11 4 rfl (gi_t pz_L_law_L_law_r11 5 rfl (gi_t pz_L_law_L_law_r33 16 rfl (gi_t pz_L_law_L_law_r33 17 rfl (gi_t pz_L_law_L_law_r33 18 rfl (gi_t pz_L_law_L_law_r33 19 rfl (gi_t pz_L_law_L_law_r8 15 rfl (gi_t pz_L_law_L_law_r8 14 rfl (gi_t pz_L_law_L_law_r33 20 rfl (gi_t pz_L_law_L_law_r33 21 rfl (gi_t pz_L_law_L_law_r33 22 rfl (gi_t pz_L_law_L_law_r33 23 rfl gi_n)))))))))))))))))))))))) (gi_t pz_L_law_L_law_r9 23 rfl (gi_t pz_L_law_L_law_r10 0 rfl (gi_t pz_L_law_L_law_r10 1 rfl gi_n)))) pz_L_law_X120)) (by decide +kernel)
set_option maxRecDepth 20000 in
theorem gL_law_X12_seat_ : GoodIn wsL_law (wsV RL 150 RX12 yX12_seat_ wsX12_seat_) := goodIn_app (goodIn_of _ (by decide +kernel)) ggL_law_X12_seat_
set_option maxRecDepth 20000 in
theorem ggL_law_X11_count : GoodIn wsL_law wsX11_count := goodIn_sub (gi_t pz_L_law_L_law_r39 8 rfl (gi_a (gi_a (gi_a (gi_a (gi_t pz_L_law_L_law_r1 15 rfl (gi_t pz_L_law_L_law_r1 19 rfl (gi_t pz_L_law_L_law_r1 23 rfl (gi_t pz_L_law_L_law_r17 23 rfl (gi_t pz_L_law_L_law_r1 14 rfl (gi_t pz_L_law_L_law_r18 0 rfl (gi_t pz_L_law_L_law_r18 1 rfl (gi_t pz_L_law_L_law_r3 9 rfl (gi_t pz_L_law_L_law_r3 8 rfl (gi_t pz_L_law_L_law_r18 2 rfl (gi_t pz_L_law_L_law_r13 6 rfl (gi_t pz_L_law_L_law_r13 7 rfl (gi_t pz_L_law_L_law_r13 8 rfl (gi_t pz_L_law_L_law_r13 9 rfl (gi_t pz_L_law_L_law_r13 10 rfl (gi_t pz_L_law_L_law_r13 11 rfl (gi_t pz_L_law_L_law_r39 9 rfl (gi_t pz_L_law_L_law_r1 18 rfl (gi_t pz_L_law_L_law_r39 10 rfl (gi_t pz_L_law_L_law_r39 11 rfl (gi_t pz_L_law_L_law_r3 14 rfl gi_n))))))))))))))))))))) pz_L_law_X110) pz_L_law_X40) pz_L_law_X100) pz_L_law_X60)) (by decide +kernel)
set_option maxRecDepth 20000 in
theorem gL_law_X11_count : GoodIn wsL_law (wsV RL 151 RX11 yX11_count wsX11_count) := goodIn_app (goodIn_of _ (by decide +kernel)) ggL_law_X11_count
set_option maxRecDepth 20000 in
theorem ggL_law_X12_count : GoodIn wsL_law wsX12_count := goodIn_sub (gi_t pz_L_law_L_law_r39 15 rfl (gi_a (gi_t pz_L_law_L_law_r7 23 rfl (gi_t pz_L_law_L_law_r9 21 rfl (gi_t pz_L_law_L_law_r17 14 rfl (gi_t pz_L_law_L_law_r9 22 rfl (gi_t pz_L_law_L_law_r18 7 rfl (gi_t pz_L_law_L_law_r18 8 rfl (gi_t pz_L_law_L_law_r18 9 rfl (gi_t pz_L_law_L_law_r1 5 rfl (gi_t pz_L_law_L_law_r18 10 rfl (gi_t pz_L_law_L_law_r7 22 rfl (gi_t pz_L_law_L_law_r13 16 rfl (gi_t pz_L_law_L_law_r13 17 rfl (gi_t pz_L_law_L_law_r13 18 rfl gi_n))))))))))))) pz_L_law_X120)) (by decide +kernel)
set_option maxRecDepth 20000 in
theorem gL_law_X12_count : GoodIn wsL_law (wsV RL 154 RX12 yX12_count wsX12_count) := goodIn_app (goodIn_of _ (by decide +kernel)) ggL_law_X12_count
set_option maxRecDepth 20000 in
theorem ggL_law_X11_finding : GoodIn wsL_law wsX11_finding := goodIn_sub (gi_t pz_L_law_L_law_r39 19 rfl (gi_a (gi_t pz_L_law_L_law_r3 4 rfl gi_n) pz_L_law_X110)) (by decide +kernel)
set_option maxRecDepth 20000 in
theorem gL_law_X11_finding : GoodIn wsL_law (wsV RL 155 RX11 yX11_finding wsX11_finding) := goodIn_app (goodIn_of _ (by decide +kernel)) ggL_law_X11_finding
set_option maxRecDepth 20000 in
theorem ggL_law_X12_finding : GoodIn wsL_law wsX12_finding := goodIn_sub (gi_t pz_L_law_L_law_r39 23 rfl (gi_a (gi_t pz_L_law_L_law_r13 23 rfl gi_n) pz_L_law_X120)) (by decide +kernel)
set_option maxRecDepth 20000 in
theorem gL_law_X12_finding : GoodIn wsL_law (wsV RL 158 RX12 yX12_finding wsX12_finding) := goodIn_app (goodIn_of _ (by decide +kernel)) ggL_law_X12_finding
set_option maxRecDepth 20000 in
theorem ggL_law_X11_findings : GoodIn wsL_law wsX11_findings := goodIn_sub (gi_t pz_L_law_L_law_r40 3 rfl (gi_a (gi_t pz_L_law_L_law_r3 3 rfl gi_n) pz_L_law_X110)) (by decide +kernel)
set_option maxRecDepth 20000 in
theorem gL_law_X11_findings : GoodIn wsL_law (wsV RL 159 RX11 yX11_findings wsX11_findings) := goodIn_app (goodIn_of _ (by decide +kernel)) ggL_law_X11_findings
set_option maxRecDepth 20000 in
theorem ggL_law_X12_findings : GoodIn wsL_law wsX12_findings := goodIn_sub (gi_t pz_L_law_L_law_r40 7 rfl (gi_a (gi_t pz_L_law_L_law_r7 21 rfl (gi_t pz_L_law_L_law_r9 23 rfl (gi_t pz_L_law_L_law_r10 0 rfl (gi_t pz_L_law_L_law_r1 5 rfl (gi_t pz_L_law_L_law_r10 1 rfl gi_n))))) pz_L_law_X120)) (by decide +kernel)
set_option maxRecDepth 20000 in
theorem gL_law_X12_findings : GoodIn wsL_law (wsV RL 162 RX12 yX12_findings wsX12_findings) := goodIn_app (goodIn_of _ (by decide +kernel)) ggL_law_X12_findings
set_option maxRecDepth 20000 in
theorem ggL_law_X11_digest : GoodIn wsL_law wsX11_digest := goodIn_sub (gi_t pz_L_law_L_law_r40 11 rfl (gi_a (gi_a (gi_a (gi_a (gi_t pz_L_law_L_law_r40 12 rfl (gi_t pz_L_law_L_law_r1 15 rfl (gi_t pz_L_law_L_law_r1 23 rfl (gi_t pz_L_law_L_law_r1 19 rfl (gi_t pz_L_law_L_law_r40 13 rfl (gi_t pz_L_law_L_law_r40 14 rfl (gi_t pz_L_law_L_law_r1 2 rfl (gi_t pz_L_law_L_law_r40 15 rfl (gi_t pz_L_law_L_law_r40 16 rfl (gi_t pz_L_law_L_law_r40 17 rfl (gi_t pz_L_law_L_law_r40 18 rfl (gi_t pz_L_law_L_law_r40 19 rfl (gi_t pz_L_law_L_law_r24 15 rfl (gi_t pz_L_law_L_law_r1 22 rfl (gi_t pz_L_law_L_law_r24 16 rfl (gi_t pz_L_law_L_law_r24 17 rfl (gi_t pz_L_law_L_law_r4 12 rfl (gi_t pz_L_law_L_law_r4 11 rfl gi_n)))))))))))))))))) pz_L_law_X110) pz_L_law_X40) pz_L_law_X60) pz_L_law_X100)) (by decide +kernel)
set_option maxRecDepth 20000 in
theorem gL_law_X11_digest : GoodIn wsL_law (wsV RL 163 RX11 yX11_digest wsX11_digest) := goodIn_app (goodIn_of _ (by decide +kernel)) ggL_law_X11_digest
set_option maxRecDepth 20000 in
theorem ggL_law_X12_digest : GoodIn wsL_law wsX12_digest := goodIn_sub (gi_t pz_L_law_L_law_r40 23 rfl (gi_a (gi_t pz_L_law_L_law_r41 0 rfl (gi_t pz_L_law_L_law_r9 21 rfl (gi_t pz_L_law_L_law_r41 1 rfl (gi_t pz_L_law_L_law_r7 22 rfl (gi_t pz_L_law_L_law_r8 3 rfl (gi_t pz_L_law_L_law_r8 2 rfl (gi_t pz_L_law_L_law_r17 14 rfl (gi_t pz_L_law_L_law_r7 23 rfl (gi_t pz_L_law_L_law_r9 22 rfl (gi_t pz_L_law_L_law_r8 1 rfl gi_n)))))))))) pz_L_law_X120)) (by decide +kernel)
set_option maxRecDepth 20000 in
theorem gL_law_X12_digest : GoodIn wsL_law (wsV RL 167 RX12 yX12_digest wsX12_digest) := goodIn_app (goodIn_of _ (by decide +kernel)) ggL_law_X12_digest
theorem dL_law_0 : decode cL_law 0 = .ok (.new 7, 3) := by decide +kernel
theorem dL_law_3 : decode cL_law 3 = .ok (.dup, 1) := by decide +kernel
theorem dL_law_4 : decode cL_law 4 = .ok (.invokespecial 9, 3) := by decide +kernel
theorem dL_law_7 : decode cL_law 7 = .ok (.astore_n 1, 1) := by decide +kernel
theorem dL_law_8 : decode cL_law 8 = .ok (.new 10, 3) := by decide +kernel
theorem dL_law_11 : decode cL_law 11 = .ok (.dup, 1) := by decide +kernel
theorem dL_law_12 : decode cL_law 12 = .ok (.invokespecial 12, 3) := by decide +kernel
theorem dL_law_15 : decode cL_law 15 = .ok (.astore_n 2, 1) := by decide +kernel
theorem dL_law_16 : decode cL_law 16 = .ok (.iconst 0, 1) := by decide +kernel
theorem dL_law_17 : decode cL_law 17 = .ok (.istore_n 3, 1) := by decide +kernel
theorem dL_law_18 : decode cL_law 18 = .ok (.iload_n 3, 1) := by decide +kernel
theorem dL_law_19 : decode cL_law 19 = .ok (.aload_n 0, 1) := by decide +kernel
theorem dL_law_20 : decode cL_law 20 = .ok (.arraylength, 1) := by decide +kernel
theorem dL_law_21 : decode cL_law 21 = .ok (.iconst 4, 1) := by decide +kernel
theorem dL_law_22 : decode cL_law 22 = .ok (.isub, 1) := by decide +kernel
theorem dL_law_23 : decode cL_law 23 = .ok (.if_icmp .gt 1062, 3) := by decide +kernel
theorem dL_law_26 : decode cL_law 26 = .ok (.aload_n 0, 1) := by decide +kernel
theorem dL_law_27 : decode cL_law 27 = .ok (.iload_n 3, 1) := by decide +kernel
theorem dL_law_28 : decode cL_law 28 = .ok (.iaload, 1) := by decide +kernel
theorem dL_law_29 : decode cL_law 29 = .ok (.bipush 63, 2) := by decide +kernel
theorem dL_law_31 : decode cL_law 31 = .ok (.iand, 1) := by decide +kernel
theorem dL_law_32 : decode cL_law 32 = .ok (.tableswitch 1047 0 36 #[164, 187, 246, 269, 292, 325, 338, 361, 374, 387, 410, 423, 446, 469, 492, 515, 528, 551, 564, 587, 610, 623, 656, 699, 722, 771, 794, 817, 850, 873, 896, 939, 952, 975, 998, 1011, 1034], 164) := by decide +kernel
theorem dL_law_196 : decode cL_law 196 = .ok (.aload_n 1, 1) := by decide +kernel
theorem dL_law_197 : decode cL_law 197 = .ok (.aload_n 0, 1) := by decide +kernel
theorem dL_law_198 : decode cL_law 198 = .ok (.iload_n 3, 1) := by decide +kernel
theorem dL_law_199 : decode cL_law 199 = .ok (.iconst 1, 1) := by decide +kernel
theorem dL_law_200 : decode cL_law 200 = .ok (.iadd, 1) := by decide +kernel
theorem dL_law_201 : decode cL_law 201 = .ok (.iaload, 1) := by decide +kernel
theorem dL_law_202 : decode cL_law 202 = .ok (.invokevirtual 13, 3) := by decide +kernel
theorem dL_law_205 : decode cL_law 205 = .ok (.pop, 1) := by decide +kernel
theorem dL_law_206 : decode cL_law 206 = .ok (.aload_n 2, 1) := by decide +kernel
theorem dL_law_207 : decode cL_law 207 = .ok (.aload_n 0, 1) := by decide +kernel
theorem dL_law_208 : decode cL_law 208 = .ok (.iload_n 3, 1) := by decide +kernel
theorem dL_law_209 : decode cL_law 209 = .ok (.iconst 1, 1) := by decide +kernel
theorem dL_law_210 : decode cL_law 210 = .ok (.iadd, 1) := by decide +kernel
theorem dL_law_211 : decode cL_law 211 = .ok (.iaload, 1) := by decide +kernel
theorem dL_law_212 : decode cL_law 212 = .ok (.invokevirtual 17, 3) := by decide +kernel
theorem dL_law_215 : decode cL_law 215 = .ok (.pop, 1) := by decide +kernel
theorem dL_law_216 : decode cL_law 216 = .ok (.goto 863, 3) := by decide +kernel
theorem dL_law_219 : decode cL_law 219 = .ok (.aload_n 1, 1) := by decide +kernel
theorem dL_law_220 : decode cL_law 220 = .ok (.aload_n 0, 1) := by decide +kernel
theorem dL_law_221 : decode cL_law 221 = .ok (.iload_n 3, 1) := by decide +kernel
theorem dL_law_222 : decode cL_law 222 = .ok (.iconst 1, 1) := by decide +kernel
theorem dL_law_223 : decode cL_law 223 = .ok (.iadd, 1) := by decide +kernel
theorem dL_law_224 : decode cL_law 224 = .ok (.iaload, 1) := by decide +kernel
theorem dL_law_225 : decode cL_law 225 = .ok (.aload_n 0, 1) := by decide +kernel
theorem dL_law_226 : decode cL_law 226 = .ok (.iload_n 3, 1) := by decide +kernel
theorem dL_law_227 : decode cL_law 227 = .ok (.iconst 2, 1) := by decide +kernel
theorem dL_law_228 : decode cL_law 228 = .ok (.iadd, 1) := by decide +kernel
theorem dL_law_229 : decode cL_law 229 = .ok (.iaload, 1) := by decide +kernel
theorem dL_law_230 : decode cL_law 230 = .ok (.aload_n 0, 1) := by decide +kernel
theorem dL_law_231 : decode cL_law 231 = .ok (.iload_n 3, 1) := by decide +kernel
theorem dL_law_232 : decode cL_law 232 = .ok (.iconst 3, 1) := by decide +kernel
theorem dL_law_233 : decode cL_law 233 = .ok (.iadd, 1) := by decide +kernel
theorem dL_law_234 : decode cL_law 234 = .ok (.iaload, 1) := by decide +kernel
theorem dL_law_235 : decode cL_law 235 = .ok (.ifCond .eq 7, 3) := by decide +kernel
theorem dL_law_238 : decode cL_law 238 = .ok (.iconst 1, 1) := by decide +kernel
theorem dL_law_239 : decode cL_law 239 = .ok (.goto 4, 3) := by decide +kernel
theorem dL_law_242 : decode cL_law 242 = .ok (.iconst 0, 1) := by decide +kernel
theorem dL_law_243 : decode cL_law 243 = .ok (.invokevirtual 18, 3) := by decide +kernel
theorem dL_law_246 : decode cL_law 246 = .ok (.pop, 1) := by decide +kernel
theorem dL_law_247 : decode cL_law 247 = .ok (.aload_n 2, 1) := by decide +kernel
theorem dL_law_248 : decode cL_law 248 = .ok (.aload_n 0, 1) := by decide +kernel
theorem dL_law_249 : decode cL_law 249 = .ok (.iload_n 3, 1) := by decide +kernel
theorem dL_law_250 : decode cL_law 250 = .ok (.iconst 1, 1) := by decide +kernel
theorem dL_law_251 : decode cL_law 251 = .ok (.iadd, 1) := by decide +kernel
theorem dL_law_252 : decode cL_law 252 = .ok (.iaload, 1) := by decide +kernel
theorem dL_law_253 : decode cL_law 253 = .ok (.aload_n 0, 1) := by decide +kernel
theorem dL_law_254 : decode cL_law 254 = .ok (.iload_n 3, 1) := by decide +kernel
theorem dL_law_255 : decode cL_law 255 = .ok (.iconst 2, 1) := by decide +kernel
theorem dL_law_256 : decode cL_law 256 = .ok (.iadd, 1) := by decide +kernel
theorem dL_law_257 : decode cL_law 257 = .ok (.iaload, 1) := by decide +kernel
theorem dL_law_258 : decode cL_law 258 = .ok (.aload_n 0, 1) := by decide +kernel
theorem dL_law_259 : decode cL_law 259 = .ok (.iload_n 3, 1) := by decide +kernel
theorem dL_law_260 : decode cL_law 260 = .ok (.iconst 3, 1) := by decide +kernel
theorem dL_law_261 : decode cL_law 261 = .ok (.iadd, 1) := by decide +kernel
theorem dL_law_262 : decode cL_law 262 = .ok (.iaload, 1) := by decide +kernel
theorem dL_law_263 : decode cL_law 263 = .ok (.ifCond .eq 7, 3) := by decide +kernel
theorem dL_law_266 : decode cL_law 266 = .ok (.iconst 1, 1) := by decide +kernel
theorem dL_law_267 : decode cL_law 267 = .ok (.goto 4, 3) := by decide +kernel
theorem dL_law_270 : decode cL_law 270 = .ok (.iconst 0, 1) := by decide +kernel
theorem dL_law_271 : decode cL_law 271 = .ok (.invokevirtual 22, 3) := by decide +kernel
theorem dL_law_274 : decode cL_law 274 = .ok (.pop, 1) := by decide +kernel
theorem dL_law_275 : decode cL_law 275 = .ok (.goto 804, 3) := by decide +kernel
theorem dL_law_278 : decode cL_law 278 = .ok (.aload_n 1, 1) := by decide +kernel
theorem dL_law_279 : decode cL_law 279 = .ok (.aload_n 0, 1) := by decide +kernel
theorem dL_law_280 : decode cL_law 280 = .ok (.iload_n 3, 1) := by decide +kernel
theorem dL_law_281 : decode cL_law 281 = .ok (.iconst 1, 1) := by decide +kernel
theorem dL_law_282 : decode cL_law 282 = .ok (.iadd, 1) := by decide +kernel
theorem dL_law_283 : decode cL_law 283 = .ok (.iaload, 1) := by decide +kernel
theorem dL_law_284 : decode cL_law 284 = .ok (.invokevirtual 23, 3) := by decide +kernel
theorem dL_law_287 : decode cL_law 287 = .ok (.pop, 1) := by decide +kernel
theorem dL_law_288 : decode cL_law 288 = .ok (.aload_n 2, 1) := by decide +kernel
theorem dL_law_289 : decode cL_law 289 = .ok (.aload_n 0, 1) := by decide +kernel
theorem dL_law_290 : decode cL_law 290 = .ok (.iload_n 3, 1) := by decide +kernel
theorem dL_law_291 : decode cL_law 291 = .ok (.iconst 1, 1) := by decide +kernel
theorem dL_law_292 : decode cL_law 292 = .ok (.iadd, 1) := by decide +kernel
theorem dL_law_293 : decode cL_law 293 = .ok (.iaload, 1) := by decide +kernel
theorem dL_law_294 : decode cL_law 294 = .ok (.invokevirtual 26, 3) := by decide +kernel
theorem dL_law_297 : decode cL_law 297 = .ok (.pop, 1) := by decide +kernel
theorem dL_law_298 : decode cL_law 298 = .ok (.goto 781, 3) := by decide +kernel
theorem dL_law_301 : decode cL_law 301 = .ok (.aload_n 1, 1) := by decide +kernel
theorem dL_law_302 : decode cL_law 302 = .ok (.aload_n 0, 1) := by decide +kernel
theorem dL_law_303 : decode cL_law 303 = .ok (.iload_n 3, 1) := by decide +kernel
theorem dL_law_304 : decode cL_law 304 = .ok (.iconst 1, 1) := by decide +kernel
theorem dL_law_305 : decode cL_law 305 = .ok (.iadd, 1) := by decide +kernel
theorem dL_law_306 : decode cL_law 306 = .ok (.iaload, 1) := by decide +kernel
theorem dL_law_307 : decode cL_law 307 = .ok (.invokevirtual 27, 3) := by decide +kernel
theorem dL_law_310 : decode cL_law 310 = .ok (.pop, 1) := by decide +kernel
theorem dL_law_311 : decode cL_law 311 = .ok (.aload_n 2, 1) := by decide +kernel
theorem dL_law_312 : decode cL_law 312 = .ok (.aload_n 0, 1) := by decide +kernel
theorem dL_law_313 : decode cL_law 313 = .ok (.iload_n 3, 1) := by decide +kernel
theorem dL_law_314 : decode cL_law 314 = .ok (.iconst 1, 1) := by decide +kernel
theorem dL_law_315 : decode cL_law 315 = .ok (.iadd, 1) := by decide +kernel
theorem dL_law_316 : decode cL_law 316 = .ok (.iaload, 1) := by decide +kernel
theorem dL_law_317 : decode cL_law 317 = .ok (.invokevirtual 30, 3) := by decide +kernel
theorem dL_law_320 : decode cL_law 320 = .ok (.pop, 1) := by decide +kernel
theorem dL_law_321 : decode cL_law 321 = .ok (.goto 758, 3) := by decide +kernel
theorem dL_law_324 : decode cL_law 324 = .ok (.aload_n 1, 1) := by decide +kernel
theorem dL_law_325 : decode cL_law 325 = .ok (.aload_n 0, 1) := by decide +kernel
theorem dL_law_326 : decode cL_law 326 = .ok (.iload_n 3, 1) := by decide +kernel
theorem dL_law_327 : decode cL_law 327 = .ok (.iconst 1, 1) := by decide +kernel
theorem dL_law_328 : decode cL_law 328 = .ok (.iadd, 1) := by decide +kernel
theorem dL_law_329 : decode cL_law 329 = .ok (.iaload, 1) := by decide +kernel
theorem dL_law_330 : decode cL_law 330 = .ok (.aload_n 0, 1) := by decide +kernel
theorem dL_law_331 : decode cL_law 331 = .ok (.iload_n 3, 1) := by decide +kernel
theorem dL_law_332 : decode cL_law 332 = .ok (.iconst 2, 1) := by decide +kernel
theorem dL_law_333 : decode cL_law 333 = .ok (.iadd, 1) := by decide +kernel
theorem dL_law_334 : decode cL_law 334 = .ok (.iaload, 1) := by decide +kernel
theorem dL_law_335 : decode cL_law 335 = .ok (.invokevirtual 31, 3) := by decide +kernel
theorem dL_law_338 : decode cL_law 338 = .ok (.pop, 1) := by decide +kernel
theorem dL_law_339 : decode cL_law 339 = .ok (.aload_n 2, 1) := by decide +kernel
theorem dL_law_340 : decode cL_law 340 = .ok (.aload_n 0, 1) := by decide +kernel
theorem dL_law_341 : decode cL_law 341 = .ok (.iload_n 3, 1) := by decide +kernel
theorem dL_law_342 : decode cL_law 342 = .ok (.iconst 1, 1) := by decide +kernel
theorem dL_law_343 : decode cL_law 343 = .ok (.iadd, 1) := by decide +kernel
theorem dL_law_344 : decode cL_law 344 = .ok (.iaload, 1) := by decide +kernel
theorem dL_law_345 : decode cL_law 345 = .ok (.aload_n 0, 1) := by decide +kernel
theorem dL_law_346 : decode cL_law 346 = .ok (.iload_n 3, 1) := by decide +kernel
theorem dL_law_347 : decode cL_law 347 = .ok (.iconst 2, 1) := by decide +kernel
theorem dL_law_348 : decode cL_law 348 = .ok (.iadd, 1) := by decide +kernel
theorem dL_law_349 : decode cL_law 349 = .ok (.iaload, 1) := by decide +kernel
theorem dL_law_350 : decode cL_law 350 = .ok (.invokevirtual 35, 3) := by decide +kernel
theorem dL_law_353 : decode cL_law 353 = .ok (.pop, 1) := by decide +kernel
theorem dL_law_354 : decode cL_law 354 = .ok (.goto 725, 3) := by decide +kernel
theorem dL_law_357 : decode cL_law 357 = .ok (.aload_n 1, 1) := by decide +kernel
theorem dL_law_358 : decode cL_law 358 = .ok (.invokevirtual 36, 3) := by decide +kernel
theorem dL_law_361 : decode cL_law 361 = .ok (.pop, 1) := by decide +kernel
theorem dL_law_362 : decode cL_law 362 = .ok (.aload_n 2, 1) := by decide +kernel
theorem dL_law_363 : decode cL_law 363 = .ok (.invokevirtual 40, 3) := by decide +kernel
theorem dL_law_366 : decode cL_law 366 = .ok (.pop, 1) := by decide +kernel
theorem dL_law_367 : decode cL_law 367 = .ok (.goto 712, 3) := by decide +kernel
theorem dL_law_370 : decode cL_law 370 = .ok (.aload_n 1, 1) := by decide +kernel
theorem dL_law_371 : decode cL_law 371 = .ok (.aload_n 0, 1) := by decide +kernel
theorem dL_law_372 : decode cL_law 372 = .ok (.iload_n 3, 1) := by decide +kernel
theorem dL_law_373 : decode cL_law 373 = .ok (.iconst 1, 1) := by decide +kernel
theorem dL_law_374 : decode cL_law 374 = .ok (.iadd, 1) := by decide +kernel
theorem dL_law_375 : decode cL_law 375 = .ok (.iaload, 1) := by decide +kernel
theorem dL_law_376 : decode cL_law 376 = .ok (.invokevirtual 41, 3) := by decide +kernel
theorem dL_law_379 : decode cL_law 379 = .ok (.pop, 1) := by decide +kernel
theorem dL_law_380 : decode cL_law 380 = .ok (.aload_n 2, 1) := by decide +kernel
theorem dL_law_381 : decode cL_law 381 = .ok (.aload_n 0, 1) := by decide +kernel
theorem dL_law_382 : decode cL_law 382 = .ok (.iload_n 3, 1) := by decide +kernel
theorem dL_law_383 : decode cL_law 383 = .ok (.iconst 1, 1) := by decide +kernel
theorem dL_law_384 : decode cL_law 384 = .ok (.iadd, 1) := by decide +kernel
theorem dL_law_385 : decode cL_law 385 = .ok (.iaload, 1) := by decide +kernel
theorem dL_law_386 : decode cL_law 386 = .ok (.invokevirtual 44, 3) := by decide +kernel
theorem dL_law_389 : decode cL_law 389 = .ok (.pop, 1) := by decide +kernel
theorem dL_law_390 : decode cL_law 390 = .ok (.goto 689, 3) := by decide +kernel
theorem dL_law_393 : decode cL_law 393 = .ok (.aload_n 1, 1) := by decide +kernel
theorem dL_law_394 : decode cL_law 394 = .ok (.invokevirtual 45, 3) := by decide +kernel
theorem dL_law_397 : decode cL_law 397 = .ok (.pop, 1) := by decide +kernel
theorem dL_law_398 : decode cL_law 398 = .ok (.aload_n 2, 1) := by decide +kernel
theorem dL_law_399 : decode cL_law 399 = .ok (.invokevirtual 48, 3) := by decide +kernel
theorem dL_law_402 : decode cL_law 402 = .ok (.pop, 1) := by decide +kernel
theorem dL_law_403 : decode cL_law 403 = .ok (.goto 676, 3) := by decide +kernel
theorem dL_law_406 : decode cL_law 406 = .ok (.aload_n 1, 1) := by decide +kernel
theorem dL_law_407 : decode cL_law 407 = .ok (.invokevirtual 49, 3) := by decide +kernel
theorem dL_law_410 : decode cL_law 410 = .ok (.pop, 1) := by decide +kernel
theorem dL_law_411 : decode cL_law 411 = .ok (.aload_n 2, 1) := by decide +kernel
theorem dL_law_412 : decode cL_law 412 = .ok (.invokevirtual 52, 3) := by decide +kernel
theorem dL_law_415 : decode cL_law 415 = .ok (.pop, 1) := by decide +kernel
theorem dL_law_416 : decode cL_law 416 = .ok (.goto 663, 3) := by decide +kernel
theorem dL_law_419 : decode cL_law 419 = .ok (.aload_n 1, 1) := by decide +kernel
theorem dL_law_420 : decode cL_law 420 = .ok (.aload_n 0, 1) := by decide +kernel
theorem dL_law_421 : decode cL_law 421 = .ok (.iload_n 3, 1) := by decide +kernel
theorem dL_law_422 : decode cL_law 422 = .ok (.iconst 1, 1) := by decide +kernel
theorem dL_law_423 : decode cL_law 423 = .ok (.iadd, 1) := by decide +kernel
theorem dL_law_424 : decode cL_law 424 = .ok (.iaload, 1) := by decide +kernel
theorem dL_law_425 : decode cL_law 425 = .ok (.invokevirtual 53, 3) := by decide +kernel
theorem dL_law_428 : decode cL_law 428 = .ok (.pop, 1) := by decide +kernel
theorem dL_law_429 : decode cL_law 429 = .ok (.aload_n 2, 1) := by decide +kernel
theorem dL_law_430 : decode cL_law 430 = .ok (.aload_n 0, 1) := by decide +kernel
theorem dL_law_431 : decode cL_law 431 = .ok (.iload_n 3, 1) := by decide +kernel
theorem dL_law_432 : decode cL_law 432 = .ok (.iconst 1, 1) := by decide +kernel
theorem dL_law_433 : decode cL_law 433 = .ok (.iadd, 1) := by decide +kernel
theorem dL_law_434 : decode cL_law 434 = .ok (.iaload, 1) := by decide +kernel
theorem dL_law_435 : decode cL_law 435 = .ok (.invokevirtual 56, 3) := by decide +kernel
theorem dL_law_438 : decode cL_law 438 = .ok (.pop, 1) := by decide +kernel
theorem dL_law_439 : decode cL_law 439 = .ok (.goto 640, 3) := by decide +kernel
theorem dL_law_442 : decode cL_law 442 = .ok (.aload_n 1, 1) := by decide +kernel
theorem dL_law_443 : decode cL_law 443 = .ok (.invokevirtual 57, 3) := by decide +kernel
theorem dL_law_446 : decode cL_law 446 = .ok (.pop, 1) := by decide +kernel
theorem dL_law_447 : decode cL_law 447 = .ok (.aload_n 2, 1) := by decide +kernel
theorem dL_law_448 : decode cL_law 448 = .ok (.invokevirtual 60, 3) := by decide +kernel
theorem dL_law_451 : decode cL_law 451 = .ok (.pop, 1) := by decide +kernel
theorem dL_law_452 : decode cL_law 452 = .ok (.goto 627, 3) := by decide +kernel
theorem dL_law_455 : decode cL_law 455 = .ok (.aload_n 1, 1) := by decide +kernel
theorem dL_law_456 : decode cL_law 456 = .ok (.aload_n 0, 1) := by decide +kernel
theorem dL_law_457 : decode cL_law 457 = .ok (.iload_n 3, 1) := by decide +kernel
theorem dL_law_458 : decode cL_law 458 = .ok (.iconst 1, 1) := by decide +kernel
theorem dL_law_459 : decode cL_law 459 = .ok (.iadd, 1) := by decide +kernel
theorem dL_law_460 : decode cL_law 460 = .ok (.iaload, 1) := by decide +kernel
theorem dL_law_461 : decode cL_law 461 = .ok (.invokevirtual 61, 3) := by decide +kernel
theorem dL_law_464 : decode cL_law 464 = .ok (.pop, 1) := by decide +kernel
theorem dL_law_465 : decode cL_law 465 = .ok (.aload_n 2, 1) := by decide +kernel
theorem dL_law_466 : decode cL_law 466 = .ok (.aload_n 0, 1) := by decide +kernel
theorem dL_law_467 : decode cL_law 467 = .ok (.iload_n 3, 1) := by decide +kernel
theorem dL_law_468 : decode cL_law 468 = .ok (.iconst 1, 1) := by decide +kernel
theorem dL_law_469 : decode cL_law 469 = .ok (.iadd, 1) := by decide +kernel
theorem dL_law_470 : decode cL_law 470 = .ok (.iaload, 1) := by decide +kernel
theorem dL_law_471 : decode cL_law 471 = .ok (.invokevirtual 64, 3) := by decide +kernel
theorem dL_law_474 : decode cL_law 474 = .ok (.pop, 1) := by decide +kernel
theorem dL_law_475 : decode cL_law 475 = .ok (.goto 604, 3) := by decide +kernel
theorem dL_law_478 : decode cL_law 478 = .ok (.aload_n 1, 1) := by decide +kernel
theorem dL_law_479 : decode cL_law 479 = .ok (.aload_n 0, 1) := by decide +kernel
theorem dL_law_480 : decode cL_law 480 = .ok (.iload_n 3, 1) := by decide +kernel
theorem dL_law_481 : decode cL_law 481 = .ok (.iconst 1, 1) := by decide +kernel
theorem dL_law_482 : decode cL_law 482 = .ok (.iadd, 1) := by decide +kernel
theorem dL_law_483 : decode cL_law 483 = .ok (.iaload, 1) := by decide +kernel
theorem dL_law_484 : decode cL_law 484 = .ok (.invokevirtual 65, 3) := by decide +kernel
theorem dL_law_487 : decode cL_law 487 = .ok (.pop, 1) := by decide +kernel
theorem dL_law_488 : decode cL_law 488 = .ok (.aload_n 2, 1) := by decide +kernel
theorem dL_law_489 : decode cL_law 489 = .ok (.aload_n 0, 1) := by decide +kernel
theorem dL_law_490 : decode cL_law 490 = .ok (.iload_n 3, 1) := by decide +kernel
theorem dL_law_491 : decode cL_law 491 = .ok (.iconst 1, 1) := by decide +kernel
theorem dL_law_492 : decode cL_law 492 = .ok (.iadd, 1) := by decide +kernel
theorem dL_law_493 : decode cL_law 493 = .ok (.iaload, 1) := by decide +kernel
theorem dL_law_494 : decode cL_law 494 = .ok (.invokevirtual 68, 3) := by decide +kernel
theorem dL_law_497 : decode cL_law 497 = .ok (.pop, 1) := by decide +kernel
theorem dL_law_498 : decode cL_law 498 = .ok (.goto 581, 3) := by decide +kernel
theorem dL_law_501 : decode cL_law 501 = .ok (.aload_n 1, 1) := by decide +kernel
theorem dL_law_502 : decode cL_law 502 = .ok (.aload_n 0, 1) := by decide +kernel
theorem dL_law_503 : decode cL_law 503 = .ok (.iload_n 3, 1) := by decide +kernel
theorem dL_law_504 : decode cL_law 504 = .ok (.iconst 1, 1) := by decide +kernel
theorem dL_law_505 : decode cL_law 505 = .ok (.iadd, 1) := by decide +kernel
theorem dL_law_506 : decode cL_law 506 = .ok (.iaload, 1) := by decide +kernel
theorem dL_law_507 : decode cL_law 507 = .ok (.invokevirtual 69, 3) := by decide +kernel
theorem dL_law_510 : decode cL_law 510 = .ok (.pop, 1) := by decide +kernel
theorem dL_law_511 : decode cL_law 511 = .ok (.aload_n 2, 1) := by decide +kernel
theorem dL_law_512 : decode cL_law 512 = .ok (.aload_n 0, 1) := by decide +kernel
theorem dL_law_513 : decode cL_law 513 = .ok (.iload_n 3, 1) := by decide +kernel
theorem dL_law_514 : decode cL_law 514 = .ok (.iconst 1, 1) := by decide +kernel
theorem dL_law_515 : decode cL_law 515 = .ok (.iadd, 1) := by decide +kernel
theorem dL_law_516 : decode cL_law 516 = .ok (.iaload, 1) := by decide +kernel
theorem dL_law_517 : decode cL_law 517 = .ok (.invokevirtual 72, 3) := by decide +kernel
theorem dL_law_520 : decode cL_law 520 = .ok (.pop, 1) := by decide +kernel
theorem dL_law_521 : decode cL_law 521 = .ok (.goto 558, 3) := by decide +kernel
theorem dL_law_524 : decode cL_law 524 = .ok (.aload_n 1, 1) := by decide +kernel
theorem dL_law_525 : decode cL_law 525 = .ok (.aload_n 0, 1) := by decide +kernel
theorem dL_law_526 : decode cL_law 526 = .ok (.iload_n 3, 1) := by decide +kernel
theorem dL_law_527 : decode cL_law 527 = .ok (.iconst 1, 1) := by decide +kernel
theorem dL_law_528 : decode cL_law 528 = .ok (.iadd, 1) := by decide +kernel
theorem dL_law_529 : decode cL_law 529 = .ok (.iaload, 1) := by decide +kernel
theorem dL_law_530 : decode cL_law 530 = .ok (.invokevirtual 73, 3) := by decide +kernel
theorem dL_law_533 : decode cL_law 533 = .ok (.pop, 1) := by decide +kernel
theorem dL_law_534 : decode cL_law 534 = .ok (.aload_n 2, 1) := by decide +kernel
theorem dL_law_535 : decode cL_law 535 = .ok (.aload_n 0, 1) := by decide +kernel
theorem dL_law_536 : decode cL_law 536 = .ok (.iload_n 3, 1) := by decide +kernel
theorem dL_law_537 : decode cL_law 537 = .ok (.iconst 1, 1) := by decide +kernel
theorem dL_law_538 : decode cL_law 538 = .ok (.iadd, 1) := by decide +kernel
theorem dL_law_539 : decode cL_law 539 = .ok (.iaload, 1) := by decide +kernel
theorem dL_law_540 : decode cL_law 540 = .ok (.invokevirtual 76, 3) := by decide +kernel
theorem dL_law_543 : decode cL_law 543 = .ok (.pop, 1) := by decide +kernel
theorem dL_law_544 : decode cL_law 544 = .ok (.goto 535, 3) := by decide +kernel
theorem dL_law_547 : decode cL_law 547 = .ok (.aload_n 1, 1) := by decide +kernel
theorem dL_law_548 : decode cL_law 548 = .ok (.invokevirtual 77, 3) := by decide +kernel
theorem dL_law_551 : decode cL_law 551 = .ok (.pop, 1) := by decide +kernel
theorem dL_law_552 : decode cL_law 552 = .ok (.aload_n 2, 1) := by decide +kernel
theorem dL_law_553 : decode cL_law 553 = .ok (.invokevirtual 80, 3) := by decide +kernel
theorem dL_law_556 : decode cL_law 556 = .ok (.pop, 1) := by decide +kernel
theorem dL_law_557 : decode cL_law 557 = .ok (.goto 522, 3) := by decide +kernel
theorem dL_law_560 : decode cL_law 560 = .ok (.aload_n 1, 1) := by decide +kernel
theorem dL_law_561 : decode cL_law 561 = .ok (.aload_n 0, 1) := by decide +kernel
theorem dL_law_562 : decode cL_law 562 = .ok (.iload_n 3, 1) := by decide +kernel
theorem dL_law_563 : decode cL_law 563 = .ok (.iconst 1, 1) := by decide +kernel
theorem dL_law_564 : decode cL_law 564 = .ok (.iadd, 1) := by decide +kernel
theorem dL_law_565 : decode cL_law 565 = .ok (.iaload, 1) := by decide +kernel
theorem dL_law_566 : decode cL_law 566 = .ok (.invokevirtual 81, 3) := by decide +kernel
theorem dL_law_569 : decode cL_law 569 = .ok (.pop, 1) := by decide +kernel
theorem dL_law_570 : decode cL_law 570 = .ok (.aload_n 2, 1) := by decide +kernel
theorem dL_law_571 : decode cL_law 571 = .ok (.aload_n 0, 1) := by decide +kernel
theorem dL_law_572 : decode cL_law 572 = .ok (.iload_n 3, 1) := by decide +kernel
theorem dL_law_573 : decode cL_law 573 = .ok (.iconst 1, 1) := by decide +kernel
theorem dL_law_574 : decode cL_law 574 = .ok (.iadd, 1) := by decide +kernel
theorem dL_law_575 : decode cL_law 575 = .ok (.iaload, 1) := by decide +kernel
theorem dL_law_576 : decode cL_law 576 = .ok (.invokevirtual 84, 3) := by decide +kernel
theorem dL_law_579 : decode cL_law 579 = .ok (.pop, 1) := by decide +kernel
theorem dL_law_580 : decode cL_law 580 = .ok (.goto 499, 3) := by decide +kernel
theorem dL_law_583 : decode cL_law 583 = .ok (.aload_n 1, 1) := by decide +kernel
theorem dL_law_584 : decode cL_law 584 = .ok (.invokevirtual 85, 3) := by decide +kernel
theorem dL_law_587 : decode cL_law 587 = .ok (.pop, 1) := by decide +kernel
theorem dL_law_588 : decode cL_law 588 = .ok (.aload_n 2, 1) := by decide +kernel
theorem dL_law_589 : decode cL_law 589 = .ok (.invokevirtual 88, 3) := by decide +kernel
theorem dL_law_592 : decode cL_law 592 = .ok (.pop, 1) := by decide +kernel
theorem dL_law_593 : decode cL_law 593 = .ok (.goto 486, 3) := by decide +kernel
theorem dL_law_596 : decode cL_law 596 = .ok (.aload_n 1, 1) := by decide +kernel
theorem dL_law_597 : decode cL_law 597 = .ok (.aload_n 0, 1) := by decide +kernel
theorem dL_law_598 : decode cL_law 598 = .ok (.iload_n 3, 1) := by decide +kernel
theorem dL_law_599 : decode cL_law 599 = .ok (.iconst 1, 1) := by decide +kernel
theorem dL_law_600 : decode cL_law 600 = .ok (.iadd, 1) := by decide +kernel
theorem dL_law_601 : decode cL_law 601 = .ok (.iaload, 1) := by decide +kernel
theorem dL_law_602 : decode cL_law 602 = .ok (.invokevirtual 89, 3) := by decide +kernel
theorem dL_law_605 : decode cL_law 605 = .ok (.pop, 1) := by decide +kernel
theorem dL_law_606 : decode cL_law 606 = .ok (.aload_n 2, 1) := by decide +kernel
theorem dL_law_607 : decode cL_law 607 = .ok (.aload_n 0, 1) := by decide +kernel
theorem dL_law_608 : decode cL_law 608 = .ok (.iload_n 3, 1) := by decide +kernel
theorem dL_law_609 : decode cL_law 609 = .ok (.iconst 1, 1) := by decide +kernel
theorem dL_law_610 : decode cL_law 610 = .ok (.iadd, 1) := by decide +kernel
theorem dL_law_611 : decode cL_law 611 = .ok (.iaload, 1) := by decide +kernel
theorem dL_law_612 : decode cL_law 612 = .ok (.invokevirtual 92, 3) := by decide +kernel
theorem dL_law_615 : decode cL_law 615 = .ok (.pop, 1) := by decide +kernel
theorem dL_law_616 : decode cL_law 616 = .ok (.goto 463, 3) := by decide +kernel
theorem dL_law_619 : decode cL_law 619 = .ok (.aload_n 1, 1) := by decide +kernel
theorem dL_law_620 : decode cL_law 620 = .ok (.aload_n 0, 1) := by decide +kernel
theorem dL_law_621 : decode cL_law 621 = .ok (.iload_n 3, 1) := by decide +kernel
theorem dL_law_622 : decode cL_law 622 = .ok (.iconst 1, 1) := by decide +kernel
theorem dL_law_623 : decode cL_law 623 = .ok (.iadd, 1) := by decide +kernel
theorem dL_law_624 : decode cL_law 624 = .ok (.iaload, 1) := by decide +kernel
theorem dL_law_625 : decode cL_law 625 = .ok (.invokevirtual 93, 3) := by decide +kernel
theorem dL_law_628 : decode cL_law 628 = .ok (.pop, 1) := by decide +kernel
theorem dL_law_629 : decode cL_law 629 = .ok (.aload_n 2, 1) := by decide +kernel
theorem dL_law_630 : decode cL_law 630 = .ok (.aload_n 0, 1) := by decide +kernel
theorem dL_law_631 : decode cL_law 631 = .ok (.iload_n 3, 1) := by decide +kernel
theorem dL_law_632 : decode cL_law 632 = .ok (.iconst 1, 1) := by decide +kernel
theorem dL_law_633 : decode cL_law 633 = .ok (.iadd, 1) := by decide +kernel
theorem dL_law_634 : decode cL_law 634 = .ok (.iaload, 1) := by decide +kernel
theorem dL_law_635 : decode cL_law 635 = .ok (.invokevirtual 96, 3) := by decide +kernel
theorem dL_law_638 : decode cL_law 638 = .ok (.pop, 1) := by decide +kernel
theorem dL_law_639 : decode cL_law 639 = .ok (.goto 440, 3) := by decide +kernel
theorem dL_law_642 : decode cL_law 642 = .ok (.aload_n 1, 1) := by decide +kernel
theorem dL_law_643 : decode cL_law 643 = .ok (.invokevirtual 97, 3) := by decide +kernel
theorem dL_law_646 : decode cL_law 646 = .ok (.pop, 1) := by decide +kernel
theorem dL_law_647 : decode cL_law 647 = .ok (.aload_n 2, 1) := by decide +kernel
theorem dL_law_648 : decode cL_law 648 = .ok (.invokevirtual 100, 3) := by decide +kernel
theorem dL_law_651 : decode cL_law 651 = .ok (.pop, 1) := by decide +kernel
theorem dL_law_652 : decode cL_law 652 = .ok (.goto 427, 3) := by decide +kernel
theorem dL_law_655 : decode cL_law 655 = .ok (.aload_n 1, 1) := by decide +kernel
theorem dL_law_656 : decode cL_law 656 = .ok (.aload_n 0, 1) := by decide +kernel
theorem dL_law_657 : decode cL_law 657 = .ok (.iload_n 3, 1) := by decide +kernel
theorem dL_law_658 : decode cL_law 658 = .ok (.iconst 1, 1) := by decide +kernel
theorem dL_law_659 : decode cL_law 659 = .ok (.iadd, 1) := by decide +kernel
theorem dL_law_660 : decode cL_law 660 = .ok (.iaload, 1) := by decide +kernel
theorem dL_law_661 : decode cL_law 661 = .ok (.aload_n 0, 1) := by decide +kernel
theorem dL_law_662 : decode cL_law 662 = .ok (.iload_n 3, 1) := by decide +kernel
theorem dL_law_663 : decode cL_law 663 = .ok (.iconst 2, 1) := by decide +kernel
theorem dL_law_664 : decode cL_law 664 = .ok (.iadd, 1) := by decide +kernel
theorem dL_law_665 : decode cL_law 665 = .ok (.iaload, 1) := by decide +kernel
theorem dL_law_666 : decode cL_law 666 = .ok (.invokevirtual 101, 3) := by decide +kernel
theorem dL_law_669 : decode cL_law 669 = .ok (.pop, 1) := by decide +kernel
theorem dL_law_670 : decode cL_law 670 = .ok (.aload_n 2, 1) := by decide +kernel
theorem dL_law_671 : decode cL_law 671 = .ok (.aload_n 0, 1) := by decide +kernel
theorem dL_law_672 : decode cL_law 672 = .ok (.iload_n 3, 1) := by decide +kernel
theorem dL_law_673 : decode cL_law 673 = .ok (.iconst 1, 1) := by decide +kernel
theorem dL_law_674 : decode cL_law 674 = .ok (.iadd, 1) := by decide +kernel
theorem dL_law_675 : decode cL_law 675 = .ok (.iaload, 1) := by decide +kernel
theorem dL_law_676 : decode cL_law 676 = .ok (.aload_n 0, 1) := by decide +kernel
theorem dL_law_677 : decode cL_law 677 = .ok (.iload_n 3, 1) := by decide +kernel
theorem dL_law_678 : decode cL_law 678 = .ok (.iconst 2, 1) := by decide +kernel
theorem dL_law_679 : decode cL_law 679 = .ok (.iadd, 1) := by decide +kernel
theorem dL_law_680 : decode cL_law 680 = .ok (.iaload, 1) := by decide +kernel
theorem dL_law_681 : decode cL_law 681 = .ok (.invokevirtual 104, 3) := by decide +kernel
theorem dL_law_684 : decode cL_law 684 = .ok (.pop, 1) := by decide +kernel
theorem dL_law_685 : decode cL_law 685 = .ok (.goto 394, 3) := by decide +kernel
theorem dL_law_688 : decode cL_law 688 = .ok (.aload_n 1, 1) := by decide +kernel
theorem dL_law_689 : decode cL_law 689 = .ok (.aload_n 0, 1) := by decide +kernel
theorem dL_law_690 : decode cL_law 690 = .ok (.iload_n 3, 1) := by decide +kernel
theorem dL_law_691 : decode cL_law 691 = .ok (.iconst 1, 1) := by decide +kernel
theorem dL_law_692 : decode cL_law 692 = .ok (.iadd, 1) := by decide +kernel
theorem dL_law_693 : decode cL_law 693 = .ok (.iaload, 1) := by decide +kernel
theorem dL_law_694 : decode cL_law 694 = .ok (.aload_n 0, 1) := by decide +kernel
theorem dL_law_695 : decode cL_law 695 = .ok (.iload_n 3, 1) := by decide +kernel
theorem dL_law_696 : decode cL_law 696 = .ok (.iconst 2, 1) := by decide +kernel
theorem dL_law_697 : decode cL_law 697 = .ok (.iadd, 1) := by decide +kernel
theorem dL_law_698 : decode cL_law 698 = .ok (.iaload, 1) := by decide +kernel
theorem dL_law_699 : decode cL_law 699 = .ok (.aload_n 0, 1) := by decide +kernel
theorem dL_law_700 : decode cL_law 700 = .ok (.iload_n 3, 1) := by decide +kernel
theorem dL_law_701 : decode cL_law 701 = .ok (.iconst 3, 1) := by decide +kernel
theorem dL_law_702 : decode cL_law 702 = .ok (.iadd, 1) := by decide +kernel
theorem dL_law_703 : decode cL_law 703 = .ok (.iaload, 1) := by decide +kernel
theorem dL_law_704 : decode cL_law 704 = .ok (.invokevirtual 105, 3) := by decide +kernel
theorem dL_law_707 : decode cL_law 707 = .ok (.pop, 1) := by decide +kernel
theorem dL_law_708 : decode cL_law 708 = .ok (.aload_n 2, 1) := by decide +kernel
theorem dL_law_709 : decode cL_law 709 = .ok (.aload_n 0, 1) := by decide +kernel
theorem dL_law_710 : decode cL_law 710 = .ok (.iload_n 3, 1) := by decide +kernel
theorem dL_law_711 : decode cL_law 711 = .ok (.iconst 1, 1) := by decide +kernel
theorem dL_law_712 : decode cL_law 712 = .ok (.iadd, 1) := by decide +kernel
theorem dL_law_713 : decode cL_law 713 = .ok (.iaload, 1) := by decide +kernel
theorem dL_law_714 : decode cL_law 714 = .ok (.aload_n 0, 1) := by decide +kernel
theorem dL_law_715 : decode cL_law 715 = .ok (.iload_n 3, 1) := by decide +kernel
theorem dL_law_716 : decode cL_law 716 = .ok (.iconst 2, 1) := by decide +kernel
theorem dL_law_717 : decode cL_law 717 = .ok (.iadd, 1) := by decide +kernel
theorem dL_law_718 : decode cL_law 718 = .ok (.iaload, 1) := by decide +kernel
theorem dL_law_719 : decode cL_law 719 = .ok (.aload_n 0, 1) := by decide +kernel
theorem dL_law_720 : decode cL_law 720 = .ok (.iload_n 3, 1) := by decide +kernel
theorem dL_law_721 : decode cL_law 721 = .ok (.iconst 3, 1) := by decide +kernel
theorem dL_law_722 : decode cL_law 722 = .ok (.iadd, 1) := by decide +kernel
theorem dL_law_723 : decode cL_law 723 = .ok (.iaload, 1) := by decide +kernel
theorem dL_law_724 : decode cL_law 724 = .ok (.invokevirtual 109, 3) := by decide +kernel
theorem dL_law_727 : decode cL_law 727 = .ok (.pop, 1) := by decide +kernel
theorem dL_law_728 : decode cL_law 728 = .ok (.goto 351, 3) := by decide +kernel
theorem dL_law_731 : decode cL_law 731 = .ok (.aload_n 1, 1) := by decide +kernel
theorem dL_law_732 : decode cL_law 732 = .ok (.aload_n 0, 1) := by decide +kernel
theorem dL_law_733 : decode cL_law 733 = .ok (.iload_n 3, 1) := by decide +kernel
theorem dL_law_734 : decode cL_law 734 = .ok (.iconst 1, 1) := by decide +kernel
theorem dL_law_735 : decode cL_law 735 = .ok (.iadd, 1) := by decide +kernel
theorem dL_law_736 : decode cL_law 736 = .ok (.iaload, 1) := by decide +kernel
theorem dL_law_737 : decode cL_law 737 = .ok (.invokevirtual 110, 3) := by decide +kernel
theorem dL_law_740 : decode cL_law 740 = .ok (.pop, 1) := by decide +kernel
theorem dL_law_741 : decode cL_law 741 = .ok (.aload_n 2, 1) := by decide +kernel
theorem dL_law_742 : decode cL_law 742 = .ok (.aload_n 0, 1) := by decide +kernel
theorem dL_law_743 : decode cL_law 743 = .ok (.iload_n 3, 1) := by decide +kernel
theorem dL_law_744 : decode cL_law 744 = .ok (.iconst 1, 1) := by decide +kernel
theorem dL_law_745 : decode cL_law 745 = .ok (.iadd, 1) := by decide +kernel
theorem dL_law_746 : decode cL_law 746 = .ok (.iaload, 1) := by decide +kernel
theorem dL_law_747 : decode cL_law 747 = .ok (.invokevirtual 113, 3) := by decide +kernel
theorem dL_law_750 : decode cL_law 750 = .ok (.pop, 1) := by decide +kernel
theorem dL_law_751 : decode cL_law 751 = .ok (.goto 328, 3) := by decide +kernel
theorem dL_law_754 : decode cL_law 754 = .ok (.aload_n 1, 1) := by decide +kernel
theorem dL_law_755 : decode cL_law 755 = .ok (.aload_n 0, 1) := by decide +kernel
theorem dL_law_756 : decode cL_law 756 = .ok (.iload_n 3, 1) := by decide +kernel
theorem dL_law_757 : decode cL_law 757 = .ok (.iconst 1, 1) := by decide +kernel
theorem dL_law_758 : decode cL_law 758 = .ok (.iadd, 1) := by decide +kernel
theorem dL_law_759 : decode cL_law 759 = .ok (.iaload, 1) := by decide +kernel
theorem dL_law_760 : decode cL_law 760 = .ok (.aload_n 0, 1) := by decide +kernel
theorem dL_law_761 : decode cL_law 761 = .ok (.iload_n 3, 1) := by decide +kernel
theorem dL_law_762 : decode cL_law 762 = .ok (.iconst 2, 1) := by decide +kernel
theorem dL_law_763 : decode cL_law 763 = .ok (.iadd, 1) := by decide +kernel
theorem dL_law_764 : decode cL_law 764 = .ok (.iaload, 1) := by decide +kernel
theorem dL_law_765 : decode cL_law 765 = .ok (.ifCond .eq 7, 3) := by decide +kernel
theorem dL_law_768 : decode cL_law 768 = .ok (.iconst 1, 1) := by decide +kernel
theorem dL_law_769 : decode cL_law 769 = .ok (.goto 4, 3) := by decide +kernel
theorem dL_law_772 : decode cL_law 772 = .ok (.iconst 0, 1) := by decide +kernel
theorem dL_law_773 : decode cL_law 773 = .ok (.invokevirtual 114, 3) := by decide +kernel
theorem dL_law_776 : decode cL_law 776 = .ok (.pop, 1) := by decide +kernel
theorem dL_law_777 : decode cL_law 777 = .ok (.aload_n 2, 1) := by decide +kernel
theorem dL_law_778 : decode cL_law 778 = .ok (.aload_n 0, 1) := by decide +kernel
theorem dL_law_779 : decode cL_law 779 = .ok (.iload_n 3, 1) := by decide +kernel
theorem dL_law_780 : decode cL_law 780 = .ok (.iconst 1, 1) := by decide +kernel
theorem dL_law_781 : decode cL_law 781 = .ok (.iadd, 1) := by decide +kernel
theorem dL_law_782 : decode cL_law 782 = .ok (.iaload, 1) := by decide +kernel
theorem dL_law_783 : decode cL_law 783 = .ok (.aload_n 0, 1) := by decide +kernel
theorem dL_law_784 : decode cL_law 784 = .ok (.iload_n 3, 1) := by decide +kernel
theorem dL_law_785 : decode cL_law 785 = .ok (.iconst 2, 1) := by decide +kernel
theorem dL_law_786 : decode cL_law 786 = .ok (.iadd, 1) := by decide +kernel
theorem dL_law_787 : decode cL_law 787 = .ok (.iaload, 1) := by decide +kernel
theorem dL_law_788 : decode cL_law 788 = .ok (.ifCond .eq 7, 3) := by decide +kernel
theorem dL_law_791 : decode cL_law 791 = .ok (.iconst 1, 1) := by decide +kernel
theorem dL_law_792 : decode cL_law 792 = .ok (.goto 4, 3) := by decide +kernel
theorem dL_law_795 : decode cL_law 795 = .ok (.iconst 0, 1) := by decide +kernel
theorem dL_law_796 : decode cL_law 796 = .ok (.invokevirtual 118, 3) := by decide +kernel
theorem dL_law_799 : decode cL_law 799 = .ok (.pop, 1) := by decide +kernel
theorem dL_law_800 : decode cL_law 800 = .ok (.goto 279, 3) := by decide +kernel
theorem dL_law_803 : decode cL_law 803 = .ok (.aload_n 1, 1) := by decide +kernel
theorem dL_law_804 : decode cL_law 804 = .ok (.aload_n 0, 1) := by decide +kernel
theorem dL_law_805 : decode cL_law 805 = .ok (.iload_n 3, 1) := by decide +kernel
theorem dL_law_806 : decode cL_law 806 = .ok (.iconst 1, 1) := by decide +kernel
theorem dL_law_807 : decode cL_law 807 = .ok (.iadd, 1) := by decide +kernel
theorem dL_law_808 : decode cL_law 808 = .ok (.iaload, 1) := by decide +kernel
theorem dL_law_809 : decode cL_law 809 = .ok (.invokevirtual 119, 3) := by decide +kernel
theorem dL_law_812 : decode cL_law 812 = .ok (.pop, 1) := by decide +kernel
theorem dL_law_813 : decode cL_law 813 = .ok (.aload_n 2, 1) := by decide +kernel
theorem dL_law_814 : decode cL_law 814 = .ok (.aload_n 0, 1) := by decide +kernel
theorem dL_law_815 : decode cL_law 815 = .ok (.iload_n 3, 1) := by decide +kernel
theorem dL_law_816 : decode cL_law 816 = .ok (.iconst 1, 1) := by decide +kernel
theorem dL_law_817 : decode cL_law 817 = .ok (.iadd, 1) := by decide +kernel
theorem dL_law_818 : decode cL_law 818 = .ok (.iaload, 1) := by decide +kernel
theorem dL_law_819 : decode cL_law 819 = .ok (.invokevirtual 122, 3) := by decide +kernel
theorem dL_law_822 : decode cL_law 822 = .ok (.pop, 1) := by decide +kernel
theorem dL_law_823 : decode cL_law 823 = .ok (.goto 256, 3) := by decide +kernel
theorem dL_law_826 : decode cL_law 826 = .ok (.aload_n 1, 1) := by decide +kernel
theorem dL_law_827 : decode cL_law 827 = .ok (.aload_n 0, 1) := by decide +kernel
theorem dL_law_828 : decode cL_law 828 = .ok (.iload_n 3, 1) := by decide +kernel
theorem dL_law_829 : decode cL_law 829 = .ok (.iconst 1, 1) := by decide +kernel
theorem dL_law_830 : decode cL_law 830 = .ok (.iadd, 1) := by decide +kernel
theorem dL_law_831 : decode cL_law 831 = .ok (.iaload, 1) := by decide +kernel
theorem dL_law_832 : decode cL_law 832 = .ok (.invokevirtual 123, 3) := by decide +kernel
theorem dL_law_835 : decode cL_law 835 = .ok (.pop, 1) := by decide +kernel
theorem dL_law_836 : decode cL_law 836 = .ok (.aload_n 2, 1) := by decide +kernel
theorem dL_law_837 : decode cL_law 837 = .ok (.aload_n 0, 1) := by decide +kernel
theorem dL_law_838 : decode cL_law 838 = .ok (.iload_n 3, 1) := by decide +kernel
theorem dL_law_839 : decode cL_law 839 = .ok (.iconst 1, 1) := by decide +kernel
theorem dL_law_840 : decode cL_law 840 = .ok (.iadd, 1) := by decide +kernel
theorem dL_law_841 : decode cL_law 841 = .ok (.iaload, 1) := by decide +kernel
theorem dL_law_842 : decode cL_law 842 = .ok (.invokevirtual 126, 3) := by decide +kernel
theorem dL_law_845 : decode cL_law 845 = .ok (.pop, 1) := by decide +kernel
theorem dL_law_846 : decode cL_law 846 = .ok (.goto 233, 3) := by decide +kernel
theorem dL_law_849 : decode cL_law 849 = .ok (.aload_n 1, 1) := by decide +kernel
theorem dL_law_850 : decode cL_law 850 = .ok (.aload_n 0, 1) := by decide +kernel
theorem dL_law_851 : decode cL_law 851 = .ok (.iload_n 3, 1) := by decide +kernel
theorem dL_law_852 : decode cL_law 852 = .ok (.iconst 1, 1) := by decide +kernel
theorem dL_law_853 : decode cL_law 853 = .ok (.iadd, 1) := by decide +kernel
theorem dL_law_854 : decode cL_law 854 = .ok (.iaload, 1) := by decide +kernel
theorem dL_law_855 : decode cL_law 855 = .ok (.aload_n 0, 1) := by decide +kernel
theorem dL_law_856 : decode cL_law 856 = .ok (.iload_n 3, 1) := by decide +kernel
theorem dL_law_857 : decode cL_law 857 = .ok (.iconst 2, 1) := by decide +kernel
theorem dL_law_858 : decode cL_law 858 = .ok (.iadd, 1) := by decide +kernel
theorem dL_law_859 : decode cL_law 859 = .ok (.iaload, 1) := by decide +kernel
theorem dL_law_860 : decode cL_law 860 = .ok (.invokevirtual 127, 3) := by decide +kernel
theorem dL_law_863 : decode cL_law 863 = .ok (.pop, 1) := by decide +kernel
theorem dL_law_864 : decode cL_law 864 = .ok (.aload_n 2, 1) := by decide +kernel
theorem dL_law_865 : decode cL_law 865 = .ok (.aload_n 0, 1) := by decide +kernel
theorem dL_law_866 : decode cL_law 866 = .ok (.iload_n 3, 1) := by decide +kernel
theorem dL_law_867 : decode cL_law 867 = .ok (.iconst 1, 1) := by decide +kernel
theorem dL_law_868 : decode cL_law 868 = .ok (.iadd, 1) := by decide +kernel
theorem dL_law_869 : decode cL_law 869 = .ok (.iaload, 1) := by decide +kernel
theorem dL_law_870 : decode cL_law 870 = .ok (.aload_n 0, 1) := by decide +kernel
theorem dL_law_871 : decode cL_law 871 = .ok (.iload_n 3, 1) := by decide +kernel
theorem dL_law_872 : decode cL_law 872 = .ok (.iconst 2, 1) := by decide +kernel
theorem dL_law_873 : decode cL_law 873 = .ok (.iadd, 1) := by decide +kernel
theorem dL_law_874 : decode cL_law 874 = .ok (.iaload, 1) := by decide +kernel
theorem dL_law_875 : decode cL_law 875 = .ok (.invokevirtual 130, 3) := by decide +kernel
theorem dL_law_878 : decode cL_law 878 = .ok (.pop, 1) := by decide +kernel
theorem dL_law_879 : decode cL_law 879 = .ok (.goto 200, 3) := by decide +kernel
theorem dL_law_882 : decode cL_law 882 = .ok (.aload_n 1, 1) := by decide +kernel
theorem dL_law_883 : decode cL_law 883 = .ok (.aload_n 0, 1) := by decide +kernel
theorem dL_law_884 : decode cL_law 884 = .ok (.iload_n 3, 1) := by decide +kernel
theorem dL_law_885 : decode cL_law 885 = .ok (.iconst 1, 1) := by decide +kernel
theorem dL_law_886 : decode cL_law 886 = .ok (.iadd, 1) := by decide +kernel
theorem dL_law_887 : decode cL_law 887 = .ok (.iaload, 1) := by decide +kernel
theorem dL_law_888 : decode cL_law 888 = .ok (.invokevirtual 131, 3) := by decide +kernel
theorem dL_law_891 : decode cL_law 891 = .ok (.pop, 1) := by decide +kernel
theorem dL_law_892 : decode cL_law 892 = .ok (.aload_n 2, 1) := by decide +kernel
theorem dL_law_893 : decode cL_law 893 = .ok (.aload_n 0, 1) := by decide +kernel
theorem dL_law_894 : decode cL_law 894 = .ok (.iload_n 3, 1) := by decide +kernel
theorem dL_law_895 : decode cL_law 895 = .ok (.iconst 1, 1) := by decide +kernel
theorem dL_law_896 : decode cL_law 896 = .ok (.iadd, 1) := by decide +kernel
theorem dL_law_897 : decode cL_law 897 = .ok (.iaload, 1) := by decide +kernel
theorem dL_law_898 : decode cL_law 898 = .ok (.invokevirtual 134, 3) := by decide +kernel
theorem dL_law_901 : decode cL_law 901 = .ok (.pop, 1) := by decide +kernel
theorem dL_law_902 : decode cL_law 902 = .ok (.goto 177, 3) := by decide +kernel
theorem dL_law_905 : decode cL_law 905 = .ok (.aload_n 1, 1) := by decide +kernel
theorem dL_law_906 : decode cL_law 906 = .ok (.aload_n 0, 1) := by decide +kernel
theorem dL_law_907 : decode cL_law 907 = .ok (.iload_n 3, 1) := by decide +kernel
theorem dL_law_908 : decode cL_law 908 = .ok (.iconst 1, 1) := by decide +kernel
theorem dL_law_909 : decode cL_law 909 = .ok (.iadd, 1) := by decide +kernel
theorem dL_law_910 : decode cL_law 910 = .ok (.iaload, 1) := by decide +kernel
theorem dL_law_911 : decode cL_law 911 = .ok (.invokevirtual 135, 3) := by decide +kernel
theorem dL_law_914 : decode cL_law 914 = .ok (.pop, 1) := by decide +kernel
theorem dL_law_915 : decode cL_law 915 = .ok (.aload_n 2, 1) := by decide +kernel
theorem dL_law_916 : decode cL_law 916 = .ok (.aload_n 0, 1) := by decide +kernel
theorem dL_law_917 : decode cL_law 917 = .ok (.iload_n 3, 1) := by decide +kernel
theorem dL_law_918 : decode cL_law 918 = .ok (.iconst 1, 1) := by decide +kernel
theorem dL_law_919 : decode cL_law 919 = .ok (.iadd, 1) := by decide +kernel
theorem dL_law_920 : decode cL_law 920 = .ok (.iaload, 1) := by decide +kernel
theorem dL_law_921 : decode cL_law 921 = .ok (.invokevirtual 138, 3) := by decide +kernel
theorem dL_law_924 : decode cL_law 924 = .ok (.pop, 1) := by decide +kernel
theorem dL_law_925 : decode cL_law 925 = .ok (.goto 154, 3) := by decide +kernel
theorem dL_law_928 : decode cL_law 928 = .ok (.aload_n 1, 1) := by decide +kernel
theorem dL_law_929 : decode cL_law 929 = .ok (.aload_n 0, 1) := by decide +kernel
theorem dL_law_930 : decode cL_law 930 = .ok (.iload_n 3, 1) := by decide +kernel
theorem dL_law_931 : decode cL_law 931 = .ok (.iconst 1, 1) := by decide +kernel
theorem dL_law_932 : decode cL_law 932 = .ok (.iadd, 1) := by decide +kernel
theorem dL_law_933 : decode cL_law 933 = .ok (.iaload, 1) := by decide +kernel
theorem dL_law_934 : decode cL_law 934 = .ok (.aload_n 0, 1) := by decide +kernel
theorem dL_law_935 : decode cL_law 935 = .ok (.iload_n 3, 1) := by decide +kernel
theorem dL_law_936 : decode cL_law 936 = .ok (.iconst 2, 1) := by decide +kernel
theorem dL_law_937 : decode cL_law 937 = .ok (.iadd, 1) := by decide +kernel
theorem dL_law_938 : decode cL_law 938 = .ok (.iaload, 1) := by decide +kernel
theorem dL_law_939 : decode cL_law 939 = .ok (.aload_n 0, 1) := by decide +kernel
theorem dL_law_940 : decode cL_law 940 = .ok (.iload_n 3, 1) := by decide +kernel
theorem dL_law_941 : decode cL_law 941 = .ok (.iconst 3, 1) := by decide +kernel
theorem dL_law_942 : decode cL_law 942 = .ok (.iadd, 1) := by decide +kernel
theorem dL_law_943 : decode cL_law 943 = .ok (.iaload, 1) := by decide +kernel
theorem dL_law_944 : decode cL_law 944 = .ok (.invokevirtual 139, 3) := by decide +kernel
theorem dL_law_947 : decode cL_law 947 = .ok (.pop, 1) := by decide +kernel
theorem dL_law_948 : decode cL_law 948 = .ok (.aload_n 2, 1) := by decide +kernel
theorem dL_law_949 : decode cL_law 949 = .ok (.aload_n 0, 1) := by decide +kernel
theorem dL_law_950 : decode cL_law 950 = .ok (.iload_n 3, 1) := by decide +kernel
theorem dL_law_951 : decode cL_law 951 = .ok (.iconst 1, 1) := by decide +kernel
theorem dL_law_952 : decode cL_law 952 = .ok (.iadd, 1) := by decide +kernel
theorem dL_law_953 : decode cL_law 953 = .ok (.iaload, 1) := by decide +kernel
theorem dL_law_954 : decode cL_law 954 = .ok (.aload_n 0, 1) := by decide +kernel
theorem dL_law_955 : decode cL_law 955 = .ok (.iload_n 3, 1) := by decide +kernel
theorem dL_law_956 : decode cL_law 956 = .ok (.iconst 2, 1) := by decide +kernel
theorem dL_law_957 : decode cL_law 957 = .ok (.iadd, 1) := by decide +kernel
theorem dL_law_958 : decode cL_law 958 = .ok (.iaload, 1) := by decide +kernel
theorem dL_law_959 : decode cL_law 959 = .ok (.aload_n 0, 1) := by decide +kernel
theorem dL_law_960 : decode cL_law 960 = .ok (.iload_n 3, 1) := by decide +kernel
theorem dL_law_961 : decode cL_law 961 = .ok (.iconst 3, 1) := by decide +kernel
theorem dL_law_962 : decode cL_law 962 = .ok (.iadd, 1) := by decide +kernel
theorem dL_law_963 : decode cL_law 963 = .ok (.iaload, 1) := by decide +kernel
theorem dL_law_964 : decode cL_law 964 = .ok (.invokevirtual 142, 3) := by decide +kernel
theorem dL_law_967 : decode cL_law 967 = .ok (.pop, 1) := by decide +kernel
theorem dL_law_968 : decode cL_law 968 = .ok (.goto 111, 3) := by decide +kernel
theorem dL_law_971 : decode cL_law 971 = .ok (.aload_n 1, 1) := by decide +kernel
theorem dL_law_972 : decode cL_law 972 = .ok (.invokevirtual 143, 3) := by decide +kernel
theorem dL_law_975 : decode cL_law 975 = .ok (.pop, 1) := by decide +kernel
theorem dL_law_976 : decode cL_law 976 = .ok (.aload_n 2, 1) := by decide +kernel
theorem dL_law_977 : decode cL_law 977 = .ok (.invokevirtual 146, 3) := by decide +kernel
theorem dL_law_980 : decode cL_law 980 = .ok (.pop, 1) := by decide +kernel
theorem dL_law_981 : decode cL_law 981 = .ok (.goto 98, 3) := by decide +kernel
theorem dL_law_984 : decode cL_law 984 = .ok (.aload_n 1, 1) := by decide +kernel
theorem dL_law_985 : decode cL_law 985 = .ok (.aload_n 0, 1) := by decide +kernel
theorem dL_law_986 : decode cL_law 986 = .ok (.iload_n 3, 1) := by decide +kernel
theorem dL_law_987 : decode cL_law 987 = .ok (.iconst 1, 1) := by decide +kernel
theorem dL_law_988 : decode cL_law 988 = .ok (.iadd, 1) := by decide +kernel
theorem dL_law_989 : decode cL_law 989 = .ok (.iaload, 1) := by decide +kernel
theorem dL_law_990 : decode cL_law 990 = .ok (.invokevirtual 147, 3) := by decide +kernel
theorem dL_law_993 : decode cL_law 993 = .ok (.aload_n 2, 1) := by decide +kernel
theorem dL_law_994 : decode cL_law 994 = .ok (.aload_n 0, 1) := by decide +kernel
theorem dL_law_995 : decode cL_law 995 = .ok (.iload_n 3, 1) := by decide +kernel
theorem dL_law_996 : decode cL_law 996 = .ok (.iconst 1, 1) := by decide +kernel
theorem dL_law_997 : decode cL_law 997 = .ok (.iadd, 1) := by decide +kernel
theorem dL_law_998 : decode cL_law 998 = .ok (.iaload, 1) := by decide +kernel
theorem dL_law_999 : decode cL_law 999 = .ok (.invokevirtual 150, 3) := by decide +kernel
theorem dL_law_1002 : decode cL_law 1002 = .ok (.if_icmp .eq 77, 3) := by decide +kernel
theorem dL_law_1007 : decode cL_law 1007 = .ok (.aload_n 1, 1) := by decide +kernel
theorem dL_law_1008 : decode cL_law 1008 = .ok (.aload_n 0, 1) := by decide +kernel
theorem dL_law_1009 : decode cL_law 1009 = .ok (.iload_n 3, 1) := by decide +kernel
theorem dL_law_1010 : decode cL_law 1010 = .ok (.iconst 1, 1) := by decide +kernel
theorem dL_law_1011 : decode cL_law 1011 = .ok (.iadd, 1) := by decide +kernel
theorem dL_law_1012 : decode cL_law 1012 = .ok (.iaload, 1) := by decide +kernel
theorem dL_law_1013 : decode cL_law 1013 = .ok (.invokevirtual 151, 3) := by decide +kernel
theorem dL_law_1016 : decode cL_law 1016 = .ok (.pop, 1) := by decide +kernel
theorem dL_law_1017 : decode cL_law 1017 = .ok (.aload_n 2, 1) := by decide +kernel
theorem dL_law_1018 : decode cL_law 1018 = .ok (.aload_n 0, 1) := by decide +kernel
theorem dL_law_1019 : decode cL_law 1019 = .ok (.iload_n 3, 1) := by decide +kernel
theorem dL_law_1020 : decode cL_law 1020 = .ok (.iconst 1, 1) := by decide +kernel
theorem dL_law_1021 : decode cL_law 1021 = .ok (.iadd, 1) := by decide +kernel
theorem dL_law_1022 : decode cL_law 1022 = .ok (.iaload, 1) := by decide +kernel
theorem dL_law_1023 : decode cL_law 1023 = .ok (.invokevirtual 154, 3) := by decide +kernel
theorem dL_law_1026 : decode cL_law 1026 = .ok (.pop, 1) := by decide +kernel
theorem dL_law_1027 : decode cL_law 1027 = .ok (.goto 52, 3) := by decide +kernel
theorem dL_law_1030 : decode cL_law 1030 = .ok (.aload_n 1, 1) := by decide +kernel
theorem dL_law_1031 : decode cL_law 1031 = .ok (.invokevirtual 155, 3) := by decide +kernel
theorem dL_law_1034 : decode cL_law 1034 = .ok (.pop, 1) := by decide +kernel
theorem dL_law_1035 : decode cL_law 1035 = .ok (.aload_n 2, 1) := by decide +kernel
theorem dL_law_1036 : decode cL_law 1036 = .ok (.invokevirtual 158, 3) := by decide +kernel
theorem dL_law_1039 : decode cL_law 1039 = .ok (.pop, 1) := by decide +kernel
theorem dL_law_1040 : decode cL_law 1040 = .ok (.goto 39, 3) := by decide +kernel
theorem dL_law_1043 : decode cL_law 1043 = .ok (.aload_n 1, 1) := by decide +kernel
theorem dL_law_1044 : decode cL_law 1044 = .ok (.aload_n 0, 1) := by decide +kernel
theorem dL_law_1045 : decode cL_law 1045 = .ok (.iload_n 3, 1) := by decide +kernel
theorem dL_law_1046 : decode cL_law 1046 = .ok (.iconst 1, 1) := by decide +kernel
theorem dL_law_1047 : decode cL_law 1047 = .ok (.iadd, 1) := by decide +kernel
theorem dL_law_1048 : decode cL_law 1048 = .ok (.iaload, 1) := by decide +kernel
theorem dL_law_1049 : decode cL_law 1049 = .ok (.invokevirtual 159, 3) := by decide +kernel
theorem dL_law_1052 : decode cL_law 1052 = .ok (.pop, 1) := by decide +kernel
theorem dL_law_1053 : decode cL_law 1053 = .ok (.aload_n 2, 1) := by decide +kernel
theorem dL_law_1054 : decode cL_law 1054 = .ok (.aload_n 0, 1) := by decide +kernel
theorem dL_law_1055 : decode cL_law 1055 = .ok (.iload_n 3, 1) := by decide +kernel
theorem dL_law_1056 : decode cL_law 1056 = .ok (.iconst 1, 1) := by decide +kernel
theorem dL_law_1057 : decode cL_law 1057 = .ok (.iadd, 1) := by decide +kernel
theorem dL_law_1058 : decode cL_law 1058 = .ok (.iaload, 1) := by decide +kernel
theorem dL_law_1059 : decode cL_law 1059 = .ok (.invokevirtual 162, 3) := by decide +kernel
theorem dL_law_1062 : decode cL_law 1062 = .ok (.pop, 1) := by decide +kernel
theorem dL_law_1063 : decode cL_law 1063 = .ok (.goto 16, 3) := by decide +kernel
theorem dL_law_1066 : decode cL_law 1066 = .ok (.aload_n 1, 1) := by decide +kernel
theorem dL_law_1067 : decode cL_law 1067 = .ok (.invokevirtual 163, 3) := by decide +kernel
theorem dL_law_1070 : decode cL_law 1070 = .ok (.pop2, 1) := by decide +kernel
theorem dL_law_1071 : decode cL_law 1071 = .ok (.aload_n 2, 1) := by decide +kernel
theorem dL_law_1072 : decode cL_law 1072 = .ok (.invokevirtual 167, 3) := by decide +kernel
theorem dL_law_1075 : decode cL_law 1075 = .ok (.pop2, 1) := by decide +kernel
theorem dL_law_1076 : decode cL_law 1076 = .ok (.goto 3, 3) := by decide +kernel
theorem dL_law_1079 : decode cL_law 1079 = .ok (.iinc 3 4, 3) := by decide +kernel
theorem dL_law_1082 : decode cL_law 1082 = .ok (.goto (-1064), 3) := by decide +kernel
theorem dL_law_1085 : decode cL_law 1085 = .ok (.iconst 1, 1) := by decide +kernel
theorem dL_law_1086 : decode cL_law 1086 = .ok (.ireturn, 1) := by decide +kernel
