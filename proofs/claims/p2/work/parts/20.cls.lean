theorem iw_X6_draftSet_X6 : ∀ w ∈ wsX60, w ∈ wsX6_draftSet := by decide +kernel
set_option maxHeartbeats 4000000 in
set_option maxRecDepth 100000 in
theorem kX6_draftSet_1 (l : Launch) (dC : Nat → ClassId) (dI : Nat → Nat → Nat) (cI c2 cZ : ClassId) (o1 : Nat) (o2 : Nat) (o7 : Nat) (o21 : Nat) (o23 : Nat) (fw24 : Nat → Int32) (v25 : Int32) (v26 : Int32) (v27 : Int32) (v28 : Int32) (v29 : Int32) (sz : Nat) (fw24_b : Bd 12 0 11 fw24) (v25_h : Iv 0 12 v25) (v26_h : Iv 0 12 v26) (v27_h : Iv 0 1 v27) : Met l yX6_draftSet wsX6_draftSet ({ frames := 0, cells := 0, slots := 0, locals := 0 }) (va_Pc [.ref o1] (wPre (dC, dI) [(cI, .int), (c2, .array .int), (cZ, .boolean)] ([(o1, .inr (6, [.ref o2, .ref o7, .ref o21, .ref o23, .int v25, .int v26, .int v27, .int v28, .int v29])), (o23, .inl (cI, 12, .inl fw24))]) sz)) (va_Qi (fun (r : Int32) (_ : Unit) => Iv 0 4095 r) (fun _ t => wPost (dC, dI) [(cI, .int), (c2, .array .int), (cZ, .boolean)] (va_A ([(o1, .inr (6, [.ref o2, .ref o7, .ref o21, .ref o23, .int v25, .int v26, .int v27, .int v28, .int v29])), (o23, .inl (cI, 12, .inl fw24))]) sz) ([(o1, .inr (6, [.ref o2, .ref o7, .ref o21, .ref o23, .int v25, .int v26, .int v27, .int v28, .int v29])), (o23, .inl (cI, 12, .inl fw24))]) t) (va_A ([(o1, .inr (6, [.ref o2, .ref o7, .ref o21, .ref o23, .int v25, .int v26, .int v27, .int v28, .int v29])), (o23, .inl (cI, 12, .inl fw24))]) sz)) 0 0 (va_A ([(o1, .inr (6, [.ref o2, .ref o7, .ref o21, .ref o23, .int v25, .int v26, .int v27, .int v28, .int v29])), (o23, .inl (cI, 12, .inl fw24))]) sz) := by
  refine Met.ofW (cc := cX6_draftSet) (maxL := 3) (ret := (some .int)) (by decide) rfl ?_
  intro p e s m args below meth c s₁ B hml hv
  obtain ⟨rfl, hsz, hP, hK, hD0, hN⟩ := hv
  have hx := B.exec
  have hb := B.bytes
  have hr := B.returns
  have hts := atoms_spec (ws := wsX6_draftSet) B.pre
  have hown : s.vm.findClass RX6 = some m.cls := findClass_of_methodNamed B.named
  have hlocks := B.notSynchronized
  subst hsz
  have hD := hD0.self (sz := s.heap.size)
  generalize hAe : va_A ([(o1, .inr (6, [.ref o2, .ref o7, .ref o21, .ref o23, .int v25, .int v26, .int v27, .int v28, .int v29])), (o23, .inl (cI, 12, .inl fw24))]) s.heap.size = A at hD ⊢
  have hA : ∀ q : Nat, s.heap.size ≤ q → A q := fun q h => by rw [← hAe]; exact Or.inr h
  have hS : va_S A s.heap s.heap [] := va_S.rf
  have hP : va_P (dC, dI) vwCl ([(o1, .inr (6, [.ref o2, .ref o7, .ref o21, .ref o23, .int v25, .int v26, .int v27, .int v28, .int v29])), (o23, .inl (cI, 12, .inl fw24))]) s.heap := hP
  have hl := lv_entry ([.ref o1]) (n := 3) (Nat.le_of_ble_eq_true rfl)
  rw [lg_entry_eq]
  generalize (lg_sl ([.ref o1]) ++ List.replicate (3 - (lg_sl ([.ref o1])).length) Slot.unset).toArray = ls at hl ⊢
  have hl : lv_has ls 3 [(0, .ref o1)] := hl
  refine gen_Q (fun Q hQ => ?_)
  refine lv_iconst (v := 0) hx hb dX6_draftSet_0 (by decide) ?_
  refine lv_istore_n (lv' := [(1, .int 0), (0, .ref o1)]) hx hb dX6_draftSet_1 rfl hl (by decide) rfl (fun ls hl => ?_)
  refine lv_iconst (v := 0) hx hb dX6_draftSet_2 (by decide) ?_
  refine lv_istore_n (lv' := [(2, .int 0), (1, .int 0), (0, .ref o1)]) hx hb dX6_draftSet_3 rfl hl (by decide) rfl (fun ls hl => ?_)
  have L1 : ∀ (N : Nat) (x70 : Int32) (x71 : Int32) (H : Heap) (locs : List Loc) (ls : Array Slot), (12 - x70.toInt).toNat < N → Iv 0 12 x70 → Iv 0 4095 x71 → va_P (dC, dI) vwCl ([(o1, .inr (6, [.ref o2, .ref o7, .ref o21, .ref o23, .int v25, .int v26, .int v27, .int v28, .int v29])), (o23, .inl (cI, 12, .inl fw24))]) H → va_D A ([(o1, .inr (6, [.ref o2, .ref o7, .ref o21, .ref o23, .int v25, .int v26, .int v27, .int v28, .int v29])), (o23, .inl (cI, 12, .inl fw24))]) → va_S A s.heap H locs → lv_has ls 3 [(2, .int x70), (1, .int x71), (0, .ref o1)] → W p l e ({ frames := 0, cells := 0, slots := 0, locals := 0 }) s m ([.ref o1] : List Value).toArray below meth c H locs 0 0 Q (F0 m 4 ls []) := by
    intro N
    induction N with
    | zero =>
      intro x70 x71 H locs ls hM
      exact absurd hM (Nat.not_lt_zero _)
    | succ N ih1 =>
      intro x70 x71 H locs ls hM1 x70_h x71_h hP hD hS hl
      refine lv_iload_n hx hb dX6_draftSet_4 rfl (lv_at hl 0 rfl) ?_
      refine lv_aload_n hx hb dX6_draftSet_5 rfl (lv_at hl 2 rfl) ?_
      refine va_get (D := (dC, dI)) (ci := 6) (v := .int v25) (C := RX6) (T := TX6) (N := 9) hx hb hts iw_X6_draftSet_X6 hown hK hP 0 rfl rfl 4 (by decide) (hts (.fieldLink RX6 32 "HolelessHouse$Ordering" "draftSize" "I") (by decide +kernel)) (fun _ h9 => h9) rfl dX6_draftSet_6 ?_
      refine lv_icmp_ge (tgt := 29) hx hb dX6_draftSet_9 (by decide) (fun h72 => ?_) (fun h72 => ?_)
      ·
        have qh72 := le_i h72
        refine lv_iload_n hx hb dX6_draftSet_29 rfl (lv_at hl 1 rfl) ?_
        rw [hQ]
        exact W.iret (v := x71) hx hb hr (fun t ht hW => ⟨⟨x71, (), rfl, x71_h, by rw [ht]; exact hP, va_K.moved hW.alike hK, hD⟩, hS.F ht⟩) hS.2.2 dX6_draftSet_30
      ·
        have qh72 := nle_i h72
        have j73 : Iv 0 11 x70 := r_ltl qh72 x70_h v25_h (by decide)
        have j74 : Iv 1 12 v25 := r_ltr qh72 x70_h v25_h (by decide)
        refine lv_iload_n hx hb dX6_draftSet_12 rfl (lv_at hl 1 rfl) ?_
        refine lv_iconst (v := 1) hx hb dX6_draftSet_13 (by decide) ?_
        refine lv_aload_n hx hb dX6_draftSet_14 rfl (lv_at hl 2 rfl) ?_
        refine va_get (D := (dC, dI)) (ci := 6) (v := .ref o23) (C := RX6) (T := TX6) (N := 9) hx hb hts iw_X6_draftSet_X6 hown hK hP 0 rfl rfl 3 (by decide) (hts (.fieldLink RX6 29 "HolelessHouse$Ordering" "drafts" "[I") (by decide +kernel)) (fun _ h9 => h9) rfl dX6_draftSet_15 ?_
        refine lv_iload_n hx hb dX6_draftSet_18 rfl (lv_at hl 0 rfl) ?_
        refine va_iald hx hb hK hP 1 0 rfl rfl (vin_iv j73 (by decide)) dX6_draftSet_19 (lv_topi (fun x75 x75_e => ?_))
        have x75_h : Iv 0 11 x75 := iv_e x75_e (bd_at fw24_b (vin_iv j73 (by decide)))
        refine lv_ishl hx hb dX6_draftSet_20 (lv_topi (fun x76 x76_e => ?_))
        have x76_h : Iv 1 2048 x76 := iv_e x76_e (iv_shl1 x75_h (by decide))
        refine lv_ior hx hb dX6_draftSet_21 (lv_topi (fun x77 x77_e => ?_))
        have x77_h : Iv 0 4095 x77 := iv_e x77_e (iv_or 12 x71_h x76_h (by decide))
        refine lv_istore_n (lv' := [(1, .int x77), (2, .int x70), (0, .ref o1)]) hx hb dX6_draftSet_22 rfl hl (by decide) rfl (fun ls hl => ?_)
        obtain ⟨x78, x78_e⟩ : ∃ z : Int32, z = x70 + 1 := ⟨_, rfl⟩
        have x78_h : Iv 1 12 x78 := iv_e x78_e (iv_add j73 ik_1 (by decide))
        refine lv_iinc (v := x78) (lv' := [(2, .int x78), (1, .int x77), (0, .ref o1)]) hx hb dX6_draftSet_23 hl (k := 1) rfl (incN (by decide +kernel) x78_e) (by decide) rfl (fun ls hl => ?_)
        refine lv_goto (tgt := 4) hx hb dX6_draftSet_26 (by decide) ?_
        exact ih1 x78 x77 _ _ _ (ms_up x78_e j73 (by decide) hM1) (iv_w x78_h (by decide)) x77_h hP hD hS hl
  exact L1 _ 0 0 _ _ _ (Nat.lt_succ_self _) (iv_w ik_0 (by decide)) (iv_w ik_0 (by decide)) hP hD hS hl
theorem iw_X4_all_X4 : ∀ w ∈ wsX40, w ∈ wsX4_all := by decide +kernel
set_option maxHeartbeats 4000000 in
set_option maxRecDepth 100000 in
theorem kX4_all_1 (l : Launch) (dC : Nat → ClassId) (dI : Nat → Nat → Nat) (cI c2 cZ : ClassId) (o1 : Nat) (o2 : Nat) (v4 : Int32) (v5 : Int32) (sz : Nat) (v4_h : Iv 0 12 v4) : Met l yX4_all wsX4_all ({ frames := 0, cells := 0, slots := 0, locals := 0 }) (va_Pc [.ref o1] (wPre (dC, dI) [(cI, .int), (c2, .array .int), (cZ, .boolean)] ([(o1, .inr (4, [.ref o2, .int v4, .int v5]))]) sz)) (va_Qi (fun (r : Int32) (_ : Unit) => Iv 0 4095 r) (fun _ t => wPost (dC, dI) [(cI, .int), (c2, .array .int), (cZ, .boolean)] (va_A ([(o1, .inr (4, [.ref o2, .int v4, .int v5]))]) sz) ([(o1, .inr (4, [.ref o2, .int v4, .int v5]))]) t) (va_A ([(o1, .inr (4, [.ref o2, .int v4, .int v5]))]) sz)) 0 0 (va_A ([(o1, .inr (4, [.ref o2, .int v4, .int v5]))]) sz) := by
  refine Met.ofW (cc := cX4_all) (maxL := 1) (ret := (some .int)) (by decide) rfl ?_
  intro p e s m args below meth c s₁ B hml hv
  obtain ⟨rfl, hsz, hP, hK, hD0, hN⟩ := hv
  have hx := B.exec
  have hb := B.bytes
  have hr := B.returns
  have hts := atoms_spec (ws := wsX4_all) B.pre
  have hown : s.vm.findClass RX4 = some m.cls := findClass_of_methodNamed B.named
  have hlocks := B.notSynchronized
  subst hsz
  have hD := hD0.self (sz := s.heap.size)
  generalize hAe : va_A ([(o1, .inr (4, [.ref o2, .int v4, .int v5]))]) s.heap.size = A at hD ⊢
  have hA : ∀ q : Nat, s.heap.size ≤ q → A q := fun q h => by rw [← hAe]; exact Or.inr h
  have hS : va_S A s.heap s.heap [] := va_S.rf
  have hP : va_P (dC, dI) vwCl ([(o1, .inr (4, [.ref o2, .int v4, .int v5]))]) s.heap := hP
  have hl := lv_entry ([.ref o1]) (n := 1) (Nat.le_of_ble_eq_true rfl)
  rw [lg_entry_eq]
  generalize (lg_sl ([.ref o1]) ++ List.replicate (1 - (lg_sl ([.ref o1])).length) Slot.unset).toArray = ls at hl ⊢
  have hl : lv_has ls 1 [(0, .ref o1)] := hl
  refine gen_Q (fun Q hQ => ?_)
  refine lv_iconst (v := 1) hx hb dX4_all_0 (by decide) ?_
  refine lv_aload_n hx hb dX4_all_1 rfl (lv_at hl 0 rfl) ?_
  refine va_get (D := (dC, dI)) (ci := 4) (v := .int v4) (C := RX4) (T := TX4) (N := 3) hx hb hts iw_X4_all_X4 hown hK hP 0 rfl rfl 1 (by decide) (hts (.fieldLink RX4 15 "HolelessHouse$Graph" "size" "I") (by decide +kernel)) (fun _ h9 => h9) rfl dX4_all_2 ?_
  refine lv_ishl hx hb dX4_all_5 (lv_topi (fun x1 x1_e => ?_))
  have x1_h : Iv 1 4096 x1 := iv_e x1_e (iv_shl1 v4_h (by decide))
  refine lv_iconst (v := 1) hx hb dX4_all_6 (by decide) ?_
  refine lv_isub hx hb dX4_all_7 (lv_topi (fun x2 x2_e => ?_))
  have x2_h : Iv 0 4095 x2 := iv_e x2_e (iv_sub x1_h ik_1 (by decide))
  rw [hQ]
  exact W.iret (v := x2) hx hb hr (fun t ht hW => ⟨⟨x2, (), rfl, x2_h, by rw [ht]; exact hP, va_K.moved hW.alike hK, hD⟩, hS.F ht⟩) hS.2.2 dX4_all_8
theorem iw_X3_start_X3 : ∀ w ∈ wsX30, w ∈ wsX3_start := by decide +kernel
theorem iw_X3_start_X4 : ∀ w ∈ wsX40, w ∈ wsX3_start := by decide +kernel
set_option maxHeartbeats 4000000 in
set_option maxRecDepth 100000 in
theorem kX3_start_1 (l : Launch) (dC : Nat → ClassId) (dI : Nat → Nat → Nat) (cI c2 cZ : ClassId) (o1 : Nat) (o6 : Nat) (o7 : Nat) (o2 : Nat) (rw3 : Nat → Nat) (Gw4 : Nat → Nat → Int32) (v5 : Int32) (fw8 : Nat → Int32) (v9 : Int32) (v10 : Int32) (sz : Nat) (Gw4_b : Bg 13 12 0 4095 Gw4) (v5_h : Iv 0 12 v5) (fw8_b : Bd 12 0 4095 fw8) (v9_h : Iv 0 12 v9) : Met l yX3_start wsX3_start ({ frames := 1, cells := 0, slots := 0, locals := 64 }) (va_Pc [.ref o1, .ref o6] (wPre (dC, dI) [(cI, .int), (c2, .array .int), (cZ, .boolean)] (([(o6, .inr (4, [.ref o7, .int v9, .int v10])), (o1, .inr (3, [.ref o2, .int v5])), (o2, .inl (c2, 13, .inr (.inr (.inr (.inr (fun i => if i < 13 then some (rw3 i) else none)))))), (o7, .inl (cI, 12, .inl fw8))] : va_W) ++ (gr13 rw3 cI 12 Gw4 ++ ([] : va_W))) sz)) (va_Qv (fun (u : Int32 × (Nat → Nat → Int32)) => Iv 0 12 u.1 ∧ Bg 13 12 0 4095 u.2) (fun u t => wPost (dC, dI) [(cI, .int), (c2, .array .int), (cZ, .boolean)] (va_A (([(o6, .inr (4, [.ref o7, .int v9, .int v10])), (o1, .inr (3, [.ref o2, .int v5])), (o2, .inl (c2, 13, .inr (.inr (.inr (.inr (fun i => if i < 13 then some (rw3 i) else none)))))), (o7, .inl (cI, 12, .inl fw8))] : va_W) ++ (gr13 rw3 cI 12 Gw4 ++ ([] : va_W))) sz) (([(o6, .inr (4, [.ref o7, .int v9, .int v10])), (o1, .inr (3, [.ref o2, .int u.1])), (o2, .inl (c2, 13, .inr (.inr (.inr (.inr (fun i => if i < 13 then some (rw3 i) else none)))))), (o7, .inl (cI, 12, .inl fw8))] : va_W) ++ (gr13 rw3 cI 12 u.2 ++ ([] : va_W))) t) (va_A (([(o6, .inr (4, [.ref o7, .int v9, .int v10])), (o1, .inr (3, [.ref o2, .int v5])), (o2, .inl (c2, 13, .inr (.inr (.inr (.inr (fun i => if i < 13 then some (rw3 i) else none)))))), (o7, .inl (cI, 12, .inl fw8))] : va_W) ++ (gr13 rw3 cI 12 Gw4 ++ ([] : va_W))) sz)) 0 0 (va_A (([(o6, .inr (4, [.ref o7, .int v9, .int v10])), (o1, .inr (3, [.ref o2, .int v5])), (o2, .inl (c2, 13, .inr (.inr (.inr (.inr (fun i => if i < 13 then some (rw3 i) else none)))))), (o7, .inl (cI, 12, .inl fw8))] : va_W) ++ (gr13 rw3 cI 12 Gw4 ++ ([] : va_W))) sz) := by
  refine Met.ofW (cc := cX3_start) (maxL := 2) (ret := none) (by decide) rfl ?_
  intro p e s m args below meth c s₁ B hml hv
  obtain ⟨rfl, hsz, hP, hK, hD0, hN⟩ := hv
  have hx := B.exec
  have hb := B.bytes
  have hr := B.returns
  have hts := atoms_spec (ws := wsX3_start) B.pre
  have hown : s.vm.findClass RX3 = some m.cls := findClass_of_methodNamed B.named
  have hlocks := B.notSynchronized
  subst hsz
  have hD := hD0.self (sz := s.heap.size)
  generalize hAe : va_A (([(o6, .inr (4, [.ref o7, .int v9, .int v10])), (o1, .inr (3, [.ref o2, .int v5])), (o2, .inl (c2, 13, .inr (.inr (.inr (.inr (fun i => if i < 13 then some (rw3 i) else none)))))), (o7, .inl (cI, 12, .inl fw8))] : va_W) ++ (gr13 rw3 cI 12 Gw4 ++ ([] : va_W))) s.heap.size = A at hD ⊢
  have hA : ∀ q : Nat, s.heap.size ≤ q → A q := fun q h => by rw [← hAe]; exact Or.inr h
  have hS : va_S A s.heap s.heap [] := va_S.rf
  have hP : va_P (dC, dI) vwCl (([(o6, .inr (4, [.ref o7, .int v9, .int v10])), (o1, .inr (3, [.ref o2, .int v5])), (o2, .inl (c2, 13, .inr (.inr (.inr (.inr (fun i => if i < 13 then some (rw3 i) else none)))))), (o7, .inl (cI, 12, .inl fw8))] : va_W) ++ (gr13 rw3 cI 12 Gw4 ++ ([] : va_W))) s.heap := hP
  have hl := lv_entry ([.ref o1, .ref o6]) (n := 2) (Nat.le_of_ble_eq_true rfl)
  rw [lg_entry_eq]
  generalize (lg_sl ([.ref o1, .ref o6]) ++ List.replicate (2 - (lg_sl ([.ref o1, .ref o6])).length) Slot.unset).toArray = ls at hl ⊢
  have hl : lv_has ls 2 [(0, .ref o1), (1, .ref o6)] := hl
  refine gen_Q (fun Q hQ => ?_)
  refine lv_aload_n hx hb dX3_start_0 rfl (lv_at hl 0 rfl) ?_
  refine lv_aload_n hx hb dX3_start_1 rfl (lv_at hl 1 rfl) ?_
  refine va_getN (D := (dC, dI)) (ci := 4) (v := .int v9) (C := RX4) (T := TX4) (N := 3) hx hb hts iw_X3_start_X4 hown hK hP 0 rfl rfl 1 (by decide) (hN.use ns_7) (fun _ h9 => h9) rfl dX3_start_2 ?_
  refine va_put (D := (dC, dI)) (ci := 3) (v := .int v9) (ty := .int) (C := RX3) (T := TX3) (N := 2) hx hb hts iw_X3_start_X3 tyX3 tyX3_ok nmX3 hown hK hP hD hS 1 rfl rfl 1 (by decide) (hts (.fieldLink RX3 16 "HolelessHouse$Going" "size" "I") (by decide +kernel)) (fun _ h9 => h9) rfl (by decide +kernel) rfl rfl (Nat.le_of_ble_eq_true rfl) dX3_start_5 (fun H locs hP hD hS => ?_)
  have hP : va_P (dC, dI) vwCl (([(o6, .inr (4, [.ref o7, .int v9, .int v10])), (o1, .inr (3, [.ref o2, .int v9])), (o2, .inl (c2, 13, .inr (.inr (.inr (.inr (fun i => if i < 13 then some (rw3 i) else none)))))), (o7, .inl (cI, 12, .inl fw8))] : va_W) ++ (gr13 rw3 cI 12 Gw4 ++ ([] : va_W))) H := hP
  have hD : va_D A (([(o6, .inr (4, [.ref o7, .int v9, .int v10])), (o1, .inr (3, [.ref o2, .int v9])), (o2, .inl (c2, 13, .inr (.inr (.inr (.inr (fun i => if i < 13 then some (rw3 i) else none)))))), (o7, .inl (cI, 12, .inl fw8))] : va_W) ++ (gr13 rw3 cI 12 Gw4 ++ ([] : va_W))) := hD
  refine lv_aload_n hx hb dX3_start_8 rfl (lv_at hl 1 rfl) ?_
  refine va_getN (D := (dC, dI)) (ci := 4) (v := .ref o7) (C := RX4) (T := TX4) (N := 3) hx hb hts iw_X3_start_X4 hown hK hP 0 rfl rfl 0 (by decide) (hN.use ns_0) (fun _ h9 => h9) rfl dX3_start_9 ?_
  refine lv_iconst (v := 0) hx hb dX3_start_12 (by decide) ?_
  refine lv_aload_n hx hb dX3_start_13 rfl (lv_at hl 0 rfl) ?_
  refine va_get (D := (dC, dI)) (ci := 3) (v := .ref o2) (C := RX3) (T := TX3) (N := 2) hx hb hts iw_X3_start_X3 hown hK hP 1 rfl rfl 0 (by decide) (hts (.fieldLink RX3 11 "HolelessHouse$Going" "near" "[[I") (by decide +kernel)) (fun _ h9 => h9) rfl dX3_start_14 ?_
  refine lv_iconst (v := 0) hx hb dX3_start_17 (by decide) ?_
  refine va_alda hx hb hK hP 2 1 rfl rfl (vin_iv ik_0 (by decide)) dX3_start_18 (tk_r (v := .ref (rw3 0)) rfl ?_)
  refine lv_iconst (v := 0) hx hb dX3_start_19 (by decide) ?_
  refine lv_bipush (v := 12) hx hb dX3_start_20 (by decide) ?_
  refine k_gcpy13 (i0 := 0) hx hb (hml.trans hl.1.symm) hown (hts (.methodLink RX3 26 arraycopyName) (by decide +kernel)) (hts (.native arraycopyName) (by decide +kernel)) (hts (.static arraycopyName) (by decide +kernel)) (hts (.initialized "java/lang/System") (by decide +kernel)) hK (pre := ([(o6, .inr (4, [.ref o7, .int v9, .int v10])), (o1, .inr (3, [.ref o2, .int v9])), (o2, .inl (c2, 13, .inr (.inr (.inr (.inr (fun i => if i < 13 then some (rw3 i) else none)))))), (o7, .inl (cI, 12, .inl fw8))] : va_W)) (po := ([] : va_W)) hP hD hS rfl (by decide) 3 0 rfl rfl (by decide) (by decide) (by decide) (by decide +kernel) (by decide +kernel) (Nat.le_of_ble_eq_true rfl) (by decide +kernel) dX3_start_22 (fun f1 G2 H locs f1_e G2_e hP hD hS => ?_)
  have G2_b : Bg 13 12 0 4095 G2 := bg_up G2_e Gw4_b (bd_cpy f1_e fw8_b (Gw4_b _ (by decide)) (by decide +kernel))
  have hP : va_P (dC, dI) vwCl (([(o6, .inr (4, [.ref o7, .int v9, .int v10])), (o1, .inr (3, [.ref o2, .int v9])), (o2, .inl (c2, 13, .inr (.inr (.inr (.inr (fun i => if i < 13 then some (rw3 i) else none)))))), (o7, .inl (cI, 12, .inl fw8))] : va_W) ++ (gr13 rw3 cI 12 G2 ++ ([] : va_W))) H := by simpa only [List.append_assoc] using hP
  have hD : va_D A (([(o6, .inr (4, [.ref o7, .int v9, .int v10])), (o1, .inr (3, [.ref o2, .int v9])), (o2, .inl (c2, 13, .inr (.inr (.inr (.inr (fun i => if i < 13 then some (rw3 i) else none)))))), (o7, .inl (cI, 12, .inl fw8))] : va_W) ++ (gr13 rw3 cI 12 G2 ++ ([] : va_W))) := by simpa only [List.append_assoc] using hD
  rw [hQ]
  exact W.vret hx hb hr (fun t ht hW => ⟨⟨(v9, G2), rfl, ⟨v9_h, G2_b⟩, by rw [ht]; exact hP, va_K.moved hW.alike hK, hD⟩, hS.F ht⟩) hS.2.2 dX3_start_25
theorem iw_X6_begin_X4 : ∀ w ∈ wsX40, w ∈ wsX6_begin := by decide +kernel
theorem iw_X6_begin_X6 : ∀ w ∈ wsX60, w ∈ wsX6_begin := by decide +kernel
set_option maxHeartbeats 4000000 in
set_option maxRecDepth 100000 in
theorem kX6_begin_1 (l : Launch) (dC : Nat → ClassId) (dI : Nat → Nat → Nat) (cI c2 cZ : ClassId) (o1 : Nat) (o30 : Nat) (o2 : Nat) (o7 : Nat) (o21 : Nat) (o23 : Nat) (o3 : Nat) (o31 : Nat) (rw4 : Nat → Nat) (Gw5 : Nat → Nat → Int32) (v6 : Int32) (v25 : Int32) (v26 : Int32) (v27 : Int32) (v28 : Int32) (v29 : Int32) (fw32 : Nat → Int32) (v33 : Int32) (v34 : Int32) (sz : Nat) (Gw5_b : Bg 13 12 0 4095 Gw5) (v6_h : Iv 0 12 v6) (v25_h : Iv 0 12 v25) (v26_h : Iv 0 12 v26) (v27_h : Iv 0 1 v27) (fw32_b : Bd 12 0 4095 fw32) (v33_h : Iv 0 12 v33) : Met l yX6_begin wsX6_begin ({ frames := 2, cells := 0, slots := 0, locals := 85 }) (va_Pc [.ref o1, .ref o30] (wPre (dC, dI) [(cI, .int), (c2, .array .int), (cZ, .boolean)] (([(o1, .inr (6, [.ref o2, .ref o7, .ref o21, .ref o23, .int v25, .int v26, .int v27, .int v28, .int v29])), (o2, .inr (3, [.ref o3, .int v6])), (o30, .inr (4, [.ref o31, .int v33, .int v34])), (o3, .inl (c2, 13, .inr (.inr (.inr (.inr (fun i => if i < 13 then some (rw4 i) else none)))))), (o31, .inl (cI, 12, .inl fw32))] : va_W) ++ (gr13 rw4 cI 12 Gw5 ++ ([] : va_W))) sz)) (va_Qv (fun (u : Int32 × Int32 × Int32 × Int32 × Int32 × (Nat → Nat → Int32)) => Iv 0 12 u.1 ∧ Iv 0 1 u.2.1 ∧ Iv 0 12 u.2.2.2.2.1 ∧ Bg 13 12 0 4095 u.2.2.2.2.2) (fun u t => wPost (dC, dI) [(cI, .int), (c2, .array .int), (cZ, .boolean)] (va_A (([(o1, .inr (6, [.ref o2, .ref o7, .ref o21, .ref o23, .int v25, .int v26, .int v27, .int v28, .int v29])), (o2, .inr (3, [.ref o3, .int v6])), (o30, .inr (4, [.ref o31, .int v33, .int v34])), (o3, .inl (c2, 13, .inr (.inr (.inr (.inr (fun i => if i < 13 then some (rw4 i) else none)))))), (o31, .inl (cI, 12, .inl fw32))] : va_W) ++ (gr13 rw4 cI 12 Gw5 ++ ([] : va_W))) sz) (([(o1, .inr (6, [.ref o2, .ref o7, .ref o21, .ref o23, .int v25, .int u.1, .int u.2.1, .int u.2.2.1, .int u.2.2.2.1])), (o2, .inr (3, [.ref o3, .int u.2.2.2.2.1])), (o30, .inr (4, [.ref o31, .int v33, .int v34])), (o3, .inl (c2, 13, .inr (.inr (.inr (.inr (fun i => if i < 13 then some (rw4 i) else none)))))), (o31, .inl (cI, 12, .inl fw32))] : va_W) ++ (gr13 rw4 cI 12 u.2.2.2.2.2 ++ ([] : va_W))) t) (va_A (([(o1, .inr (6, [.ref o2, .ref o7, .ref o21, .ref o23, .int v25, .int v26, .int v27, .int v28, .int v29])), (o2, .inr (3, [.ref o3, .int v6])), (o30, .inr (4, [.ref o31, .int v33, .int v34])), (o3, .inl (c2, 13, .inr (.inr (.inr (.inr (fun i => if i < 13 then some (rw4 i) else none)))))), (o31, .inl (cI, 12, .inl fw32))] : va_W) ++ (gr13 rw4 cI 12 Gw5 ++ ([] : va_W))) sz)) 0 0 (va_A (([(o1, .inr (6, [.ref o2, .ref o7, .ref o21, .ref o23, .int v25, .int v26, .int v27, .int v28, .int v29])), (o2, .inr (3, [.ref o3, .int v6])), (o30, .inr (4, [.ref o31, .int v33, .int v34])), (o3, .inl (c2, 13, .inr (.inr (.inr (.inr (fun i => if i < 13 then some (rw4 i) else none)))))), (o31, .inl (cI, 12, .inl fw32))] : va_W) ++ (gr13 rw4 cI 12 Gw5 ++ ([] : va_W))) sz) := by
  refine Met.ofW (cc := cX6_begin) (maxL := 2) (ret := none) (by decide) rfl ?_
  intro p e s m args below meth c s₁ B hml hv
  obtain ⟨rfl, hsz, hP, hK, hD0, hN⟩ := hv
  have hx := B.exec
  have hb := B.bytes
  have hr := B.returns
  have hts := atoms_spec (ws := wsX6_begin) B.pre
  have hown : s.vm.findClass RX6 = some m.cls := findClass_of_methodNamed B.named
  have hlocks := B.notSynchronized
  subst hsz
  have hD := hD0.self (sz := s.heap.size)
  generalize hAe : va_A (([(o1, .inr (6, [.ref o2, .ref o7, .ref o21, .ref o23, .int v25, .int v26, .int v27, .int v28, .int v29])), (o2, .inr (3, [.ref o3, .int v6])), (o30, .inr (4, [.ref o31, .int v33, .int v34])), (o3, .inl (c2, 13, .inr (.inr (.inr (.inr (fun i => if i < 13 then some (rw4 i) else none)))))), (o31, .inl (cI, 12, .inl fw32))] : va_W) ++ (gr13 rw4 cI 12 Gw5 ++ ([] : va_W))) s.heap.size = A at hD ⊢
  have hA : ∀ q : Nat, s.heap.size ≤ q → A q := fun q h => by rw [← hAe]; exact Or.inr h
  have hS : va_S A s.heap s.heap [] := va_S.rf
  have hP : va_P (dC, dI) vwCl (([(o1, .inr (6, [.ref o2, .ref o7, .ref o21, .ref o23, .int v25, .int v26, .int v27, .int v28, .int v29])), (o2, .inr (3, [.ref o3, .int v6])), (o30, .inr (4, [.ref o31, .int v33, .int v34])), (o3, .inl (c2, 13, .inr (.inr (.inr (.inr (fun i => if i < 13 then some (rw4 i) else none)))))), (o31, .inl (cI, 12, .inl fw32))] : va_W) ++ (gr13 rw4 cI 12 Gw5 ++ ([] : va_W))) s.heap := hP
  have hl := lv_entry ([.ref o1, .ref o30]) (n := 2) (Nat.le_of_ble_eq_true rfl)
  rw [lg_entry_eq]
  generalize (lg_sl ([.ref o1, .ref o30]) ++ List.replicate (2 - (lg_sl ([.ref o1, .ref o30])).length) Slot.unset).toArray = ls at hl ⊢
  have hl : lv_has ls 2 [(0, .ref o1), (1, .ref o30)] := hl
  refine gen_Q (fun Q hQ => ?_)
  refine lv_aload_n hx hb dX6_begin_0 rfl (lv_at hl 0 rfl) ?_
  refine va_get (D := (dC, dI)) (ci := 6) (v := .ref o2) (C := RX6) (T := TX6) (N := 9) hx hb hts iw_X6_begin_X6 hown hK hP 0 rfl rfl 0 (by decide) (hts (.fieldLink RX6 12 "HolelessHouse$Ordering" "going" "LHolelessHouse$Going;") (by decide +kernel)) (fun _ h9 => h9) rfl dX6_begin_1 ?_
  refine lv_aload_n hx hb dX6_begin_4 rfl (lv_at hl 1 rfl) ?_
  refine kc_v (D := (dC, dI)) (S := Int32 × (Nat → Nat → Int32)) (wc := ([(o30, .inr (4, [.ref o31, .int v33, .int v34])), (o2, .inr (3, [.ref o3, .int v6])), (o3, .inl (c2, 13, .inr (.inr (.inr (.inr (fun i => if i < 13 then some (rw4 i) else none)))))), (o31, .inl (cI, 12, .inl fw32))] : va_W) ++ (gr13 rw4 cI 12 Gw5 ++ ([] : va_W))) (wr := [(o1, .inr (6, [.ref o2, .ref o7, .ref o21, .ref o23, .int v25, .int v26, .int v27, .int v28, .int v29]))]) (w1 := fun u => ([(o30, .inr (4, [.ref o31, .int v33, .int v34])), (o2, .inr (3, [.ref o3, .int u.1])), (o3, .inl (c2, 13, .inr (.inr (.inr (.inr (fun i => if i < 13 then some (rw4 i) else none)))))), (o31, .inl (cI, 12, .inl fw32))] : va_W) ++ (gr13 rw4 cI 12 u.2 ++ ([] : va_W))) (wn := fun u => ([(o1, .inr (6, [.ref o2, .ref o7, .ref o21, .ref o23, .int v25, .int v26, .int v27, .int v28, .int v29])), (o2, .inr (3, [.ref o3, .int u.1])), (o30, .inr (4, [.ref o31, .int v33, .int v34])), (o3, .inl (c2, 13, .inr (.inr (.inr (.inr (fun i => if i < 13 then some (rw4 i) else none)))))), (o31, .inl (cI, 12, .inl fw32))] : va_W) ++ (gr13 rw4 cI 12 u.2 ++ ([] : va_W))) (fun hPc hDc => va_runVN (As := [.ref o30]) (rest := []) ⟨hx, hb, hml, hown, hts⟩ (kX3_start_1 l dC dI cI c2 cZ o2 o30 o31 o3 rw4 Gw5 v6 fw32 v33 v34 s.heap.size Gw5_b v6_h fw32_b v33_h) ⟨va_cnB 1 hts gX6_begin_X3_start_n57 rfl rfl rfl (hN.1 _ ns_84) (hts (.initialized RX3) (by decide +kernel)) (by decide +kernel) ⟨Nat.le_of_ble_eq_true rfl, Nat.le_of_ble_eq_true rfl⟩, (hts (.instanceMethod yX3_start) (by decide +kernel)), (hts (.selects RX3 yX3_start yX3_start) (by decide +kernel))⟩ (pre_V hPc hK hDc hN (ci := 3) (q0 := 1) rfl rfl) rfl rfl hl.1 rfl (lv_room (Nat.le_of_ble_eq_true rfl)) dX6_begin_5 ⟨Nat.le_of_ble_eq_true rfl, Nat.le_of_ble_eq_true rfl⟩) hP hD hS hA [2, 1, 3, 4, 5, 6, 7, 8, 9, 10, 11, 12, 13, 14, 15, 16, 17] [0] [0, 2, 1, 3, 4, 5, 6, 7, 8, 9, 10, 11, 12, 13, 14, 15, 16, 17] rfl rfl (by decide) (by decide) (by decide) (by decide) (fun _ => rfl) (fun u H locs hq hP hD hS => ?_)
  obtain ⟨y1, G2⟩ := u
  obtain ⟨y1_h, G2_b⟩ := hq
  have hP : va_P (dC, dI) vwCl (([(o1, .inr (6, [.ref o2, .ref o7, .ref o21, .ref o23, .int v25, .int v26, .int v27, .int v28, .int v29])), (o2, .inr (3, [.ref o3, .int y1])), (o30, .inr (4, [.ref o31, .int v33, .int v34])), (o3, .inl (c2, 13, .inr (.inr (.inr (.inr (fun i => if i < 13 then some (rw4 i) else none)))))), (o31, .inl (cI, 12, .inl fw32))] : va_W) ++ (gr13 rw4 cI 12 G2 ++ ([] : va_W))) H := hP
  have hD : va_D A (([(o1, .inr (6, [.ref o2, .ref o7, .ref o21, .ref o23, .int v25, .int v26, .int v27, .int v28, .int v29])), (o2, .inr (3, [.ref o3, .int y1])), (o30, .inr (4, [.ref o31, .int v33, .int v34])), (o3, .inl (c2, 13, .inr (.inr (.inr (.inr (fun i => if i < 13 then some (rw4 i) else none)))))), (o31, .inl (cI, 12, .inl fw32))] : va_W) ++ (gr13 rw4 cI 12 G2 ++ ([] : va_W))) := hD
  refine lv_aload_n hx hb dX6_begin_8 rfl (lv_at hl 0 rfl) ?_
  refine lv_iconst (v := 1) hx hb dX6_begin_9 (by decide) ?_
  refine va_put (D := (dC, dI)) (ci := 6) (v := .int 1) (ty := .boolean) (C := RX6) (T := TX6) (N := 9) hx hb hts iw_X6_begin_X6 tyX6 tyX6_ok nmX6 hown hK hP hD hS 0 rfl rfl 6 (by decide) (hts (.fieldLink RX6 39 "HolelessHouse$Ordering" "there" "Z") (by decide +kernel)) (fun _ h9 => h9) rfl (by decide +kernel) rfl rfl (Nat.le_of_ble_eq_true rfl) dX6_begin_10 (fun H locs hP hD hS => ?_)
  have hP : va_P (dC, dI) vwCl (([(o1, .inr (6, [.ref o2, .ref o7, .ref o21, .ref o23, .int v25, .int v26, .int 1, .int v28, .int v29])), (o2, .inr (3, [.ref o3, .int y1])), (o30, .inr (4, [.ref o31, .int v33, .int v34])), (o3, .inl (c2, 13, .inr (.inr (.inr (.inr (fun i => if i < 13 then some (rw4 i) else none)))))), (o31, .inl (cI, 12, .inl fw32))] : va_W) ++ (gr13 rw4 cI 12 G2 ++ ([] : va_W))) H := hP
  have hD : va_D A (([(o1, .inr (6, [.ref o2, .ref o7, .ref o21, .ref o23, .int v25, .int v26, .int 1, .int v28, .int v29])), (o2, .inr (3, [.ref o3, .int y1])), (o30, .inr (4, [.ref o31, .int v33, .int v34])), (o3, .inl (c2, 13, .inr (.inr (.inr (.inr (fun i => if i < 13 then some (rw4 i) else none)))))), (o31, .inl (cI, 12, .inl fw32))] : va_W) ++ (gr13 rw4 cI 12 G2 ++ ([] : va_W))) := hD
  refine lv_aload_n hx hb dX6_begin_13 rfl (lv_at hl 0 rfl) ?_
  refine lv_aload_n hx hb dX6_begin_14 rfl (lv_at hl 1 rfl) ?_
  refine va_getN (D := (dC, dI)) (ci := 4) (v := .int v33) (C := RX4) (T := TX4) (N := 3) hx hb hts iw_X6_begin_X4 hown hK hP 2 rfl rfl 1 (by decide) (hN.use ns_13) (fun _ h9 => h9) rfl dX6_begin_15 ?_
  refine va_put (D := (dC, dI)) (ci := 6) (v := .int v33) (ty := .int) (C := RX6) (T := TX6) (N := 9) hx hb hts iw_X6_begin_X6 tyX6 tyX6_ok nmX6 hown hK hP hD hS 0 rfl rfl 5 (by decide) (hts (.fieldLink RX6 36 "HolelessHouse$Ordering" "size" "I") (by decide +kernel)) (fun _ h9 => h9) rfl (by decide +kernel) rfl rfl (Nat.le_of_ble_eq_true rfl) dX6_begin_18 (fun H locs hP hD hS => ?_)
  have hP : va_P (dC, dI) vwCl (([(o1, .inr (6, [.ref o2, .ref o7, .ref o21, .ref o23, .int v25, .int v33, .int 1, .int v28, .int v29])), (o2, .inr (3, [.ref o3, .int y1])), (o30, .inr (4, [.ref o31, .int v33, .int v34])), (o3, .inl (c2, 13, .inr (.inr (.inr (.inr (fun i => if i < 13 then some (rw4 i) else none)))))), (o31, .inl (cI, 12, .inl fw32))] : va_W) ++ (gr13 rw4 cI 12 G2 ++ ([] : va_W))) H := hP
  have hD : va_D A (([(o1, .inr (6, [.ref o2, .ref o7, .ref o21, .ref o23, .int v25, .int v33, .int 1, .int v28, .int v29])), (o2, .inr (3, [.ref o3, .int y1])), (o30, .inr (4, [.ref o31, .int v33, .int v34])), (o3, .inl (c2, 13, .inr (.inr (.inr (.inr (fun i => if i < 13 then some (rw4 i) else none)))))), (o31, .inl (cI, 12, .inl fw32))] : va_W) ++ (gr13 rw4 cI 12 G2 ++ ([] : va_W))) := hD
  refine lv_aload_n hx hb dX6_begin_21 rfl (lv_at hl 0 rfl) ?_
  refine lv_iconst (v := 0) hx hb dX6_begin_22 (by decide) ?_
  refine va_put (D := (dC, dI)) (ci := 6) (v := .int 0) (ty := .int) (C := RX6) (T := TX6) (N := 9) hx hb hts iw_X6_begin_X6 tyX6 tyX6_ok nmX6 hown hK hP hD hS 0 rfl rfl 7 (by decide) (hts (.fieldLink RX6 43 "HolelessHouse$Ordering" "filled" "I") (by decide +kernel)) (fun _ h9 => h9) rfl (by decide +kernel) rfl rfl (Nat.le_of_ble_eq_true rfl) dX6_begin_23 (fun H locs hP hD hS => ?_)
  have hP : va_P (dC, dI) vwCl (([(o1, .inr (6, [.ref o2, .ref o7, .ref o21, .ref o23, .int v25, .int v33, .int 1, .int 0, .int v29])), (o2, .inr (3, [.ref o3, .int y1])), (o30, .inr (4, [.ref o31, .int v33, .int v34])), (o3, .inl (c2, 13, .inr (.inr (.inr (.inr (fun i => if i < 13 then some (rw4 i) else none)))))), (o31, .inl (cI, 12, .inl fw32))] : va_W) ++ (gr13 rw4 cI 12 G2 ++ ([] : va_W))) H := hP
  have hD : va_D A (([(o1, .inr (6, [.ref o2, .ref o7, .ref o21, .ref o23, .int v25, .int v33, .int 1, .int 0, .int v29])), (o2, .inr (3, [.ref o3, .int y1])), (o30, .inr (4, [.ref o31, .int v33, .int v34])), (o3, .inl (c2, 13, .inr (.inr (.inr (.inr (fun i => if i < 13 then some (rw4 i) else none)))))), (o31, .inl (cI, 12, .inl fw32))] : va_W) ++ (gr13 rw4 cI 12 G2 ++ ([] : va_W))) := hD
  refine lv_aload_n hx hb dX6_begin_26 rfl (lv_at hl 0 rfl) ?_
  refine lv_iconst (v := 0) hx hb dX6_begin_27 (by decide) ?_
  refine va_put (D := (dC, dI)) (ci := 6) (v := .int 0) (ty := .int) (C := RX6) (T := TX6) (N := 9) hx hb hts iw_X6_begin_X6 tyX6 tyX6_ok nmX6 hown hK hP hD hS 0 rfl rfl 8 (by decide) (hts (.fieldLink RX6 46 "HolelessHouse$Ordering" "width" "I") (by decide +kernel)) (fun _ h9 => h9) rfl (by decide +kernel) rfl rfl (Nat.le_of_ble_eq_true rfl) dX6_begin_28 (fun H locs hP hD hS => ?_)
  have hP : va_P (dC, dI) vwCl (([(o1, .inr (6, [.ref o2, .ref o7, .ref o21, .ref o23, .int v25, .int v33, .int 1, .int 0, .int 0])), (o2, .inr (3, [.ref o3, .int y1])), (o30, .inr (4, [.ref o31, .int v33, .int v34])), (o3, .inl (c2, 13, .inr (.inr (.inr (.inr (fun i => if i < 13 then some (rw4 i) else none)))))), (o31, .inl (cI, 12, .inl fw32))] : va_W) ++ (gr13 rw4 cI 12 G2 ++ ([] : va_W))) H := hP
  have hD : va_D A (([(o1, .inr (6, [.ref o2, .ref o7, .ref o21, .ref o23, .int v25, .int v33, .int 1, .int 0, .int 0])), (o2, .inr (3, [.ref o3, .int y1])), (o30, .inr (4, [.ref o31, .int v33, .int v34])), (o3, .inl (c2, 13, .inr (.inr (.inr (.inr (fun i => if i < 13 then some (rw4 i) else none)))))), (o31, .inl (cI, 12, .inl fw32))] : va_W) ++ (gr13 rw4 cI 12 G2 ++ ([] : va_W))) := hD
  rw [hQ]
  exact W.vret hx hb hr (fun t ht hW => ⟨⟨(v33, 1, 0, 0, y1, G2), rfl, ⟨v33_h, (iv_w ik_1 (by decide)), y1_h, G2_b⟩, by rw [ht]; exact hP, va_K.moved hW.alike hK, hD⟩, hS.F ht⟩) hS.2.2 dX6_begin_31
set_option maxHeartbeats 4000000 in
set_option maxRecDepth 100000 in
theorem kJ6_numberOfTrailingZeros_0f7a4_1 (l : Launch) (dC : Nat → ClassId) (dI : Nat → Nat → Nat) (cI c2 cZ : ClassId) (a0 : Int32) (sz : Nat) (a0_h : Iv 1 4095 a0) : Met l yJ6_numberOfTrailingZeros_0f7a4 wsJ6_numberOfTrailingZeros_0f7a4 ({ frames := 0, cells := 0, slots := 0, locals := 0 }) (va_Pc [.int a0] (wPre (dC, dI) [(cI, .int), (c2, .array .int), (cZ, .boolean)] ([]) sz)) (va_Qi (fun (r : Int32) (_ : Unit) => Iv 0 11 r) (fun _ t => wPost (dC, dI) [(cI, .int), (c2, .array .int), (cZ, .boolean)] (va_A ([]) sz) ([]) t) (va_A ([]) sz)) 0 0 (va_A ([]) sz) := by
  refine Met.ofW (cc := cJ6_numberOfTrailingZeros_0f7a4) (maxL := 2) (ret := (some .int)) (by decide) rfl ?_
  intro p e s m args below meth c s₁ B hml hv
  obtain ⟨rfl, hsz, hP, hK, hD0, hN⟩ := hv
  have hx := B.exec
  have hb := B.bytes
  have hr := B.returns
  have hts := atoms_spec (ws := wsJ6_numberOfTrailingZeros_0f7a4) B.pre
  have hown : s.vm.findClass RJ6 = some m.cls := findClass_of_methodNamed B.named
  have hlocks := B.notSynchronized
  subst hsz
  have hD := hD0.self (sz := s.heap.size)
  generalize hAe : va_A ([]) s.heap.size = A at hD ⊢
  have hA : ∀ q : Nat, s.heap.size ≤ q → A q := fun q h => by rw [← hAe]; exact Or.inr h
  have hS : va_S A s.heap s.heap [] := va_S.rf
  have hP : va_P (dC, dI) vwCl ([]) s.heap := hP
  have hl := lv_entry ([.int a0]) (n := 2) (Nat.le_of_ble_eq_true rfl)
  rw [lg_entry_eq]
  generalize (lg_sl ([.int a0]) ++ List.replicate (2 - (lg_sl ([.int a0])).length) Slot.unset).toArray = ls at hl ⊢
  have hl : lv_has ls 2 [(0, .int a0)] := hl
  refine gen_Q (fun Q hQ => ?_)
  refine lv_iload_n hx hb dJ6_numberOfTrailingZeros_0f7a4_0 rfl (lv_at hl 0 rfl) ?_
  refine lv_iconst (v := (-1)) hx hb dJ6_numberOfTrailingZeros_0f7a4_1 (by decide) ?_
  refine lv_ixor hx hb dJ6_numberOfTrailingZeros_0f7a4_2 (lv_topi (fun x1 x1_e => ?_))
  refine lv_iload_n hx hb dJ6_numberOfTrailingZeros_0f7a4_3 rfl (lv_at hl 0 rfl) ?_
  refine lv_iconst (v := 1) hx hb dJ6_numberOfTrailingZeros_0f7a4_4 (by decide) ?_
  refine lv_isub hx hb dJ6_numberOfTrailingZeros_0f7a4_5 (lv_topi (fun x2 x2_e => ?_))
  have x2_h : Iv 0 4094 x2 := iv_e x2_e (iv_sub a0_h ik_1 (by decide))
  refine lv_iand hx hb dJ6_numberOfTrailingZeros_0f7a4_6 (lv_topi (fun x3 x3_e => ?_))
  have x3_h : Iv 0 2047 x3 := iv_e x3_e (ntz_m x1_e x2_e a0_h)
  refine lv_istore_n (lv' := [(0, .int x3)]) hx hb dJ6_numberOfTrailingZeros_0f7a4_7 rfl hl (by decide) rfl (fun ls hl => ?_)
  refine lv_iload_n hx hb dJ6_numberOfTrailingZeros_0f7a4_8 rfl (lv_at hl 0 rfl) ?_
  refine lv_if_gt (tgt := 17) hx hb dJ6_numberOfTrailingZeros_0f7a4_9 (by decide) (fun h4 => ?_) (fun h4 => ?_)
  ·
    have qh4 := lt_i h4
    have j5 : Iv 1 2047 x3 := r_ltr qh4 ik_0 x3_h (by decide)
    refine lv_iconst (v := 1) hx hb dJ6_numberOfTrailingZeros_0f7a4_17 (by decide) ?_
    refine lv_istore_n (lv' := [(1, .int 1), (0, .int x3)]) hx hb dJ6_numberOfTrailingZeros_0f7a4_18 rfl hl (by decide) rfl (fun ls hl => ?_)
    refine lv_iload_n hx hb dJ6_numberOfTrailingZeros_0f7a4_19 rfl (lv_at hl 1 rfl) ?_
    refine lv_ldcw (v := 65536) hx hb hown (hts (.constant RJ6 264 (65536)) (by decide +kernel)) dJ6_numberOfTrailingZeros_0f7a4_20 ?_
    refine lv_icmp_le (tgt := 34) hx hb dJ6_numberOfTrailingZeros_0f7a4_23 (by decide) (fun _ => ?_) (fun h9 => absurd (d_le j5 ik_65536 (by decide)) h9)
    refine lv_iload_n hx hb dJ6_numberOfTrailingZeros_0f7a4_34 rfl (lv_at hl 1 rfl) ?_
    refine lv_sipush (v := 256) hx hb dJ6_numberOfTrailingZeros_0f7a4_35 (by decide) ?_
    refine lv_icmp_le (tgt := 49) hx hb dJ6_numberOfTrailingZeros_0f7a4_38 (by decide) (fun h6 => ?_) (fun h6 => ?_)
    ·
      have qh6 := le_i h6
      have j7 : Iv 1 256 x3 := r_lel qh6 j5 ik_256 (by decide)
      refine lv_iload_n hx hb dJ6_numberOfTrailingZeros_0f7a4_49 rfl (lv_at hl 1 rfl) ?_
      refine lv_bipush (v := 16) hx hb dJ6_numberOfTrailingZeros_0f7a4_50 (by decide) ?_
      refine lv_icmp_le (tgt := 62) hx hb dJ6_numberOfTrailingZeros_0f7a4_52 (by decide) (fun h8 => ?_) (fun h8 => ?_)
      ·
        have qh8 := le_i h8
        have j9 : Iv 1 16 x3 := r_lel qh8 j7 ik_16 (by decide)
        refine lv_iload_n hx hb dJ6_numberOfTrailingZeros_0f7a4_62 rfl (lv_at hl 1 rfl) ?_
        refine lv_iconst (v := 4) hx hb dJ6_numberOfTrailingZeros_0f7a4_63 (by decide) ?_
        refine lv_icmp_le (tgt := 74) hx hb dJ6_numberOfTrailingZeros_0f7a4_64 (by decide) (fun h10 => ?_) (fun h10 => ?_)
        ·
          have qh10 := le_i h10
          have j11 : Iv 1 4 x3 := r_lel qh10 j9 ik_4 (by decide)
          refine lv_iload_n hx hb dJ6_numberOfTrailingZeros_0f7a4_74 rfl (lv_at hl 0 rfl) ?_
          refine lv_iload_n hx hb dJ6_numberOfTrailingZeros_0f7a4_75 rfl (lv_at hl 1 rfl) ?_
          refine lv_iconst (v := 1) hx hb dJ6_numberOfTrailingZeros_0f7a4_76 (by decide) ?_
          obtain ⟨x12, x12_e⟩ : ∃ z : Int32, z = (Int32.toUInt32 x3 >>> (Int32.toUInt32 1 &&& Int32.toUInt32 31)).toInt32 := ⟨_, rfl⟩
          refine lv_iushr (v := x12) hx hb dJ6_numberOfTrailingZeros_0f7a4_77 x12_e.symm ?_
          have x12_h : Iv 0 2 x12 := iv_e x12_e (iv_ushr 1 j11 (by decide +kernel) (by decide))
          refine lv_iadd hx hb dJ6_numberOfTrailingZeros_0f7a4_78 (lv_topi (fun x13 x13_e => ?_))
          have x13_h : Iv 1 3 x13 := iv_e x13_e (iv_add ik_1 x12_h (by decide))
          rw [hQ]
          exact W.iret (v := x13) hx hb hr (fun t ht hW => ⟨⟨x13, (), rfl, (iv_w x13_h (by decide)), by rw [ht]; exact hP, va_K.moved hW.alike hK, hD⟩, hS.F ht⟩) hS.2.2 dJ6_numberOfTrailingZeros_0f7a4_79
        ·
          have qh10 := nle_i h10
          have j14 : Iv 5 16 x3 := r_ltr qh10 ik_4 j9 (by decide)
          refine lv_iinc (v := 3) (lv' := [(1, .int 3), (0, .int x3)]) hx hb dJ6_numberOfTrailingZeros_0f7a4_67 hl (k := 0) rfl (by decide +kernel) (by decide) rfl (fun ls hl => ?_)
          refine lv_iload_n hx hb dJ6_numberOfTrailingZeros_0f7a4_70 rfl (lv_at hl 1 rfl) ?_
          refine lv_iconst (v := 2) hx hb dJ6_numberOfTrailingZeros_0f7a4_71 (by decide) ?_
          obtain ⟨x15, x15_e⟩ : ∃ z : Int32, z = (Int32.toUInt32 x3 >>> (Int32.toUInt32 2 &&& Int32.toUInt32 31)).toInt32 := ⟨_, rfl⟩
          refine lv_iushr (v := x15) hx hb dJ6_numberOfTrailingZeros_0f7a4_72 x15_e.symm ?_
          have x15_h : Iv 1 4 x15 := iv_e x15_e (iv_ushr 2 j14 (by decide +kernel) (by decide))
          refine lv_istore_n (lv' := [(0, .int x15), (1, .int 3)]) hx hb dJ6_numberOfTrailingZeros_0f7a4_73 rfl hl (by decide) rfl (fun ls hl => ?_)
          refine lv_iload_n hx hb dJ6_numberOfTrailingZeros_0f7a4_74 rfl (lv_at hl 1 rfl) ?_
          refine lv_iload_n hx hb dJ6_numberOfTrailingZeros_0f7a4_75 rfl (lv_at hl 0 rfl) ?_
          refine lv_iconst (v := 1) hx hb dJ6_numberOfTrailingZeros_0f7a4_76 (by decide) ?_
          obtain ⟨x16, x16_e⟩ : ∃ z : Int32, z = (Int32.toUInt32 x15 >>> (Int32.toUInt32 1 &&& Int32.toUInt32 31)).toInt32 := ⟨_, rfl⟩
          refine lv_iushr (v := x16) hx hb dJ6_numberOfTrailingZeros_0f7a4_77 x16_e.symm ?_
          have x16_h : Iv 0 2 x16 := iv_e x16_e (iv_ushr 1 x15_h (by decide +kernel) (by decide))
          refine lv_iadd hx hb dJ6_numberOfTrailingZeros_0f7a4_78 (lv_topi (fun x17 x17_e => ?_))
          have x17_h : Iv 3 5 x17 := iv_e x17_e (iv_add ik_3 x16_h (by decide))
          rw [hQ]
          exact W.iret (v := x17) hx hb hr (fun t ht hW => ⟨⟨x17, (), rfl, (iv_w x17_h (by decide)), by rw [ht]; exact hP, va_K.moved hW.alike hK, hD⟩, hS.F ht⟩) hS.2.2 dJ6_numberOfTrailingZeros_0f7a4_79
      ·
        have qh8 := nle_i h8
        have j18 : Iv 17 256 x3 := r_ltr qh8 ik_16 j7 (by decide)
        refine lv_iinc (v := 5) (lv' := [(1, .int 5), (0, .int x3)]) hx hb dJ6_numberOfTrailingZeros_0f7a4_55 hl (k := 0) rfl (by decide +kernel) (by decide) rfl (fun ls hl => ?_)
        refine lv_iload_n hx hb dJ6_numberOfTrailingZeros_0f7a4_58 rfl (lv_at hl 1 rfl) ?_
        refine lv_iconst (v := 4) hx hb dJ6_numberOfTrailingZeros_0f7a4_59 (by decide) ?_
        obtain ⟨x19, x19_e⟩ : ∃ z : Int32, z = (Int32.toUInt32 x3 >>> (Int32.toUInt32 4 &&& Int32.toUInt32 31)).toInt32 := ⟨_, rfl⟩
        refine lv_iushr (v := x19) hx hb dJ6_numberOfTrailingZeros_0f7a4_60 x19_e.symm ?_
        have x19_h : Iv 1 16 x19 := iv_e x19_e (iv_ushr 4 j18 (by decide +kernel) (by decide))
        refine lv_istore_n (lv' := [(0, .int x19), (1, .int 5)]) hx hb dJ6_numberOfTrailingZeros_0f7a4_61 rfl hl (by decide) rfl (fun ls hl => ?_)
        refine lv_iload_n hx hb dJ6_numberOfTrailingZeros_0f7a4_62 rfl (lv_at hl 0 rfl) ?_
        refine lv_iconst (v := 4) hx hb dJ6_numberOfTrailingZeros_0f7a4_63 (by decide) ?_
        refine lv_icmp_le (tgt := 74) hx hb dJ6_numberOfTrailingZeros_0f7a4_64 (by decide) (fun h20 => ?_) (fun h20 => ?_)
        ·
          have qh20 := le_i h20
          have j21 : Iv 1 4 x19 := r_lel qh20 x19_h ik_4 (by decide)
          refine lv_iload_n hx hb dJ6_numberOfTrailingZeros_0f7a4_74 rfl (lv_at hl 1 rfl) ?_
          refine lv_iload_n hx hb dJ6_numberOfTrailingZeros_0f7a4_75 rfl (lv_at hl 0 rfl) ?_
          refine lv_iconst (v := 1) hx hb dJ6_numberOfTrailingZeros_0f7a4_76 (by decide) ?_
          obtain ⟨x22, x22_e⟩ : ∃ z : Int32, z = (Int32.toUInt32 x19 >>> (Int32.toUInt32 1 &&& Int32.toUInt32 31)).toInt32 := ⟨_, rfl⟩
          refine lv_iushr (v := x22) hx hb dJ6_numberOfTrailingZeros_0f7a4_77 x22_e.symm ?_
          have x22_h : Iv 0 2 x22 := iv_e x22_e (iv_ushr 1 j21 (by decide +kernel) (by decide))
          refine lv_iadd hx hb dJ6_numberOfTrailingZeros_0f7a4_78 (lv_topi (fun x23 x23_e => ?_))
          have x23_h : Iv 5 7 x23 := iv_e x23_e (iv_add ik_5 x22_h (by decide))
          rw [hQ]
          exact W.iret (v := x23) hx hb hr (fun t ht hW => ⟨⟨x23, (), rfl, (iv_w x23_h (by decide)), by rw [ht]; exact hP, va_K.moved hW.alike hK, hD⟩, hS.F ht⟩) hS.2.2 dJ6_numberOfTrailingZeros_0f7a4_79
        ·
          have qh20 := nle_i h20
          have j24 : Iv 5 16 x19 := r_ltr qh20 ik_4 x19_h (by decide)
          refine lv_iinc (v := 7) (lv' := [(1, .int 7), (0, .int x19)]) hx hb dJ6_numberOfTrailingZeros_0f7a4_67 hl (k := 1) rfl (by decide +kernel) (by decide) rfl (fun ls hl => ?_)
          refine lv_iload_n hx hb dJ6_numberOfTrailingZeros_0f7a4_70 rfl (lv_at hl 1 rfl) ?_
          refine lv_iconst (v := 2) hx hb dJ6_numberOfTrailingZeros_0f7a4_71 (by decide) ?_
          obtain ⟨x25, x25_e⟩ : ∃ z : Int32, z = (Int32.toUInt32 x19 >>> (Int32.toUInt32 2 &&& Int32.toUInt32 31)).toInt32 := ⟨_, rfl⟩
          refine lv_iushr (v := x25) hx hb dJ6_numberOfTrailingZeros_0f7a4_72 x25_e.symm ?_
          have x25_h : Iv 1 4 x25 := iv_e x25_e (iv_ushr 2 j24 (by decide +kernel) (by decide))
          refine lv_istore_n (lv' := [(0, .int x25), (1, .int 7)]) hx hb dJ6_numberOfTrailingZeros_0f7a4_73 rfl hl (by decide) rfl (fun ls hl => ?_)
          refine lv_iload_n hx hb dJ6_numberOfTrailingZeros_0f7a4_74 rfl (lv_at hl 1 rfl) ?_
          refine lv_iload_n hx hb dJ6_numberOfTrailingZeros_0f7a4_75 rfl (lv_at hl 0 rfl) ?_
          refine lv_iconst (v := 1) hx hb dJ6_numberOfTrailingZeros_0f7a4_76 (by decide) ?_
          obtain ⟨x26, x26_e⟩ : ∃ z : Int32, z = (Int32.toUInt32 x25 >>> (Int32.toUInt32 1 &&& Int32.toUInt32 31)).toInt32 := ⟨_, rfl⟩
          refine lv_iushr (v := x26) hx hb dJ6_numberOfTrailingZeros_0f7a4_77 x26_e.symm ?_
          have x26_h : Iv 0 2 x26 := iv_e x26_e (iv_ushr 1 x25_h (by decide +kernel) (by decide))
          refine lv_iadd hx hb dJ6_numberOfTrailingZeros_0f7a4_78 (lv_topi (fun x27 x27_e => ?_))
          have x27_h : Iv 7 9 x27 := iv_e x27_e (iv_add ik_7 x26_h (by decide))
          rw [hQ]
          exact W.iret (v := x27) hx hb hr (fun t ht hW => ⟨⟨x27, (), rfl, (iv_w x27_h (by decide)), by rw [ht]; exact hP, va_K.moved hW.alike hK, hD⟩, hS.F ht⟩) hS.2.2 dJ6_numberOfTrailingZeros_0f7a4_79
    ·
      have qh6 := nle_i h6
      have j28 : Iv 257 2047 x3 := r_ltr qh6 ik_256 j5 (by decide)
      refine lv_iinc (v := 9) (lv' := [(1, .int 9), (0, .int x3)]) hx hb dJ6_numberOfTrailingZeros_0f7a4_41 hl (k := 0) rfl (by decide +kernel) (by decide) rfl (fun ls hl => ?_)
      refine lv_iload_n hx hb dJ6_numberOfTrailingZeros_0f7a4_44 rfl (lv_at hl 1 rfl) ?_
      refine lv_bipush (v := 8) hx hb dJ6_numberOfTrailingZeros_0f7a4_45 (by decide) ?_
      obtain ⟨x29, x29_e⟩ : ∃ z : Int32, z = (Int32.toUInt32 x3 >>> (Int32.toUInt32 8 &&& Int32.toUInt32 31)).toInt32 := ⟨_, rfl⟩
      refine lv_iushr (v := x29) hx hb dJ6_numberOfTrailingZeros_0f7a4_47 x29_e.symm ?_
      have x29_h : Iv 1 7 x29 := iv_e x29_e (iv_ushr 8 j28 (by decide +kernel) (by decide))
      refine lv_istore_n (lv' := [(0, .int x29), (1, .int 9)]) hx hb dJ6_numberOfTrailingZeros_0f7a4_48 rfl hl (by decide) rfl (fun ls hl => ?_)
      refine lv_iload_n hx hb dJ6_numberOfTrailingZeros_0f7a4_49 rfl (lv_at hl 0 rfl) ?_
      refine lv_bipush (v := 16) hx hb dJ6_numberOfTrailingZeros_0f7a4_50 (by decide) ?_
      refine lv_icmp_le (tgt := 62) hx hb dJ6_numberOfTrailingZeros_0f7a4_52 (by decide) (fun _ => ?_) (fun h9 => absurd (d_le x29_h ik_16 (by decide)) h9)
      refine lv_iload_n hx hb dJ6_numberOfTrailingZeros_0f7a4_62 rfl (lv_at hl 0 rfl) ?_
      refine lv_iconst (v := 4) hx hb dJ6_numberOfTrailingZeros_0f7a4_63 (by decide) ?_
      refine lv_icmp_le (tgt := 74) hx hb dJ6_numberOfTrailingZeros_0f7a4_64 (by decide) (fun h30 => ?_) (fun h30 => ?_)
      ·
        have qh30 := le_i h30
        have j31 : Iv 1 4 x29 := r_lel qh30 x29_h ik_4 (by decide)
        refine lv_iload_n hx hb dJ6_numberOfTrailingZeros_0f7a4_74 rfl (lv_at hl 1 rfl) ?_
        refine lv_iload_n hx hb dJ6_numberOfTrailingZeros_0f7a4_75 rfl (lv_at hl 0 rfl) ?_
        refine lv_iconst (v := 1) hx hb dJ6_numberOfTrailingZeros_0f7a4_76 (by decide) ?_
        obtain ⟨x32, x32_e⟩ : ∃ z : Int32, z = (Int32.toUInt32 x29 >>> (Int32.toUInt32 1 &&& Int32.toUInt32 31)).toInt32 := ⟨_, rfl⟩
        refine lv_iushr (v := x32) hx hb dJ6_numberOfTrailingZeros_0f7a4_77 x32_e.symm ?_
        have x32_h : Iv 0 2 x32 := iv_e x32_e (iv_ushr 1 j31 (by decide +kernel) (by decide))
        refine lv_iadd hx hb dJ6_numberOfTrailingZeros_0f7a4_78 (lv_topi (fun x33 x33_e => ?_))
        have x33_h : Iv 9 11 x33 := iv_e x33_e (iv_add ik_9 x32_h (by decide))
        rw [hQ]
        exact W.iret (v := x33) hx hb hr (fun t ht hW => ⟨⟨x33, (), rfl, (iv_w x33_h (by decide)), by rw [ht]; exact hP, va_K.moved hW.alike hK, hD⟩, hS.F ht⟩) hS.2.2 dJ6_numberOfTrailingZeros_0f7a4_79
      ·
        have qh30 := nle_i h30
        have j34 : Iv 5 7 x29 := r_ltr qh30 ik_4 x29_h (by decide)
        refine lv_iinc (v := 11) (lv' := [(1, .int 11), (0, .int x29)]) hx hb dJ6_numberOfTrailingZeros_0f7a4_67 hl (k := 1) rfl (by decide +kernel) (by decide) rfl (fun ls hl => ?_)
        refine lv_iload_n hx hb dJ6_numberOfTrailingZeros_0f7a4_70 rfl (lv_at hl 1 rfl) ?_
        refine lv_iconst (v := 2) hx hb dJ6_numberOfTrailingZeros_0f7a4_71 (by decide) ?_
        obtain ⟨x35, x35_e⟩ : ∃ z : Int32, z = (Int32.toUInt32 x29 >>> (Int32.toUInt32 2 &&& Int32.toUInt32 31)).toInt32 := ⟨_, rfl⟩
        refine lv_iushr (v := x35) hx hb dJ6_numberOfTrailingZeros_0f7a4_72 x35_e.symm ?_
        have x35_h : Iv 1 1 x35 := iv_e x35_e (iv_ushr 2 j34 (by decide +kernel) (by decide))
        refine lv_istore_n (lv' := [(0, .int x35), (1, .int 11)]) hx hb dJ6_numberOfTrailingZeros_0f7a4_73 rfl hl (by decide) rfl (fun ls hl => ?_)
        refine lv_iload_n hx hb dJ6_numberOfTrailingZeros_0f7a4_74 rfl (lv_at hl 1 rfl) ?_
        refine lv_iload_n hx hb dJ6_numberOfTrailingZeros_0f7a4_75 rfl (lv_at hl 0 rfl) ?_
        refine lv_iconst (v := 1) hx hb dJ6_numberOfTrailingZeros_0f7a4_76 (by decide) ?_
        obtain ⟨x36, x36_e⟩ : ∃ z : Int32, z = (Int32.toUInt32 x35 >>> (Int32.toUInt32 1 &&& Int32.toUInt32 31)).toInt32 := ⟨_, rfl⟩
        refine lv_iushr (v := x36) hx hb dJ6_numberOfTrailingZeros_0f7a4_77 x36_e.symm ?_
        have x36_h : Iv 0 0 x36 := iv_e x36_e (iv_ushr 1 x35_h (by decide +kernel) (by decide))
        refine lv_iadd hx hb dJ6_numberOfTrailingZeros_0f7a4_78 (lv_topi (fun x37 x37_e => ?_))
        have x37_h : Iv 11 11 x37 := iv_e x37_e (iv_add ik_11 x36_h (by decide))
        rw [hQ]
        exact W.iret (v := x37) hx hb hr (fun t ht hW => ⟨⟨x37, (), rfl, (iv_w x37_h (by decide)), by rw [ht]; exact hP, va_K.moved hW.alike hK, hD⟩, hS.F ht⟩) hS.2.2 dJ6_numberOfTrailingZeros_0f7a4_79
  ·
    have qh4 := nlt_i h4
    have j38 : Iv 0 0 x3 := r_lel qh4 x3_h ik_0 (by decide)
    refine lv_iload_n hx hb dJ6_numberOfTrailingZeros_0f7a4_12 rfl (lv_at hl 0 rfl) ?_
    refine lv_bipush (v := 32) hx hb dJ6_numberOfTrailingZeros_0f7a4_13 (by decide) ?_
    refine lv_iand hx hb dJ6_numberOfTrailingZeros_0f7a4_15 (lv_topi (fun x39 x39_e => ?_))
    have x39_h : Iv 0 0 x39 := iv_e x39_e (iv_andL _ j38 (by decide))
    rw [hQ]
    exact W.iret (v := x39) hx hb hr (fun t ht hW => ⟨⟨x39, (), rfl, (iv_w x39_h (by decide)), by rw [ht]; exact hP, va_K.moved hW.alike hK, hD⟩, hS.F ht⟩) hS.2.2 dJ6_numberOfTrailingZeros_0f7a4_16
set_option maxHeartbeats 4000000 in
set_option maxRecDepth 100000 in
theorem kJ6_bitCount_0f7a4_1 (l : Launch) (dC : Nat → ClassId) (dI : Nat → Nat → Nat) (cI c2 cZ : ClassId) (a0 : Int32) (sz : Nat) : Met l yJ6_bitCount_0f7a4 wsJ6_bitCount_0f7a4 ({ frames := 0, cells := 0, slots := 0, locals := 0 }) (va_Pc [.int a0] (wPre (dC, dI) [(cI, .int), (c2, .array .int), (cZ, .boolean)] ([]) sz)) (va_Qi (fun (r : Int32) (_ : Unit) => Iv 0 63 r) (fun _ t => wPost (dC, dI) [(cI, .int), (c2, .array .int), (cZ, .boolean)] (va_A ([]) sz) ([]) t) (va_A ([]) sz)) 0 0 (va_A ([]) sz) := by
  refine Met.ofW (cc := cJ6_bitCount_0f7a4) (maxL := 1) (ret := (some .int)) (by decide) rfl ?_
  intro p e s m args below meth c s₁ B hml hv
  obtain ⟨rfl, hsz, hP, hK, hD0, hN⟩ := hv
  have hx := B.exec
  have hb := B.bytes
  have hr := B.returns
  have hts := atoms_spec (ws := wsJ6_bitCount_0f7a4) B.pre
  have hown : s.vm.findClass RJ6 = some m.cls := findClass_of_methodNamed B.named
  have hlocks := B.notSynchronized
  subst hsz
  have hD := hD0.self (sz := s.heap.size)
  generalize hAe : va_A ([]) s.heap.size = A at hD ⊢
  have hA : ∀ q : Nat, s.heap.size ≤ q → A q := fun q h => by rw [← hAe]; exact Or.inr h
  have hS : va_S A s.heap s.heap [] := va_S.rf
  have hP : va_P (dC, dI) vwCl ([]) s.heap := hP
  have hl := lv_entry ([.int a0]) (n := 1) (Nat.le_of_ble_eq_true rfl)
  rw [lg_entry_eq]
  generalize (lg_sl ([.int a0]) ++ List.replicate (1 - (lg_sl ([.int a0])).length) Slot.unset).toArray = ls at hl ⊢
  have hl : lv_has ls 1 [(0, .int a0)] := hl
  refine gen_Q (fun Q hQ => ?_)
  refine lv_iload_n hx hb dJ6_bitCount_0f7a4_0 rfl (lv_at hl 0 rfl) ?_
  refine lv_iload_n hx hb dJ6_bitCount_0f7a4_1 rfl (lv_at hl 0 rfl) ?_
  refine lv_iconst (v := 1) hx hb dJ6_bitCount_0f7a4_2 (by decide) ?_
  obtain ⟨x1, x1_e⟩ : ∃ z : Int32, z = (Int32.toUInt32 a0 >>> (Int32.toUInt32 1 &&& Int32.toUInt32 31)).toInt32 := ⟨_, rfl⟩
  refine lv_iushr (v := x1) hx hb dJ6_bitCount_0f7a4_3 x1_e.symm ?_
  refine lv_ldcw (v := 1431655765) hx hb hown (hts (.constant RJ6 265 (1431655765)) (by decide +kernel)) dJ6_bitCount_0f7a4_4 ?_
  refine lv_iand hx hb dJ6_bitCount_0f7a4_7 (lv_topi (fun x2 x2_e => ?_))
  have x2_h : Iv 0 1431655765 x2 := iv_e x2_e (iv_andR _ ik_1431655765 (by decide))
  refine lv_isub hx hb dJ6_bitCount_0f7a4_8 (lv_topi (fun x3 x3_e => ?_))
  refine lv_istore_n (lv' := [(0, .int x3)]) hx hb dJ6_bitCount_0f7a4_9 rfl hl (by decide) rfl (fun ls hl => ?_)
  refine lv_iload_n hx hb dJ6_bitCount_0f7a4_10 rfl (lv_at hl 0 rfl) ?_
  refine lv_ldcw (v := 858993459) hx hb hown (hts (.constant RJ6 266 (858993459)) (by decide +kernel)) dJ6_bitCount_0f7a4_11 ?_
  refine lv_iand hx hb dJ6_bitCount_0f7a4_14 (lv_topi (fun x4 x4_e => ?_))
  have x4_h : Iv 0 858993459 x4 := iv_e x4_e (iv_andR _ ik_858993459 (by decide))
  refine lv_iload_n hx hb dJ6_bitCount_0f7a4_15 rfl (lv_at hl 0 rfl) ?_
  refine lv_iconst (v := 2) hx hb dJ6_bitCount_0f7a4_16 (by decide) ?_
  obtain ⟨x5, x5_e⟩ : ∃ z : Int32, z = (Int32.toUInt32 x3 >>> (Int32.toUInt32 2 &&& Int32.toUInt32 31)).toInt32 := ⟨_, rfl⟩
  refine lv_iushr (v := x5) hx hb dJ6_bitCount_0f7a4_17 x5_e.symm ?_
  refine lv_ldcw (v := 858993459) hx hb hown (hts (.constant RJ6 266 (858993459)) (by decide +kernel)) dJ6_bitCount_0f7a4_18 ?_
  refine lv_iand hx hb dJ6_bitCount_0f7a4_21 (lv_topi (fun x6 x6_e => ?_))
  have x6_h : Iv 0 858993459 x6 := iv_e x6_e (iv_andR _ ik_858993459 (by decide))
  refine lv_iadd hx hb dJ6_bitCount_0f7a4_22 (lv_topi (fun x7 x7_e => ?_))
  have x7_h : Iv 0 1717986918 x7 := iv_e x7_e (iv_add x4_h x6_h (by decide))
  refine lv_istore_n (lv' := [(0, .int x7)]) hx hb dJ6_bitCount_0f7a4_23 rfl hl (by decide) rfl (fun ls hl => ?_)
  refine lv_iload_n hx hb dJ6_bitCount_0f7a4_24 rfl (lv_at hl 0 rfl) ?_
  refine lv_iload_n hx hb dJ6_bitCount_0f7a4_25 rfl (lv_at hl 0 rfl) ?_
  refine lv_iconst (v := 4) hx hb dJ6_bitCount_0f7a4_26 (by decide) ?_
  obtain ⟨x8, x8_e⟩ : ∃ z : Int32, z = (Int32.toUInt32 x7 >>> (Int32.toUInt32 4 &&& Int32.toUInt32 31)).toInt32 := ⟨_, rfl⟩
  refine lv_iushr (v := x8) hx hb dJ6_bitCount_0f7a4_27 x8_e.symm ?_
  have x8_h : Iv 0 107374182 x8 := iv_e x8_e (iv_ushr 4 x7_h (by decide +kernel) (by decide))
  refine lv_iadd hx hb dJ6_bitCount_0f7a4_28 (lv_topi (fun x9 x9_e => ?_))
  have x9_h : Iv 0 1825361100 x9 := iv_e x9_e (iv_add x7_h x8_h (by decide))
  refine lv_ldcw (v := 252645135) hx hb hown (hts (.constant RJ6 267 (252645135)) (by decide +kernel)) dJ6_bitCount_0f7a4_29 ?_
  refine lv_iand hx hb dJ6_bitCount_0f7a4_32 (lv_topi (fun x10 x10_e => ?_))
  have x10_h : Iv 0 252645135 x10 := iv_e x10_e (iv_andR _ ik_252645135 (by decide))
  refine lv_istore_n (lv' := [(0, .int x10)]) hx hb dJ6_bitCount_0f7a4_33 rfl hl (by decide) rfl (fun ls hl => ?_)
  refine lv_iload_n hx hb dJ6_bitCount_0f7a4_34 rfl (lv_at hl 0 rfl) ?_
  refine lv_iload_n hx hb dJ6_bitCount_0f7a4_35 rfl (lv_at hl 0 rfl) ?_
  refine lv_bipush (v := 8) hx hb dJ6_bitCount_0f7a4_36 (by decide) ?_
  obtain ⟨x11, x11_e⟩ : ∃ z : Int32, z = (Int32.toUInt32 x10 >>> (Int32.toUInt32 8 &&& Int32.toUInt32 31)).toInt32 := ⟨_, rfl⟩
  refine lv_iushr (v := x11) hx hb dJ6_bitCount_0f7a4_38 x11_e.symm ?_
  have x11_h : Iv 0 986895 x11 := iv_e x11_e (iv_ushr 8 x10_h (by decide +kernel) (by decide))
  refine lv_iadd hx hb dJ6_bitCount_0f7a4_39 (lv_topi (fun x12 x12_e => ?_))
  have x12_h : Iv 0 253632030 x12 := iv_e x12_e (iv_add x10_h x11_h (by decide))
  refine lv_istore_n (lv' := [(0, .int x12)]) hx hb dJ6_bitCount_0f7a4_40 rfl hl (by decide) rfl (fun ls hl => ?_)
  refine lv_iload_n hx hb dJ6_bitCount_0f7a4_41 rfl (lv_at hl 0 rfl) ?_
  refine lv_iload_n hx hb dJ6_bitCount_0f7a4_42 rfl (lv_at hl 0 rfl) ?_
  refine lv_bipush (v := 16) hx hb dJ6_bitCount_0f7a4_43 (by decide) ?_
  obtain ⟨x13, x13_e⟩ : ∃ z : Int32, z = (Int32.toUInt32 x12 >>> (Int32.toUInt32 16 &&& Int32.toUInt32 31)).toInt32 := ⟨_, rfl⟩
  refine lv_iushr (v := x13) hx hb dJ6_bitCount_0f7a4_45 x13_e.symm ?_
  have x13_h : Iv 0 3870 x13 := iv_e x13_e (iv_ushr 16 x12_h (by decide +kernel) (by decide))
  refine lv_iadd hx hb dJ6_bitCount_0f7a4_46 (lv_topi (fun x14 x14_e => ?_))
  have x14_h : Iv 0 253635900 x14 := iv_e x14_e (iv_add x12_h x13_h (by decide))
  refine lv_istore_n (lv' := [(0, .int x14)]) hx hb dJ6_bitCount_0f7a4_47 rfl hl (by decide) rfl (fun ls hl => ?_)
  refine lv_iload_n hx hb dJ6_bitCount_0f7a4_48 rfl (lv_at hl 0 rfl) ?_
  refine lv_bipush (v := 63) hx hb dJ6_bitCount_0f7a4_49 (by decide) ?_
  refine lv_iand hx hb dJ6_bitCount_0f7a4_51 (lv_topi (fun x15 x15_e => ?_))
  have x15_h : Iv 0 63 x15 := iv_e x15_e (iv_andR _ ik_63 (by decide))
  rw [hQ]
  exact W.iret (v := x15) hx hb hr (fun t ht hW => ⟨⟨x15, (), rfl, x15_h, by rw [ht]; exact hP, va_K.moved hW.alike hK, hD⟩, hS.F ht⟩) hS.2.2 dJ6_bitCount_0f7a4_52
set_option maxHeartbeats 4000000 in
set_option maxRecDepth 100000 in
theorem kX11_withoutLeast_1 (l : Launch) (dC : Nat → ClassId) (dI : Nat → Nat → Nat) (cI c2 cZ : ClassId) (a0 : Int32) (sz : Nat) (a0_h : Iv 0 4095 a0) : Met l yX11_withoutLeast wsX11_withoutLeast ({ frames := 0, cells := 0, slots := 0, locals := 0 }) (va_Pc [.int a0] (wPre (dC, dI) [(cI, .int), (c2, .array .int), (cZ, .boolean)] ([]) sz)) (va_Qi (fun (r : Int32) (_ : Unit) => Iv 0 4095 r) (fun _ t => wPost (dC, dI) [(cI, .int), (c2, .array .int), (cZ, .boolean)] (va_A ([]) sz) ([]) t) (va_A ([]) sz)) 0 0 (va_A ([]) sz) := by
  refine Met.ofW (cc := cX11_withoutLeast) (maxL := 1) (ret := (some .int)) (by decide) rfl ?_
  intro p e s m args below meth c s₁ B hml hv
  obtain ⟨rfl, hsz, hP, hK, hD0, hN⟩ := hv
  have hx := B.exec
  have hb := B.bytes
  have hr := B.returns
  have hts := atoms_spec (ws := wsX11_withoutLeast) B.pre
  have hown : s.vm.findClass RX11 = some m.cls := findClass_of_methodNamed B.named
  have hlocks := B.notSynchronized
  subst hsz
  have hD := hD0.self (sz := s.heap.size)
  generalize hAe : va_A ([]) s.heap.size = A at hD ⊢
  have hA : ∀ q : Nat, s.heap.size ≤ q → A q := fun q h => by rw [← hAe]; exact Or.inr h
  have hS : va_S A s.heap s.heap [] := va_S.rf
  have hP : va_P (dC, dI) vwCl ([]) s.heap := hP
  have hl := lv_entry ([.int a0]) (n := 1) (Nat.le_of_ble_eq_true rfl)
  rw [lg_entry_eq]
  generalize (lg_sl ([.int a0]) ++ List.replicate (1 - (lg_sl ([.int a0])).length) Slot.unset).toArray = ls at hl ⊢
  have hl : lv_has ls 1 [(0, .int a0)] := hl
  refine gen_Q (fun Q hQ => ?_)
  refine lv_iload_n hx hb dX11_withoutLeast_0 rfl (lv_at hl 0 rfl) ?_
  refine lv_iload_n hx hb dX11_withoutLeast_1 rfl (lv_at hl 0 rfl) ?_
  refine lv_iconst (v := 1) hx hb dX11_withoutLeast_2 (by decide) ?_
  refine lv_isub hx hb dX11_withoutLeast_3 (lv_topi (fun x1 x1_e => ?_))
  have x1_h : Iv (-1) 4094 x1 := iv_e x1_e (iv_sub a0_h ik_1 (by decide))
  refine lv_iand hx hb dX11_withoutLeast_4 (lv_topi (fun x2 x2_e => ?_))
  have x2_h : Iv 0 4095 x2 := iv_e x2_e (iv_andL _ a0_h (by decide))
  rw [hQ]
  exact W.iret (v := x2) hx hb hr (fun t ht hW => ⟨⟨x2, (), rfl, x2_h, by rw [ht]; exact hP, va_K.moved hW.alike hK, hD⟩, hS.F ht⟩) hS.2.2 dX11_withoutLeast_5
theorem iw_X3_lack_X3 : ∀ w ∈ wsX30, w ∈ wsX3_lack := by decide +kernel
set_option maxHeartbeats 4000000 in
set_option maxRecDepth 100000 in
theorem kX3_lack_1 (l : Launch) (dC : Nat → ClassId) (dI : Nat → Nat → Nat) (cI c2 cZ : ClassId) (o1 : Nat) (o2 : Nat) (rw3 : Nat → Nat) (Gw4 : Nat → Nat → Int32) (v5 : Int32) (a1 : Int32) (a2 : Int32) (sz : Nat) (Gw4_b : Bg 13 12 0 4095 Gw4) (v5_h : Iv 0 12 v5) (a1_h : Iv 0 11 a1) (a2_h : Iv 0 11 a2) : Met l yX3_lack wsX3_lack ({ frames := 1, cells := 0, slots := 0, locals := 21 }) (va_Pc [.ref o1, .int a1, .int a2] (wPre (dC, dI) [(cI, .int), (c2, .array .int), (cZ, .boolean)] (([(o1, .inr (3, [.ref o2, .int v5])), (o2, .inl (c2, 13, .inr (.inr (.inr (.inr (fun i => if i < 13 then some (rw3 i) else none))))))] : va_W) ++ (gr13 rw3 cI 12 Gw4 ++ ([] : va_W))) sz)) (va_Qi (fun (r : Int32) (_ : Unit) => True) (fun _ t => wPost (dC, dI) [(cI, .int), (c2, .array .int), (cZ, .boolean)] (va_A (([(o1, .inr (3, [.ref o2, .int v5])), (o2, .inl (c2, 13, .inr (.inr (.inr (.inr (fun i => if i < 13 then some (rw3 i) else none))))))] : va_W) ++ (gr13 rw3 cI 12 Gw4 ++ ([] : va_W))) sz) (([(o1, .inr (3, [.ref o2, .int v5])), (o2, .inl (c2, 13, .inr (.inr (.inr (.inr (fun i => if i < 13 then some (rw3 i) else none))))))] : va_W) ++ (gr13 rw3 cI 12 Gw4 ++ ([] : va_W))) t) (va_A (([(o1, .inr (3, [.ref o2, .int v5])), (o2, .inl (c2, 13, .inr (.inr (.inr (.inr (fun i => if i < 13 then some (rw3 i) else none))))))] : va_W) ++ (gr13 rw3 cI 12 Gw4 ++ ([] : va_W))) sz)) 0 0 (va_A (([(o1, .inr (3, [.ref o2, .int v5])), (o2, .inl (c2, 13, .inr (.inr (.inr (.inr (fun i => if i < 13 then some (rw3 i) else none))))))] : va_W) ++ (gr13 rw3 cI 12 Gw4 ++ ([] : va_W))) sz) := by
  refine Met.ofW (cc := cX3_lack) (maxL := 8) (ret := (some .int)) (by decide) rfl ?_
  intro p e s m args below meth c s₁ B hml hv
  obtain ⟨rfl, hsz, hP, hK, hD0, hN⟩ := hv
  have hx := B.exec
  have hb := B.bytes
  have hr := B.returns
  have hts := atoms_spec (ws := wsX3_lack) B.pre
  have hown : s.vm.findClass RX3 = some m.cls := findClass_of_methodNamed B.named
  have hlocks := B.notSynchronized
  subst hsz
  have hD := hD0.self (sz := s.heap.size)
  generalize hAe : va_A (([(o1, .inr (3, [.ref o2, .int v5])), (o2, .inl (c2, 13, .inr (.inr (.inr (.inr (fun i => if i < 13 then some (rw3 i) else none))))))] : va_W) ++ (gr13 rw3 cI 12 Gw4 ++ ([] : va_W))) s.heap.size = A at hD ⊢
  have hA : ∀ q : Nat, s.heap.size ≤ q → A q := fun q h => by rw [← hAe]; exact Or.inr h
  have hS : va_S A s.heap s.heap [] := va_S.rf
  have hP : va_P (dC, dI) vwCl (([(o1, .inr (3, [.ref o2, .int v5])), (o2, .inl (c2, 13, .inr (.inr (.inr (.inr (fun i => if i < 13 then some (rw3 i) else none))))))] : va_W) ++ (gr13 rw3 cI 12 Gw4 ++ ([] : va_W))) s.heap := hP
  have hl := lv_entry ([.ref o1, .int a1, .int a2]) (n := 8) (Nat.le_of_ble_eq_true rfl)
  rw [lg_entry_eq]
  generalize (lg_sl ([.ref o1, .int a1, .int a2]) ++ List.replicate (8 - (lg_sl ([.ref o1, .int a1, .int a2])).length) Slot.unset).toArray = ls at hl ⊢
  have hl : lv_has ls 8 [(0, .ref o1), (1, .int a1), (2, .int a2)] := hl
  refine gen_Q (fun Q hQ => ?_)
  refine lv_aload_n hx hb dX3_lack_0 rfl (lv_at hl 0 rfl) ?_
  refine va_get (D := (dC, dI)) (ci := 3) (v := .ref o2) (C := RX3) (T := TX3) (N := 2) hx hb hts iw_X3_lack_X3 hown hK hP 0 rfl rfl 0 (by decide) (hts (.fieldLink RX3 11 "HolelessHouse$Going" "near" "[[I") (by decide +kernel)) (fun _ h9 => h9) rfl dX3_lack_1 ?_
  refine lv_iload_n hx hb dX3_lack_4 rfl (lv_at hl 1 rfl) ?_
  refine va_alda hx hb hK hP 1 1 rfl rfl (vin_iv a1_h (by decide)) dX3_lack_5 (tk_r (v := .ref (rw3 (Int32.toNatClampNeg a1))) (gr_ref (cl_lt a1_h (by decide))) ?_)
  refine lv_astore_n (lv' := [(3, .ref (rw3 (Int32.toNatClampNeg a1))), (0, .ref o1), (1, .int a1), (2, .int a2)]) hx hb dX3_lack_6 rfl hl (by decide) rfl (fun ls hl => ?_)
  refine lv_aload_n hx hb dX3_lack_7 rfl (lv_at hl 0 rfl) ?_
  refine lv_iload_n hx hb dX3_lack_8 rfl (lv_at hl 3 rfl) ?_
  refine va_iald hx hb hK hP (2 + (Int32.toNatClampNeg a1)) 0 (gr13_get (pre := ([(o1, .inr (3, [.ref o2, .int v5])), (o2, .inl (c2, 13, .inr (.inr (.inr (.inr (fun i => if i < 13 then some (rw3 i) else none))))))] : va_W)) (post := ([] : va_W)) rfl (cl_lt a1_h (by decide))) rfl (vin_iv a2_h (by decide)) dX3_lack_9 (lv_topi (fun x1 x1_e => ?_))
  have x1_h : Iv 0 4095 x1 := iv_e x1_e (bg_at Gw4_b (cl_lt a1_h (by decide)) (vin_iv a2_h (by decide)))
  refine lv_istore (lv' := [(4, .int x1), (3, .ref (rw3 (Int32.toNatClampNeg a1))), (0, .ref o1), (1, .int a1), (2, .int a2)]) hx hb dX3_lack_10 hl (by decide) rfl (fun ls hl => ?_)
  refine lv_iconst (v := 0) hx hb dX3_lack_12 (by decide) ?_
  refine lv_istore (lv' := [(5, .int 0), (4, .int x1), (3, .ref (rw3 (Int32.toNatClampNeg a1))), (0, .ref o1), (1, .int a1), (2, .int a2)]) hx hb dX3_lack_13 hl (by decide) rfl (fun ls hl => ?_)
  refine lv_iload hx hb dX3_lack_15 (lv_at hl 1 rfl) ?_
  refine lv_istore (lv' := [(6, .int x1), (5, .int 0), (4, .int x1), (3, .ref (rw3 (Int32.toNatClampNeg a1))), (0, .ref o1), (1, .int a1), (2, .int a2)]) hx hb dX3_lack_17 hl (by decide) rfl (fun ls hl => ?_)
  refine lv_iconst (v := 0) hx hb dX3_lack_19 (by decide) ?_
  refine lv_istore (lv' := [(7, .int 0), (6, .int x1), (5, .int 0), (4, .int x1), (3, .ref (rw3 (Int32.toNatClampNeg a1))), (0, .ref o1), (1, .int a1), (2, .int a2)]) hx hb dX3_lack_20 hl (by decide) rfl (fun ls hl => ?_)
  have L1 : ∀ (N : Nat) (x142 : Int32) (x143 : Int32) (x144 : Int32) (H : Heap) (locs : List Loc) (ls : Array Slot), (12 - x142.toInt).toNat < N → Iv 0 12 x142 → Iv 0 4095 x143 → va_P (dC, dI) vwCl (([(o1, .inr (3, [.ref o2, .int v5])), (o2, .inl (c2, 13, .inr (.inr (.inr (.inr (fun i => if i < 13 then some (rw3 i) else none))))))] : va_W) ++ (gr13 rw3 cI 12 Gw4 ++ ([] : va_W))) H → va_D A (([(o1, .inr (3, [.ref o2, .int v5])), (o2, .inl (c2, 13, .inr (.inr (.inr (.inr (fun i => if i < 13 then some (rw3 i) else none))))))] : va_W) ++ (gr13 rw3 cI 12 Gw4 ++ ([] : va_W))) → va_S A s.heap H locs → lv_has ls 8 [(7, .int x142), (6, .int x143), (5, .int x144), (4, .int x1), (3, .ref (rw3 (Int32.toNatClampNeg a1))), (0, .ref o1), (1, .int a1), (2, .int a2)] → W p l e ({ frames := 1, cells := 0, slots := 0, locals := 21 }) s m ([.ref o1, .int a1, .int a2] : List Value).toArray below meth c H locs 0 0 Q (F0 m 22 ls []) := by
    intro N
    induction N with
    | zero =>
      intro x142 x143 x144 H locs ls hM
      exact absurd hM (Nat.not_lt_zero _)
    | succ N ih1 =>
      intro x142 x143 x144 H locs ls hM1 x142_h x143_h hP hD hS hl
      refine lv_iload hx hb dX3_lack_22 (lv_at hl 0 rfl) ?_
      refine lv_aload_n hx hb dX3_lack_24 rfl (lv_at hl 5 rfl) ?_
      refine va_get (D := (dC, dI)) (ci := 3) (v := .int v5) (C := RX3) (T := TX3) (N := 2) hx hb hts iw_X3_lack_X3 hown hK hP 0 rfl rfl 1 (by decide) (hts (.fieldLink RX3 16 "HolelessHouse$Going" "size" "I") (by decide +kernel)) (fun _ h9 => h9) rfl dX3_lack_25 ?_
      refine lv_icmp_ge (tgt := 71) hx hb dX3_lack_28 (by decide) (fun h145 => ?_) (fun h145 => ?_)
      ·
        have qh145 := le_i h145
        refine lv_iload hx hb dX3_lack_71 (lv_at hl 2 rfl) ?_
        refine lv_iconst (v := 2) hx hb dX3_lack_73 (by decide) ?_
        refine lv_idiv hx hb dX3_lack_74 (by decide +kernel) (lv_topi (fun x146 x146_e => ?_))
        rw [hQ]
        exact W.iret (v := x146) hx hb hr (fun t ht hW => ⟨⟨x146, (), rfl, trivial, by rw [ht]; exact hP, va_K.moved hW.alike hK, hD⟩, hS.F ht⟩) hS.2.2 dX3_lack_75
      ·
        have qh145 := nle_i h145
        have j147 : Iv 0 11 x142 := r_ltl qh145 x142_h v5_h (by decide)
        have j148 : Iv 1 12 v5 := r_ltr qh145 x142_h v5_h (by decide)
        refine lv_iload hx hb dX3_lack_31 (lv_at hl 1 rfl) ?_
        refine lv_if_eq (tgt := 71) hx hb dX3_lack_33 (by decide) (fun h149 => ?_) (fun h149 => ?_)
        ·
          have j150 : Iv 0 0 x143 := r_eq h149 ik_0
          refine lv_iload hx hb dX3_lack_71 (lv_at hl 2 rfl) ?_
          refine lv_iconst (v := 2) hx hb dX3_lack_73 (by decide) ?_
          refine lv_idiv hx hb dX3_lack_74 (by decide +kernel) (lv_topi (fun x151 x151_e => ?_))
          rw [hQ]
          exact W.iret (v := x151) hx hb hr (fun t ht hW => ⟨⟨x151, (), rfl, trivial, by rw [ht]; exact hP, va_K.moved hW.alike hK, hD⟩, hS.F ht⟩) hS.2.2 dX3_lack_75
        ·
          have j152 : Iv 1 4095 x143 := r_nelo h149 x143_h ik_0 (by decide)
          refine lv_iload hx hb dX3_lack_36 (lv_at hl 2 rfl) ?_
          refine lv_iload hx hb dX3_lack_38 (lv_at hl 3 rfl) ?_
          refine lv_aload_n hx hb dX3_lack_40 rfl (lv_at hl 4 rfl) ?_
          refine lv_iload hx hb dX3_lack_41 (lv_at hl 1 rfl) ?_
          refine kc_i (D := (dC, dI)) (S := Unit) (wc := []) (wr := ([(o1, .inr (3, [.ref o2, .int v5])), (o2, .inl (c2, 13, .inr (.inr (.inr (.inr (fun i => if i < 13 then some (rw3 i) else none))))))] : va_W) ++ (gr13 rw3 cI 12 Gw4 ++ ([] : va_W))) (w1 := fun _ => []) (wn := fun _ => ([(o1, .inr (3, [.ref o2, .int v5])), (o2, .inl (c2, 13, .inr (.inr (.inr (.inr (fun i => if i < 13 then some (rw3 i) else none))))))] : va_W) ++ (gr13 rw3 cI 12 Gw4 ++ ([] : va_W))) (fun hPc hDc => va_runS (As := [.int x143]) (rest := [.ref (rw3 (Int32.toNatClampNeg a1)), .int x1, .int x144]) ⟨hx, hb, hml, hown, hts⟩ (kJ6_numberOfTrailingZeros_0f7a4_1 l dC dI cI c2 cZ x143 H.size j152) (va_cwS 1 hts gX3_lack_J6_numberOfTrailingZeros_0f7a4 rfl rfl rfl (by decide +kernel) ⟨Nat.le_of_ble_eq_true rfl, Nat.le_of_ble_eq_true rfl⟩) (pre_S hPc hK hDc hN) rfl rfl hl.1 rfl (lv_room (Nat.le_of_ble_eq_true rfl)) dX3_lack_43 ⟨Nat.le_of_ble_eq_true rfl, Nat.le_of_ble_eq_true rfl⟩) hP hD hS hA [] [0, 1, 2, 3, 4, 5, 6, 7, 8, 9, 10, 11, 12, 13, 14] [0, 1, 2, 3, 4, 5, 6, 7, 8, 9, 10, 11, 12, 13, 14] rfl rfl (by decide) (by decide) (by decide) (by decide) (fun _ => rfl) (fun x153 _ H locs hq hP hD hS => ?_)
          have x153_h := hq
          have hP : va_P (dC, dI) vwCl (([(o1, .inr (3, [.ref o2, .int v5])), (o2, .inl (c2, 13, .inr (.inr (.inr (.inr (fun i => if i < 13 then some (rw3 i) else none))))))] : va_W) ++ (gr13 rw3 cI 12 Gw4 ++ ([] : va_W))) H := hP
          have hD : va_D A (([(o1, .inr (3, [.ref o2, .int v5])), (o2, .inl (c2, 13, .inr (.inr (.inr (.inr (fun i => if i < 13 then some (rw3 i) else none))))))] : va_W) ++ (gr13 rw3 cI 12 Gw4 ++ ([] : va_W))) := hD
          refine va_iald hx hb hK hP (2 + (Int32.toNatClampNeg a1)) 0 (gr13_get (pre := ([(o1, .inr (3, [.ref o2, .int v5])), (o2, .inl (c2, 13, .inr (.inr (.inr (.inr (fun i => if i < 13 then some (rw3 i) else none))))))] : va_W)) (post := ([] : va_W)) rfl (cl_lt a1_h (by decide))) rfl (vin_iv x153_h (by decide)) dX3_lack_46 (lv_topi (fun x154 x154_e => ?_))
          have x154_h : Iv 0 4095 x154 := iv_e x154_e (bg_at Gw4_b (cl_lt a1_h (by decide)) (vin_iv x153_h (by decide)))
          refine lv_iconst (v := (-1)) hx hb dX3_lack_47 (by decide) ?_
          refine lv_ixor hx hb dX3_lack_48 (lv_topi (fun x155 x155_e => ?_))
          refine lv_iand hx hb dX3_lack_49 (lv_topi (fun x156 x156_e => ?_))
          have x156_h : Iv 0 4095 x156 := iv_e x156_e (iv_andL _ x1_h (by decide))
          refine kc_i (D := (dC, dI)) (S := Unit) (wc := []) (wr := ([(o1, .inr (3, [.ref o2, .int v5])), (o2, .inl (c2, 13, .inr (.inr (.inr (.inr (fun i => if i < 13 then some (rw3 i) else none))))))] : va_W) ++ (gr13 rw3 cI 12 Gw4 ++ ([] : va_W))) (w1 := fun _ => []) (wn := fun _ => ([(o1, .inr (3, [.ref o2, .int v5])), (o2, .inl (c2, 13, .inr (.inr (.inr (.inr (fun i => if i < 13 then some (rw3 i) else none))))))] : va_W) ++ (gr13 rw3 cI 12 Gw4 ++ ([] : va_W))) (fun hPc hDc => va_runS (As := [.int x156]) (rest := [.int x144]) ⟨hx, hb, hml, hown, hts⟩ (kJ6_bitCount_0f7a4_1 l dC dI cI c2 cZ x156 H.size) (va_cwS 1 hts gX3_lack_J6_bitCount_0f7a4 rfl rfl rfl (by decide +kernel) ⟨Nat.le_of_ble_eq_true rfl, Nat.le_of_ble_eq_true rfl⟩) (pre_S hPc hK hDc hN) rfl rfl hl.1 rfl (lv_room (Nat.le_of_ble_eq_true rfl)) dX3_lack_50 ⟨Nat.le_of_ble_eq_true rfl, Nat.le_of_ble_eq_true rfl⟩) hP hD hS hA [] [0, 1, 2, 3, 4, 5, 6, 7, 8, 9, 10, 11, 12, 13, 14] [0, 1, 2, 3, 4, 5, 6, 7, 8, 9, 10, 11, 12, 13, 14] rfl rfl (by decide) (by decide) (by decide) (by decide) (fun _ => rfl) (fun x157 _ H locs hq hP hD hS => ?_)
          have x157_h := hq
          have hP : va_P (dC, dI) vwCl (([(o1, .inr (3, [.ref o2, .int v5])), (o2, .inl (c2, 13, .inr (.inr (.inr (.inr (fun i => if i < 13 then some (rw3 i) else none))))))] : va_W) ++ (gr13 rw3 cI 12 Gw4 ++ ([] : va_W))) H := hP
          have hD : va_D A (([(o1, .inr (3, [.ref o2, .int v5])), (o2, .inl (c2, 13, .inr (.inr (.inr (.inr (fun i => if i < 13 then some (rw3 i) else none))))))] : va_W) ++ (gr13 rw3 cI 12 Gw4 ++ ([] : va_W))) := hD
          refine lv_iconst (v := 1) hx hb dX3_lack_53 (by decide) ?_
          refine lv_isub hx hb dX3_lack_54 (lv_topi (fun x158 x158_e => ?_))
          have x158_h : Iv (-1) 62 x158 := iv_e x158_e (iv_sub x157_h ik_1 (by decide))
          refine lv_iadd hx hb dX3_lack_55 (lv_topi (fun x159 x159_e => ?_))
          refine lv_istore (lv' := [(5, .int x159), (7, .int x142), (6, .int x143), (4, .int x1), (3, .ref (rw3 (Int32.toNatClampNeg a1))), (0, .ref o1), (1, .int a1), (2, .int a2)]) hx hb dX3_lack_56 hl (by decide) rfl (fun ls hl => ?_)
          refine lv_iload hx hb dX3_lack_58 (lv_at hl 2 rfl) ?_
          refine kc_i (D := (dC, dI)) (S := Unit) (wc := []) (wr := ([(o1, .inr (3, [.ref o2, .int v5])), (o2, .inl (c2, 13, .inr (.inr (.inr (.inr (fun i => if i < 13 then some (rw3 i) else none))))))] : va_W) ++ (gr13 rw3 cI 12 Gw4 ++ ([] : va_W))) (w1 := fun _ => []) (wn := fun _ => ([(o1, .inr (3, [.ref o2, .int v5])), (o2, .inl (c2, 13, .inr (.inr (.inr (.inr (fun i => if i < 13 then some (rw3 i) else none))))))] : va_W) ++ (gr13 rw3 cI 12 Gw4 ++ ([] : va_W))) (fun hPc hDc => va_runSN (As := [.int x143]) (rest := []) ⟨hx, hb, hml, hown, hts⟩ (kX11_withoutLeast_1 l dC dI cI c2 cZ x143 H.size (iv_w j152 (by decide))) ⟨va_cnB 1 hts gX3_lack_X11_withoutLeast_n38 rfl rfl rfl (hN.1 _ ns_75) (hts (.initialized RX11) (by decide +kernel)) (by decide +kernel) ⟨Nat.le_of_ble_eq_true rfl, Nat.le_of_ble_eq_true rfl⟩, (hts (.static yX11_withoutLeast) (by decide +kernel)), trivial⟩ (pre_S hPc hK hDc hN) rfl rfl hl.1 rfl (lv_room (Nat.le_of_ble_eq_true rfl)) dX3_lack_60 ⟨Nat.le_of_ble_eq_true rfl, Nat.le_of_ble_eq_true rfl⟩) hP hD hS hA [] [0, 1, 2, 3, 4, 5, 6, 7, 8, 9, 10, 11, 12, 13, 14] [0, 1, 2, 3, 4, 5, 6, 7, 8, 9, 10, 11, 12, 13, 14] rfl rfl (by decide) (by decide) (by decide) (by decide) (fun _ => rfl) (fun x160 _ H locs hq hP hD hS => ?_)
          have x160_h := hq
          have hP : va_P (dC, dI) vwCl (([(o1, .inr (3, [.ref o2, .int v5])), (o2, .inl (c2, 13, .inr (.inr (.inr (.inr (fun i => if i < 13 then some (rw3 i) else none))))))] : va_W) ++ (gr13 rw3 cI 12 Gw4 ++ ([] : va_W))) H := hP
          have hD : va_D A (([(o1, .inr (3, [.ref o2, .int v5])), (o2, .inl (c2, 13, .inr (.inr (.inr (.inr (fun i => if i < 13 then some (rw3 i) else none))))))] : va_W) ++ (gr13 rw3 cI 12 Gw4 ++ ([] : va_W))) := hD
          refine lv_istore (lv' := [(6, .int x160), (5, .int x159), (7, .int x142), (4, .int x1), (3, .ref (rw3 (Int32.toNatClampNeg a1))), (0, .ref o1), (1, .int a1), (2, .int a2)]) hx hb dX3_lack_63 hl (by decide) rfl (fun ls hl => ?_)
          obtain ⟨x161, x161_e⟩ : ∃ z : Int32, z = x142 + 1 := ⟨_, rfl⟩
          have x161_h : Iv 1 12 x161 := iv_e x161_e (iv_add j147 ik_1 (by decide))
          refine lv_iinc (v := x161) (lv' := [(7, .int x161), (6, .int x160), (5, .int x159), (4, .int x1), (3, .ref (rw3 (Int32.toNatClampNeg a1))), (0, .ref o1), (1, .int a1), (2, .int a2)]) hx hb dX3_lack_65 hl (k := 2) rfl (incN (by decide +kernel) x161_e) (by decide) rfl (fun ls hl => ?_)
          refine lv_goto (tgt := 22) hx hb dX3_lack_68 (by decide) ?_
          exact ih1 x161 x160 x159 _ _ _ (ms_up x161_e j147 (by decide) hM1) (iv_w x161_h (by decide)) x160_h hP hD hS hl
  exact L1 _ 0 x1 0 _ _ _ (Nat.lt_succ_self _) (iv_w ik_0 (by decide)) x1_h hP hD hS hl
theorem iw_X3_width_X3 : ∀ w ∈ wsX30, w ∈ wsX3_width := by decide +kernel
set_option maxHeartbeats 4000000 in
set_option maxRecDepth 100000 in
theorem kX3_width_1 (l : Launch) (dC : Nat → ClassId) (dI : Nat → Nat → Nat) (cI c2 cZ : ClassId) (o1 : Nat) (o2 : Nat) (rw3 : Nat → Nat) (Gw4 : Nat → Nat → Int32) (v5 : Int32) (a1 : Int32) (a2 : Int32) (sz : Nat) (Gw4_b : Bg 13 12 0 4095 Gw4) (v5_h : Iv 0 12 v5) (a1_h : Iv 0 11 a1) (a2_h : Iv 0 11 a2) : Met l yX3_width wsX3_width ({ frames := 1, cells := 0, slots := 0, locals := 20 }) (va_Pc [.ref o1, .int a1, .int a2] (wPre (dC, dI) [(cI, .int), (c2, .array .int), (cZ, .boolean)] (([(o1, .inr (3, [.ref o2, .int v5])), (o2, .inl (c2, 13, .inr (.inr (.inr (.inr (fun i => if i < 13 then some (rw3 i) else none))))))] : va_W) ++ (gr13 rw3 cI 12 Gw4 ++ ([] : va_W))) sz)) (va_Qi (fun (r : Int32) (_ : Unit) => Iv 0 63 r) (fun _ t => wPost (dC, dI) [(cI, .int), (c2, .array .int), (cZ, .boolean)] (va_A (([(o1, .inr (3, [.ref o2, .int v5])), (o2, .inl (c2, 13, .inr (.inr (.inr (.inr (fun i => if i < 13 then some (rw3 i) else none))))))] : va_W) ++ (gr13 rw3 cI 12 Gw4 ++ ([] : va_W))) sz) (([(o1, .inr (3, [.ref o2, .int v5])), (o2, .inl (c2, 13, .inr (.inr (.inr (.inr (fun i => if i < 13 then some (rw3 i) else none))))))] : va_W) ++ (gr13 rw3 cI 12 Gw4 ++ ([] : va_W))) t) (va_A (([(o1, .inr (3, [.ref o2, .int v5])), (o2, .inl (c2, 13, .inr (.inr (.inr (.inr (fun i => if i < 13 then some (rw3 i) else none))))))] : va_W) ++ (gr13 rw3 cI 12 Gw4 ++ ([] : va_W))) sz)) 0 0 (va_A (([(o1, .inr (3, [.ref o2, .int v5])), (o2, .inl (c2, 13, .inr (.inr (.inr (.inr (fun i => if i < 13 then some (rw3 i) else none))))))] : va_W) ++ (gr13 rw3 cI 12 Gw4 ++ ([] : va_W))) sz) := by
  refine Met.ofW (cc := cX3_width) (maxL := 3) (ret := (some .int)) (by decide) rfl ?_
  intro p e s m args below meth c s₁ B hml hv
  obtain ⟨rfl, hsz, hP, hK, hD0, hN⟩ := hv
  have hx := B.exec
  have hb := B.bytes
  have hr := B.returns
  have hts := atoms_spec (ws := wsX3_width) B.pre
  have hown : s.vm.findClass RX3 = some m.cls := findClass_of_methodNamed B.named
  have hlocks := B.notSynchronized
  subst hsz
  have hD := hD0.self (sz := s.heap.size)
  generalize hAe : va_A (([(o1, .inr (3, [.ref o2, .int v5])), (o2, .inl (c2, 13, .inr (.inr (.inr (.inr (fun i => if i < 13 then some (rw3 i) else none))))))] : va_W) ++ (gr13 rw3 cI 12 Gw4 ++ ([] : va_W))) s.heap.size = A at hD ⊢
  have hA : ∀ q : Nat, s.heap.size ≤ q → A q := fun q h => by rw [← hAe]; exact Or.inr h
  have hS : va_S A s.heap s.heap [] := va_S.rf
  have hP : va_P (dC, dI) vwCl (([(o1, .inr (3, [.ref o2, .int v5])), (o2, .inl (c2, 13, .inr (.inr (.inr (.inr (fun i => if i < 13 then some (rw3 i) else none))))))] : va_W) ++ (gr13 rw3 cI 12 Gw4 ++ ([] : va_W))) s.heap := hP
  have hl := lv_entry ([.ref o1, .int a1, .int a2]) (n := 3) (Nat.le_of_ble_eq_true rfl)
  rw [lg_entry_eq]
  generalize (lg_sl ([.ref o1, .int a1, .int a2]) ++ List.replicate (3 - (lg_sl ([.ref o1, .int a1, .int a2])).length) Slot.unset).toArray = ls at hl ⊢
  have hl : lv_has ls 3 [(0, .ref o1), (1, .int a1), (2, .int a2)] := hl
  refine gen_Q (fun Q hQ => ?_)
  refine lv_aload_n hx hb dX3_width_0 rfl (lv_at hl 0 rfl) ?_
  refine va_get (D := (dC, dI)) (ci := 3) (v := .ref o2) (C := RX3) (T := TX3) (N := 2) hx hb hts iw_X3_width_X3 hown hK hP 0 rfl rfl 0 (by decide) (hts (.fieldLink RX3 11 "HolelessHouse$Going" "near" "[[I") (by decide +kernel)) (fun _ h9 => h9) rfl dX3_width_1 ?_
  refine lv_iload_n hx hb dX3_width_4 rfl (lv_at hl 1 rfl) ?_
  refine va_alda hx hb hK hP 1 1 rfl rfl (vin_iv a1_h (by decide)) dX3_width_5 (tk_r (v := .ref (rw3 (Int32.toNatClampNeg a1))) (gr_ref (cl_lt a1_h (by decide))) ?_)
  refine lv_iload_n hx hb dX3_width_6 rfl (lv_at hl 2 rfl) ?_
  refine va_iald hx hb hK hP (2 + (Int32.toNatClampNeg a1)) 0 (gr13_get (pre := ([(o1, .inr (3, [.ref o2, .int v5])), (o2, .inl (c2, 13, .inr (.inr (.inr (.inr (fun i => if i < 13 then some (rw3 i) else none))))))] : va_W)) (post := ([] : va_W)) rfl (cl_lt a1_h (by decide))) rfl (vin_iv a2_h (by decide)) dX3_width_7 (lv_topi (fun x1 x1_e => ?_))
  have x1_h : Iv 0 4095 x1 := iv_e x1_e (bg_at Gw4_b (cl_lt a1_h (by decide)) (vin_iv a2_h (by decide)))
  refine kc_i (D := (dC, dI)) (S := Unit) (wc := []) (wr := ([(o1, .inr (3, [.ref o2, .int v5])), (o2, .inl (c2, 13, .inr (.inr (.inr (.inr (fun i => if i < 13 then some (rw3 i) else none))))))] : va_W) ++ (gr13 rw3 cI 12 Gw4 ++ ([] : va_W))) (w1 := fun _ => []) (wn := fun _ => ([(o1, .inr (3, [.ref o2, .int v5])), (o2, .inl (c2, 13, .inr (.inr (.inr (.inr (fun i => if i < 13 then some (rw3 i) else none))))))] : va_W) ++ (gr13 rw3 cI 12 Gw4 ++ ([] : va_W))) (fun hPc hDc => va_runS (As := [.int x1]) (rest := []) ⟨hx, hb, hml, hown, hts⟩ (kJ6_bitCount_0f7a4_1 l dC dI cI c2 cZ x1 s.heap.size) (va_cwS 1 hts gX3_width_J6_bitCount_0f7a4 rfl rfl rfl (by decide +kernel) ⟨Nat.le_of_ble_eq_true rfl, Nat.le_of_ble_eq_true rfl⟩) (pre_S hPc hK hDc hN) rfl rfl hl.1 rfl (lv_room (Nat.le_of_ble_eq_true rfl)) dX3_width_8 ⟨Nat.le_of_ble_eq_true rfl, Nat.le_of_ble_eq_true rfl⟩) hP hD hS hA [] [0, 1, 2, 3, 4, 5, 6, 7, 8, 9, 10, 11, 12, 13, 14] [0, 1, 2, 3, 4, 5, 6, 7, 8, 9, 10, 11, 12, 13, 14] rfl rfl (by decide) (by decide) (by decide) (by decide) (fun _ => rfl) (fun x2 _ H locs hq hP hD hS => ?_)
  have x2_h := hq
  have hP : va_P (dC, dI) vwCl (([(o1, .inr (3, [.ref o2, .int v5])), (o2, .inl (c2, 13, .inr (.inr (.inr (.inr (fun i => if i < 13 then some (rw3 i) else none))))))] : va_W) ++ (gr13 rw3 cI 12 Gw4 ++ ([] : va_W))) H := hP
  have hD : va_D A (([(o1, .inr (3, [.ref o2, .int v5])), (o2, .inl (c2, 13, .inr (.inr (.inr (.inr (fun i => if i < 13 then some (rw3 i) else none))))))] : va_W) ++ (gr13 rw3 cI 12 Gw4 ++ ([] : va_W))) := hD
  rw [hQ]
  exact W.iret (v := x2) hx hb hr (fun t ht hW => ⟨⟨x2, (), rfl, x2_h, by rw [ht]; exact hP, va_K.moved hW.alike hK, hD⟩, hS.F ht⟩) hS.2.2 dX3_width_11
theorem iw_X3_leave_X3 : ∀ w ∈ wsX30, w ∈ wsX3_leave := by decide +kernel
set_option maxHeartbeats 4000000 in
set_option maxRecDepth 100000 in
theorem kX3_leave_1 (l : Launch) (dC : Nat → ClassId) (dI : Nat → Nat → Nat) (cI c2 cZ : ClassId) (o1 : Nat) (o2 : Nat) (rw3 : Nat → Nat) (Gw4 : Nat → Nat → Int32) (v5 : Int32) (a1 : Int32) (a2 : Int32) (sz : Nat) (Gw4_b : Bg 13 12 0 4095 Gw4) (v5_h : Iv 0 12 v5) (a1_h : Iv 0 11 a1) (a2_h : Iv 0 11 a2) : Met l yX3_leave wsX3_leave ({ frames := 1, cells := 0, slots := 0, locals := 64 }) (va_Pc [.ref o1, .int a1, .int a2] (wPre (dC, dI) [(cI, .int), (c2, .array .int), (cZ, .boolean)] (([(o1, .inr (3, [.ref o2, .int v5])), (o2, .inl (c2, 13, .inr (.inr (.inr (.inr (fun i => if i < 13 then some (rw3 i) else none))))))] : va_W) ++ (gr13 rw3 cI 12 Gw4 ++ ([] : va_W))) sz)) (va_Qv (fun (u : (Nat → Nat → Int32)) => Bg 13 12 0 4095 u) (fun u t => wPost (dC, dI) [(cI, .int), (c2, .array .int), (cZ, .boolean)] (va_A (([(o1, .inr (3, [.ref o2, .int v5])), (o2, .inl (c2, 13, .inr (.inr (.inr (.inr (fun i => if i < 13 then some (rw3 i) else none))))))] : va_W) ++ (gr13 rw3 cI 12 Gw4 ++ ([] : va_W))) sz) (([(o1, .inr (3, [.ref o2, .int v5])), (o2, .inl (c2, 13, .inr (.inr (.inr (.inr (fun i => if i < 13 then some (rw3 i) else none))))))] : va_W) ++ (gr13 rw3 cI 12 u ++ ([] : va_W))) t) (va_A (([(o1, .inr (3, [.ref o2, .int v5])), (o2, .inl (c2, 13, .inr (.inr (.inr (.inr (fun i => if i < 13 then some (rw3 i) else none))))))] : va_W) ++ (gr13 rw3 cI 12 Gw4 ++ ([] : va_W))) sz)) 0 0 (va_A (([(o1, .inr (3, [.ref o2, .int v5])), (o2, .inl (c2, 13, .inr (.inr (.inr (.inr (fun i => if i < 13 then some (rw3 i) else none))))))] : va_W) ++ (gr13 rw3 cI 12 Gw4 ++ ([] : va_W))) sz) := by
  refine Met.ofW (cc := cX3_leave) (maxL := 8) (ret := none) (by decide) rfl ?_
  intro p e s m args below meth c s₁ B hml hv
  obtain ⟨rfl, hsz, hP, hK, hD0, hN⟩ := hv
  have hx := B.exec
  have hb := B.bytes
  have hr := B.returns
  have hts := atoms_spec (ws := wsX3_leave) B.pre
  have hown : s.vm.findClass RX3 = some m.cls := findClass_of_methodNamed B.named
  have hlocks := B.notSynchronized
  subst hsz
  have hD := hD0.self (sz := s.heap.size)
  generalize hAe : va_A (([(o1, .inr (3, [.ref o2, .int v5])), (o2, .inl (c2, 13, .inr (.inr (.inr (.inr (fun i => if i < 13 then some (rw3 i) else none))))))] : va_W) ++ (gr13 rw3 cI 12 Gw4 ++ ([] : va_W))) s.heap.size = A at hD ⊢
  have hA : ∀ q : Nat, s.heap.size ≤ q → A q := fun q h => by rw [← hAe]; exact Or.inr h
  have hS : va_S A s.heap s.heap [] := va_S.rf
  have hP : va_P (dC, dI) vwCl (([(o1, .inr (3, [.ref o2, .int v5])), (o2, .inl (c2, 13, .inr (.inr (.inr (.inr (fun i => if i < 13 then some (rw3 i) else none))))))] : va_W) ++ (gr13 rw3 cI 12 Gw4 ++ ([] : va_W))) s.heap := hP
  have hl := lv_entry ([.ref o1, .int a1, .int a2]) (n := 8) (Nat.le_of_ble_eq_true rfl)
  rw [lg_entry_eq]
  generalize (lg_sl ([.ref o1, .int a1, .int a2]) ++ List.replicate (8 - (lg_sl ([.ref o1, .int a1, .int a2])).length) Slot.unset).toArray = ls at hl ⊢
  have hl : lv_has ls 8 [(0, .ref o1), (1, .int a1), (2, .int a2)] := hl
  refine gen_Q (fun Q hQ => ?_)
  refine lv_aload_n hx hb dX3_leave_0 rfl (lv_at hl 0 rfl) ?_
  refine va_get (D := (dC, dI)) (ci := 3) (v := .ref o2) (C := RX3) (T := TX3) (N := 2) hx hb hts iw_X3_leave_X3 hown hK hP 0 rfl rfl 0 (by decide) (hts (.fieldLink RX3 11 "HolelessHouse$Going" "near" "[[I") (by decide +kernel)) (fun _ h9 => h9) rfl dX3_leave_1 ?_
  refine lv_iload_n hx hb dX3_leave_4 rfl (lv_at hl 1 rfl) ?_
  refine va_alda hx hb hK hP 1 1 rfl rfl (vin_iv a1_h (by decide)) dX3_leave_5 (tk_r (v := .ref (rw3 (Int32.toNatClampNeg a1))) (gr_ref (cl_lt a1_h (by decide))) ?_)
  refine lv_astore_n (lv' := [(3, .ref (rw3 (Int32.toNatClampNeg a1))), (0, .ref o1), (1, .int a1), (2, .int a2)]) hx hb dX3_leave_6 rfl hl (by decide) rfl (fun ls hl => ?_)
  refine lv_aload_n hx hb dX3_leave_7 rfl (lv_at hl 1 rfl) ?_
  refine va_get (D := (dC, dI)) (ci := 3) (v := .ref o2) (C := RX3) (T := TX3) (N := 2) hx hb hts iw_X3_leave_X3 hown hK hP 0 rfl rfl 0 (by decide) (hts (.fieldLink RX3 11 "HolelessHouse$Going" "near" "[[I") (by decide +kernel)) (fun _ h9 => h9) rfl dX3_leave_8 ?_
  refine lv_iload_n hx hb dX3_leave_11 rfl (lv_at hl 2 rfl) ?_
  refine lv_iconst (v := 1) hx hb dX3_leave_12 (by decide) ?_
  refine lv_iadd hx hb dX3_leave_13 (lv_topi (fun x1 x1_e => ?_))
  have x1_h : Iv 1 12 x1 := iv_e x1_e (iv_add a1_h ik_1 (by decide))
  refine va_alda hx hb hK hP 1 1 rfl rfl (vin_iv x1_h (by decide)) dX3_leave_14 (tk_r (v := .ref (rw3 (Int32.toNatClampNeg x1))) (gr_ref (cl_lt x1_h (by decide))) ?_)
  refine lv_astore (lv' := [(4, .ref (rw3 (Int32.toNatClampNeg x1))), (3, .ref (rw3 (Int32.toNatClampNeg a1))), (0, .ref o1), (1, .int a1), (2, .int a2)]) hx hb dX3_leave_15 hl (by decide) rfl (fun ls hl => ?_)
  refine lv_aload_n hx hb dX3_leave_17 rfl (lv_at hl 1 rfl) ?_
  refine lv_iconst (v := 0) hx hb dX3_leave_18 (by decide) ?_
  refine lv_aload hx hb dX3_leave_19 (lv_at hl 0 rfl) ?_
  refine lv_iconst (v := 0) hx hb dX3_leave_21 (by decide) ?_
  refine lv_bipush (v := 12) hx hb dX3_leave_22 (by decide) ?_
  refine k_gcpy13 (i0 := (Int32.toNatClampNeg x1)) hx hb (hml.trans hl.1.symm) hown (hts (.methodLink RX3 26 arraycopyName) (by decide +kernel)) (hts (.native arraycopyName) (by decide +kernel)) (hts (.static arraycopyName) (by decide +kernel)) (hts (.initialized "java/lang/System") (by decide +kernel)) hK (pre := ([(o1, .inr (3, [.ref o2, .int v5])), (o2, .inl (c2, 13, .inr (.inr (.inr (.inr (fun i => if i < 13 then some (rw3 i) else none))))))] : va_W)) (po := ([] : va_W)) hP hD hS rfl (cl_lt x1_h (by decide)) (2 + (Int32.toNatClampNeg a1)) 0 (gr13_get (pre := ([(o1, .inr (3, [.ref o2, .int v5])), (o2, .inl (c2, 13, .inr (.inr (.inr (.inr (fun i => if i < 13 then some (rw3 i) else none))))))] : va_W)) (post := ([] : va_W)) rfl (cl_lt a1_h (by decide))) rfl (by decide) (by decide) (by decide) (by decide +kernel) (by decide +kernel) (Nat.le_of_ble_eq_true rfl) (by decide +kernel) dX3_leave_24 (fun f2 G3 H locs f2_e G3_e hP hD hS => ?_)
  have G3_b : Bg 13 12 0 4095 G3 := bg_up G3_e Gw4_b (bd_cpy f2_e (Gw4_b _ (cl_lt a1_h (by decide))) (Gw4_b _ (cl_lt x1_h (by decide))) (by decide +kernel))
  have hP : va_P (dC, dI) vwCl (([(o1, .inr (3, [.ref o2, .int v5])), (o2, .inl (c2, 13, .inr (.inr (.inr (.inr (fun i => if i < 13 then some (rw3 i) else none))))))] : va_W) ++ (gr13 rw3 cI 12 G3 ++ ([] : va_W))) H := by simpa only [List.append_assoc] using hP
  have hD : va_D A (([(o1, .inr (3, [.ref o2, .int v5])), (o2, .inl (c2, 13, .inr (.inr (.inr (.inr (fun i => if i < 13 then some (rw3 i) else none))))))] : va_W) ++ (gr13 rw3 cI 12 G3 ++ ([] : va_W))) := by simpa only [List.append_assoc] using hD
  refine lv_aload hx hb dX3_leave_27 (lv_at hl 0 rfl) ?_
  refine lv_iload_n hx hb dX3_leave_29 rfl (lv_at hl 4 rfl) ?_
  refine lv_iconst (v := 0) hx hb dX3_leave_30 (by decide) ?_
  refine k_gast13 (i0 := (Int32.toNatClampNeg x1)) hx hb hK (pre := ([(o1, .inr (3, [.ref o2, .int v5])), (o2, .inl (c2, 13, .inr (.inr (.inr (.inr (fun i => if i < 13 then some (rw3 i) else none))))))] : va_W)) (po := ([] : va_W)) hP hD hS rfl (cl_lt x1_h (by decide)) 0 rfl (vin_iv a2_h (by decide)) dX3_leave_31 (fun f4 G5 H locs f4_e G5_e hP hD hS => ?_)
  have G5_b : Bg 13 12 0 4095 G5 := bg_up G5_e G3_b (bd_upd f4_e (G3_b _ (cl_lt x1_h (by decide))) ik_0 (by decide))
  have hP : va_P (dC, dI) vwCl (([(o1, .inr (3, [.ref o2, .int v5])), (o2, .inl (c2, 13, .inr (.inr (.inr (.inr (fun i => if i < 13 then some (rw3 i) else none))))))] : va_W) ++ (gr13 rw3 cI 12 G5 ++ ([] : va_W))) H := by simpa only [List.append_assoc] using hP
  have hD : va_D A (([(o1, .inr (3, [.ref o2, .int v5])), (o2, .inl (c2, 13, .inr (.inr (.inr (.inr (fun i => if i < 13 then some (rw3 i) else none))))))] : va_W) ++ (gr13 rw3 cI 12 G5 ++ ([] : va_W))) := by simpa only [List.append_assoc] using hD
  refine lv_aload_n hx hb dX3_leave_32 rfl (lv_at hl 1 rfl) ?_
  refine lv_iload_n hx hb dX3_leave_33 rfl (lv_at hl 4 rfl) ?_
  refine va_iald hx hb hK hP (2 + (Int32.toNatClampNeg a1)) 0 (gr13_get (pre := ([(o1, .inr (3, [.ref o2, .int v5])), (o2, .inl (c2, 13, .inr (.inr (.inr (.inr (fun i => if i < 13 then some (rw3 i) else none))))))] : va_W)) (post := ([] : va_W)) rfl (cl_lt a1_h (by decide))) rfl (vin_iv a2_h (by decide)) dX3_leave_34 (lv_topi (fun x6 x6_e => ?_))
  have x6_h : Iv 0 4095 x6 := iv_e x6_e (bg_at G5_b (cl_lt a1_h (by decide)) (vin_iv a2_h (by decide)))
  refine lv_istore (lv' := [(5, .int x6), (4, .ref (rw3 (Int32.toNatClampNeg x1))), (3, .ref (rw3 (Int32.toNatClampNeg a1))), (0, .ref o1), (1, .int a1), (2, .int a2)]) hx hb dX3_leave_35 hl (by decide) rfl (fun ls hl => ?_)
  refine lv_iconst (v := 0) hx hb dX3_leave_37 (by decide) ?_
  refine lv_istore (lv' := [(6, .int 0), (5, .int x6), (4, .ref (rw3 (Int32.toNatClampNeg x1))), (3, .ref (rw3 (Int32.toNatClampNeg a1))), (0, .ref o1), (1, .int a1), (2, .int a2)]) hx hb dX3_leave_38 hl (by decide) rfl (fun ls hl => ?_)
  have L1 : ∀ (N : Nat) (x187 : Int32) (x188 : Int32) (G189 : Nat → Nat → Int32) (H : Heap) (locs : List Loc) (ls : Array Slot), (12 - x187.toInt).toNat < N → Iv 0 12 x187 → Iv 0 4095 x188 → Bg 13 12 0 4095 G189 → va_P (dC, dI) vwCl (([(o1, .inr (3, [.ref o2, .int v5])), (o2, .inl (c2, 13, .inr (.inr (.inr (.inr (fun i => if i < 13 then some (rw3 i) else none))))))] : va_W) ++ (gr13 rw3 cI 12 G189 ++ ([] : va_W))) H → va_D A (([(o1, .inr (3, [.ref o2, .int v5])), (o2, .inl (c2, 13, .inr (.inr (.inr (.inr (fun i => if i < 13 then some (rw3 i) else none))))))] : va_W) ++ (gr13 rw3 cI 12 G189 ++ ([] : va_W))) → va_S A s.heap H locs → lv_has ls 8 [(6, .int x187), (5, .int x188), (4, .ref (rw3 (Int32.toNatClampNeg x1))), (3, .ref (rw3 (Int32.toNatClampNeg a1))), (0, .ref o1), (1, .int a1), (2, .int a2)] → W p l e ({ frames := 1, cells := 0, slots := 0, locals := 64 }) s m ([.ref o1, .int a1, .int a2] : List Value).toArray below meth c H locs 0 0 Q (F0 m 40 ls []) := by
    intro N
    induction N with
    | zero =>
      intro x187 x188 G189 H locs ls hM
      exact absurd hM (Nat.not_lt_zero _)
    | succ N ih1 =>
      intro x187 x188 G189 H locs ls hM1 x187_h x188_h G189_b hP hD hS hl
      refine lv_iload hx hb dX3_leave_40 (lv_at hl 0 rfl) ?_
      refine lv_aload_n hx hb dX3_leave_42 rfl (lv_at hl 4 rfl) ?_
      refine va_get (D := (dC, dI)) (ci := 3) (v := .int v5) (C := RX3) (T := TX3) (N := 2) hx hb hts iw_X3_leave_X3 hown hK hP 0 rfl rfl 1 (by decide) (hts (.fieldLink RX3 16 "HolelessHouse$Going" "size" "I") (by decide +kernel)) (fun _ h9 => h9) rfl dX3_leave_43 ?_
      refine lv_icmp_ge (tgt := 100) hx hb dX3_leave_46 (by decide) (fun h190 => ?_) (fun h190 => ?_)
      ·
        have qh190 := le_i h190
        rw [hQ]
        exact W.vret hx hb hr (fun t ht hW => ⟨⟨G189, rfl, G189_b, by rw [ht]; exact hP, va_K.moved hW.alike hK, hD⟩, hS.F ht⟩) hS.2.2 dX3_leave_100
      ·
        have qh190 := nle_i h190
        have j191 : Iv 0 11 x187 := r_ltl qh190 x187_h v5_h (by decide)
        have j192 : Iv 1 12 v5 := r_ltr qh190 x187_h v5_h (by decide)
        refine lv_iload hx hb dX3_leave_49 (lv_at hl 1 rfl) ?_
        refine lv_if_eq (tgt := 100) hx hb dX3_leave_51 (by decide) (fun h193 => ?_) (fun h193 => ?_)
        ·
          have j194 : Iv 0 0 x188 := r_eq h193 ik_0
          rw [hQ]
          exact W.vret hx hb hr (fun t ht hW => ⟨⟨G189, rfl, G189_b, by rw [ht]; exact hP, va_K.moved hW.alike hK, hD⟩, hS.F ht⟩) hS.2.2 dX3_leave_100
        ·
          have j195 : Iv 1 4095 x188 := r_nelo h193 x188_h ik_0 (by decide)
          refine lv_iload hx hb dX3_leave_54 (lv_at hl 1 rfl) ?_
          refine kc_i (D := (dC, dI)) (S := Unit) (wc := []) (wr := ([(o1, .inr (3, [.ref o2, .int v5])), (o2, .inl (c2, 13, .inr (.inr (.inr (.inr (fun i => if i < 13 then some (rw3 i) else none))))))] : va_W) ++ (gr13 rw3 cI 12 G189 ++ ([] : va_W))) (w1 := fun _ => []) (wn := fun _ => ([(o1, .inr (3, [.ref o2, .int v5])), (o2, .inl (c2, 13, .inr (.inr (.inr (.inr (fun i => if i < 13 then some (rw3 i) else none))))))] : va_W) ++ (gr13 rw3 cI 12 G189 ++ ([] : va_W))) (fun hPc hDc => va_runS (As := [.int x188]) (rest := []) ⟨hx, hb, hml, hown, hts⟩ (kJ6_numberOfTrailingZeros_0f7a4_1 l dC dI cI c2 cZ x188 H.size j195) (va_cwS 1 hts gX3_leave_J6_numberOfTrailingZeros_0f7a4 rfl rfl rfl (by decide +kernel) ⟨Nat.le_of_ble_eq_true rfl, Nat.le_of_ble_eq_true rfl⟩) (pre_S hPc hK hDc hN) rfl rfl hl.1 rfl (lv_room (Nat.le_of_ble_eq_true rfl)) dX3_leave_56 ⟨Nat.le_of_ble_eq_true rfl, Nat.le_of_ble_eq_true rfl⟩) hP hD hS hA [] [0, 1, 2, 3, 4, 5, 6, 7, 8, 9, 10, 11, 12, 13, 14] [0, 1, 2, 3, 4, 5, 6, 7, 8, 9, 10, 11, 12, 13, 14] rfl rfl (by decide) (by decide) (by decide) (by decide) (fun _ => rfl) (fun x196 _ H locs hq hP hD hS => ?_)
          have x196_h := hq
          have hP : va_P (dC, dI) vwCl (([(o1, .inr (3, [.ref o2, .int v5])), (o2, .inl (c2, 13, .inr (.inr (.inr (.inr (fun i => if i < 13 then some (rw3 i) else none))))))] : va_W) ++ (gr13 rw3 cI 12 G189 ++ ([] : va_W))) H := hP
          have hD : va_D A (([(o1, .inr (3, [.ref o2, .int v5])), (o2, .inl (c2, 13, .inr (.inr (.inr (.inr (fun i => if i < 13 then some (rw3 i) else none))))))] : va_W) ++ (gr13 rw3 cI 12 G189 ++ ([] : va_W))) := hD
          refine lv_istore (lv' := [(7, .int x196), (6, .int x187), (5, .int x188), (4, .ref (rw3 (Int32.toNatClampNeg x1))), (3, .ref (rw3 (Int32.toNatClampNeg a1))), (0, .ref o1), (1, .int a1), (2, .int a2)]) hx hb dX3_leave_59 hl (by decide) rfl (fun ls hl => ?_)
          refine lv_aload hx hb dX3_leave_61 (lv_at hl 3 rfl) ?_
          refine lv_iload hx hb dX3_leave_63 (lv_at hl 0 rfl) ?_
          refine lv_aload_n hx hb dX3_leave_65 rfl (lv_at hl 4 rfl) ?_
          refine lv_iload hx hb dX3_leave_66 (lv_at hl 0 rfl) ?_
          refine va_iald hx hb hK hP (2 + (Int32.toNatClampNeg a1)) 0 (gr13_get (pre := ([(o1, .inr (3, [.ref o2, .int v5])), (o2, .inl (c2, 13, .inr (.inr (.inr (.inr (fun i => if i < 13 then some (rw3 i) else none))))))] : va_W)) (post := ([] : va_W)) rfl (cl_lt a1_h (by decide))) rfl (vin_iv x196_h (by decide)) dX3_leave_68 (lv_topi (fun x197 x197_e => ?_))
          have x197_h : Iv 0 4095 x197 := iv_e x197_e (bg_at G189_b (cl_lt a1_h (by decide)) (vin_iv x196_h (by decide)))
          refine lv_aload_n hx hb dX3_leave_69 rfl (lv_at hl 4 rfl) ?_
          refine lv_iload_n hx hb dX3_leave_70 rfl (lv_at hl 7 rfl) ?_
          refine va_iald hx hb hK hP (2 + (Int32.toNatClampNeg a1)) 0 (gr13_get (pre := ([(o1, .inr (3, [.ref o2, .int v5])), (o2, .inl (c2, 13, .inr (.inr (.inr (.inr (fun i => if i < 13 then some (rw3 i) else none))))))] : va_W)) (post := ([] : va_W)) rfl (cl_lt a1_h (by decide))) rfl (vin_iv a2_h (by decide)) dX3_leave_71 (lv_topi (fun x198 x198_e => ?_))
          have x198_h : Iv 0 4095 x198 := iv_e x198_e (bg_at G189_b (cl_lt a1_h (by decide)) (vin_iv a2_h (by decide)))
          refine lv_ior hx hb dX3_leave_72 (lv_topi (fun x199 x199_e => ?_))
          have x199_h : Iv 0 4095 x199 := iv_e x199_e (iv_or 12 x197_h x198_h (by decide))
          refine lv_iconst (v := 1) hx hb dX3_leave_73 (by decide) ?_
          refine lv_iload hx hb dX3_leave_74 (lv_at hl 0 rfl) ?_
          refine lv_ishl hx hb dX3_leave_76 (lv_topi (fun x200 x200_e => ?_))
          have x200_h : Iv 1 2048 x200 := iv_e x200_e (iv_shl1 x196_h (by decide))
          refine lv_iconst (v := (-1)) hx hb dX3_leave_77 (by decide) ?_
          refine lv_ixor hx hb dX3_leave_78 (lv_topi (fun x201 x201_e => ?_))
          refine lv_iand hx hb dX3_leave_79 (lv_topi (fun x202 x202_e => ?_))
          have x202_h : Iv 0 4095 x202 := iv_e x202_e (iv_andL _ x199_h (by decide))
          refine lv_iconst (v := 1) hx hb dX3_leave_80 (by decide) ?_
          refine lv_iload_n hx hb dX3_leave_81 rfl (lv_at hl 7 rfl) ?_
          refine lv_ishl hx hb dX3_leave_82 (lv_topi (fun x203 x203_e => ?_))
          have x203_h : Iv 1 2048 x203 := iv_e x203_e (iv_shl1 a2_h (by decide))
          refine lv_iconst (v := (-1)) hx hb dX3_leave_83 (by decide) ?_
          refine lv_ixor hx hb dX3_leave_84 (lv_topi (fun x204 x204_e => ?_))
          refine lv_iand hx hb dX3_leave_85 (lv_topi (fun x205 x205_e => ?_))
          have x205_h : Iv 0 4095 x205 := iv_e x205_e (iv_andL _ x202_h (by decide))
          refine k_gast13 (i0 := (Int32.toNatClampNeg x1)) hx hb hK (pre := ([(o1, .inr (3, [.ref o2, .int v5])), (o2, .inl (c2, 13, .inr (.inr (.inr (.inr (fun i => if i < 13 then some (rw3 i) else none))))))] : va_W)) (po := ([] : va_W)) hP hD hS rfl (cl_lt x1_h (by decide)) 0 rfl (vin_iv x196_h (by decide)) dX3_leave_86 (fun f206 G207 H locs f206_e G207_e hP hD hS => ?_)
          have G207_b : Bg 13 12 0 4095 G207 := bg_up G207_e G189_b (bd_upd f206_e (G189_b _ (cl_lt x1_h (by decide))) x205_h (by decide))
          have hP : va_P (dC, dI) vwCl (([(o1, .inr (3, [.ref o2, .int v5])), (o2, .inl (c2, 13, .inr (.inr (.inr (.inr (fun i => if i < 13 then some (rw3 i) else none))))))] : va_W) ++ (gr13 rw3 cI 12 G207 ++ ([] : va_W))) H := by simpa only [List.append_assoc] using hP
          have hD : va_D A (([(o1, .inr (3, [.ref o2, .int v5])), (o2, .inl (c2, 13, .inr (.inr (.inr (.inr (fun i => if i < 13 then some (rw3 i) else none))))))] : va_W) ++ (gr13 rw3 cI 12 G207 ++ ([] : va_W))) := by simpa only [List.append_assoc] using hD
          refine lv_iload hx hb dX3_leave_87 (lv_at hl 2 rfl) ?_
          refine kc_i (D := (dC, dI)) (S := Unit) (wc := []) (wr := ([(o1, .inr (3, [.ref o2, .int v5])), (o2, .inl (c2, 13, .inr (.inr (.inr (.inr (fun i => if i < 13 then some (rw3 i) else none))))))] : va_W) ++ (gr13 rw3 cI 12 G207 ++ ([] : va_W))) (w1 := fun _ => []) (wn := fun _ => ([(o1, .inr (3, [.ref o2, .int v5])), (o2, .inl (c2, 13, .inr (.inr (.inr (.inr (fun i => if i < 13 then some (rw3 i) else none))))))] : va_W) ++ (gr13 rw3 cI 12 G207 ++ ([] : va_W))) (fun hPc hDc => va_runSN (As := [.int x188]) (rest := []) ⟨hx, hb, hml, hown, hts⟩ (kX11_withoutLeast_1 l dC dI cI c2 cZ x188 H.size (iv_w j195 (by decide))) ⟨va_cnB 1 hts gX3_leave_X11_withoutLeast_n38 rfl rfl rfl (hN.1 _ ns_75) (hts (.initialized RX11) (by decide +kernel)) (by decide +kernel) ⟨Nat.le_of_ble_eq_true rfl, Nat.le_of_ble_eq_true rfl⟩, (hts (.static yX11_withoutLeast) (by decide +kernel)), trivial⟩ (pre_S hPc hK hDc hN) rfl rfl hl.1 rfl (lv_room (Nat.le_of_ble_eq_true rfl)) dX3_leave_89 ⟨Nat.le_of_ble_eq_true rfl, Nat.le_of_ble_eq_true rfl⟩) hP hD hS hA [] [0, 1, 2, 3, 4, 5, 6, 7, 8, 9, 10, 11, 12, 13, 14] [0, 1, 2, 3, 4, 5, 6, 7, 8, 9, 10, 11, 12, 13, 14] rfl rfl (by decide) (by decide) (by decide) (by decide) (fun _ => rfl) (fun x208 _ H locs hq hP hD hS => ?_)
          have x208_h := hq
          have hP : va_P (dC, dI) vwCl (([(o1, .inr (3, [.ref o2, .int v5])), (o2, .inl (c2, 13, .inr (.inr (.inr (.inr (fun i => if i < 13 then some (rw3 i) else none))))))] : va_W) ++ (gr13 rw3 cI 12 G207 ++ ([] : va_W))) H := hP
          have hD : va_D A (([(o1, .inr (3, [.ref o2, .int v5])), (o2, .inl (c2, 13, .inr (.inr (.inr (.inr (fun i => if i < 13 then some (rw3 i) else none))))))] : va_W) ++ (gr13 rw3 cI 12 G207 ++ ([] : va_W))) := hD
          refine lv_istore (lv' := [(5, .int x208), (7, .int x196), (6, .int x187), (4, .ref (rw3 (Int32.toNatClampNeg x1))), (3, .ref (rw3 (Int32.toNatClampNeg a1))), (0, .ref o1), (1, .int a1), (2, .int a2)]) hx hb dX3_leave_92 hl (by decide) rfl (fun ls hl => ?_)
          obtain ⟨x209, x209_e⟩ : ∃ z : Int32, z = x187 + 1 := ⟨_, rfl⟩
          have x209_h : Iv 1 12 x209 := iv_e x209_e (iv_add j191 ik_1 (by decide))
          refine lv_iinc (v := x209) (lv' := [(6, .int x209), (5, .int x208), (7, .int x196), (4, .ref (rw3 (Int32.toNatClampNeg x1))), (3, .ref (rw3 (Int32.toNatClampNeg a1))), (0, .ref o1), (1, .int a1), (2, .int a2)]) hx hb dX3_leave_94 hl (k := 2) rfl (incN (by decide +kernel) x209_e) (by decide) rfl (fun ls hl => ?_)
          refine lv_goto (tgt := 40) hx hb dX3_leave_97 (by decide) ?_
          exact ih1 x209 x208 G207 _ _ _ (ms_up x209_e j191 (by decide) hM1) (iv_w x209_h (by decide)) x208_h G207_b hP hD hS (lv_sub hl [0, 1, 3, 4, 5, 6, 7] rfl)
  exact L1 _ 0 x6 G5 _ _ _ (Nat.lt_succ_self _) (iv_w ik_0 (by decide)) x6_h G5_b hP hD hS hl
theorem iw_X6_place_X6 : ∀ w ∈ wsX60, w ∈ wsX6_place := by decide +kernel
set_option maxHeartbeats 4000000 in
set_option maxRecDepth 100000 in
theorem kX6_place_1 (l : Launch) (dC : Nat → ClassId) (dI : Nat → Nat → Nat) (cI c2 cZ : ClassId) (o1 : Nat) (o2 : Nat) (o7 : Nat) (o21 : Nat) (o23 : Nat) (o3 : Nat) (rw4 : Nat → Nat) (Gw5 : Nat → Nat → Int32) (v6 : Int32) (fw22 : Nat → Int32) (v25 : Int32) (v26 : Int32) (v27 : Int32) (v28 : Int32) (v29 : Int32) (a1 : Int32) (a2 : Int32) (sz : Nat) (Gw5_b : Bg 13 12 0 4095 Gw5) (v6_h : Iv 0 12 v6) (fw22_b : Bd 12 0 11 fw22) (v25_h : Iv 0 12 v25) (v26_h : Iv 0 12 v26) (v27_h : Iv 0 1 v27) (a1_h : Iv 0 11 a1) (a2_h : Iv 0 11 a2) : Met l yX6_place wsX6_place ({ frames := 2, cells := 0, slots := 0, locals := 91 }) (va_Pc [.ref o1, .int a1, .int a2] (wPre (dC, dI) [(cI, .int), (c2, .array .int), (cZ, .boolean)] (([(o1, .inr (6, [.ref o2, .ref o7, .ref o21, .ref o23, .int v25, .int v26, .int v27, .int v28, .int v29])), (o21, .inl (cI, 12, .inl fw22)), (o2, .inr (3, [.ref o3, .int v6])), (o3, .inl (c2, 13, .inr (.inr (.inr (.inr (fun i => if i < 13 then some (rw4 i) else none))))))] : va_W) ++ (gr13 rw4 cI 12 Gw5 ++ ([] : va_W))) sz)) (va_Qv (fun (u : Int32 × Int32 × (Nat → Int32) × (Nat → Nat → Int32)) => Bd 12 0 11 u.2.2.1 ∧ Bg 13 12 0 4095 u.2.2.2) (fun u t => wPost (dC, dI) [(cI, .int), (c2, .array .int), (cZ, .boolean)] (va_A (([(o1, .inr (6, [.ref o2, .ref o7, .ref o21, .ref o23, .int v25, .int v26, .int v27, .int v28, .int v29])), (o21, .inl (cI, 12, .inl fw22)), (o2, .inr (3, [.ref o3, .int v6])), (o3, .inl (c2, 13, .inr (.inr (.inr (.inr (fun i => if i < 13 then some (rw4 i) else none))))))] : va_W) ++ (gr13 rw4 cI 12 Gw5 ++ ([] : va_W))) sz) (([(o1, .inr (6, [.ref o2, .ref o7, .ref o21, .ref o23, .int v25, .int v26, .int v27, .int u.1, .int u.2.1])), (o21, .inl (cI, 12, .inl u.2.2.1)), (o2, .inr (3, [.ref o3, .int v6])), (o3, .inl (c2, 13, .inr (.inr (.inr (.inr (fun i => if i < 13 then some (rw4 i) else none))))))] : va_W) ++ (gr13 rw4 cI 12 u.2.2.2 ++ ([] : va_W))) t) (va_A (([(o1, .inr (6, [.ref o2, .ref o7, .ref o21, .ref o23, .int v25, .int v26, .int v27, .int v28, .int v29])), (o21, .inl (cI, 12, .inl fw22)), (o2, .inr (3, [.ref o3, .int v6])), (o3, .inl (c2, 13, .inr (.inr (.inr (.inr (fun i => if i < 13 then some (rw4 i) else none))))))] : va_W) ++ (gr13 rw4 cI 12 Gw5 ++ ([] : va_W))) sz)) 0 0 (va_A (([(o1, .inr (6, [.ref o2, .ref o7, .ref o21, .ref o23, .int v25, .int v26, .int v27, .int v28, .int v29])), (o21, .inl (cI, 12, .inl fw22)), (o2, .inr (3, [.ref o3, .int v6])), (o3, .inl (c2, 13, .inr (.inr (.inr (.inr (fun i => if i < 13 then some (rw4 i) else none))))))] : va_W) ++ (gr13 rw4 cI 12 Gw5 ++ ([] : va_W))) sz) := by
  refine Met.ofW (cc := cX6_place) (maxL := 3) (ret := none) (by decide) rfl ?_
  intro p e s m args below meth c s₁ B hml hv
  obtain ⟨rfl, hsz, hP, hK, hD0, hN⟩ := hv
  have hx := B.exec
  have hb := B.bytes
  have hr := B.returns
  have hts := atoms_spec (ws := wsX6_place) B.pre
  have hown : s.vm.findClass RX6 = some m.cls := findClass_of_methodNamed B.named
  have hlocks := B.notSynchronized
  subst hsz
  have hD := hD0.self (sz := s.heap.size)
  generalize hAe : va_A (([(o1, .inr (6, [.ref o2, .ref o7, .ref o21, .ref o23, .int v25, .int v26, .int v27, .int v28, .int v29])), (o21, .inl (cI, 12, .inl fw22)), (o2, .inr (3, [.ref o3, .int v6])), (o3, .inl (c2, 13, .inr (.inr (.inr (.inr (fun i => if i < 13 then some (rw4 i) else none))))))] : va_W) ++ (gr13 rw4 cI 12 Gw5 ++ ([] : va_W))) s.heap.size = A at hD ⊢
  have hA : ∀ q : Nat, s.heap.size ≤ q → A q := fun q h => by rw [← hAe]; exact Or.inr h
  have hS : va_S A s.heap s.heap [] := va_S.rf
  have hP : va_P (dC, dI) vwCl (([(o1, .inr (6, [.ref o2, .ref o7, .ref o21, .ref o23, .int v25, .int v26, .int v27, .int v28, .int v29])), (o21, .inl (cI, 12, .inl fw22)), (o2, .inr (3, [.ref o3, .int v6])), (o3, .inl (c2, 13, .inr (.inr (.inr (.inr (fun i => if i < 13 then some (rw4 i) else none))))))] : va_W) ++ (gr13 rw4 cI 12 Gw5 ++ ([] : va_W))) s.heap := hP
  have hl := lv_entry ([.ref o1, .int a1, .int a2]) (n := 3) (Nat.le_of_ble_eq_true rfl)
  rw [lg_entry_eq]
  generalize (lg_sl ([.ref o1, .int a1, .int a2]) ++ List.replicate (3 - (lg_sl ([.ref o1, .int a1, .int a2])).length) Slot.unset).toArray = ls at hl ⊢
  have hl : lv_has ls 3 [(0, .ref o1), (1, .int a1), (2, .int a2)] := hl
  refine gen_Q (fun Q hQ => ?_)
  refine lv_aload_n hx hb dX6_place_0 rfl (lv_at hl 0 rfl) ?_
  refine va_get (D := (dC, dI)) (ci := 6) (v := .ref o21) (C := RX6) (T := TX6) (N := 9) hx hb hts iw_X6_place_X6 hown hK hP 0 rfl rfl 2 (by decide) (hts (.fieldLink RX6 25 "HolelessHouse$Ordering" "places" "[I") (by decide +kernel)) (fun _ h9 => h9) rfl dX6_place_1 ?_
  refine lv_iload_n hx hb dX6_place_4 rfl (lv_at hl 1 rfl) ?_
  refine lv_iload_n hx hb dX6_place_5 rfl (lv_at hl 2 rfl) ?_
  refine k_iast hx hb hK hP hD hS 1 0 rfl rfl (vin_iv a1_h (by decide)) dX6_place_6 (fun f1 H locs f1_e hP hD hS => ?_)
  have f1_b : Bd 12 0 11 f1 := bd_upd f1_e fw22_b a2_h (by decide)
  have hP : va_P (dC, dI) vwCl (([(o1, .inr (6, [.ref o2, .ref o7, .ref o21, .ref o23, .int v25, .int v26, .int v27, .int v28, .int v29])), (o21, .inl (cI, 12, .inl f1)), (o2, .inr (3, [.ref o3, .int v6])), (o3, .inl (c2, 13, .inr (.inr (.inr (.inr (fun i => if i < 13 then some (rw4 i) else none))))))] : va_W) ++ (gr13 rw4 cI 12 Gw5 ++ ([] : va_W))) H := hP
  have hD : va_D A (([(o1, .inr (6, [.ref o2, .ref o7, .ref o21, .ref o23, .int v25, .int v26, .int v27, .int v28, .int v29])), (o21, .inl (cI, 12, .inl f1)), (o2, .inr (3, [.ref o3, .int v6])), (o3, .inl (c2, 13, .inr (.inr (.inr (.inr (fun i => if i < 13 then some (rw4 i) else none))))))] : va_W) ++ (gr13 rw4 cI 12 Gw5 ++ ([] : va_W))) := hD
  refine lv_aload_n hx hb dX6_place_7 rfl (lv_at hl 0 rfl) ?_
  refine lv_dup hx hb dX6_place_8 rfl ?_
  refine va_get (D := (dC, dI)) (ci := 6) (v := .int v28) (C := RX6) (T := TX6) (N := 9) hx hb hts iw_X6_place_X6 hown hK hP 0 rfl rfl 7 (by decide) (hts (.fieldLink RX6 43 "HolelessHouse$Ordering" "filled" "I") (by decide +kernel)) (fun _ h9 => h9) rfl dX6_place_9 ?_
  refine lv_aload_n hx hb dX6_place_12 rfl (lv_at hl 0 rfl) ?_
  refine va_get (D := (dC, dI)) (ci := 6) (v := .ref o2) (C := RX6) (T := TX6) (N := 9) hx hb hts iw_X6_place_X6 hown hK hP 0 rfl rfl 0 (by decide) (hts (.fieldLink RX6 12 "HolelessHouse$Ordering" "going" "LHolelessHouse$Going;") (by decide +kernel)) (fun _ h9 => h9) rfl dX6_place_13 ?_
  refine lv_iload_n hx hb dX6_place_16 rfl (lv_at hl 1 rfl) ?_
  refine lv_iload_n hx hb dX6_place_17 rfl (lv_at hl 2 rfl) ?_
  refine kc_i (D := (dC, dI)) (S := Unit) (wc := ([(o2, .inr (3, [.ref o3, .int v6])), (o3, .inl (c2, 13, .inr (.inr (.inr (.inr (fun i => if i < 13 then some (rw4 i) else none))))))] : va_W) ++ (gr13 rw4 cI 12 Gw5 ++ ([] : va_W))) (wr := [(o1, .inr (6, [.ref o2, .ref o7, .ref o21, .ref o23, .int v25, .int v26, .int v27, .int v28, .int v29])), (o21, .inl (cI, 12, .inl f1))]) (w1 := fun _ => ([(o2, .inr (3, [.ref o3, .int v6])), (o3, .inl (c2, 13, .inr (.inr (.inr (.inr (fun i => if i < 13 then some (rw4 i) else none))))))] : va_W) ++ (gr13 rw4 cI 12 Gw5 ++ ([] : va_W))) (wn := fun _ => ([(o1, .inr (6, [.ref o2, .ref o7, .ref o21, .ref o23, .int v25, .int v26, .int v27, .int v28, .int v29])), (o21, .inl (cI, 12, .inl f1)), (o2, .inr (3, [.ref o3, .int v6])), (o3, .inl (c2, 13, .inr (.inr (.inr (.inr (fun i => if i < 13 then some (rw4 i) else none))))))] : va_W) ++ (gr13 rw4 cI 12 Gw5 ++ ([] : va_W))) (fun hPc hDc => va_runVN (As := [.int a1, .int a2]) (rest := [.int v28, .ref o1]) ⟨hx, hb, hml, hown, hts⟩ (kX3_lack_1 l dC dI cI c2 cZ o2 o3 rw4 Gw5 v6 a1 a2 H.size Gw5_b v6_h a1_h a2_h) ⟨va_cnB 2 hts gX6_place_X3_lack_n64 rfl rfl rfl (hN.1 _ ns_85) (hts (.initialized RX3) (by decide +kernel)) (by decide +kernel) ⟨Nat.le_of_ble_eq_true rfl, Nat.le_of_ble_eq_true rfl⟩, (hts (.instanceMethod yX3_lack) (by decide +kernel)), (hts (.selects RX3 yX3_lack yX3_lack) (by decide +kernel))⟩ (pre_V hPc hK hDc hN (ci := 3) (q0 := 0) rfl rfl) rfl rfl hl.1 rfl (lv_room (Nat.le_of_ble_eq_true rfl)) dX6_place_18 ⟨Nat.le_of_ble_eq_true rfl, Nat.le_of_ble_eq_true rfl⟩) hP hD hS hA [2, 3, 4, 5, 6, 7, 8, 9, 10, 11, 12, 13, 14, 15, 16] [0, 1] [0, 1, 2, 3, 4, 5, 6, 7, 8, 9, 10, 11, 12, 13, 14, 15, 16] rfl rfl (by decide) (by decide) (by decide) (by decide) (fun _ => rfl) (fun x2 _ H locs hq hP hD hS => ?_)
  have hP : va_P (dC, dI) vwCl (([(o1, .inr (6, [.ref o2, .ref o7, .ref o21, .ref o23, .int v25, .int v26, .int v27, .int v28, .int v29])), (o21, .inl (cI, 12, .inl f1)), (o2, .inr (3, [.ref o3, .int v6])), (o3, .inl (c2, 13, .inr (.inr (.inr (.inr (fun i => if i < 13 then some (rw4 i) else none))))))] : va_W) ++ (gr13 rw4 cI 12 Gw5 ++ ([] : va_W))) H := hP
  have hD : va_D A (([(o1, .inr (6, [.ref o2, .ref o7, .ref o21, .ref o23, .int v25, .int v26, .int v27, .int v28, .int v29])), (o21, .inl (cI, 12, .inl f1)), (o2, .inr (3, [.ref o3, .int v6])), (o3, .inl (c2, 13, .inr (.inr (.inr (.inr (fun i => if i < 13 then some (rw4 i) else none))))))] : va_W) ++ (gr13 rw4 cI 12 Gw5 ++ ([] : va_W))) := hD
  refine lv_iadd hx hb dX6_place_21 (lv_topi (fun x3 x3_e => ?_))
  refine va_put (D := (dC, dI)) (ci := 6) (v := .int x3) (ty := .int) (C := RX6) (T := TX6) (N := 9) hx hb hts iw_X6_place_X6 tyX6 tyX6_ok nmX6 hown hK hP hD hS 0 rfl rfl 7 (by decide) (hts (.fieldLink RX6 43 "HolelessHouse$Ordering" "filled" "I") (by decide +kernel)) (fun _ h9 => h9) rfl (by decide +kernel) rfl rfl (Nat.le_of_ble_eq_true rfl) dX6_place_22 (fun H locs hP hD hS => ?_)
  have hP : va_P (dC, dI) vwCl (([(o1, .inr (6, [.ref o2, .ref o7, .ref o21, .ref o23, .int v25, .int v26, .int v27, .int x3, .int v29])), (o21, .inl (cI, 12, .inl f1)), (o2, .inr (3, [.ref o3, .int v6])), (o3, .inl (c2, 13, .inr (.inr (.inr (.inr (fun i => if i < 13 then some (rw4 i) else none))))))] : va_W) ++ (gr13 rw4 cI 12 Gw5 ++ ([] : va_W))) H := hP
  have hD : va_D A (([(o1, .inr (6, [.ref o2, .ref o7, .ref o21, .ref o23, .int v25, .int v26, .int v27, .int x3, .int v29])), (o21, .inl (cI, 12, .inl f1)), (o2, .inr (3, [.ref o3, .int v6])), (o3, .inl (c2, 13, .inr (.inr (.inr (.inr (fun i => if i < 13 then some (rw4 i) else none))))))] : va_W) ++ (gr13 rw4 cI 12 Gw5 ++ ([] : va_W))) := hD
  refine lv_aload_n hx hb dX6_place_25 rfl (lv_at hl 0 rfl) ?_
  refine lv_aload_n hx hb dX6_place_26 rfl (lv_at hl 0 rfl) ?_
  refine va_get (D := (dC, dI)) (ci := 6) (v := .int v29) (C := RX6) (T := TX6) (N := 9) hx hb hts iw_X6_place_X6 hown hK hP 0 rfl rfl 8 (by decide) (hts (.fieldLink RX6 46 "HolelessHouse$Ordering" "width" "I") (by decide +kernel)) (fun _ h9 => h9) rfl dX6_place_27 ?_
  refine lv_aload_n hx hb dX6_place_30 rfl (lv_at hl 0 rfl) ?_
  refine va_get (D := (dC, dI)) (ci := 6) (v := .ref o2) (C := RX6) (T := TX6) (N := 9) hx hb hts iw_X6_place_X6 hown hK hP 0 rfl rfl 0 (by decide) (hts (.fieldLink RX6 12 "HolelessHouse$Ordering" "going" "LHolelessHouse$Going;") (by decide +kernel)) (fun _ h9 => h9) rfl dX6_place_31 ?_
  refine lv_iload_n hx hb dX6_place_34 rfl (lv_at hl 1 rfl) ?_
  refine lv_iload_n hx hb dX6_place_35 rfl (lv_at hl 2 rfl) ?_
  refine kc_i (D := (dC, dI)) (S := Unit) (wc := ([(o2, .inr (3, [.ref o3, .int v6])), (o3, .inl (c2, 13, .inr (.inr (.inr (.inr (fun i => if i < 13 then some (rw4 i) else none))))))] : va_W) ++ (gr13 rw4 cI 12 Gw5 ++ ([] : va_W))) (wr := [(o1, .inr (6, [.ref o2, .ref o7, .ref o21, .ref o23, .int v25, .int v26, .int v27, .int x3, .int v29])), (o21, .inl (cI, 12, .inl f1))]) (w1 := fun _ => ([(o2, .inr (3, [.ref o3, .int v6])), (o3, .inl (c2, 13, .inr (.inr (.inr (.inr (fun i => if i < 13 then some (rw4 i) else none))))))] : va_W) ++ (gr13 rw4 cI 12 Gw5 ++ ([] : va_W))) (wn := fun _ => ([(o1, .inr (6, [.ref o2, .ref o7, .ref o21, .ref o23, .int v25, .int v26, .int v27, .int x3, .int v29])), (o21, .inl (cI, 12, .inl f1)), (o2, .inr (3, [.ref o3, .int v6])), (o3, .inl (c2, 13, .inr (.inr (.inr (.inr (fun i => if i < 13 then some (rw4 i) else none))))))] : va_W) ++ (gr13 rw4 cI 12 Gw5 ++ ([] : va_W))) (fun hPc hDc => va_runVN (As := [.int a1, .int a2]) (rest := [.int v29, .ref o1]) ⟨hx, hb, hml, hown, hts⟩ (kX3_width_1 l dC dI cI c2 cZ o2 o3 rw4 Gw5 v6 a1 a2 H.size Gw5_b v6_h a1_h a2_h) ⟨va_cnB 2 hts gX6_place_X3_width_n68 rfl rfl rfl (hN.1 _ ns_86) (hts (.initialized RX3) (by decide +kernel)) (by decide +kernel) ⟨Nat.le_of_ble_eq_true rfl, Nat.le_of_ble_eq_true rfl⟩, (hts (.instanceMethod yX3_width) (by decide +kernel)), (hts (.selects RX3 yX3_width yX3_width) (by decide +kernel))⟩ (pre_V hPc hK hDc hN (ci := 3) (q0 := 0) rfl rfl) rfl rfl hl.1 rfl (lv_room (Nat.le_of_ble_eq_true rfl)) dX6_place_36 ⟨Nat.le_of_ble_eq_true rfl, Nat.le_of_ble_eq_true rfl⟩) hP hD hS hA [2, 3, 4, 5, 6, 7, 8, 9, 10, 11, 12, 13, 14, 15, 16] [0, 1] [0, 1, 2, 3, 4, 5, 6, 7, 8, 9, 10, 11, 12, 13, 14, 15, 16] rfl rfl (by decide) (by decide) (by decide) (by decide) (fun _ => rfl) (fun x4 _ H locs hq hP hD hS => ?_)
  have x4_h := hq
  have hP : va_P (dC, dI) vwCl (([(o1, .inr (6, [.ref o2, .ref o7, .ref o21, .ref o23, .int v25, .int v26, .int v27, .int x3, .int v29])), (o21, .inl (cI, 12, .inl f1)), (o2, .inr (3, [.ref o3, .int v6])), (o3, .inl (c2, 13, .inr (.inr (.inr (.inr (fun i => if i < 13 then some (rw4 i) else none))))))] : va_W) ++ (gr13 rw4 cI 12 Gw5 ++ ([] : va_W))) H := hP
  have hD : va_D A (([(o1, .inr (6, [.ref o2, .ref o7, .ref o21, .ref o23, .int v25, .int v26, .int v27, .int x3, .int v29])), (o21, .inl (cI, 12, .inl f1)), (o2, .inr (3, [.ref o3, .int v6])), (o3, .inl (c2, 13, .inr (.inr (.inr (.inr (fun i => if i < 13 then some (rw4 i) else none))))))] : va_W) ++ (gr13 rw4 cI 12 Gw5 ++ ([] : va_W))) := hD
  refine va_mmax hx hb (hml.trans hl.1.symm) hown (hts (.methodLink RX6 70 Lib.Math.max.name) (by decide +kernel)) (hts (.static Lib.Math.max.name) (by decide +kernel)) (hts (.initialized "java/lang/Math") (by decide +kernel)) (hts (.code Lib.Math.max.name Lib.Math.max.code 2 (some .int)) (by decide +kernel)) (Nat.le_of_ble_eq_true rfl) (Nat.le_of_ble_eq_true rfl) (Nat.le_of_ble_eq_true rfl) (Nat.le_of_ble_eq_true rfl) dX6_place_39 (lv_topi (fun x5 x5_e => ?_))
  refine va_put (D := (dC, dI)) (ci := 6) (v := .int x5) (ty := .int) (C := RX6) (T := TX6) (N := 9) hx hb hts iw_X6_place_X6 tyX6 tyX6_ok nmX6 hown hK hP hD hS 0 rfl rfl 8 (by decide) (hts (.fieldLink RX6 46 "HolelessHouse$Ordering" "width" "I") (by decide +kernel)) (fun _ h9 => h9) rfl (by decide +kernel) rfl rfl (Nat.le_of_ble_eq_true rfl) dX6_place_42 (fun H locs hP hD hS => ?_)
  have hP : va_P (dC, dI) vwCl (([(o1, .inr (6, [.ref o2, .ref o7, .ref o21, .ref o23, .int v25, .int v26, .int v27, .int x3, .int x5])), (o21, .inl (cI, 12, .inl f1)), (o2, .inr (3, [.ref o3, .int v6])), (o3, .inl (c2, 13, .inr (.inr (.inr (.inr (fun i => if i < 13 then some (rw4 i) else none))))))] : va_W) ++ (gr13 rw4 cI 12 Gw5 ++ ([] : va_W))) H := hP
  have hD : va_D A (([(o1, .inr (6, [.ref o2, .ref o7, .ref o21, .ref o23, .int v25, .int v26, .int v27, .int x3, .int x5])), (o21, .inl (cI, 12, .inl f1)), (o2, .inr (3, [.ref o3, .int v6])), (o3, .inl (c2, 13, .inr (.inr (.inr (.inr (fun i => if i < 13 then some (rw4 i) else none))))))] : va_W) ++ (gr13 rw4 cI 12 Gw5 ++ ([] : va_W))) := hD
  refine lv_aload_n hx hb dX6_place_45 rfl (lv_at hl 0 rfl) ?_
  refine va_get (D := (dC, dI)) (ci := 6) (v := .ref o2) (C := RX6) (T := TX6) (N := 9) hx hb hts iw_X6_place_X6 hown hK hP 0 rfl rfl 0 (by decide) (hts (.fieldLink RX6 12 "HolelessHouse$Ordering" "going" "LHolelessHouse$Going;") (by decide +kernel)) (fun _ h9 => h9) rfl dX6_place_46 ?_
  refine lv_iload_n hx hb dX6_place_49 rfl (lv_at hl 1 rfl) ?_
  refine lv_iload_n hx hb dX6_place_50 rfl (lv_at hl 2 rfl) ?_
  refine kc_v (D := (dC, dI)) (S := (Nat → Nat → Int32)) (wc := ([(o2, .inr (3, [.ref o3, .int v6])), (o3, .inl (c2, 13, .inr (.inr (.inr (.inr (fun i => if i < 13 then some (rw4 i) else none))))))] : va_W) ++ (gr13 rw4 cI 12 Gw5 ++ ([] : va_W))) (wr := [(o1, .inr (6, [.ref o2, .ref o7, .ref o21, .ref o23, .int v25, .int v26, .int v27, .int x3, .int x5])), (o21, .inl (cI, 12, .inl f1))]) (w1 := fun u => ([(o2, .inr (3, [.ref o3, .int v6])), (o3, .inl (c2, 13, .inr (.inr (.inr (.inr (fun i => if i < 13 then some (rw4 i) else none))))))] : va_W) ++ (gr13 rw4 cI 12 u ++ ([] : va_W))) (wn := fun u => ([(o1, .inr (6, [.ref o2, .ref o7, .ref o21, .ref o23, .int v25, .int v26, .int v27, .int x3, .int x5])), (o21, .inl (cI, 12, .inl f1)), (o2, .inr (3, [.ref o3, .int v6])), (o3, .inl (c2, 13, .inr (.inr (.inr (.inr (fun i => if i < 13 then some (rw4 i) else none))))))] : va_W) ++ (gr13 rw4 cI 12 u ++ ([] : va_W))) (fun hPc hDc => va_runVN (As := [.int a1, .int a2]) (rest := []) ⟨hx, hb, hml, hown, hts⟩ (kX3_leave_1 l dC dI cI c2 cZ o2 o3 rw4 Gw5 v6 a1 a2 H.size Gw5_b v6_h a1_h a2_h) ⟨va_cnB 2 hts gX6_place_X3_leave_n75 rfl rfl rfl (hN.1 _ ns_87) (hts (.initialized RX3) (by decide +kernel)) (by decide +kernel) ⟨Nat.le_of_ble_eq_true rfl, Nat.le_of_ble_eq_true rfl⟩, (hts (.instanceMethod yX3_leave) (by decide +kernel)), (hts (.selects RX3 yX3_leave yX3_leave) (by decide +kernel))⟩ (pre_V hPc hK hDc hN (ci := 3) (q0 := 0) rfl rfl) rfl rfl hl.1 rfl (lv_room (Nat.le_of_ble_eq_true rfl)) dX6_place_51 ⟨Nat.le_of_ble_eq_true rfl, Nat.le_of_ble_eq_true rfl⟩) hP hD hS hA [2, 3, 4, 5, 6, 7, 8, 9, 10, 11, 12, 13, 14, 15, 16] [0, 1] [0, 1, 2, 3, 4, 5, 6, 7, 8, 9, 10, 11, 12, 13, 14, 15, 16] rfl rfl (by decide) (by decide) (by decide) (by decide) (fun _ => rfl) (fun G6 H locs hq hP hD hS => ?_)
  have G6_b := hq
  have hP : va_P (dC, dI) vwCl (([(o1, .inr (6, [.ref o2, .ref o7, .ref o21, .ref o23, .int v25, .int v26, .int v27, .int x3, .int x5])), (o21, .inl (cI, 12, .inl f1)), (o2, .inr (3, [.ref o3, .int v6])), (o3, .inl (c2, 13, .inr (.inr (.inr (.inr (fun i => if i < 13 then some (rw4 i) else none))))))] : va_W) ++ (gr13 rw4 cI 12 G6 ++ ([] : va_W))) H := hP
  have hD : va_D A (([(o1, .inr (6, [.ref o2, .ref o7, .ref o21, .ref o23, .int v25, .int v26, .int v27, .int x3, .int x5])), (o21, .inl (cI, 12, .inl f1)), (o2, .inr (3, [.ref o3, .int v6])), (o3, .inl (c2, 13, .inr (.inr (.inr (.inr (fun i => if i < 13 then some (rw4 i) else none))))))] : va_W) ++ (gr13 rw4 cI 12 G6 ++ ([] : va_W))) := hD
  rw [hQ]
  exact W.vret hx hb hr (fun t ht hW => ⟨⟨(x3, x5, f1, G6), rfl, ⟨f1_b, G6_b⟩, by rw [ht]; exact hP, va_K.moved hW.alike hK, hD⟩, hS.F ht⟩) hS.2.2 dX6_place_54
theorem iw_X6_followDraft_X6 : ∀ w ∈ wsX60, w ∈ wsX6_followDraft := by decide +kernel
set_option maxHeartbeats 4000000 in
set_option maxRecDepth 100000 in
theorem kX6_followDraft_1 (l : Launch) (dC : Nat → ClassId) (dI : Nat → Nat → Nat) (cI c2 cZ : ClassId) (o1 : Nat) (o30 : Nat) (o2 : Nat) (o7 : Nat) (o21 : Nat) (o23 : Nat) (o3 : Nat) (o31 : Nat) (rw4 : Nat → Nat) (Gw5 : Nat → Nat → Int32) (v6 : Int32) (fw22 : Nat → Int32) (fw24 : Nat → Int32) (v25 : Int32) (v26 : Int32) (v27 : Int32) (v28 : Int32) (v29 : Int32) (fw32 : Nat → Int32) (v33 : Int32) (v34 : Int32) (sz : Nat) (Gw5_b : Bg 13 12 0 4095 Gw5) (v6_h : Iv 0 12 v6) (fw22_b : Bd 12 0 11 fw22) (fw24_b : Bd 12 0 11 fw24) (v25_h : Iv 0 12 v25) (v26_h : Iv 0 12 v26) (v27_h : Iv 0 1 v27) (fw32_b : Bd 12 0 4095 fw32) (v33_h : Iv 0 12 v33) : Met l yX6_followDraft wsX6_followDraft ({ frames := 3, cells := 0, slots := 0, locals := 113 }) (va_Pc [.ref o1, .ref o30] (wPre (dC, dI) [(cI, .int), (c2, .array .int), (cZ, .boolean)] (([(o1, .inr (6, [.ref o2, .ref o7, .ref o21, .ref o23, .int v25, .int v26, .int v27, .int v28, .int v29])), (o2, .inr (3, [.ref o3, .int v6])), (o30, .inr (4, [.ref o31, .int v33, .int v34])), (o3, .inl (c2, 13, .inr (.inr (.inr (.inr (fun i => if i < 13 then some (rw4 i) else none)))))), (o31, .inl (cI, 12, .inl fw32)), (o23, .inl (cI, 12, .inl fw24)), (o21, .inl (cI, 12, .inl fw22))] : va_W) ++ (gr13 rw4 cI 12 Gw5 ++ ([] : va_W))) sz)) (va_Qv (fun (u : Int32 × Int32 × Int32 × Int32 × Int32 × (Nat → Nat → Int32) × (Nat → Int32)) => Iv 0 12 u.1 ∧ Iv 0 1 u.2.1 ∧ Iv 0 12 u.2.2.2.2.1 ∧ Bg 13 12 0 4095 u.2.2.2.2.2.1 ∧ Bd 12 0 11 u.2.2.2.2.2.2) (fun u t => wPost (dC, dI) [(cI, .int), (c2, .array .int), (cZ, .boolean)] (va_A (([(o1, .inr (6, [.ref o2, .ref o7, .ref o21, .ref o23, .int v25, .int v26, .int v27, .int v28, .int v29])), (o2, .inr (3, [.ref o3, .int v6])), (o30, .inr (4, [.ref o31, .int v33, .int v34])), (o3, .inl (c2, 13, .inr (.inr (.inr (.inr (fun i => if i < 13 then some (rw4 i) else none)))))), (o31, .inl (cI, 12, .inl fw32)), (o23, .inl (cI, 12, .inl fw24)), (o21, .inl (cI, 12, .inl fw22))] : va_W) ++ (gr13 rw4 cI 12 Gw5 ++ ([] : va_W))) sz) (([(o1, .inr (6, [.ref o2, .ref o7, .ref o21, .ref o23, .int v25, .int u.1, .int u.2.1, .int u.2.2.1, .int u.2.2.2.1])), (o2, .inr (3, [.ref o3, .int u.2.2.2.2.1])), (o30, .inr (4, [.ref o31, .int v33, .int v34])), (o3, .inl (c2, 13, .inr (.inr (.inr (.inr (fun i => if i < 13 then some (rw4 i) else none)))))), (o31, .inl (cI, 12, .inl fw32)), (o23, .inl (cI, 12, .inl fw24)), (o21, .inl (cI, 12, .inl u.2.2.2.2.2.2))] : va_W) ++ (gr13 rw4 cI 12 u.2.2.2.2.2.1 ++ ([] : va_W))) t) (va_A (([(o1, .inr (6, [.ref o2, .ref o7, .ref o21, .ref o23, .int v25, .int v26, .int v27, .int v28, .int v29])), (o2, .inr (3, [.ref o3, .int v6])), (o30, .inr (4, [.ref o31, .int v33, .int v34])), (o3, .inl (c2, 13, .inr (.inr (.inr (.inr (fun i => if i < 13 then some (rw4 i) else none)))))), (o31, .inl (cI, 12, .inl fw32)), (o23, .inl (cI, 12, .inl fw24)), (o21, .inl (cI, 12, .inl fw22))] : va_W) ++ (gr13 rw4 cI 12 Gw5 ++ ([] : va_W))) sz)) 0 0 (va_A (([(o1, .inr (6, [.ref o2, .ref o7, .ref o21, .ref o23, .int v25, .int v26, .int v27, .int v28, .int v29])), (o2, .inr (3, [.ref o3, .int v6])), (o30, .inr (4, [.ref o31, .int v33, .int v34])), (o3, .inl (c2, 13, .inr (.inr (.inr (.inr (fun i => if i < 13 then some (rw4 i) else none)))))), (o31, .inl (cI, 12, .inl fw32)), (o23, .inl (cI, 12, .inl fw24)), (o21, .inl (cI, 12, .inl fw22))] : va_W) ++ (gr13 rw4 cI 12 Gw5 ++ ([] : va_W))) sz) := by
  refine Met.ofW (cc := cX6_followDraft) (maxL := 3) (ret := none) (by decide) rfl ?_
  intro p e s m args below meth c s₁ B hml hv
  obtain ⟨rfl, hsz, hP, hK, hD0, hN⟩ := hv
  have hx := B.exec
  have hb := B.bytes
  have hr := B.returns
  have hts := atoms_spec (ws := wsX6_followDraft) B.pre
  have hown : s.vm.findClass RX6 = some m.cls := findClass_of_methodNamed B.named
  have hlocks := B.notSynchronized
  subst hsz
  have hD := hD0.self (sz := s.heap.size)
  generalize hAe : va_A (([(o1, .inr (6, [.ref o2, .ref o7, .ref o21, .ref o23, .int v25, .int v26, .int v27, .int v28, .int v29])), (o2, .inr (3, [.ref o3, .int v6])), (o30, .inr (4, [.ref o31, .int v33, .int v34])), (o3, .inl (c2, 13, .inr (.inr (.inr (.inr (fun i => if i < 13 then some (rw4 i) else none)))))), (o31, .inl (cI, 12, .inl fw32)), (o23, .inl (cI, 12, .inl fw24)), (o21, .inl (cI, 12, .inl fw22))] : va_W) ++ (gr13 rw4 cI 12 Gw5 ++ ([] : va_W))) s.heap.size = A at hD ⊢
  have hA : ∀ q : Nat, s.heap.size ≤ q → A q := fun q h => by rw [← hAe]; exact Or.inr h
  have hS : va_S A s.heap s.heap [] := va_S.rf
  have hP : va_P (dC, dI) vwCl (([(o1, .inr (6, [.ref o2, .ref o7, .ref o21, .ref o23, .int v25, .int v26, .int v27, .int v28, .int v29])), (o2, .inr (3, [.ref o3, .int v6])), (o30, .inr (4, [.ref o31, .int v33, .int v34])), (o3, .inl (c2, 13, .inr (.inr (.inr (.inr (fun i => if i < 13 then some (rw4 i) else none)))))), (o31, .inl (cI, 12, .inl fw32)), (o23, .inl (cI, 12, .inl fw24)), (o21, .inl (cI, 12, .inl fw22))] : va_W) ++ (gr13 rw4 cI 12 Gw5 ++ ([] : va_W))) s.heap := hP
  have hl := lv_entry ([.ref o1, .ref o30]) (n := 3) (Nat.le_of_ble_eq_true rfl)
  rw [lg_entry_eq]
  generalize (lg_sl ([.ref o1, .ref o30]) ++ List.replicate (3 - (lg_sl ([.ref o1, .ref o30])).length) Slot.unset).toArray = ls at hl ⊢
  have hl : lv_has ls 3 [(0, .ref o1), (1, .ref o30)] := hl
  refine gen_Q (fun Q hQ => ?_)
  refine lv_aload_n hx hb dX6_followDraft_0 rfl (lv_at hl 0 rfl) ?_
  refine lv_aload_n hx hb dX6_followDraft_1 rfl (lv_at hl 1 rfl) ?_
  refine kc_v (D := (dC, dI)) (S := Int32 × Int32 × Int32 × Int32 × Int32 × (Nat → Nat → Int32)) (wc := ([(o1, .inr (6, [.ref o2, .ref o7, .ref o21, .ref o23, .int v25, .int v26, .int v27, .int v28, .int v29])), (o2, .inr (3, [.ref o3, .int v6])), (o30, .inr (4, [.ref o31, .int v33, .int v34])), (o3, .inl (c2, 13, .inr (.inr (.inr (.inr (fun i => if i < 13 then some (rw4 i) else none)))))), (o31, .inl (cI, 12, .inl fw32))] : va_W) ++ (gr13 rw4 cI 12 Gw5 ++ ([] : va_W))) (wr := [(o23, .inl (cI, 12, .inl fw24)), (o21, .inl (cI, 12, .inl fw22))]) (w1 := fun u => ([(o1, .inr (6, [.ref o2, .ref o7, .ref o21, .ref o23, .int v25, .int u.1, .int u.2.1, .int u.2.2.1, .int u.2.2.2.1])), (o2, .inr (3, [.ref o3, .int u.2.2.2.2.1])), (o30, .inr (4, [.ref o31, .int v33, .int v34])), (o3, .inl (c2, 13, .inr (.inr (.inr (.inr (fun i => if i < 13 then some (rw4 i) else none)))))), (o31, .inl (cI, 12, .inl fw32))] : va_W) ++ (gr13 rw4 cI 12 u.2.2.2.2.2 ++ ([] : va_W))) (wn := fun u => ([(o1, .inr (6, [.ref o2, .ref o7, .ref o21, .ref o23, .int v25, .int u.1, .int u.2.1, .int u.2.2.1, .int u.2.2.2.1])), (o2, .inr (3, [.ref o3, .int u.2.2.2.2.1])), (o30, .inr (4, [.ref o31, .int v33, .int v34])), (o3, .inl (c2, 13, .inr (.inr (.inr (.inr (fun i => if i < 13 then some (rw4 i) else none)))))), (o31, .inl (cI, 12, .inl fw32)), (o23, .inl (cI, 12, .inl fw24)), (o21, .inl (cI, 12, .inl fw22))] : va_W) ++ (gr13 rw4 cI 12 u.2.2.2.2.2 ++ ([] : va_W))) (fun hPc hDc => va_runV (As := [.ref o30]) (rest := []) ⟨hx, hb, hml, hown, hts⟩ (kX6_begin_1 l dC dI cI c2 cZ o1 o30 o2 o7 o21 o23 o3 o31 rw4 Gw5 v6 v25 v26 v27 v28 v29 fw32 v33 v34 s.heap.size Gw5_b v6_h v25_h v26_h v27_h fw32_b v33_h) (cwV 1 hts gX6_followDraft_X6_begin rfl rfl rfl (by decide +kernel) ⟨Nat.le_of_ble_eq_true rfl, Nat.le_of_ble_eq_true rfl⟩) (pre_V hPc hK hDc hN (ci := 6) (q0 := 0) rfl rfl) rfl rfl hl.1 rfl (lv_room (Nat.le_of_ble_eq_true rfl)) dX6_followDraft_2 ⟨Nat.le_of_ble_eq_true rfl, Nat.le_of_ble_eq_true rfl⟩) hP hD hS hA [0, 1, 2, 3, 4, 7, 8, 9, 10, 11, 12, 13, 14, 15, 16, 17, 18, 19] [5, 6] [2, 3, 4, 5, 6, 0, 1, 7, 8, 9, 10, 11, 12, 13, 14, 15, 16, 17, 18, 19] rfl rfl (by decide) (by decide) (by decide) (by decide) (fun _ => rfl) (fun u H locs hq hP hD hS => ?_)
  obtain ⟨y1, y2, y3, y4, y5, G6⟩ := u
  obtain ⟨y1_h, y2_h, y5_h, G6_b⟩ := hq
  have hP : va_P (dC, dI) vwCl (([(o1, .inr (6, [.ref o2, .ref o7, .ref o21, .ref o23, .int v25, .int y1, .int y2, .int y3, .int y4])), (o2, .inr (3, [.ref o3, .int y5])), (o30, .inr (4, [.ref o31, .int v33, .int v34])), (o3, .inl (c2, 13, .inr (.inr (.inr (.inr (fun i => if i < 13 then some (rw4 i) else none)))))), (o31, .inl (cI, 12, .inl fw32)), (o23, .inl (cI, 12, .inl fw24)), (o21, .inl (cI, 12, .inl fw22))] : va_W) ++ (gr13 rw4 cI 12 G6 ++ ([] : va_W))) H := hP
  have hD : va_D A (([(o1, .inr (6, [.ref o2, .ref o7, .ref o21, .ref o23, .int v25, .int y1, .int y2, .int y3, .int y4])), (o2, .inr (3, [.ref o3, .int y5])), (o30, .inr (4, [.ref o31, .int v33, .int v34])), (o3, .inl (c2, 13, .inr (.inr (.inr (.inr (fun i => if i < 13 then some (rw4 i) else none)))))), (o31, .inl (cI, 12, .inl fw32)), (o23, .inl (cI, 12, .inl fw24)), (o21, .inl (cI, 12, .inl fw22))] : va_W) ++ (gr13 rw4 cI 12 G6 ++ ([] : va_W))) := hD
  refine lv_iconst (v := 0) hx hb dX6_followDraft_5 (by decide) ?_
  refine lv_istore_n (lv' := [(2, .int 0), (0, .ref o1), (1, .ref o30)]) hx hb dX6_followDraft_6 rfl hl (by decide) rfl (fun ls hl => ?_)
  have L1 : ∀ (N : Nat) (x113 : Int32) (G114 : Nat → Nat → Int32) (f115 : Nat → Int32) (x116 : Int32) (x117 : Int32) (H : Heap) (locs : List Loc) (ls : Array Slot), (12 - x113.toInt).toNat < N → Iv 0 12 x113 → Bg 13 12 0 4095 G114 → Bd 12 0 11 f115 → va_P (dC, dI) vwCl (([(o1, .inr (6, [.ref o2, .ref o7, .ref o21, .ref o23, .int v25, .int y1, .int y2, .int x116, .int x117])), (o2, .inr (3, [.ref o3, .int y5])), (o30, .inr (4, [.ref o31, .int v33, .int v34])), (o3, .inl (c2, 13, .inr (.inr (.inr (.inr (fun i => if i < 13 then some (rw4 i) else none)))))), (o31, .inl (cI, 12, .inl fw32)), (o23, .inl (cI, 12, .inl fw24)), (o21, .inl (cI, 12, .inl f115))] : va_W) ++ (gr13 rw4 cI 12 G114 ++ ([] : va_W))) H → va_D A (([(o1, .inr (6, [.ref o2, .ref o7, .ref o21, .ref o23, .int v25, .int y1, .int y2, .int x116, .int x117])), (o2, .inr (3, [.ref o3, .int y5])), (o30, .inr (4, [.ref o31, .int v33, .int v34])), (o3, .inl (c2, 13, .inr (.inr (.inr (.inr (fun i => if i < 13 then some (rw4 i) else none)))))), (o31, .inl (cI, 12, .inl fw32)), (o23, .inl (cI, 12, .inl fw24)), (o21, .inl (cI, 12, .inl f115))] : va_W) ++ (gr13 rw4 cI 12 G114 ++ ([] : va_W))) → va_S A s.heap H locs → lv_has ls 3 [(2, .int x113), (0, .ref o1), (1, .ref o30)] → W p l e ({ frames := 3, cells := 0, slots := 0, locals := 113 }) s m ([.ref o1, .ref o30] : List Value).toArray below meth c H locs 0 0 Q (F0 m 7 ls []) := by
    intro N
    induction N with
    | zero =>
      intro x113 G114 f115 x116 x117 H locs ls hM
      exact absurd hM (Nat.not_lt_zero _)
    | succ N ih1 =>
      intro x113 G114 f115 x116 x117 H locs ls hM1 x113_h G114_b f115_b hP hD hS hl
      refine lv_iload_n hx hb dX6_followDraft_7 rfl (lv_at hl 0 rfl) ?_
      refine lv_aload_n hx hb dX6_followDraft_8 rfl (lv_at hl 1 rfl) ?_
      refine va_get (D := (dC, dI)) (ci := 6) (v := .int y1) (C := RX6) (T := TX6) (N := 9) hx hb hts iw_X6_followDraft_X6 hown hK hP 0 rfl rfl 5 (by decide) (hts (.fieldLink RX6 36 "HolelessHouse$Ordering" "size" "I") (by decide +kernel)) (fun _ h9 => h9) rfl dX6_followDraft_9 ?_
      refine lv_icmp_ge (tgt := 32) hx hb dX6_followDraft_12 (by decide) (fun h118 => ?_) (fun h118 => ?_)
      ·
        have qh118 := le_i h118
        rw [hQ]
        exact W.vret hx hb hr (fun t ht hW => ⟨⟨(y1, y2, x116, x117, y5, G114, f115), rfl, ⟨y1_h, y2_h, y5_h, G114_b, f115_b⟩, by rw [ht]; exact hP, va_K.moved hW.alike hK, hD⟩, hS.F ht⟩) hS.2.2 dX6_followDraft_32
      ·
        have qh118 := nle_i h118
        have j119 : Iv 0 11 x113 := r_ltl qh118 x113_h y1_h (by decide)
        have j120 : Iv 1 12 y1 := r_ltr qh118 x113_h y1_h (by decide)
        refine lv_aload_n hx hb dX6_followDraft_15 rfl (lv_at hl 1 rfl) ?_
        refine lv_iload_n hx hb dX6_followDraft_16 rfl (lv_at hl 0 rfl) ?_
        refine lv_aload_n hx hb dX6_followDraft_17 rfl (lv_at hl 1 rfl) ?_
        refine va_get (D := (dC, dI)) (ci := 6) (v := .ref o23) (C := RX6) (T := TX6) (N := 9) hx hb hts iw_X6_followDraft_X6 hown hK hP 0 rfl rfl 3 (by decide) (hts (.fieldLink RX6 29 "HolelessHouse$Ordering" "drafts" "[I") (by decide +kernel)) (fun _ h9 => h9) rfl dX6_followDraft_18 ?_
        refine lv_iload_n hx hb dX6_followDraft_21 rfl (lv_at hl 0 rfl) ?_
        refine va_iald hx hb hK hP 5 0 rfl rfl (vin_iv j119 (by decide)) dX6_followDraft_22 (lv_topi (fun x121 x121_e => ?_))
        have x121_h : Iv 0 11 x121 := iv_e x121_e (bd_at fw24_b (vin_iv j119 (by decide)))
        refine kc_v (D := (dC, dI)) (S := Int32 × Int32 × (Nat → Int32) × (Nat → Nat → Int32)) (wc := ([(o1, .inr (6, [.ref o2, .ref o7, .ref o21, .ref o23, .int v25, .int y1, .int y2, .int x116, .int x117])), (o21, .inl (cI, 12, .inl f115)), (o2, .inr (3, [.ref o3, .int y5])), (o3, .inl (c2, 13, .inr (.inr (.inr (.inr (fun i => if i < 13 then some (rw4 i) else none))))))] : va_W) ++ (gr13 rw4 cI 12 G114 ++ ([] : va_W))) (wr := [(o30, .inr (4, [.ref o31, .int v33, .int v34])), (o31, .inl (cI, 12, .inl fw32)), (o23, .inl (cI, 12, .inl fw24))]) (w1 := fun u => ([(o1, .inr (6, [.ref o2, .ref o7, .ref o21, .ref o23, .int v25, .int y1, .int y2, .int u.1, .int u.2.1])), (o21, .inl (cI, 12, .inl u.2.2.1)), (o2, .inr (3, [.ref o3, .int y5])), (o3, .inl (c2, 13, .inr (.inr (.inr (.inr (fun i => if i < 13 then some (rw4 i) else none))))))] : va_W) ++ (gr13 rw4 cI 12 u.2.2.2 ++ ([] : va_W))) (wn := fun u => ([(o1, .inr (6, [.ref o2, .ref o7, .ref o21, .ref o23, .int v25, .int y1, .int y2, .int u.1, .int u.2.1])), (o2, .inr (3, [.ref o3, .int y5])), (o30, .inr (4, [.ref o31, .int v33, .int v34])), (o3, .inl (c2, 13, .inr (.inr (.inr (.inr (fun i => if i < 13 then some (rw4 i) else none)))))), (o31, .inl (cI, 12, .inl fw32)), (o23, .inl (cI, 12, .inl fw24)), (o21, .inl (cI, 12, .inl u.2.2.1))] : va_W) ++ (gr13 rw4 cI 12 u.2.2.2 ++ ([] : va_W))) (fun hPc hDc => va_runV (As := [.int x113, .int x121]) (rest := []) ⟨hx, hb, hml, hown, hts⟩ (kX6_place_1 l dC dI cI c2 cZ o1 o2 o7 o21 o23 o3 rw4 G114 y5 f115 v25 y1 y2 x116 x117 x113 x121 H.size G114_b y5_h f115_b v25_h (iv_w j120 (by decide)) y2_h j119 x121_h) (cwV 2 hts gX6_followDraft_X6_place rfl rfl rfl (by decide +kernel) ⟨Nat.le_of_ble_eq_true rfl, Nat.le_of_ble_eq_true rfl⟩) (pre_V hPc hK hDc hN (ci := 6) (q0 := 0) rfl rfl) rfl rfl hl.1 rfl (lv_room (Nat.le_of_ble_eq_true rfl)) dX6_followDraft_23 ⟨Nat.le_of_ble_eq_true rfl, Nat.le_of_ble_eq_true rfl⟩) hP hD hS hA [0, 6, 1, 3, 7, 8, 9, 10, 11, 12, 13, 14, 15, 16, 17, 18, 19] [2, 4, 5] [3, 5, 0, 6, 1, 2, 4, 7, 8, 9, 10, 11, 12, 13, 14, 15, 16, 17, 18, 19] rfl rfl (by decide) (by decide) (by decide) (by decide) (fun _ => rfl) (fun u H locs hq hP hD hS => ?_)
        obtain ⟨y122, y123, f124, G125⟩ := u
        obtain ⟨f124_b, G125_b⟩ := hq
        have hP : va_P (dC, dI) vwCl (([(o1, .inr (6, [.ref o2, .ref o7, .ref o21, .ref o23, .int v25, .int y1, .int y2, .int y122, .int y123])), (o2, .inr (3, [.ref o3, .int y5])), (o30, .inr (4, [.ref o31, .int v33, .int v34])), (o3, .inl (c2, 13, .inr (.inr (.inr (.inr (fun i => if i < 13 then some (rw4 i) else none)))))), (o31, .inl (cI, 12, .inl fw32)), (o23, .inl (cI, 12, .inl fw24)), (o21, .inl (cI, 12, .inl f124))] : va_W) ++ (gr13 rw4 cI 12 G125 ++ ([] : va_W))) H := hP
        have hD : va_D A (([(o1, .inr (6, [.ref o2, .ref o7, .ref o21, .ref o23, .int v25, .int y1, .int y2, .int y122, .int y123])), (o2, .inr (3, [.ref o3, .int y5])), (o30, .inr (4, [.ref o31, .int v33, .int v34])), (o3, .inl (c2, 13, .inr (.inr (.inr (.inr (fun i => if i < 13 then some (rw4 i) else none)))))), (o31, .inl (cI, 12, .inl fw32)), (o23, .inl (cI, 12, .inl fw24)), (o21, .inl (cI, 12, .inl f124))] : va_W) ++ (gr13 rw4 cI 12 G125 ++ ([] : va_W))) := hD
        obtain ⟨x126, x126_e⟩ : ∃ z : Int32, z = x113 + 1 := ⟨_, rfl⟩
        have x126_h : Iv 1 12 x126 := iv_e x126_e (iv_add j119 ik_1 (by decide))
        refine lv_iinc (v := x126) (lv' := [(2, .int x126), (0, .ref o1), (1, .ref o30)]) hx hb dX6_followDraft_26 hl (k := 0) rfl (incN (by decide +kernel) x126_e) (by decide) rfl (fun ls hl => ?_)
        refine lv_goto (tgt := 7) hx hb dX6_followDraft_29 (by decide) ?_
        exact ih1 x126 G125 f124 y122 y123 _ _ _ (ms_up x126_e j119 (by decide) hM1) (iv_w x126_h (by decide)) G125_b f124_b hP hD hS hl
  exact L1 _ 0 G6 fw22 y3 y4 _ _ _ (Nat.lt_succ_self _) (iv_w ik_0 (by decide)) G6_b fw22_b hP hD hS hl
theorem iw_X11_take_X11 : ∀ w ∈ wsX110, w ∈ wsX11_take := by decide +kernel
theorem iw_X11_take_X6 : ∀ w ∈ wsX60, w ∈ wsX11_take := by decide +kernel
set_option maxHeartbeats 4000000 in
set_option maxRecDepth 100000 in
theorem kX11_take_1 (l : Launch) (dC : Nat → ClassId) (dI : Nat → Nat → Nat) (cI c2 cZ : ClassId) (o1 : Nat) (o2 : Nat) (o7 : Nat) (o12 : Nat) (o41 : Nat) (o51 : Nat) (o64 : Nat) (o77 : Nat) (o84 : Nat) (o91 : Nat) (o99 : Nat) (o111 : Nat) (o123 : Nat) (o13 : Nat) (o18 : Nat) (o32 : Nat) (o34 : Nat) (o3 : Nat) (o14 : Nat) (fw4 : Nat → Int32) (v5 : Int32) (v6 : Int32) (rw15 : Nat → Nat) (Gw16 : Nat → Nat → Int32) (v17 : Int32) (fw33 : Nat → Int32) (fw35 : Nat → Int32) (v36 : Int32) (v37 : Int32) (v38 : Int32) (v39 : Int32) (v40 : Int32) (v125 : Int32) (sz : Nat) (fw4_b : Bd 12 0 4095 fw4) (v5_h : Iv 0 12 v5) (Gw16_b : Bg 13 12 0 4095 Gw16) (v17_h : Iv 0 12 v17) (fw33_b : Bd 12 0 11 fw33) (fw35_b : Bd 12 0 11 fw35) (v36_h : Iv 0 12 v36) (v37_h : Iv 0 12 v37) (v38_h : Iv 0 1 v38) : Met l yX11_take wsX11_take ({ frames := 4, cells := 0, slots := 0, locals := 135 }) (va_Pc [.ref o1] (wPre (dC, dI) [(cI, .int), (c2, .array .int), (cZ, .boolean)] (([(o1, .inr (11, [.ref o2, .ref o7, .ref o12, .ref o41, .ref o51, .ref o64, .ref o77, .ref o84, .ref o91, .ref o99, .ref o111, .ref o123, .int v125])), (o12, .inr (6, [.ref o13, .ref o18, .ref o32, .ref o34, .int v36, .int v37, .int v38, .int v39, .int v40])), (o34, .inl (cI, 12, .inl fw35)), (o2, .inr (4, [.ref o3, .int v5, .int v6])), (o13, .inr (3, [.ref o14, .int v17])), (o14, .inl (c2, 13, .inr (.inr (.inr (.inr (fun i => if i < 13 then some (rw15 i) else none)))))), (o3, .inl (cI, 12, .inl fw4)), (o32, .inl (cI, 12, .inl fw33))] : va_W) ++ (gr13 rw15 cI 12 Gw16 ++ ([] : va_W))) sz)) (va_Qi (fun (r : Int32) (u : Int32 × Int32 × Int32 × Int32 × Int32 × Int32 × (Nat → Nat → Int32) × (Nat → Int32)) => Iv 0 12 u.1 ∧ Iv 0 12 u.2.1 ∧ Iv 0 1 u.2.2.1 ∧ Iv 0 12 u.2.2.2.2.2.1 ∧ Bg 13 12 0 4095 u.2.2.2.2.2.2.1 ∧ Bd 12 0 11 u.2.2.2.2.2.2.2) (fun u t => wPost (dC, dI) [(cI, .int), (c2, .array .int), (cZ, .boolean)] (va_A (([(o1, .inr (11, [.ref o2, .ref o7, .ref o12, .ref o41, .ref o51, .ref o64, .ref o77, .ref o84, .ref o91, .ref o99, .ref o111, .ref o123, .int v125])), (o12, .inr (6, [.ref o13, .ref o18, .ref o32, .ref o34, .int v36, .int v37, .int v38, .int v39, .int v40])), (o34, .inl (cI, 12, .inl fw35)), (o2, .inr (4, [.ref o3, .int v5, .int v6])), (o13, .inr (3, [.ref o14, .int v17])), (o14, .inl (c2, 13, .inr (.inr (.inr (.inr (fun i => if i < 13 then some (rw15 i) else none)))))), (o3, .inl (cI, 12, .inl fw4)), (o32, .inl (cI, 12, .inl fw33))] : va_W) ++ (gr13 rw15 cI 12 Gw16 ++ ([] : va_W))) sz) (([(o1, .inr (11, [.ref o2, .ref o7, .ref o12, .ref o41, .ref o51, .ref o64, .ref o77, .ref o84, .ref o91, .ref o99, .ref o111, .ref o123, .int v125])), (o12, .inr (6, [.ref o13, .ref o18, .ref o32, .ref o34, .int u.1, .int u.2.1, .int u.2.2.1, .int u.2.2.2.1, .int u.2.2.2.2.1])), (o34, .inl (cI, 12, .inl fw35)), (o2, .inr (4, [.ref o3, .int v5, .int v6])), (o13, .inr (3, [.ref o14, .int u.2.2.2.2.2.1])), (o14, .inl (c2, 13, .inr (.inr (.inr (.inr (fun i => if i < 13 then some (rw15 i) else none)))))), (o3, .inl (cI, 12, .inl fw4)), (o32, .inl (cI, 12, .inl u.2.2.2.2.2.2.2))] : va_W) ++ (gr13 rw15 cI 12 u.2.2.2.2.2.2.1 ++ ([] : va_W))) t) (va_A (([(o1, .inr (11, [.ref o2, .ref o7, .ref o12, .ref o41, .ref o51, .ref o64, .ref o77, .ref o84, .ref o91, .ref o99, .ref o111, .ref o123, .int v125])), (o12, .inr (6, [.ref o13, .ref o18, .ref o32, .ref o34, .int v36, .int v37, .int v38, .int v39, .int v40])), (o34, .inl (cI, 12, .inl fw35)), (o2, .inr (4, [.ref o3, .int v5, .int v6])), (o13, .inr (3, [.ref o14, .int v17])), (o14, .inl (c2, 13, .inr (.inr (.inr (.inr (fun i => if i < 13 then some (rw15 i) else none)))))), (o3, .inl (cI, 12, .inl fw4)), (o32, .inl (cI, 12, .inl fw33))] : va_W) ++ (gr13 rw15 cI 12 Gw16 ++ ([] : va_W))) sz)) 0 0 (va_A (([(o1, .inr (11, [.ref o2, .ref o7, .ref o12, .ref o41, .ref o51, .ref o64, .ref o77, .ref o84, .ref o91, .ref o99, .ref o111, .ref o123, .int v125])), (o12, .inr (6, [.ref o13, .ref o18, .ref o32, .ref o34, .int v36, .int v37, .int v38, .int v39, .int v40])), (o34, .inl (cI, 12, .inl fw35)), (o2, .inr (4, [.ref o3, .int v5, .int v6])), (o13, .inr (3, [.ref o14, .int v17])), (o14, .inl (c2, 13, .inr (.inr (.inr (.inr (fun i => if i < 13 then some (rw15 i) else none)))))), (o3, .inl (cI, 12, .inl fw4)), (o32, .inl (cI, 12, .inl fw33))] : va_W) ++ (gr13 rw15 cI 12 Gw16 ++ ([] : va_W))) sz) := by
  refine Met.ofW (cc := cX11_take) (maxL := 2) (ret := (some .int)) (by decide) rfl ?_
  intro p e s m args below meth c s₁ B hml hv
  obtain ⟨rfl, hsz, hP, hK, hD0, hN⟩ := hv
  have hx := B.exec
  have hb := B.bytes
  have hr := B.returns
  have hts := atoms_spec (ws := wsX11_take) B.pre
  have hown : s.vm.findClass RX11 = some m.cls := findClass_of_methodNamed B.named
  have hlocks := B.notSynchronized
  subst hsz
  have hD := hD0.self (sz := s.heap.size)
  generalize hAe : va_A (([(o1, .inr (11, [.ref o2, .ref o7, .ref o12, .ref o41, .ref o51, .ref o64, .ref o77, .ref o84, .ref o91, .ref o99, .ref o111, .ref o123, .int v125])), (o12, .inr (6, [.ref o13, .ref o18, .ref o32, .ref o34, .int v36, .int v37, .int v38, .int v39, .int v40])), (o34, .inl (cI, 12, .inl fw35)), (o2, .inr (4, [.ref o3, .int v5, .int v6])), (o13, .inr (3, [.ref o14, .int v17])), (o14, .inl (c2, 13, .inr (.inr (.inr (.inr (fun i => if i < 13 then some (rw15 i) else none)))))), (o3, .inl (cI, 12, .inl fw4)), (o32, .inl (cI, 12, .inl fw33))] : va_W) ++ (gr13 rw15 cI 12 Gw16 ++ ([] : va_W))) s.heap.size = A at hD ⊢
  have hA : ∀ q : Nat, s.heap.size ≤ q → A q := fun q h => by rw [← hAe]; exact Or.inr h
  have hS : va_S A s.heap s.heap [] := va_S.rf
  have hP : va_P (dC, dI) vwCl (([(o1, .inr (11, [.ref o2, .ref o7, .ref o12, .ref o41, .ref o51, .ref o64, .ref o77, .ref o84, .ref o91, .ref o99, .ref o111, .ref o123, .int v125])), (o12, .inr (6, [.ref o13, .ref o18, .ref o32, .ref o34, .int v36, .int v37, .int v38, .int v39, .int v40])), (o34, .inl (cI, 12, .inl fw35)), (o2, .inr (4, [.ref o3, .int v5, .int v6])), (o13, .inr (3, [.ref o14, .int v17])), (o14, .inl (c2, 13, .inr (.inr (.inr (.inr (fun i => if i < 13 then some (rw15 i) else none)))))), (o3, .inl (cI, 12, .inl fw4)), (o32, .inl (cI, 12, .inl fw33))] : va_W) ++ (gr13 rw15 cI 12 Gw16 ++ ([] : va_W))) s.heap := hP
  have hl := lv_entry ([.ref o1]) (n := 2) (Nat.le_of_ble_eq_true rfl)
  rw [lg_entry_eq]
  generalize (lg_sl ([.ref o1]) ++ List.replicate (2 - (lg_sl ([.ref o1])).length) Slot.unset).toArray = ls at hl ⊢
  have hl : lv_has ls 2 [(0, .ref o1)] := hl
  refine gen_Q (fun Q hQ => ?_)
  refine lv_aload_n hx hb dX11_take_0 rfl (lv_at hl 0 rfl) ?_
  refine va_get (D := (dC, dI)) (ci := 11) (v := .ref o12) (C := RX11) (T := TX11) (N := 13) hx hb hts iw_X11_take_X11 hown hK hP 0 rfl rfl 2 (by decide) (hts (.fieldLink RX11 26 "HolelessHouse" "ordering" "LHolelessHouse$Ordering;") (by decide +kernel)) (fun _ h9 => h9) rfl dX11_take_1 ?_
  refine kc_i (D := (dC, dI)) (S := Unit) (wc := [(o12, .inr (6, [.ref o13, .ref o18, .ref o32, .ref o34, .int v36, .int v37, .int v38, .int v39, .int v40])), (o34, .inl (cI, 12, .inl fw35))]) (wr := ([(o1, .inr (11, [.ref o2, .ref o7, .ref o12, .ref o41, .ref o51, .ref o64, .ref o77, .ref o84, .ref o91, .ref o99, .ref o111, .ref o123, .int v125])), (o2, .inr (4, [.ref o3, .int v5, .int v6])), (o13, .inr (3, [.ref o14, .int v17])), (o14, .inl (c2, 13, .inr (.inr (.inr (.inr (fun i => if i < 13 then some (rw15 i) else none)))))), (o3, .inl (cI, 12, .inl fw4)), (o32, .inl (cI, 12, .inl fw33))] : va_W) ++ (gr13 rw15 cI 12 Gw16 ++ ([] : va_W))) (w1 := fun _ => [(o12, .inr (6, [.ref o13, .ref o18, .ref o32, .ref o34, .int v36, .int v37, .int v38, .int v39, .int v40])), (o34, .inl (cI, 12, .inl fw35))]) (wn := fun _ => ([(o1, .inr (11, [.ref o2, .ref o7, .ref o12, .ref o41, .ref o51, .ref o64, .ref o77, .ref o84, .ref o91, .ref o99, .ref o111, .ref o123, .int v125])), (o12, .inr (6, [.ref o13, .ref o18, .ref o32, .ref o34, .int v36, .int v37, .int v38, .int v39, .int v40])), (o34, .inl (cI, 12, .inl fw35)), (o2, .inr (4, [.ref o3, .int v5, .int v6])), (o13, .inr (3, [.ref o14, .int v17])), (o14, .inl (c2, 13, .inr (.inr (.inr (.inr (fun i => if i < 13 then some (rw15 i) else none)))))), (o3, .inl (cI, 12, .inl fw4)), (o32, .inl (cI, 12, .inl fw33))] : va_W) ++ (gr13 rw15 cI 12 Gw16 ++ ([] : va_W))) (fun hPc hDc => va_runVN (As := []) (rest := []) ⟨hx, hb, hml, hown, hts⟩ (kX6_draftSet_1 l dC dI cI c2 cZ o12 o13 o18 o32 o34 fw35 v36 v37 v38 v39 v40 s.heap.size fw35_b v36_h v37_h v38_h) ⟨va_cnB 0 hts gX11_take_X6_draftSet_n161 rfl rfl rfl (hN.1 _ ns_82) (hts (.initialized RX6) (by decide +kernel)) (by decide +kernel) ⟨Nat.le_of_ble_eq_true rfl, Nat.le_of_ble_eq_true rfl⟩, (hts (.instanceMethod yX6_draftSet) (by decide +kernel)), (hts (.selects RX6 yX6_draftSet yX6_draftSet) (by decide +kernel))⟩ (pre_V hPc hK hDc hN (ci := 6) (q0 := 0) rfl rfl) rfl rfl hl.1 rfl (lv_room (Nat.le_of_ble_eq_true rfl)) dX11_take_4 ⟨Nat.le_of_ble_eq_true rfl, Nat.le_of_ble_eq_true rfl⟩) hP hD hS hA [1, 2] [0, 3, 4, 5, 6, 7, 8, 9, 10, 11, 12, 13, 14, 15, 16, 17, 18, 19, 20] [0, 19, 20, 1, 2, 3, 4, 5, 6, 7, 8, 9, 10, 11, 12, 13, 14, 15, 16, 17, 18] rfl rfl (by decide) (by decide) (by decide) (by decide) (fun _ => rfl) (fun x1 _ H locs hq hP hD hS => ?_)
  have x1_h := hq
  have hP : va_P (dC, dI) vwCl (([(o1, .inr (11, [.ref o2, .ref o7, .ref o12, .ref o41, .ref o51, .ref o64, .ref o77, .ref o84, .ref o91, .ref o99, .ref o111, .ref o123, .int v125])), (o12, .inr (6, [.ref o13, .ref o18, .ref o32, .ref o34, .int v36, .int v37, .int v38, .int v39, .int v40])), (o34, .inl (cI, 12, .inl fw35)), (o2, .inr (4, [.ref o3, .int v5, .int v6])), (o13, .inr (3, [.ref o14, .int v17])), (o14, .inl (c2, 13, .inr (.inr (.inr (.inr (fun i => if i < 13 then some (rw15 i) else none)))))), (o3, .inl (cI, 12, .inl fw4)), (o32, .inl (cI, 12, .inl fw33))] : va_W) ++ (gr13 rw15 cI 12 Gw16 ++ ([] : va_W))) H := hP
  have hD : va_D A (([(o1, .inr (11, [.ref o2, .ref o7, .ref o12, .ref o41, .ref o51, .ref o64, .ref o77, .ref o84, .ref o91, .ref o99, .ref o111, .ref o123, .int v125])), (o12, .inr (6, [.ref o13, .ref o18, .ref o32, .ref o34, .int v36, .int v37, .int v38, .int v39, .int v40])), (o34, .inl (cI, 12, .inl fw35)), (o2, .inr (4, [.ref o3, .int v5, .int v6])), (o13, .inr (3, [.ref o14, .int v17])), (o14, .inl (c2, 13, .inr (.inr (.inr (.inr (fun i => if i < 13 then some (rw15 i) else none)))))), (o3, .inl (cI, 12, .inl fw4)), (o32, .inl (cI, 12, .inl fw33))] : va_W) ++ (gr13 rw15 cI 12 Gw16 ++ ([] : va_W))) := hD
  refine lv_aload_n hx hb dX11_take_7 rfl (lv_at hl 0 rfl) ?_
  refine va_get (D := (dC, dI)) (ci := 11) (v := .ref o2) (C := RX11) (T := TX11) (N := 13) hx hb hts iw_X11_take_X11 hown hK hP 0 rfl rfl 0 (by decide) (hts (.fieldLink RX11 10 "HolelessHouse" "graph" "LHolelessHouse$Graph;") (by decide +kernel)) (fun _ h9 => h9) rfl dX11_take_8 ?_
  refine kc_i (D := (dC, dI)) (S := Unit) (wc := [(o2, .inr (4, [.ref o3, .int v5, .int v6]))]) (wr := ([(o1, .inr (11, [.ref o2, .ref o7, .ref o12, .ref o41, .ref o51, .ref o64, .ref o77, .ref o84, .ref o91, .ref o99, .ref o111, .ref o123, .int v125])), (o12, .inr (6, [.ref o13, .ref o18, .ref o32, .ref o34, .int v36, .int v37, .int v38, .int v39, .int v40])), (o34, .inl (cI, 12, .inl fw35)), (o13, .inr (3, [.ref o14, .int v17])), (o14, .inl (c2, 13, .inr (.inr (.inr (.inr (fun i => if i < 13 then some (rw15 i) else none)))))), (o3, .inl (cI, 12, .inl fw4)), (o32, .inl (cI, 12, .inl fw33))] : va_W) ++ (gr13 rw15 cI 12 Gw16 ++ ([] : va_W))) (w1 := fun _ => [(o2, .inr (4, [.ref o3, .int v5, .int v6]))]) (wn := fun _ => ([(o1, .inr (11, [.ref o2, .ref o7, .ref o12, .ref o41, .ref o51, .ref o64, .ref o77, .ref o84, .ref o91, .ref o99, .ref o111, .ref o123, .int v125])), (o12, .inr (6, [.ref o13, .ref o18, .ref o32, .ref o34, .int v36, .int v37, .int v38, .int v39, .int v40])), (o34, .inl (cI, 12, .inl fw35)), (o2, .inr (4, [.ref o3, .int v5, .int v6])), (o13, .inr (3, [.ref o14, .int v17])), (o14, .inl (c2, 13, .inr (.inr (.inr (.inr (fun i => if i < 13 then some (rw15 i) else none)))))), (o3, .inl (cI, 12, .inl fw4)), (o32, .inl (cI, 12, .inl fw33))] : va_W) ++ (gr13 rw15 cI 12 Gw16 ++ ([] : va_W))) (fun hPc hDc => va_runVN (As := []) (rest := [.int x1]) ⟨hx, hb, hml, hown, hts⟩ (kX4_all_1 l dC dI cI c2 cZ o2 o3 v5 v6 H.size v5_h) ⟨va_cnB 0 hts gX11_take_X4_all_n164 rfl rfl rfl (hN.1 _ ns_63) (hts (.initialized RX4) (by decide +kernel)) (by decide +kernel) ⟨Nat.le_of_ble_eq_true rfl, Nat.le_of_ble_eq_true rfl⟩, (hts (.instanceMethod yX4_all) (by decide +kernel)), (hts (.selects RX4 yX4_all yX4_all) (by decide +kernel))⟩ (pre_V hPc hK hDc hN (ci := 4) (q0 := 0) rfl rfl) rfl rfl hl.1 rfl (lv_room (Nat.le_of_ble_eq_true rfl)) dX11_take_11 ⟨Nat.le_of_ble_eq_true rfl, Nat.le_of_ble_eq_true rfl⟩) hP hD hS hA [3] [0, 1, 2, 4, 5, 6, 7, 8, 9, 10, 11, 12, 13, 14, 15, 16, 17, 18, 19, 20] [0, 1, 2, 20, 3, 4, 5, 6, 7, 8, 9, 10, 11, 12, 13, 14, 15, 16, 17, 18, 19] rfl rfl (by decide) (by decide) (by decide) (by decide) (fun _ => rfl) (fun x2 _ H locs hq hP hD hS => ?_)
  have x2_h := hq
  have hP : va_P (dC, dI) vwCl (([(o1, .inr (11, [.ref o2, .ref o7, .ref o12, .ref o41, .ref o51, .ref o64, .ref o77, .ref o84, .ref o91, .ref o99, .ref o111, .ref o123, .int v125])), (o12, .inr (6, [.ref o13, .ref o18, .ref o32, .ref o34, .int v36, .int v37, .int v38, .int v39, .int v40])), (o34, .inl (cI, 12, .inl fw35)), (o2, .inr (4, [.ref o3, .int v5, .int v6])), (o13, .inr (3, [.ref o14, .int v17])), (o14, .inl (c2, 13, .inr (.inr (.inr (.inr (fun i => if i < 13 then some (rw15 i) else none)))))), (o3, .inl (cI, 12, .inl fw4)), (o32, .inl (cI, 12, .inl fw33))] : va_W) ++ (gr13 rw15 cI 12 Gw16 ++ ([] : va_W))) H := hP
  have hD : va_D A (([(o1, .inr (11, [.ref o2, .ref o7, .ref o12, .ref o41, .ref o51, .ref o64, .ref o77, .ref o84, .ref o91, .ref o99, .ref o111, .ref o123, .int v125])), (o12, .inr (6, [.ref o13, .ref o18, .ref o32, .ref o34, .int v36, .int v37, .int v38, .int v39, .int v40])), (o34, .inl (cI, 12, .inl fw35)), (o2, .inr (4, [.ref o3, .int v5, .int v6])), (o13, .inr (3, [.ref o14, .int v17])), (o14, .inl (c2, 13, .inr (.inr (.inr (.inr (fun i => if i < 13 then some (rw15 i) else none)))))), (o3, .inl (cI, 12, .inl fw4)), (o32, .inl (cI, 12, .inl fw33))] : va_W) ++ (gr13 rw15 cI 12 Gw16 ++ ([] : va_W))) := hD
  refine lv_icmp_ne (tgt := 21) hx hb dX11_take_14 (by decide) (fun h3 => ?_) (fun h3 => ?_)
  ·
    refine lv_iconst (v := 0) hx hb dX11_take_21 (by decide) ?_
    refine lv_istore_n (lv' := [(1, .int 0), (0, .ref o1)]) hx hb dX11_take_22 rfl hl (by decide) rfl (fun ls hl => ?_)
    refine lv_iload_n hx hb dX11_take_23 rfl (lv_at hl 0 rfl) ?_
    refine lv_if_eq (tgt := 38) hx hb dX11_take_24 (by decide) (fun _ => ?_) (fun h9 => absurd (by decide +kernel) h9)
    refine lv_aload_n hx hb dX11_take_38 rfl (lv_at hl 1 rfl) ?_
    refine va_get (D := (dC, dI)) (ci := 11) (v := .ref o12) (C := RX11) (T := TX11) (N := 13) hx hb hts iw_X11_take_X11 hown hK hP 0 rfl rfl 2 (by decide) (hts (.fieldLink RX11 26 "HolelessHouse" "ordering" "LHolelessHouse$Ordering;") (by decide +kernel)) (fun _ h9 => h9) rfl dX11_take_39 ?_
    refine lv_iconst (v := 0) hx hb dX11_take_42 (by decide) ?_
    refine va_putN (D := (dC, dI)) (ci := 6) (v := .int 0) (ty := .int) (C := RX6) (T := TX6) (N := 9) hx hb hts iw_X11_take_X6 tyX6 tyX6_ok nmX6 hown hK hP hD hS 1 rfl rfl 4 (by decide) (hN.use ns_27) (fun _ h9 => h9) rfl (by decide +kernel) rfl rfl (Nat.le_of_ble_eq_true rfl) dX11_take_43 (fun H locs hP hD hS => ?_)
    have hP : va_P (dC, dI) vwCl (([(o1, .inr (11, [.ref o2, .ref o7, .ref o12, .ref o41, .ref o51, .ref o64, .ref o77, .ref o84, .ref o91, .ref o99, .ref o111, .ref o123, .int v125])), (o12, .inr (6, [.ref o13, .ref o18, .ref o32, .ref o34, .int 0, .int v37, .int v38, .int v39, .int v40])), (o34, .inl (cI, 12, .inl fw35)), (o2, .inr (4, [.ref o3, .int v5, .int v6])), (o13, .inr (3, [.ref o14, .int v17])), (o14, .inl (c2, 13, .inr (.inr (.inr (.inr (fun i => if i < 13 then some (rw15 i) else none)))))), (o3, .inl (cI, 12, .inl fw4)), (o32, .inl (cI, 12, .inl fw33))] : va_W) ++ (gr13 rw15 cI 12 Gw16 ++ ([] : va_W))) H := hP
    have hD : va_D A (([(o1, .inr (11, [.ref o2, .ref o7, .ref o12, .ref o41, .ref o51, .ref o64, .ref o77, .ref o84, .ref o91, .ref o99, .ref o111, .ref o123, .int v125])), (o12, .inr (6, [.ref o13, .ref o18, .ref o32, .ref o34, .int 0, .int v37, .int v38, .int v39, .int v40])), (o34, .inl (cI, 12, .inl fw35)), (o2, .inr (4, [.ref o3, .int v5, .int v6])), (o13, .inr (3, [.ref o14, .int v17])), (o14, .inl (c2, 13, .inr (.inr (.inr (.inr (fun i => if i < 13 then some (rw15 i) else none)))))), (o3, .inl (cI, 12, .inl fw4)), (o32, .inl (cI, 12, .inl fw33))] : va_W) ++ (gr13 rw15 cI 12 Gw16 ++ ([] : va_W))) := hD
    refine lv_iload_n hx hb dX11_take_46 rfl (lv_at hl 0 rfl) ?_
    refine lv_if_eq (tgt := 60) hx hb dX11_take_47 (by decide) (fun _ => ?_) (fun h9 => absurd (by decide +kernel) h9)
    refine lv_bipush (v := (-4)) hx hb dX11_take_60 (by decide) ?_
    rw [hQ]
    exact W.iret (v := (-4)) hx hb hr (fun t ht hW => ⟨⟨(-4), (0, v37, v38, v39, v40, v17, Gw16, fw33), rfl, ⟨(iv_w ik_0 (by decide)), v37_h, v38_h, v17_h, Gw16_b, fw33_b⟩, by rw [ht]; exact hP, va_K.moved hW.alike hK, hD⟩, hS.F ht⟩) hS.2.2 dX11_take_62
  ·
    refine lv_iconst (v := 1) hx hb dX11_take_17 (by decide) ?_
    refine lv_goto (tgt := 22) hx hb dX11_take_18 (by decide) ?_
    refine lv_istore_n (lv' := [(1, .int 1), (0, .ref o1)]) hx hb dX11_take_22 rfl hl (by decide) rfl (fun ls hl => ?_)
    refine lv_iload_n hx hb dX11_take_23 rfl (lv_at hl 0 rfl) ?_
    refine lv_if_eq (tgt := 38) hx hb dX11_take_24 (by decide) (fun h9 => absurd h9 (by decide +kernel)) (fun _ => ?_)
    refine lv_aload_n hx hb dX11_take_27 rfl (lv_at hl 1 rfl) ?_
    refine va_get (D := (dC, dI)) (ci := 11) (v := .ref o12) (C := RX11) (T := TX11) (N := 13) hx hb hts iw_X11_take_X11 hown hK hP 0 rfl rfl 2 (by decide) (hts (.fieldLink RX11 26 "HolelessHouse" "ordering" "LHolelessHouse$Ordering;") (by decide +kernel)) (fun _ h9 => h9) rfl dX11_take_28 ?_
    refine lv_aload_n hx hb dX11_take_31 rfl (lv_at hl 1 rfl) ?_
    refine va_get (D := (dC, dI)) (ci := 11) (v := .ref o2) (C := RX11) (T := TX11) (N := 13) hx hb hts iw_X11_take_X11 hown hK hP 0 rfl rfl 0 (by decide) (hts (.fieldLink RX11 10 "HolelessHouse" "graph" "LHolelessHouse$Graph;") (by decide +kernel)) (fun _ h9 => h9) rfl dX11_take_32 ?_
    refine kc_v (D := (dC, dI)) (S := Int32 × Int32 × Int32 × Int32 × Int32 × (Nat → Nat → Int32) × (Nat → Int32)) (wc := ([(o12, .inr (6, [.ref o13, .ref o18, .ref o32, .ref o34, .int v36, .int v37, .int v38, .int v39, .int v40])), (o13, .inr (3, [.ref o14, .int v17])), (o2, .inr (4, [.ref o3, .int v5, .int v6])), (o14, .inl (c2, 13, .inr (.inr (.inr (.inr (fun i => if i < 13 then some (rw15 i) else none)))))), (o3, .inl (cI, 12, .inl fw4)), (o34, .inl (cI, 12, .inl fw35)), (o32, .inl (cI, 12, .inl fw33))] : va_W) ++ (gr13 rw15 cI 12 Gw16 ++ ([] : va_W))) (wr := [(o1, .inr (11, [.ref o2, .ref o7, .ref o12, .ref o41, .ref o51, .ref o64, .ref o77, .ref o84, .ref o91, .ref o99, .ref o111, .ref o123, .int v125]))]) (w1 := fun u => ([(o12, .inr (6, [.ref o13, .ref o18, .ref o32, .ref o34, .int v36, .int u.1, .int u.2.1, .int u.2.2.1, .int u.2.2.2.1])), (o13, .inr (3, [.ref o14, .int u.2.2.2.2.1])), (o2, .inr (4, [.ref o3, .int v5, .int v6])), (o14, .inl (c2, 13, .inr (.inr (.inr (.inr (fun i => if i < 13 then some (rw15 i) else none)))))), (o3, .inl (cI, 12, .inl fw4)), (o34, .inl (cI, 12, .inl fw35)), (o32, .inl (cI, 12, .inl u.2.2.2.2.2.2))] : va_W) ++ (gr13 rw15 cI 12 u.2.2.2.2.2.1 ++ ([] : va_W))) (wn := fun u => ([(o1, .inr (11, [.ref o2, .ref o7, .ref o12, .ref o41, .ref o51, .ref o64, .ref o77, .ref o84, .ref o91, .ref o99, .ref o111, .ref o123, .int v125])), (o12, .inr (6, [.ref o13, .ref o18, .ref o32, .ref o34, .int v36, .int u.1, .int u.2.1, .int u.2.2.1, .int u.2.2.2.1])), (o34, .inl (cI, 12, .inl fw35)), (o2, .inr (4, [.ref o3, .int v5, .int v6])), (o13, .inr (3, [.ref o14, .int u.2.2.2.2.1])), (o14, .inl (c2, 13, .inr (.inr (.inr (.inr (fun i => if i < 13 then some (rw15 i) else none)))))), (o3, .inl (cI, 12, .inl fw4)), (o32, .inl (cI, 12, .inl u.2.2.2.2.2.2))] : va_W) ++ (gr13 rw15 cI 12 u.2.2.2.2.2.1 ++ ([] : va_W))) (fun hPc hDc => va_runVN (As := [.ref o2]) (rest := []) ⟨hx, hb, hml, hown, hts⟩ (kX6_followDraft_1 l dC dI cI c2 cZ o12 o2 o13 o18 o32 o34 o14 o3 rw15 Gw16 v17 fw33 fw35 v36 v37 v38 v39 v40 fw4 v5 v6 H.size Gw16_b v17_h fw33_b fw35_b v36_h v37_h v38_h fw4_b v5_h) ⟨va_cnB 1 hts gX11_take_X6_followDraft_n167 rfl rfl rfl (hN.1 _ ns_83) (hts (.initialized RX6) (by decide +kernel)) (by decide +kernel) ⟨Nat.le_of_ble_eq_true rfl, Nat.le_of_ble_eq_true rfl⟩, (hts (.instanceMethod yX6_followDraft) (by decide +kernel)), (hts (.selects RX6 yX6_followDraft yX6_followDraft) (by decide +kernel))⟩ (pre_V hPc hK hDc hN (ci := 6) (q0 := 0) rfl rfl) rfl rfl hl.1 rfl (lv_room (Nat.le_of_ble_eq_true rfl)) dX11_take_35 ⟨Nat.le_of_ble_eq_true rfl, Nat.le_of_ble_eq_true rfl⟩) hP hD hS hA [1, 4, 3, 5, 6, 2, 7, 8, 9, 10, 11, 12, 13, 14, 15, 16, 17, 18, 19, 20] [0] [0, 1, 6, 3, 2, 4, 5, 7, 8, 9, 10, 11, 12, 13, 14, 15, 16, 17, 18, 19, 20] rfl rfl (by decide) (by decide) (by decide) (by decide) (fun _ => rfl) (fun u H locs hq hP hD hS => ?_)
    obtain ⟨y4, y5, y6, y7, y8, G9, f10⟩ := u
    obtain ⟨y4_h, y5_h, y8_h, G9_b, f10_b⟩ := hq
    have hP : va_P (dC, dI) vwCl (([(o1, .inr (11, [.ref o2, .ref o7, .ref o12, .ref o41, .ref o51, .ref o64, .ref o77, .ref o84, .ref o91, .ref o99, .ref o111, .ref o123, .int v125])), (o12, .inr (6, [.ref o13, .ref o18, .ref o32, .ref o34, .int v36, .int y4, .int y5, .int y6, .int y7])), (o34, .inl (cI, 12, .inl fw35)), (o2, .inr (4, [.ref o3, .int v5, .int v6])), (o13, .inr (3, [.ref o14, .int y8])), (o14, .inl (c2, 13, .inr (.inr (.inr (.inr (fun i => if i < 13 then some (rw15 i) else none)))))), (o3, .inl (cI, 12, .inl fw4)), (o32, .inl (cI, 12, .inl f10))] : va_W) ++ (gr13 rw15 cI 12 G9 ++ ([] : va_W))) H := hP
    have hD : va_D A (([(o1, .inr (11, [.ref o2, .ref o7, .ref o12, .ref o41, .ref o51, .ref o64, .ref o77, .ref o84, .ref o91, .ref o99, .ref o111, .ref o123, .int v125])), (o12, .inr (6, [.ref o13, .ref o18, .ref o32, .ref o34, .int v36, .int y4, .int y5, .int y6, .int y7])), (o34, .inl (cI, 12, .inl fw35)), (o2, .inr (4, [.ref o3, .int v5, .int v6])), (o13, .inr (3, [.ref o14, .int y8])), (o14, .inl (c2, 13, .inr (.inr (.inr (.inr (fun i => if i < 13 then some (rw15 i) else none)))))), (o3, .inl (cI, 12, .inl fw4)), (o32, .inl (cI, 12, .inl f10))] : va_W) ++ (gr13 rw15 cI 12 G9 ++ ([] : va_W))) := hD
    refine lv_aload_n hx hb dX11_take_38 rfl (lv_at hl 1 rfl) ?_
    refine va_get (D := (dC, dI)) (ci := 11) (v := .ref o12) (C := RX11) (T := TX11) (N := 13) hx hb hts iw_X11_take_X11 hown hK hP 0 rfl rfl 2 (by decide) (hts (.fieldLink RX11 26 "HolelessHouse" "ordering" "LHolelessHouse$Ordering;") (by decide +kernel)) (fun _ h9 => h9) rfl dX11_take_39 ?_
    refine lv_iconst (v := 0) hx hb dX11_take_42 (by decide) ?_
    refine va_putN (D := (dC, dI)) (ci := 6) (v := .int 0) (ty := .int) (C := RX6) (T := TX6) (N := 9) hx hb hts iw_X11_take_X6 tyX6 tyX6_ok nmX6 hown hK hP hD hS 1 rfl rfl 4 (by decide) (hN.use ns_27) (fun _ h9 => h9) rfl (by decide +kernel) rfl rfl (Nat.le_of_ble_eq_true rfl) dX11_take_43 (fun H locs hP hD hS => ?_)
    have hP : va_P (dC, dI) vwCl (([(o1, .inr (11, [.ref o2, .ref o7, .ref o12, .ref o41, .ref o51, .ref o64, .ref o77, .ref o84, .ref o91, .ref o99, .ref o111, .ref o123, .int v125])), (o12, .inr (6, [.ref o13, .ref o18, .ref o32, .ref o34, .int 0, .int y4, .int y5, .int y6, .int y7])), (o34, .inl (cI, 12, .inl fw35)), (o2, .inr (4, [.ref o3, .int v5, .int v6])), (o13, .inr (3, [.ref o14, .int y8])), (o14, .inl (c2, 13, .inr (.inr (.inr (.inr (fun i => if i < 13 then some (rw15 i) else none)))))), (o3, .inl (cI, 12, .inl fw4)), (o32, .inl (cI, 12, .inl f10))] : va_W) ++ (gr13 rw15 cI 12 G9 ++ ([] : va_W))) H := hP
    have hD : va_D A (([(o1, .inr (11, [.ref o2, .ref o7, .ref o12, .ref o41, .ref o51, .ref o64, .ref o77, .ref o84, .ref o91, .ref o99, .ref o111, .ref o123, .int v125])), (o12, .inr (6, [.ref o13, .ref o18, .ref o32, .ref o34, .int 0, .int y4, .int y5, .int y6, .int y7])), (o34, .inl (cI, 12, .inl fw35)), (o2, .inr (4, [.ref o3, .int v5, .int v6])), (o13, .inr (3, [.ref o14, .int y8])), (o14, .inl (c2, 13, .inr (.inr (.inr (.inr (fun i => if i < 13 then some (rw15 i) else none)))))), (o3, .inl (cI, 12, .inl fw4)), (o32, .inl (cI, 12, .inl f10))] : va_W) ++ (gr13 rw15 cI 12 G9 ++ ([] : va_W))) := hD
    refine lv_iload_n hx hb dX11_take_46 rfl (lv_at hl 0 rfl) ?_
    refine lv_if_eq (tgt := 60) hx hb dX11_take_47 (by decide) (fun h9 => absurd h9 (by decide +kernel)) (fun _ => ?_)
    refine lv_aload_n hx hb dX11_take_50 rfl (lv_at hl 1 rfl) ?_
    refine va_get (D := (dC, dI)) (ci := 11) (v := .ref o12) (C := RX11) (T := TX11) (N := 13) hx hb hts iw_X11_take_X11 hown hK hP 0 rfl rfl 2 (by decide) (hts (.fieldLink RX11 26 "HolelessHouse" "ordering" "LHolelessHouse$Ordering;") (by decide +kernel)) (fun _ h9 => h9) rfl dX11_take_51 ?_
    refine va_getN (D := (dC, dI)) (ci := 6) (v := .int y6) (C := RX6) (T := TX6) (N := 9) hx hb hts iw_X11_take_X6 hown hK hP 1 rfl rfl 7 (by decide) (hN.use ns_29) (fun _ h9 => h9) rfl dX11_take_54 ?_
    refine lv_goto (tgt := 62) hx hb dX11_take_57 (by decide) ?_
    rw [hQ]
    exact W.iret (v := y6) hx hb hr (fun t ht hW => ⟨⟨y6, (0, y4, y5, y6, y7, y8, G9, f10), rfl, ⟨(iv_w ik_0 (by decide)), y4_h, y5_h, y8_h, G9_b, f10_b⟩, by rw [ht]; exact hP, va_K.moved hW.alike hK, hD⟩, hS.F ht⟩) hS.2.2 dX11_take_62
