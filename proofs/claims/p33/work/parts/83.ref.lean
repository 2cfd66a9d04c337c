theorem hm_X12_row_1 : (.fieldLink RX12 128 "HolelessHouseModel" "columns" "I" : Cond) ∈ wsX12_row := List.mem_of_getElem? (i := 1) rfl
theorem hm_X12_row_2 : (.fieldLink RX12 16 "HolelessHouseModel" "rows" "[I" : Cond) ∈ wsX12_row := List.mem_of_getElem? (i := 2) rfl
theorem hm_X12_told_1 : (.fieldLink RX12 16 "HolelessHouseModel" "rows" "[I" : Cond) ∈ wsX12_told := List.mem_of_getElem? (i := 1) rfl
theorem hm_X12_tear_1 : (.fieldLink RX12 16 "HolelessHouseModel" "rows" "[I" : Cond) ∈ wsX12_tear := List.mem_of_getElem? (i := 1) rfl
theorem hm_X12_copy_1 : (.constantLong RX12 209 (12) : Cond) ∈ wsX12_copy := List.mem_of_getElem? (i := 1) rfl
theorem hm_X12_copy_3 : (.fieldLink RX12 16 "HolelessHouseModel" "rows" "[I" : Cond) ∈ wsX12_copy := List.mem_of_getElem? (i := 3) rfl
theorem hm_X12_copy_2 : (.fieldLink RX12 67 "HolelessHouseModel" "moving" "[I" : Cond) ∈ wsX12_copy := List.mem_of_getElem? (i := 2) rfl
theorem hm_X12_seat_1 : (.fieldLink RX12 128 "HolelessHouseModel" "columns" "I" : Cond) ∈ wsX12_seat := List.mem_of_getElem? (i := 1) rfl
theorem hm_X12_seat_2 : (.fieldLink RX12 191 "HolelessHouseModel" "thingMany" "I" : Cond) ∈ wsX12_seat := List.mem_of_getElem? (i := 2) rfl
theorem hm_X12_seat_3 : (.fieldLink RX12 54 "HolelessHouseModel" "things" "[I" : Cond) ∈ wsX12_seat := List.mem_of_getElem? (i := 3) rfl
theorem hm_X12_seat_4 : (.fieldLink RX12 16 "HolelessHouseModel" "rows" "[I" : Cond) ∈ wsX12_seat := List.mem_of_getElem? (i := 4) rfl
theorem hm_X12_lines_1 : (.fieldLink RX12 191 "HolelessHouseModel" "thingMany" "I" : Cond) ∈ wsX12_lines := List.mem_of_getElem? (i := 1) rfl
theorem hm_X12_lines_2 : (.fieldLink RX12 61 "HolelessHouseModel" "counts" "[I" : Cond) ∈ wsX12_lines := List.mem_of_getElem? (i := 2) rfl
set_option maxHeartbeats 4000000 in
set_option maxRecDepth 100000 in
theorem kX12_in_9 (l : Launch) (dC : Nat → ClassId) (dI : Nat → Nat → Nat) (cI c2 cZ : ClassId) (a0 : Int32) (a1 : Int32) (a2 : Int32) (sz : Nat) (a1_h : Iv 0 0 a1) (a2_h : Iv 4 11 a2) : Met l yX12_in wsX12_in ({ frames := 0, cells := 0, slots := 0, locals := 0 }) (va_Pc [.int a0, .int a1, .int a2] (wPre (dC, dI) [(cI, .int), (c2, .array .int), (cZ, .boolean)] ([]) sz)) (va_Qi (fun (r : Int32) (_ : Unit) => Iv 0 1 r ∧ (¬ r = 0 → Iv 0 11 a0) ∧ (¬ r = 0 → Int32.toInt a1 ≤ Int32.toInt a0 ∧ Int32.toInt a0 ≤ Int32.toInt a2)) (fun _ t => wPost (dC, dI) [(cI, .int), (c2, .array .int), (cZ, .boolean)] (va_A ([]) sz) ([]) t) (va_A ([]) sz)) 0 0 (va_A ([]) sz) := by
  refine Met.ofW (cc := cX12_in) (maxL := 3) (ret := (some .boolean)) (by decide) rfl ?_
  intro p e s m args below meth c s₁ B hml hv
  obtain ⟨rfl, hsz, hP, hK, hD0, hN⟩ := hv
  have hx := B.exec
  have hb := B.bytes
  have hr := B.returns
  have hts := atoms_spec (ws := wsX12_in) B.pre
  have hown : s.vm.findClass RX12 = some m.cls := findClass_of_methodNamed B.named
  have hlocks := B.notSynchronized
  subst hsz
  have hD := hD0.self (sz := s.heap.size)
  generalize hAe : va_A ([]) s.heap.size = A at hD ⊢
  have hA : ∀ q : Nat, s.heap.size ≤ q → A q := fun q h => by rw [← hAe]; exact Or.inr h
  have hS : va_S A s.heap s.heap [] := va_S.rf
  have hP : va_P (dC, dI) vwCl ([]) s.heap := hP
  have hl := lv_entry ([.int a0, .int a1, .int a2]) (n := 3) (Nat.le_of_ble_eq_true rfl)
  rw [lg_entry_eq]
  generalize (lg_sl ([.int a0, .int a1, .int a2]) ++ List.replicate (3 - (lg_sl ([.int a0, .int a1, .int a2])).length) Slot.unset).toArray = ls at hl ⊢
  have hl : lv_has ls 3 [(0, .int a0), (1, .int a1), (2, .int a2)] := hl
  refine gen_Q (fun Q hQ => ?_)
  refine lv_iload_n hx hb dX12_in_0 rfl (lv_at hl 0 rfl) ?_
  refine lv_iload_n hx hb dX12_in_1 rfl (lv_at hl 1 rfl) ?_
  refine lv_icmp_lt (tgt := 14) hx hb dX12_in_2 (by decide) (fun h1 => ?_) (fun h1 => ?_)
  ·
    have qh1 := lt_i h1
    have j2 : Iv (-2147483648) (-1) a0 := r_ltl qh1 (iv_full a0) a1_h (by decide)
    refine lv_iconst (v := 0) hx hb dX12_in_14 (by decide) ?_
    rw [hQ]
    exact W.zret (v := 0) (ty := .boolean) hx hb hr rfl (fun t ht hW => ⟨⟨0, (), rfl, ⟨(iv_w ik_0 (by decide)), (fun h8 => absurd rfl h8), (fun h8 => absurd rfl h8)⟩, by rw [ht]; exact hP, va_K.moved hW.alike hK, hD⟩, hS.F ht⟩) hS.2.2 dX12_in_15
  ·
    have qh1 := nlt_i h1
    have j3 : Iv 0 2147483647 a0 := r_ler qh1 a1_h (iv_full a0) (by decide)
    refine lv_iload_n hx hb dX12_in_5 rfl (lv_at hl 0 rfl) ?_
    refine lv_iload_n hx hb dX12_in_6 rfl (lv_at hl 2 rfl) ?_
    refine lv_icmp_gt (tgt := 14) hx hb dX12_in_7 (by decide) (fun h4 => ?_) (fun h4 => ?_)
    ·
      have qh4 := lt_i h4
      have j5 : Iv 5 2147483647 a0 := r_ltr qh4 a2_h j3 (by decide)
      refine lv_iconst (v := 0) hx hb dX12_in_14 (by decide) ?_
      rw [hQ]
      exact W.zret (v := 0) (ty := .boolean) hx hb hr rfl (fun t ht hW => ⟨⟨0, (), rfl, ⟨(iv_w ik_0 (by decide)), (fun h8 => absurd rfl h8), (fun h8 => absurd rfl h8)⟩, by rw [ht]; exact hP, va_K.moved hW.alike hK, hD⟩, hS.F ht⟩) hS.2.2 dX12_in_15
    ·
      have qh4 := nlt_i h4
      have j6 : Iv 0 11 a0 := r_lel qh4 j3 a2_h (by decide)
      refine lv_iconst (v := 1) hx hb dX12_in_10 (by decide) ?_
      refine lv_goto (tgt := 15) hx hb dX12_in_11 (by decide) ?_
      rw [hQ]
      exact W.zret (v := 1) (ty := .boolean) hx hb hr rfl (fun t ht hW => ⟨⟨1, (), rfl, ⟨(iv_w ik_1 (by decide)), (fun _ => j6), (fun _ => ⟨qh1, qh4⟩)⟩, by rw [ht]; exact hP, va_K.moved hW.alike hK, hD⟩, hS.F ht⟩) hS.2.2 dX12_in_15
set_option maxHeartbeats 4000000 in
set_option maxRecDepth 100000 in
theorem kX12_meets_3 (l : Launch) (dC : Nat → ClassId) (dI : Nat → Nat → Nat) (cI c2 cZ : ClassId) (o1 : Nat) (o3 : Nat) (o6 : Nat) (o9 : Nat) (o11 : Nat) (o14 : Nat) (o17 : Nat) (o22 : Nat) (o24 : Nat) (o26 : Nat) (o28 : Nat) (o30 : Nat) (o33 : Nat) (o35 : Nat) (o37 : Nat) (o40 : Nat) (o42 : Nat) (o44 : Nat) (o47 : Nat) (v2 : Int32) (fw4 : Nat → Int32) (v5 : Int32) (v8 : Int32) (v13 : Int32) (v16 : Int32) (v19 : Int32) (v20 : Int32) (v21 : Int32) (v32 : Int32) (v39 : Int32) (v46 : Int32) (a1 : Int32) (sz : Nat) (v5_h : Iv 0 12 v5) (v8_h : Iv 0 8 v8) (v13_h : Iv 0 12 v13) (v16_h : Iv 0 12 v16) (v19_h : Iv (-9) 12 v19) (v32_h : Iv 0 99 v32) (v39_h : Iv 0 12 v39) (v46_h : Iv 0 12 v46) (a1_h : Iv 2 2 a1) : Met l yX12_meets wsX12_meets ({ frames := 0, cells := 0, slots := 0, locals := 0 }) (va_Pc [.ref o1, .int a1] (wPre (dC, dI) [(cI, .int), (c2, .array .int), (cZ, .boolean)] ([(o1, .inr (12, [.int v2, .ref o3, .int v5, .ref o6, .int v8, .ref o9, .ref o11, .int v13, .ref o14, .int v16, .ref o17, .int v19, .int v20, .int v21, .ref o22, .ref o24, .ref o26, .ref o28, .ref o30, .int v32, .ref o33, .ref o35, .ref o37, .int v39, .ref o40, .ref o42, .ref o44, .int v46, .ref o47])), (o3, .inl (cI, 5, .inl fw4))]) sz)) (va_Qi (fun (r : Int32) (u : Int32 × (Nat → Int32)) => Iv (-3) (-3) r) (fun u t => wPost (dC, dI) [(cI, .int), (c2, .array .int), (cZ, .boolean)] (va_A ([(o1, .inr (12, [.int v2, .ref o3, .int v5, .ref o6, .int v8, .ref o9, .ref o11, .int v13, .ref o14, .int v16, .ref o17, .int v19, .int v20, .int v21, .ref o22, .ref o24, .ref o26, .ref o28, .ref o30, .int v32, .ref o33, .ref o35, .ref o37, .int v39, .ref o40, .ref o42, .ref o44, .int v46, .ref o47])), (o3, .inl (cI, 5, .inl fw4))]) sz) ([(o1, .inr (12, [.int u.1, .ref o3, .int v5, .ref o6, .int v8, .ref o9, .ref o11, .int v13, .ref o14, .int v16, .ref o17, .int v19, .int v20, .int v21, .ref o22, .ref o24, .ref o26, .ref o28, .ref o30, .int v32, .ref o33, .ref o35, .ref o37, .int v39, .ref o40, .ref o42, .ref o44, .int v46, .ref o47])), (o3, .inl (cI, 5, .inl u.2))]) t) (va_A ([(o1, .inr (12, [.int v2, .ref o3, .int v5, .ref o6, .int v8, .ref o9, .ref o11, .int v13, .ref o14, .int v16, .ref o17, .int v19, .int v20, .int v21, .ref o22, .ref o24, .ref o26, .ref o28, .ref o30, .int v32, .ref o33, .ref o35, .ref o37, .int v39, .ref o40, .ref o42, .ref o44, .int v46, .ref o47])), (o3, .inl (cI, 5, .inl fw4))]) sz)) 0 0 (va_A ([(o1, .inr (12, [.int v2, .ref o3, .int v5, .ref o6, .int v8, .ref o9, .ref o11, .int v13, .ref o14, .int v16, .ref o17, .int v19, .int v20, .int v21, .ref o22, .ref o24, .ref o26, .ref o28, .ref o30, .int v32, .ref o33, .ref o35, .ref o37, .int v39, .ref o40, .ref o42, .ref o44, .int v46, .ref o47])), (o3, .inl (cI, 5, .inl fw4))]) sz) := by
  refine Met.ofW (cc := cX12_meets) (maxL := 2) (ret := (some .int)) (by decide) rfl ?_
  intro p e s m args below meth c s₁ B hml hv
  obtain ⟨rfl, hsz, hP, hK, hD0, hN⟩ := hv
  have hx := B.exec
  have hb := B.bytes
  have hr := B.returns
  have hts := atoms_spec (ws := wsX12_meets) B.pre
  have hown : s.vm.findClass RX12 = some m.cls := findClass_of_methodNamed B.named
  have hlocks := B.notSynchronized
  subst hsz
  have hD := hD0.self (sz := s.heap.size)
  generalize hAe : va_A ([(o1, .inr (12, [.int v2, .ref o3, .int v5, .ref o6, .int v8, .ref o9, .ref o11, .int v13, .ref o14, .int v16, .ref o17, .int v19, .int v20, .int v21, .ref o22, .ref o24, .ref o26, .ref o28, .ref o30, .int v32, .ref o33, .ref o35, .ref o37, .int v39, .ref o40, .ref o42, .ref o44, .int v46, .ref o47])), (o3, .inl (cI, 5, .inl fw4))]) s.heap.size = A at hD ⊢
  have hA : ∀ q : Nat, s.heap.size ≤ q → A q := fun q h => by rw [← hAe]; exact Or.inr h
  have hS : va_S A s.heap s.heap [] := va_S.rf
  have hP : va_P (dC, dI) vwCl ([(o1, .inr (12, [.int v2, .ref o3, .int v5, .ref o6, .int v8, .ref o9, .ref o11, .int v13, .ref o14, .int v16, .ref o17, .int v19, .int v20, .int v21, .ref o22, .ref o24, .ref o26, .ref o28, .ref o30, .int v32, .ref o33, .ref o35, .ref o37, .int v39, .ref o40, .ref o42, .ref o44, .int v46, .ref o47])), (o3, .inl (cI, 5, .inl fw4))]) s.heap := hP
  have hl := lv_entry ([.ref o1, .int a1]) (n := 2) (Nat.le_of_ble_eq_true rfl)
  rw [lg_entry_eq]
  generalize (lg_sl ([.ref o1, .int a1]) ++ List.replicate (2 - (lg_sl ([.ref o1, .int a1])).length) Slot.unset).toArray = ls at hl ⊢
  have hl : lv_has ls 2 [(0, .ref o1), (1, .int a1)] := hl
  refine gen_Q (fun Q hQ => ?_)
  refine lv_aload_n hx hb dX12_meets_0 rfl (lv_at hl 0 rfl) ?_
  refine lv_iload_n hx hb dX12_meets_1 rfl (lv_at hl 1 rfl) ?_
  refine va_put (D := (dC, dI)) (ci := 12) (v := .int a1) (ty := .int) (C := RX12) (T := TX12) (N := 29) hx hb hts iw_X12_meets_X12 tyX12 tyX12_ok nmX12 hown hK hP hD hS 0 rfl rfl 0 (by decide) (hts (.fieldLink RX12 70 "HolelessHouseModel" "finding" "I") hm_X12_meets_1) (fun _ h9 => h9) rfl (by decide +kernel) rfl rfl (Nat.le_of_ble_eq_true rfl) dX12_meets_2 (fun H locs hP hD hS => ?_)
  have hP : va_P (dC, dI) vwCl ([(o1, .inr (12, [.int a1, .ref o3, .int v5, .ref o6, .int v8, .ref o9, .ref o11, .int v13, .ref o14, .int v16, .ref o17, .int v19, .int v20, .int v21, .ref o22, .ref o24, .ref o26, .ref o28, .ref o30, .int v32, .ref o33, .ref o35, .ref o37, .int v39, .ref o40, .ref o42, .ref o44, .int v46, .ref o47])), (o3, .inl (cI, 5, .inl fw4))]) H := hP
  have hD : va_D A ([(o1, .inr (12, [.int a1, .ref o3, .int v5, .ref o6, .int v8, .ref o9, .ref o11, .int v13, .ref o14, .int v16, .ref o17, .int v19, .int v20, .int v21, .ref o22, .ref o24, .ref o26, .ref o28, .ref o30, .int v32, .ref o33, .ref o35, .ref o37, .int v39, .ref o40, .ref o42, .ref o44, .int v46, .ref o47])), (o3, .inl (cI, 5, .inl fw4))]) := hD
  refine lv_aload_n hx hb dX12_meets_5 rfl (lv_at hl 0 rfl) ?_
  refine va_get (D := (dC, dI)) (ci := 12) (v := .ref o3) (C := RX12) (T := TX12) (N := 29) hx hb hts iw_X12_meets_X12 hown hK hP 0 rfl rfl 1 (by decide) (hts (.fieldLink RX12 7 "HolelessHouseModel" "findings" "[I") hm_X12_meets_2) (fun _ h9 => h9) rfl dX12_meets_6 ?_
  refine lv_iload_n hx hb dX12_meets_9 rfl (lv_at hl 1 rfl) ?_
  refine lv_dup2_11 hx hb dX12_meets_10 rfl rfl ?_
  refine va_iald hx hb hK hP 1 0 rfl rfl (vin_iv a1_h (by decide)) dX12_meets_11 (lv_topi (fun x1 x1_e => ?_))
  refine lv_iconst (v := 1) hx hb dX12_meets_12 (by decide) ?_
  refine lv_iadd hx hb dX12_meets_13 (lv_topi (fun x2 x2_e => ?_))
  refine k_iast hx hb hK hP hD hS 1 0 rfl rfl (vin_iv a1_h (by decide)) dX12_meets_14 (fun f3 H locs f3_e hP hD hS => ?_)
  have hP : va_P (dC, dI) vwCl ([(o1, .inr (12, [.int a1, .ref o3, .int v5, .ref o6, .int v8, .ref o9, .ref o11, .int v13, .ref o14, .int v16, .ref o17, .int v19, .int v20, .int v21, .ref o22, .ref o24, .ref o26, .ref o28, .ref o30, .int v32, .ref o33, .ref o35, .ref o37, .int v39, .ref o40, .ref o42, .ref o44, .int v46, .ref o47])), (o3, .inl (cI, 5, .inl f3))]) H := hP
  have hD : va_D A ([(o1, .inr (12, [.int a1, .ref o3, .int v5, .ref o6, .int v8, .ref o9, .ref o11, .int v13, .ref o14, .int v16, .ref o17, .int v19, .int v20, .int v21, .ref o22, .ref o24, .ref o26, .ref o28, .ref o30, .int v32, .ref o33, .ref o35, .ref o37, .int v39, .ref o40, .ref o42, .ref o44, .int v46, .ref o47])), (o3, .inl (cI, 5, .inl f3))]) := hD
  refine lv_bipush (v := (-3)) hx hb dX12_meets_15 (by decide) ?_
  rw [hQ]
  exact W.iret (v := (-3)) hx hb hr (fun t ht hW => ⟨⟨(-3), (a1, f3), rfl, ikm_3, by rw [ht]; exact hP, va_K.moved hW.alike hK, hD⟩, hS.F ht⟩) hS.2.2 dX12_meets_17
theorem iw_X12_row_X12 : ∀ w ∈ wsX120, w ∈ wsX12_row := fun _ h => List.mem_cons.mpr (Or.inr (List.mem_append.mpr (Or.inr h)))
set_option maxHeartbeats 4000000 in
set_option maxRecDepth 100000 in
theorem kX12_row_1 (l : Launch) (dC : Nat → ClassId) (dI : Nat → Nat → Nat) (cI c2 cZ : ClassId) (o1 : Nat) (o3 : Nat) (o6 : Nat) (o9 : Nat) (o11 : Nat) (o14 : Nat) (o17 : Nat) (o22 : Nat) (o24 : Nat) (o26 : Nat) (o28 : Nat) (o30 : Nat) (o33 : Nat) (o35 : Nat) (o37 : Nat) (o40 : Nat) (o42 : Nat) (o44 : Nat) (o47 : Nat) (v2 : Int32) (fw4 : Nat → Int32) (v5 : Int32) (v8 : Int32) (fw10 : Nat → Int32) (v13 : Int32) (v16 : Int32) (v19 : Int32) (v20 : Int32) (v21 : Int32) (v32 : Int32) (v39 : Int32) (v46 : Int32) (a1 : Int32) (a2 : Int32) (sz : Nat) (v5_h : Iv 0 12 v5) (v8_h : Iv 0 8 v8) (fw10_b : Bd 12 (-9) 255 fw10) (v13_h : Iv 0 12 v13) (v16_h : Iv 0 12 v16) (v19_h : Iv (-9) 12 v19) (v32_h : Iv 0 99 v32) (v39_h : Iv 0 12 v39) (v46_h : Iv 0 12 v46) : Met l yX12_row wsX12_row ({ frames := 1, cells := 0, slots := 0, locals := 22 }) (va_Pc [.ref o1, .int a1, .int a2] (wPre (dC, dI) [(cI, .int), (c2, .array .int), (cZ, .boolean)] ([(o1, .inr (12, [.int v2, .ref o3, .int v5, .ref o6, .int v8, .ref o9, .ref o11, .int v13, .ref o14, .int v16, .ref o17, .int v19, .int v20, .int v21, .ref o22, .ref o24, .ref o26, .ref o28, .ref o30, .int v32, .ref o33, .ref o35, .ref o37, .int v39, .ref o40, .ref o42, .ref o44, .int v46, .ref o47])), (o9, .inl (cI, 12, .inl fw10)), (o3, .inl (cI, 5, .inl fw4))]) sz)) (va_Qi (fun (r : Int32) (u : Int32 × (Nat → Int32) × (Nat → Int32)) => Iv (-3) 1 r ∧ Bd 12 (-9) 255 u.2.1) (fun u t => wPost (dC, dI) [(cI, .int), (c2, .array .int), (cZ, .boolean)] (va_A ([(o1, .inr (12, [.int v2, .ref o3, .int v5, .ref o6, .int v8, .ref o9, .ref o11, .int v13, .ref o14, .int v16, .ref o17, .int v19, .int v20, .int v21, .ref o22, .ref o24, .ref o26, .ref o28, .ref o30, .int v32, .ref o33, .ref o35, .ref o37, .int v39, .ref o40, .ref o42, .ref o44, .int v46, .ref o47])), (o9, .inl (cI, 12, .inl fw10)), (o3, .inl (cI, 5, .inl fw4))]) sz) ([(o1, .inr (12, [.int u.1, .ref o3, .int v5, .ref o6, .int v8, .ref o9, .ref o11, .int v13, .ref o14, .int v16, .ref o17, .int v19, .int v20, .int v21, .ref o22, .ref o24, .ref o26, .ref o28, .ref o30, .int v32, .ref o33, .ref o35, .ref o37, .int v39, .ref o40, .ref o42, .ref o44, .int v46, .ref o47])), (o9, .inl (cI, 12, .inl u.2.1)), (o3, .inl (cI, 5, .inl u.2.2))]) t) (va_A ([(o1, .inr (12, [.int v2, .ref o3, .int v5, .ref o6, .int v8, .ref o9, .ref o11, .int v13, .ref o14, .int v16, .ref o17, .int v19, .int v20, .int v21, .ref o22, .ref o24, .ref o26, .ref o28, .ref o30, .int v32, .ref o33, .ref o35, .ref o37, .int v39, .ref o40, .ref o42, .ref o44, .int v46, .ref o47])), (o9, .inl (cI, 12, .inl fw10)), (o3, .inl (cI, 5, .inl fw4))]) sz)) 0 0 (va_A ([(o1, .inr (12, [.int v2, .ref o3, .int v5, .ref o6, .int v8, .ref o9, .ref o11, .int v13, .ref o14, .int v16, .ref o17, .int v19, .int v20, .int v21, .ref o22, .ref o24, .ref o26, .ref o28, .ref o30, .int v32, .ref o33, .ref o35, .ref o37, .int v39, .ref o40, .ref o42, .ref o44, .int v46, .ref o47])), (o9, .inl (cI, 12, .inl fw10)), (o3, .inl (cI, 5, .inl fw4))]) sz) := by
  refine Met.ofW (cc := cX12_row) (maxL := 3) (ret := (some .int)) (by decide) rfl ?_
  intro p e s m args below meth c s₁ B hml hv
  obtain ⟨rfl, hsz, hP, hK, hD0, hN⟩ := hv
  have hx := B.exec
  have hb := B.bytes
  have hr := B.returns
  have hts := atoms_spec (ws := wsX12_row) B.pre
  have hown : s.vm.findClass RX12 = some m.cls := findClass_of_methodNamed B.named
  have hlocks := B.notSynchronized
  subst hsz
  have hD := hD0.self (sz := s.heap.size)
  generalize hAe : va_A ([(o1, .inr (12, [.int v2, .ref o3, .int v5, .ref o6, .int v8, .ref o9, .ref o11, .int v13, .ref o14, .int v16, .ref o17, .int v19, .int v20, .int v21, .ref o22, .ref o24, .ref o26, .ref o28, .ref o30, .int v32, .ref o33, .ref o35, .ref o37, .int v39, .ref o40, .ref o42, .ref o44, .int v46, .ref o47])), (o9, .inl (cI, 12, .inl fw10)), (o3, .inl (cI, 5, .inl fw4))]) s.heap.size = A at hD ⊢
  have hA : ∀ q : Nat, s.heap.size ≤ q → A q := fun q h => by rw [← hAe]; exact Or.inr h
  have hS : va_S A s.heap s.heap [] := va_S.rf
  have hP : va_P (dC, dI) vwCl ([(o1, .inr (12, [.int v2, .ref o3, .int v5, .ref o6, .int v8, .ref o9, .ref o11, .int v13, .ref o14, .int v16, .ref o17, .int v19, .int v20, .int v21, .ref o22, .ref o24, .ref o26, .ref o28, .ref o30, .int v32, .ref o33, .ref o35, .ref o37, .int v39, .ref o40, .ref o42, .ref o44, .int v46, .ref o47])), (o9, .inl (cI, 12, .inl fw10)), (o3, .inl (cI, 5, .inl fw4))]) s.heap := hP
  have hl := lv_entry ([.ref o1, .int a1, .int a2]) (n := 3) (Nat.le_of_ble_eq_true rfl)
  rw [lg_entry_eq]
  generalize (lg_sl ([.ref o1, .int a1, .int a2]) ++ List.replicate (3 - (lg_sl ([.ref o1, .int a1, .int a2])).length) Slot.unset).toArray = ls at hl ⊢
  have hl : lv_has ls 3 [(0, .ref o1), (1, .int a1), (2, .int a2)] := hl
  refine gen_Q (fun Q hQ => ?_)
  refine lv_iload_n hx hb dX12_row_0 rfl (lv_at hl 2 rfl) ?_
  refine lv_iconst (v := 0) hx hb dX12_row_1 (by decide) ?_
  refine lv_iconst (v := 1) hx hb dX12_row_2 (by decide) ?_
  refine lv_aload_n hx hb dX12_row_3 rfl (lv_at hl 0 rfl) ?_
  refine va_get (D := (dC, dI)) (ci := 12) (v := .int v8) (C := RX12) (T := TX12) (N := 29) hx hb hts iw_X12_row_X12 hown hK hP 0 rfl rfl 4 (by decide) (hts (.fieldLink RX12 128 "HolelessHouseModel" "columns" "I") hm_X12_row_1) (fun _ h9 => h9) rfl dX12_row_4 ?_
  refine lv_ishl hx hb dX12_row_7 (lv_topi (fun x1 x1_e => ?_))
  have x1_h : Iv 1 256 x1 := iv_e x1_e (iv_shl1 v8_h (by decide))
  refine lv_iconst (v := 1) hx hb dX12_row_8 (by decide) ?_
  refine lv_isub hx hb dX12_row_9 (lv_topi (fun x2 x2_e => ?_))
  have x2_h : Iv 0 255 x2 := iv_e x2_e (iv_sub x1_h ik_1 (by decide))
  refine kc_i (D := (dC, dI)) (S := Unit) (wc := []) (wr := [(o1, .inr (12, [.int v2, .ref o3, .int v5, .ref o6, .int v8, .ref o9, .ref o11, .int v13, .ref o14, .int v16, .ref o17, .int v19, .int v20, .int v21, .ref o22, .ref o24, .ref o26, .ref o28, .ref o30, .int v32, .ref o33, .ref o35, .ref o37, .int v39, .ref o40, .ref o42, .ref o44, .int v46, .ref o47])), (o9, .inl (cI, 12, .inl fw10)), (o3, .inl (cI, 5, .inl fw4))]) (w1 := fun _ => []) (wn := fun _ => [(o1, .inr (12, [.int v2, .ref o3, .int v5, .ref o6, .int v8, .ref o9, .ref o11, .int v13, .ref o14, .int v16, .ref o17, .int v19, .int v20, .int v21, .ref o22, .ref o24, .ref o26, .ref o28, .ref o30, .int v32, .ref o33, .ref o35, .ref o37, .int v39, .ref o40, .ref o42, .ref o44, .int v46, .ref o47])), (o9, .inl (cI, 12, .inl fw10)), (o3, .inl (cI, 5, .inl fw4))]) (fun hPc hDc => va_runS (As := [.int a2, .int 0, .int x2]) (rest := []) ⟨hx, hb, hml, hown, hts⟩ (kX12_in_8 l dC dI cI c2 cZ a2 0 x2 s.heap.size ik_0 x2_h) (va_cwS 3 hts gX12_row_X12_in rfl rfl rfl (by decide +kernel) ⟨Nat.le_of_ble_eq_true rfl, Nat.le_of_ble_eq_true rfl⟩) (pre_S hPc hK hDc hN) rfl rfl hl.1 rfl (lv_room (Nat.le_of_ble_eq_true rfl)) dX12_row_10 ⟨Nat.le_of_ble_eq_true rfl, Nat.le_of_ble_eq_true rfl⟩) hP hD hS hA [] [0, 1, 2] [0, 1, 2] rfl rfl (by decide +kernel) (by decide +kernel) (by decide +kernel) (by decide +kernel) (fun _ => rfl) (fun x3 _ H locs hq hP hD hS => ?_)
  obtain ⟨x3_h, i4, e5⟩ := hq
  have hP : va_P (dC, dI) vwCl ([(o1, .inr (12, [.int v2, .ref o3, .int v5, .ref o6, .int v8, .ref o9, .ref o11, .int v13, .ref o14, .int v16, .ref o17, .int v19, .int v20, .int v21, .ref o22, .ref o24, .ref o26, .ref o28, .ref o30, .int v32, .ref o33, .ref o35, .ref o37, .int v39, .ref o40, .ref o42, .ref o44, .int v46, .ref o47])), (o9, .inl (cI, 12, .inl fw10)), (o3, .inl (cI, 5, .inl fw4))]) H := hP
  have hD : va_D A ([(o1, .inr (12, [.int v2, .ref o3, .int v5, .ref o6, .int v8, .ref o9, .ref o11, .int v13, .ref o14, .int v16, .ref o17, .int v19, .int v20, .int v21, .ref o22, .ref o24, .ref o26, .ref o28, .ref o30, .int v32, .ref o33, .ref o35, .ref o37, .int v39, .ref o40, .ref o42, .ref o44, .int v46, .ref o47])), (o9, .inl (cI, 12, .inl fw10)), (o3, .inl (cI, 5, .inl fw4))]) := hD
  refine lv_if_ne (tgt := 18) hx hb dX12_row_13 (by decide) (fun h6 => ?_) (fun h6 => ?_)
  ·
    have j7 : Iv 1 1 x3 := r_nelo h6 x3_h ik_0 (by decide)
    have j8 : Iv 0 255 a2 := i4 h6
    refine lv_iload_n hx hb dX12_row_18 rfl (lv_at hl 1 rfl) ?_
    refine lv_iconst (v := 0) hx hb dX12_row_19 (by decide) ?_
    refine lv_bipush (v := 11) hx hb dX12_row_20 (by decide) ?_
    refine kc_i (D := (dC, dI)) (S := Unit) (wc := []) (wr := [(o1, .inr (12, [.int v2, .ref o3, .int v5, .ref o6, .int v8, .ref o9, .ref o11, .int v13, .ref o14, .int v16, .ref o17, .int v19, .int v20, .int v21, .ref o22, .ref o24, .ref o26, .ref o28, .ref o30, .int v32, .ref o33, .ref o35, .ref o37, .int v39, .ref o40, .ref o42, .ref o44, .int v46, .ref o47])), (o9, .inl (cI, 12, .inl fw10)), (o3, .inl (cI, 5, .inl fw4))]) (w1 := fun _ => []) (wn := fun _ => [(o1, .inr (12, [.int v2, .ref o3, .int v5, .ref o6, .int v8, .ref o9, .ref o11, .int v13, .ref o14, .int v16, .ref o17, .int v19, .int v20, .int v21, .ref o22, .ref o24, .ref o26, .ref o28, .ref o30, .int v32, .ref o33, .ref o35, .ref o37, .int v39, .ref o40, .ref o42, .ref o44, .int v46, .ref o47])), (o9, .inl (cI, 12, .inl fw10)), (o3, .inl (cI, 5, .inl fw4))]) (fun hPc hDc => va_runS (As := [.int a1, .int 0, .int 11]) (rest := []) ⟨hx, hb, hml, hown, hts⟩ (kX12_in_9 l dC dI cI c2 cZ a1 0 11 H.size ik_0 (iv_w ik_11 (by decide))) (va_cwS 3 hts gX12_row_X12_in rfl rfl rfl (by decide +kernel) ⟨Nat.le_of_ble_eq_true rfl, Nat.le_of_ble_eq_true rfl⟩) (pre_S hPc hK hDc hN) rfl rfl hl.1 rfl (lv_room (Nat.le_of_ble_eq_true rfl)) dX12_row_22 ⟨Nat.le_of_ble_eq_true rfl, Nat.le_of_ble_eq_true rfl⟩) hP hD hS hA [] [0, 1, 2] [0, 1, 2] rfl rfl (by decide +kernel) (by decide +kernel) (by decide +kernel) (by decide +kernel) (fun _ => rfl) (fun x9 _ H locs hq hP hD hS => ?_)
    obtain ⟨x9_h, i10, e11⟩ := hq
    have hP : va_P (dC, dI) vwCl ([(o1, .inr (12, [.int v2, .ref o3, .int v5, .ref o6, .int v8, .ref o9, .ref o11, .int v13, .ref o14, .int v16, .ref o17, .int v19, .int v20, .int v21, .ref o22, .ref o24, .ref o26, .ref o28, .ref o30, .int v32, .ref o33, .ref o35, .ref o37, .int v39, .ref o40, .ref o42, .ref o44, .int v46, .ref o47])), (o9, .inl (cI, 12, .inl fw10)), (o3, .inl (cI, 5, .inl fw4))]) H := hP
    have hD : va_D A ([(o1, .inr (12, [.int v2, .ref o3, .int v5, .ref o6, .int v8, .ref o9, .ref o11, .int v13, .ref o14, .int v16, .ref o17, .int v19, .int v20, .int v21, .ref o22, .ref o24, .ref o26, .ref o28, .ref o30, .int v32, .ref o33, .ref o35, .ref o37, .int v39, .ref o40, .ref o42, .ref o44, .int v46, .ref o47])), (o9, .inl (cI, 12, .inl fw10)), (o3, .inl (cI, 5, .inl fw4))]) := hD
    refine lv_if_ne (tgt := 34) hx hb dX12_row_25 (by decide) (fun h12 => ?_) (fun h12 => ?_)
    ·
      have j13 : Iv 1 1 x9 := r_nelo h12 x9_h ik_0 (by decide)
      have j14 : Iv 0 11 a1 := i10 h12
      refine lv_aload_n hx hb dX12_row_34 rfl (lv_at hl 0 rfl) ?_
      refine va_get (D := (dC, dI)) (ci := 12) (v := .ref o9) (C := RX12) (T := TX12) (N := 29) hx hb hts iw_X12_row_X12 hown hK hP 0 rfl rfl 5 (by decide) (hts (.fieldLink RX12 16 "HolelessHouseModel" "rows" "[I") hm_X12_row_2) (fun _ h9 => h9) rfl dX12_row_35 ?_
      refine lv_iload_n hx hb dX12_row_38 rfl (lv_at hl 1 rfl) ?_
      refine lv_iload_n hx hb dX12_row_39 rfl (lv_at hl 2 rfl) ?_
      refine k_iast hx hb hK hP hD hS 1 0 rfl rfl (vin_iv j14 (by decide)) dX12_row_40 (fun f15 H locs f15_e hP hD hS => ?_)
      have f15_b : Bd 12 (-9) 255 f15 := bd_upd f15_e fw10_b j8 (by decide)
      have hP : va_P (dC, dI) vwCl ([(o1, .inr (12, [.int v2, .ref o3, .int v5, .ref o6, .int v8, .ref o9, .ref o11, .int v13, .ref o14, .int v16, .ref o17, .int v19, .int v20, .int v21, .ref o22, .ref o24, .ref o26, .ref o28, .ref o30, .int v32, .ref o33, .ref o35, .ref o37, .int v39, .ref o40, .ref o42, .ref o44, .int v46, .ref o47])), (o9, .inl (cI, 12, .inl f15)), (o3, .inl (cI, 5, .inl fw4))]) H := hP
      have hD : va_D A ([(o1, .inr (12, [.int v2, .ref o3, .int v5, .ref o6, .int v8, .ref o9, .ref o11, .int v13, .ref o14, .int v16, .ref o17, .int v19, .int v20, .int v21, .ref o22, .ref o24, .ref o26, .ref o28, .ref o30, .int v32, .ref o33, .ref o35, .ref o37, .int v39, .ref o40, .ref o42, .ref o44, .int v46, .ref o47])), (o9, .inl (cI, 12, .inl f15)), (o3, .inl (cI, 5, .inl fw4))]) := hD
      refine lv_iconst (v := 1) hx hb dX12_row_41 (by decide) ?_
      rw [hQ]
      exact W.iret (v := 1) hx hb hr (fun t ht hW => ⟨⟨1, (v2, f15, fw4), rfl, ⟨(iv_w ik_1 (by decide)), f15_b⟩, by rw [ht]; exact hP, va_K.moved hW.alike hK, hD⟩, hS.F ht⟩) hS.2.2 dX12_row_42
    ·
      have j16 : Iv 0 0 x9 := r_eq h12 ik_0
      refine lv_aload_n hx hb dX12_row_28 rfl (lv_at hl 0 rfl) ?_
      refine lv_iconst (v := 2) hx hb dX12_row_29 (by decide) ?_
      refine kc_i (D := (dC, dI)) (S := Int32 × (Nat → Int32)) (wc := [(o1, .inr (12, [.int v2, .ref o3, .int v5, .ref o6, .int v8, .ref o9, .ref o11, .int v13, .ref o14, .int v16, .ref o17, .int v19, .int v20, .int v21, .ref o22, .ref o24, .ref o26, .ref o28, .ref o30, .int v32, .ref o33, .ref o35, .ref o37, .int v39, .ref o40, .ref o42, .ref o44, .int v46, .ref o47])), (o3, .inl (cI, 5, .inl fw4))]) (wr := [(o9, .inl (cI, 12, .inl fw10))]) (w1 := fun u => [(o1, .inr (12, [.int u.1, .ref o3, .int v5, .ref o6, .int v8, .ref o9, .ref o11, .int v13, .ref o14, .int v16, .ref o17, .int v19, .int v20, .int v21, .ref o22, .ref o24, .ref o26, .ref o28, .ref o30, .int v32, .ref o33, .ref o35, .ref o37, .int v39, .ref o40, .ref o42, .ref o44, .int v46, .ref o47])), (o3, .inl (cI, 5, .inl u.2))]) (wn := fun u => [(o1, .inr (12, [.int u.1, .ref o3, .int v5, .ref o6, .int v8, .ref o9, .ref o11, .int v13, .ref o14, .int v16, .ref o17, .int v19, .int v20, .int v21, .ref o22, .ref o24, .ref o26, .ref o28, .ref o30, .int v32, .ref o33, .ref o35, .ref o37, .int v39, .ref o40, .ref o42, .ref o44, .int v46, .ref o47])), (o9, .inl (cI, 12, .inl fw10)), (o3, .inl (cI, 5, .inl u.2))]) (fun hPc hDc => va_runV (As := [.int 2]) (rest := []) ⟨hx, hb, hml, hown, hts⟩ (kX12_meets_3 l dC dI cI c2 cZ o1 o3 o6 o9 o11 o14 o17 o22 o24 o26 o28 o30 o33 o35 o37 o40 o42 o44 o47 v2 fw4 v5 v8 v13 v16 v19 v20 v21 v32 v39 v46 2 H.size v5_h v8_h v13_h v16_h v19_h v32_h v39_h v46_h ik_2) (cwV 1 hts gX12_row_X12_meets rfl rfl rfl (by decide +kernel) ⟨Nat.le_of_ble_eq_true rfl, Nat.le_of_ble_eq_true rfl⟩) (pre_V hPc hK hDc hN (ci := 12) (q0 := 0) rfl rfl) rfl rfl hl.1 rfl (lv_room (Nat.le_of_ble_eq_true rfl)) dX12_row_30 ⟨Nat.le_of_ble_eq_true rfl, Nat.le_of_ble_eq_true rfl⟩) hP hD hS hA [0, 2] [1] [1, 0, 2] rfl rfl (by decide +kernel) (by decide +kernel) (by decide +kernel) (by decide +kernel) (fun _ => rfl) (fun x19 u H locs hq hP hD hS => ?_)
      obtain ⟨y17, f18⟩ := u
      have x19_h := hq
      have x19_h : Iv (-3) (-3) x19 := x19_h
      have hP : va_P (dC, dI) vwCl ([(o1, .inr (12, [.int y17, .ref o3, .int v5, .ref o6, .int v8, .ref o9, .ref o11, .int v13, .ref o14, .int v16, .ref o17, .int v19, .int v20, .int v21, .ref o22, .ref o24, .ref o26, .ref o28, .ref o30, .int v32, .ref o33, .ref o35, .ref o37, .int v39, .ref o40, .ref o42, .ref o44, .int v46, .ref o47])), (o9, .inl (cI, 12, .inl fw10)), (o3, .inl (cI, 5, .inl f18))]) H := hP
      have hD : va_D A ([(o1, .inr (12, [.int y17, .ref o3, .int v5, .ref o6, .int v8, .ref o9, .ref o11, .int v13, .ref o14, .int v16, .ref o17, .int v19, .int v20, .int v21, .ref o22, .ref o24, .ref o26, .ref o28, .ref o30, .int v32, .ref o33, .ref o35, .ref o37, .int v39, .ref o40, .ref o42, .ref o44, .int v46, .ref o47])), (o9, .inl (cI, 12, .inl fw10)), (o3, .inl (cI, 5, .inl f18))]) := hD
      rw [hQ]
      exact W.iret (v := x19) hx hb hr (fun t ht hW => ⟨⟨x19, (y17, fw10, f18), rfl, ⟨(iv_w x19_h (by decide)), fw10_b⟩, by rw [ht]; exact hP, va_K.moved hW.alike hK, hD⟩, hS.F ht⟩) hS.2.2 dX12_row_33
  ·
    have j20 : Iv 0 0 x3 := r_eq h6 ik_0
    refine lv_iconst (v := (-1)) hx hb dX12_row_16 (by decide) ?_
    rw [hQ]
    exact W.iret (v := (-1)) hx hb hr (fun t ht hW => ⟨⟨(-1), (v2, fw10, fw4), rfl, ⟨(iv_w ikm_1 (by decide)), fw10_b⟩, by rw [ht]; exact hP, va_K.moved hW.alike hK, hD⟩, hS.F ht⟩) hS.2.2 dX12_row_17
set_option maxHeartbeats 4000000 in
set_option maxRecDepth 100000 in
theorem kX12_meets_4 (l : Launch) (dC : Nat → ClassId) (dI : Nat → Nat → Nat) (cI c2 cZ : ClassId) (o1 : Nat) (o3 : Nat) (o6 : Nat) (o9 : Nat) (o11 : Nat) (o14 : Nat) (o17 : Nat) (o22 : Nat) (o24 : Nat) (o26 : Nat) (o28 : Nat) (o30 : Nat) (o33 : Nat) (o35 : Nat) (o37 : Nat) (o40 : Nat) (o42 : Nat) (o44 : Nat) (o47 : Nat) (v2 : Int32) (fw4 : Nat → Int32) (v5 : Int32) (v8 : Int32) (v13 : Int32) (v16 : Int32) (v19 : Int32) (v20 : Int32) (v21 : Int32) (v32 : Int32) (v39 : Int32) (v46 : Int32) (a1 : Int32) (sz : Nat) (v5_h : Iv 0 12 v5) (v8_h : Iv 0 8 v8) (v13_h : Iv 0 12 v13) (v16_h : Iv 0 12 v16) (v19_h : Iv (-9) 12 v19) (v32_h : Iv 0 99 v32) (v39_h : Iv 0 12 v39) (v46_h : Iv 0 12 v46) (a1_h : Iv 1 1 a1) : Met l yX12_meets wsX12_meets ({ frames := 0, cells := 0, slots := 0, locals := 0 }) (va_Pc [.ref o1, .int a1] (wPre (dC, dI) [(cI, .int), (c2, .array .int), (cZ, .boolean)] ([(o1, .inr (12, [.int v2, .ref o3, .int v5, .ref o6, .int v8, .ref o9, .ref o11, .int v13, .ref o14, .int v16, .ref o17, .int v19, .int v20, .int v21, .ref o22, .ref o24, .ref o26, .ref o28, .ref o30, .int v32, .ref o33, .ref o35, .ref o37, .int v39, .ref o40, .ref o42, .ref o44, .int v46, .ref o47])), (o3, .inl (cI, 5, .inl fw4))]) sz)) (va_Qi (fun (r : Int32) (u : Int32 × (Nat → Int32)) => Iv (-3) (-3) r) (fun u t => wPost (dC, dI) [(cI, .int), (c2, .array .int), (cZ, .boolean)] (va_A ([(o1, .inr (12, [.int v2, .ref o3, .int v5, .ref o6, .int v8, .ref o9, .ref o11, .int v13, .ref o14, .int v16, .ref o17, .int v19, .int v20, .int v21, .ref o22, .ref o24, .ref o26, .ref o28, .ref o30, .int v32, .ref o33, .ref o35, .ref o37, .int v39, .ref o40, .ref o42, .ref o44, .int v46, .ref o47])), (o3, .inl (cI, 5, .inl fw4))]) sz) ([(o1, .inr (12, [.int u.1, .ref o3, .int v5, .ref o6, .int v8, .ref o9, .ref o11, .int v13, .ref o14, .int v16, .ref o17, .int v19, .int v20, .int v21, .ref o22, .ref o24, .ref o26, .ref o28, .ref o30, .int v32, .ref o33, .ref o35, .ref o37, .int v39, .ref o40, .ref o42, .ref o44, .int v46, .ref o47])), (o3, .inl (cI, 5, .inl u.2))]) t) (va_A ([(o1, .inr (12, [.int v2, .ref o3, .int v5, .ref o6, .int v8, .ref o9, .ref o11, .int v13, .ref o14, .int v16, .ref o17, .int v19, .int v20, .int v21, .ref o22, .ref o24, .ref o26, .ref o28, .ref o30, .int v32, .ref o33, .ref o35, .ref o37, .int v39, .ref o40, .ref o42, .ref o44, .int v46, .ref o47])), (o3, .inl (cI, 5, .inl fw4))]) sz)) 0 0 (va_A ([(o1, .inr (12, [.int v2, .ref o3, .int v5, .ref o6, .int v8, .ref o9, .ref o11, .int v13, .ref o14, .int v16, .ref o17, .int v19, .int v20, .int v21, .ref o22, .ref o24, .ref o26, .ref o28, .ref o30, .int v32, .ref o33, .ref o35, .ref o37, .int v39, .ref o40, .ref o42, .ref o44, .int v46, .ref o47])), (o3, .inl (cI, 5, .inl fw4))]) sz) := by
  refine Met.ofW (cc := cX12_meets) (maxL := 2) (ret := (some .int)) (by decide) rfl ?_
  intro p e s m args below meth c s₁ B hml hv
  obtain ⟨rfl, hsz, hP, hK, hD0, hN⟩ := hv
  have hx := B.exec
  have hb := B.bytes
  have hr := B.returns
  have hts := atoms_spec (ws := wsX12_meets) B.pre
  have hown : s.vm.findClass RX12 = some m.cls := findClass_of_methodNamed B.named
  have hlocks := B.notSynchronized
  subst hsz
  have hD := hD0.self (sz := s.heap.size)
  generalize hAe : va_A ([(o1, .inr (12, [.int v2, .ref o3, .int v5, .ref o6, .int v8, .ref o9, .ref o11, .int v13, .ref o14, .int v16, .ref o17, .int v19, .int v20, .int v21, .ref o22, .ref o24, .ref o26, .ref o28, .ref o30, .int v32, .ref o33, .ref o35, .ref o37, .int v39, .ref o40, .ref o42, .ref o44, .int v46, .ref o47])), (o3, .inl (cI, 5, .inl fw4))]) s.heap.size = A at hD ⊢
  have hA : ∀ q : Nat, s.heap.size ≤ q → A q := fun q h => by rw [← hAe]; exact Or.inr h
  have hS : va_S A s.heap s.heap [] := va_S.rf
  have hP : va_P (dC, dI) vwCl ([(o1, .inr (12, [.int v2, .ref o3, .int v5, .ref o6, .int v8, .ref o9, .ref o11, .int v13, .ref o14, .int v16, .ref o17, .int v19, .int v20, .int v21, .ref o22, .ref o24, .ref o26, .ref o28, .ref o30, .int v32, .ref o33, .ref o35, .ref o37, .int v39, .ref o40, .ref o42, .ref o44, .int v46, .ref o47])), (o3, .inl (cI, 5, .inl fw4))]) s.heap := hP
  have hl := lv_entry ([.ref o1, .int a1]) (n := 2) (Nat.le_of_ble_eq_true rfl)
  rw [lg_entry_eq]
  generalize (lg_sl ([.ref o1, .int a1]) ++ List.replicate (2 - (lg_sl ([.ref o1, .int a1])).length) Slot.unset).toArray = ls at hl ⊢
  have hl : lv_has ls 2 [(0, .ref o1), (1, .int a1)] := hl
  refine gen_Q (fun Q hQ => ?_)
  refine lv_aload_n hx hb dX12_meets_0 rfl (lv_at hl 0 rfl) ?_
  refine lv_iload_n hx hb dX12_meets_1 rfl (lv_at hl 1 rfl) ?_
  refine va_put (D := (dC, dI)) (ci := 12) (v := .int a1) (ty := .int) (C := RX12) (T := TX12) (N := 29) hx hb hts iw_X12_meets_X12 tyX12 tyX12_ok nmX12 hown hK hP hD hS 0 rfl rfl 0 (by decide) (hts (.fieldLink RX12 70 "HolelessHouseModel" "finding" "I") hm_X12_meets_1) (fun _ h9 => h9) rfl (by decide +kernel) rfl rfl (Nat.le_of_ble_eq_true rfl) dX12_meets_2 (fun H locs hP hD hS => ?_)
  have hP : va_P (dC, dI) vwCl ([(o1, .inr (12, [.int a1, .ref o3, .int v5, .ref o6, .int v8, .ref o9, .ref o11, .int v13, .ref o14, .int v16, .ref o17, .int v19, .int v20, .int v21, .ref o22, .ref o24, .ref o26, .ref o28, .ref o30, .int v32, .ref o33, .ref o35, .ref o37, .int v39, .ref o40, .ref o42, .ref o44, .int v46, .ref o47])), (o3, .inl (cI, 5, .inl fw4))]) H := hP
  have hD : va_D A ([(o1, .inr (12, [.int a1, .ref o3, .int v5, .ref o6, .int v8, .ref o9, .ref o11, .int v13, .ref o14, .int v16, .ref o17, .int v19, .int v20, .int v21, .ref o22, .ref o24, .ref o26, .ref o28, .ref o30, .int v32, .ref o33, .ref o35, .ref o37, .int v39, .ref o40, .ref o42, .ref o44, .int v46, .ref o47])), (o3, .inl (cI, 5, .inl fw4))]) := hD
  refine lv_aload_n hx hb dX12_meets_5 rfl (lv_at hl 0 rfl) ?_
  refine va_get (D := (dC, dI)) (ci := 12) (v := .ref o3) (C := RX12) (T := TX12) (N := 29) hx hb hts iw_X12_meets_X12 hown hK hP 0 rfl rfl 1 (by decide) (hts (.fieldLink RX12 7 "HolelessHouseModel" "findings" "[I") hm_X12_meets_2) (fun _ h9 => h9) rfl dX12_meets_6 ?_
  refine lv_iload_n hx hb dX12_meets_9 rfl (lv_at hl 1 rfl) ?_
  refine lv_dup2_11 hx hb dX12_meets_10 rfl rfl ?_
  refine va_iald hx hb hK hP 1 0 rfl rfl (vin_iv a1_h (by decide)) dX12_meets_11 (lv_topi (fun x1 x1_e => ?_))
  refine lv_iconst (v := 1) hx hb dX12_meets_12 (by decide) ?_
  refine lv_iadd hx hb dX12_meets_13 (lv_topi (fun x2 x2_e => ?_))
  refine k_iast hx hb hK hP hD hS 1 0 rfl rfl (vin_iv a1_h (by decide)) dX12_meets_14 (fun f3 H locs f3_e hP hD hS => ?_)
  have hP : va_P (dC, dI) vwCl ([(o1, .inr (12, [.int a1, .ref o3, .int v5, .ref o6, .int v8, .ref o9, .ref o11, .int v13, .ref o14, .int v16, .ref o17, .int v19, .int v20, .int v21, .ref o22, .ref o24, .ref o26, .ref o28, .ref o30, .int v32, .ref o33, .ref o35, .ref o37, .int v39, .ref o40, .ref o42, .ref o44, .int v46, .ref o47])), (o3, .inl (cI, 5, .inl f3))]) H := hP
  have hD : va_D A ([(o1, .inr (12, [.int a1, .ref o3, .int v5, .ref o6, .int v8, .ref o9, .ref o11, .int v13, .ref o14, .int v16, .ref o17, .int v19, .int v20, .int v21, .ref o22, .ref o24, .ref o26, .ref o28, .ref o30, .int v32, .ref o33, .ref o35, .ref o37, .int v39, .ref o40, .ref o42, .ref o44, .int v46, .ref o47])), (o3, .inl (cI, 5, .inl f3))]) := hD
  refine lv_bipush (v := (-3)) hx hb dX12_meets_15 (by decide) ?_
  rw [hQ]
  exact W.iret (v := (-3)) hx hb hr (fun t ht hW => ⟨⟨(-3), (a1, f3), rfl, ikm_3, by rw [ht]; exact hP, va_K.moved hW.alike hK, hD⟩, hS.F ht⟩) hS.2.2 dX12_meets_17
theorem iw_X12_told_X12 : ∀ w ∈ wsX120, w ∈ wsX12_told := fun _ h => List.mem_cons.mpr (Or.inr (List.mem_append.mpr (Or.inr h)))
set_option maxHeartbeats 4000000 in
set_option maxRecDepth 100000 in
theorem kX12_told_1 (l : Launch) (dC : Nat → ClassId) (dI : Nat → Nat → Nat) (cI c2 cZ : ClassId) (o1 : Nat) (o3 : Nat) (o6 : Nat) (o9 : Nat) (o11 : Nat) (o14 : Nat) (o17 : Nat) (o22 : Nat) (o24 : Nat) (o26 : Nat) (o28 : Nat) (o30 : Nat) (o33 : Nat) (o35 : Nat) (o37 : Nat) (o40 : Nat) (o42 : Nat) (o44 : Nat) (o47 : Nat) (v2 : Int32) (fw4 : Nat → Int32) (v5 : Int32) (v8 : Int32) (fw10 : Nat → Int32) (v13 : Int32) (v16 : Int32) (v19 : Int32) (v20 : Int32) (v21 : Int32) (v32 : Int32) (v39 : Int32) (v46 : Int32) (a1 : Int32) (sz : Nat) (v5_h : Iv 0 12 v5) (v8_h : Iv 0 8 v8) (fw10_b : Bd 12 (-9) 255 fw10) (v13_h : Iv 0 12 v13) (v16_h : Iv 0 12 v16) (v19_h : Iv (-9) 12 v19) (v32_h : Iv 0 99 v32) (v39_h : Iv 0 12 v39) (v46_h : Iv 0 12 v46) : Met l yX12_told wsX12_told ({ frames := 1, cells := 0, slots := 0, locals := 22 }) (va_Pc [.ref o1, .int a1] (wPre (dC, dI) [(cI, .int), (c2, .array .int), (cZ, .boolean)] ([(o1, .inr (12, [.int v2, .ref o3, .int v5, .ref o6, .int v8, .ref o9, .ref o11, .int v13, .ref o14, .int v16, .ref o17, .int v19, .int v20, .int v21, .ref o22, .ref o24, .ref o26, .ref o28, .ref o30, .int v32, .ref o33, .ref o35, .ref o37, .int v39, .ref o40, .ref o42, .ref o44, .int v46, .ref o47])), (o9, .inl (cI, 12, .inl fw10)), (o3, .inl (cI, 5, .inl fw4))]) sz)) (va_Qi (fun (r : Int32) (u : Int32 × (Nat → Int32)) => Iv (-3) 255 r) (fun u t => wPost (dC, dI) [(cI, .int), (c2, .array .int), (cZ, .boolean)] (va_A ([(o1, .inr (12, [.int v2, .ref o3, .int v5, .ref o6, .int v8, .ref o9, .ref o11, .int v13, .ref o14, .int v16, .ref o17, .int v19, .int v20, .int v21, .ref o22, .ref o24, .ref o26, .ref o28, .ref o30, .int v32, .ref o33, .ref o35, .ref o37, .int v39, .ref o40, .ref o42, .ref o44, .int v46, .ref o47])), (o9, .inl (cI, 12, .inl fw10)), (o3, .inl (cI, 5, .inl fw4))]) sz) ([(o1, .inr (12, [.int u.1, .ref o3, .int v5, .ref o6, .int v8, .ref o9, .ref o11, .int v13, .ref o14, .int v16, .ref o17, .int v19, .int v20, .int v21, .ref o22, .ref o24, .ref o26, .ref o28, .ref o30, .int v32, .ref o33, .ref o35, .ref o37, .int v39, .ref o40, .ref o42, .ref o44, .int v46, .ref o47])), (o9, .inl (cI, 12, .inl fw10)), (o3, .inl (cI, 5, .inl u.2))]) t) (va_A ([(o1, .inr (12, [.int v2, .ref o3, .int v5, .ref o6, .int v8, .ref o9, .ref o11, .int v13, .ref o14, .int v16, .ref o17, .int v19, .int v20, .int v21, .ref o22, .ref o24, .ref o26, .ref o28, .ref o30, .int v32, .ref o33, .ref o35, .ref o37, .int v39, .ref o40, .ref o42, .ref o44, .int v46, .ref o47])), (o9, .inl (cI, 12, .inl fw10)), (o3, .inl (cI, 5, .inl fw4))]) sz)) 0 0 (va_A ([(o1, .inr (12, [.int v2, .ref o3, .int v5, .ref o6, .int v8, .ref o9, .ref o11, .int v13, .ref o14, .int v16, .ref o17, .int v19, .int v20, .int v21, .ref o22, .ref o24, .ref o26, .ref o28, .ref o30, .int v32, .ref o33, .ref o35, .ref o37, .int v39, .ref o40, .ref o42, .ref o44, .int v46, .ref o47])), (o9, .inl (cI, 12, .inl fw10)), (o3, .inl (cI, 5, .inl fw4))]) sz) := by
  refine Met.ofW (cc := cX12_told) (maxL := 2) (ret := (some .int)) (by decide) rfl ?_
  intro p e s m args below meth c s₁ B hml hv
  obtain ⟨rfl, hsz, hP, hK, hD0, hN⟩ := hv
  have hx := B.exec
  have hb := B.bytes
  have hr := B.returns
  have hts := atoms_spec (ws := wsX12_told) B.pre
  have hown : s.vm.findClass RX12 = some m.cls := findClass_of_methodNamed B.named
  have hlocks := B.notSynchronized
  subst hsz
  have hD := hD0.self (sz := s.heap.size)
  generalize hAe : va_A ([(o1, .inr (12, [.int v2, .ref o3, .int v5, .ref o6, .int v8, .ref o9, .ref o11, .int v13, .ref o14, .int v16, .ref o17, .int v19, .int v20, .int v21, .ref o22, .ref o24, .ref o26, .ref o28, .ref o30, .int v32, .ref o33, .ref o35, .ref o37, .int v39, .ref o40, .ref o42, .ref o44, .int v46, .ref o47])), (o9, .inl (cI, 12, .inl fw10)), (o3, .inl (cI, 5, .inl fw4))]) s.heap.size = A at hD ⊢
  have hA : ∀ q : Nat, s.heap.size ≤ q → A q := fun q h => by rw [← hAe]; exact Or.inr h
  have hS : va_S A s.heap s.heap [] := va_S.rf
  have hP : va_P (dC, dI) vwCl ([(o1, .inr (12, [.int v2, .ref o3, .int v5, .ref o6, .int v8, .ref o9, .ref o11, .int v13, .ref o14, .int v16, .ref o17, .int v19, .int v20, .int v21, .ref o22, .ref o24, .ref o26, .ref o28, .ref o30, .int v32, .ref o33, .ref o35, .ref o37, .int v39, .ref o40, .ref o42, .ref o44, .int v46, .ref o47])), (o9, .inl (cI, 12, .inl fw10)), (o3, .inl (cI, 5, .inl fw4))]) s.heap := hP
  have hl := lv_entry ([.ref o1, .int a1]) (n := 2) (Nat.le_of_ble_eq_true rfl)
  rw [lg_entry_eq]
  generalize (lg_sl ([.ref o1, .int a1]) ++ List.replicate (2 - (lg_sl ([.ref o1, .int a1])).length) Slot.unset).toArray = ls at hl ⊢
  have hl : lv_has ls 2 [(0, .ref o1), (1, .int a1)] := hl
  refine gen_Q (fun Q hQ => ?_)
  refine lv_iload_n hx hb dX12_told_0 rfl (lv_at hl 1 rfl) ?_
  refine lv_iconst (v := 0) hx hb dX12_told_1 (by decide) ?_
  refine lv_bipush (v := 11) hx hb dX12_told_2 (by decide) ?_
  refine kc_i (D := (dC, dI)) (S := Unit) (wc := []) (wr := [(o1, .inr (12, [.int v2, .ref o3, .int v5, .ref o6, .int v8, .ref o9, .ref o11, .int v13, .ref o14, .int v16, .ref o17, .int v19, .int v20, .int v21, .ref o22, .ref o24, .ref o26, .ref o28, .ref o30, .int v32, .ref o33, .ref o35, .ref o37, .int v39, .ref o40, .ref o42, .ref o44, .int v46, .ref o47])), (o9, .inl (cI, 12, .inl fw10)), (o3, .inl (cI, 5, .inl fw4))]) (w1 := fun _ => []) (wn := fun _ => [(o1, .inr (12, [.int v2, .ref o3, .int v5, .ref o6, .int v8, .ref o9, .ref o11, .int v13, .ref o14, .int v16, .ref o17, .int v19, .int v20, .int v21, .ref o22, .ref o24, .ref o26, .ref o28, .ref o30, .int v32, .ref o33, .ref o35, .ref o37, .int v39, .ref o40, .ref o42, .ref o44, .int v46, .ref o47])), (o9, .inl (cI, 12, .inl fw10)), (o3, .inl (cI, 5, .inl fw4))]) (fun hPc hDc => va_runS (As := [.int a1, .int 0, .int 11]) (rest := []) ⟨hx, hb, hml, hown, hts⟩ (kX12_in_9 l dC dI cI c2 cZ a1 0 11 s.heap.size ik_0 (iv_w ik_11 (by decide))) (va_cwS 3 hts gX12_told_X12_in rfl rfl rfl (by decide +kernel) ⟨Nat.le_of_ble_eq_true rfl, Nat.le_of_ble_eq_true rfl⟩) (pre_S hPc hK hDc hN) rfl rfl hl.1 rfl (lv_room (Nat.le_of_ble_eq_true rfl)) dX12_told_4 ⟨Nat.le_of_ble_eq_true rfl, Nat.le_of_ble_eq_true rfl⟩) hP hD hS hA [] [0, 1, 2] [0, 1, 2] rfl rfl (by decide +kernel) (by decide +kernel) (by decide +kernel) (by decide +kernel) (fun _ => rfl) (fun x1 _ H locs hq hP hD hS => ?_)
  obtain ⟨x1_h, i2, e3⟩ := hq
  have hP : va_P (dC, dI) vwCl ([(o1, .inr (12, [.int v2, .ref o3, .int v5, .ref o6, .int v8, .ref o9, .ref o11, .int v13, .ref o14, .int v16, .ref o17, .int v19, .int v20, .int v21, .ref o22, .ref o24, .ref o26, .ref o28, .ref o30, .int v32, .ref o33, .ref o35, .ref o37, .int v39, .ref o40, .ref o42, .ref o44, .int v46, .ref o47])), (o9, .inl (cI, 12, .inl fw10)), (o3, .inl (cI, 5, .inl fw4))]) H := hP
  have hD : va_D A ([(o1, .inr (12, [.int v2, .ref o3, .int v5, .ref o6, .int v8, .ref o9, .ref o11, .int v13, .ref o14, .int v16, .ref o17, .int v19, .int v20, .int v21, .ref o22, .ref o24, .ref o26, .ref o28, .ref o30, .int v32, .ref o33, .ref o35, .ref o37, .int v39, .ref o40, .ref o42, .ref o44, .int v46, .ref o47])), (o9, .inl (cI, 12, .inl fw10)), (o3, .inl (cI, 5, .inl fw4))]) := hD
  refine lv_if_ne (tgt := 18) hx hb dX12_told_7 (by decide) (fun h4 => ?_) (fun h4 => ?_)
  ·
    have j5 : Iv 1 1 x1 := r_nelo h4 x1_h ik_0 (by decide)
    have j6 : Iv 0 11 a1 := i2 h4
    refine lv_aload_n hx hb dX12_told_18 rfl (lv_at hl 0 rfl) ?_
    refine va_get (D := (dC, dI)) (ci := 12) (v := .ref o9) (C := RX12) (T := TX12) (N := 29) hx hb hts iw_X12_told_X12 hown hK hP 0 rfl rfl 5 (by decide) (hts (.fieldLink RX12 16 "HolelessHouseModel" "rows" "[I") hm_X12_told_1) (fun _ h9 => h9) rfl dX12_told_19 ?_
    refine lv_iload_n hx hb dX12_told_22 rfl (lv_at hl 1 rfl) ?_
    refine va_iald hx hb hK hP 1 0 rfl rfl (vin_iv j6 (by decide)) dX12_told_23 (lv_topi (fun x7 x7_e => ?_))
    have x7_h : Iv (-9) 255 x7 := iv_e x7_e (bd_at fw10_b (vin_iv j6 (by decide)))
    refine lv_if_ge (tgt := 35) hx hb dX12_told_24 (by decide) (fun h8 => ?_) (fun h8 => ?_)
    ·
      have qh8 := le_i h8
      have j9 : Iv 0 255 x7 := r_ler qh8 ik_0 x7_h (by decide)
      refine lv_aload_n hx hb dX12_told_35 rfl (lv_at hl 0 rfl) ?_
      refine va_get (D := (dC, dI)) (ci := 12) (v := .ref o9) (C := RX12) (T := TX12) (N := 29) hx hb hts iw_X12_told_X12 hown hK hP 0 rfl rfl 5 (by decide) (hts (.fieldLink RX12 16 "HolelessHouseModel" "rows" "[I") hm_X12_told_1) (fun _ h9 => h9) rfl dX12_told_36 ?_
      refine lv_iload_n hx hb dX12_told_39 rfl (lv_at hl 1 rfl) ?_
      refine va_iald hx hb hK hP 1 0 rfl rfl (vin_iv j6 (by decide)) dX12_told_40 (lv_topi (fun x10 x10_e => ?_))
      have x10_h : Iv 0 255 x10 := iv_e (x10_e.trans x7_e.symm) j9
      rw [hQ]
      exact W.iret (v := x10) hx hb hr (fun t ht hW => ⟨⟨x10, (v2, fw4), rfl, (iv_w x10_h (by decide)), by rw [ht]; exact hP, va_K.moved hW.alike hK, hD⟩, hS.F ht⟩) hS.2.2 dX12_told_41
    ·
      have qh8 := nle_i h8
      have j11 : Iv (-9) (-1) x7 := r_ltl qh8 x7_h ik_0 (by decide)
      refine lv_aload_n hx hb dX12_told_27 rfl (lv_at hl 0 rfl) ?_
      refine lv_iconst (v := 1) hx hb dX12_told_28 (by decide) ?_
      refine kc_i (D := (dC, dI)) (S := Int32 × (Nat → Int32)) (wc := [(o1, .inr (12, [.int v2, .ref o3, .int v5, .ref o6, .int v8, .ref o9, .ref o11, .int v13, .ref o14, .int v16, .ref o17, .int v19, .int v20, .int v21, .ref o22, .ref o24, .ref o26, .ref o28, .ref o30, .int v32, .ref o33, .ref o35, .ref o37, .int v39, .ref o40, .ref o42, .ref o44, .int v46, .ref o47])), (o3, .inl (cI, 5, .inl fw4))]) (wr := [(o9, .inl (cI, 12, .inl fw10))]) (w1 := fun u => [(o1, .inr (12, [.int u.1, .ref o3, .int v5, .ref o6, .int v8, .ref o9, .ref o11, .int v13, .ref o14, .int v16, .ref o17, .int v19, .int v20, .int v21, .ref o22, .ref o24, .ref o26, .ref o28, .ref o30, .int v32, .ref o33, .ref o35, .ref o37, .int v39, .ref o40, .ref o42, .ref o44, .int v46, .ref o47])), (o3, .inl (cI, 5, .inl u.2))]) (wn := fun u => [(o1, .inr (12, [.int u.1, .ref o3, .int v5, .ref o6, .int v8, .ref o9, .ref o11, .int v13, .ref o14, .int v16, .ref o17, .int v19, .int v20, .int v21, .ref o22, .ref o24, .ref o26, .ref o28, .ref o30, .int v32, .ref o33, .ref o35, .ref o37, .int v39, .ref o40, .ref o42, .ref o44, .int v46, .ref o47])), (o9, .inl (cI, 12, .inl fw10)), (o3, .inl (cI, 5, .inl u.2))]) (fun hPc hDc => va_runV (As := [.int 1]) (rest := []) ⟨hx, hb, hml, hown, hts⟩ (kX12_meets_4 l dC dI cI c2 cZ o1 o3 o6 o9 o11 o14 o17 o22 o24 o26 o28 o30 o33 o35 o37 o40 o42 o44 o47 v2 fw4 v5 v8 v13 v16 v19 v20 v21 v32 v39 v46 1 H.size v5_h v8_h v13_h v16_h v19_h v32_h v39_h v46_h ik_1) (cwV 1 hts gX12_told_X12_meets rfl rfl rfl (by decide +kernel) ⟨Nat.le_of_ble_eq_true rfl, Nat.le_of_ble_eq_true rfl⟩) (pre_V hPc hK hDc hN (ci := 12) (q0 := 0) rfl rfl) rfl rfl hl.1 rfl (lv_room (Nat.le_of_ble_eq_true rfl)) dX12_told_29 ⟨Nat.le_of_ble_eq_true rfl, Nat.le_of_ble_eq_true rfl⟩) hP hD hS hA [0, 2] [1] [1, 0, 2] rfl rfl (by decide +kernel) (by decide +kernel) (by decide +kernel) (by decide +kernel) (fun _ => rfl) (fun x14 u H locs hq hP hD hS => ?_)
      obtain ⟨y12, f13⟩ := u
      have x14_h := hq
      have x14_h : Iv (-3) (-3) x14 := x14_h
      have hP : va_P (dC, dI) vwCl ([(o1, .inr (12, [.int y12, .ref o3, .int v5, .ref o6, .int v8, .ref o9, .ref o11, .int v13, .ref o14, .int v16, .ref o17, .int v19, .int v20, .int v21, .ref o22, .ref o24, .ref o26, .ref o28, .ref o30, .int v32, .ref o33, .ref o35, .ref o37, .int v39, .ref o40, .ref o42, .ref o44, .int v46, .ref o47])), (o9, .inl (cI, 12, .inl fw10)), (o3, .inl (cI, 5, .inl f13))]) H := hP
      have hD : va_D A ([(o1, .inr (12, [.int y12, .ref o3, .int v5, .ref o6, .int v8, .ref o9, .ref o11, .int v13, .ref o14, .int v16, .ref o17, .int v19, .int v20, .int v21, .ref o22, .ref o24, .ref o26, .ref o28, .ref o30, .int v32, .ref o33, .ref o35, .ref o37, .int v39, .ref o40, .ref o42, .ref o44, .int v46, .ref o47])), (o9, .inl (cI, 12, .inl fw10)), (o3, .inl (cI, 5, .inl f13))]) := hD
      refine lv_goto (tgt := 41) hx hb dX12_told_32 (by decide) ?_
      rw [hQ]
      exact W.iret (v := x14) hx hb hr (fun t ht hW => ⟨⟨x14, (y12, f13), rfl, (iv_w x14_h (by decide)), by rw [ht]; exact hP, va_K.moved hW.alike hK, hD⟩, hS.F ht⟩) hS.2.2 dX12_told_41
  ·
    have j15 : Iv 0 0 x1 := r_eq h4 ik_0
    refine lv_aload_n hx hb dX12_told_10 rfl (lv_at hl 0 rfl) ?_
    refine lv_iconst (v := 2) hx hb dX12_told_11 (by decide) ?_
    refine kc_i (D := (dC, dI)) (S := Int32 × (Nat → Int32)) (wc := [(o1, .inr (12, [.int v2, .ref o3, .int v5, .ref o6, .int v8, .ref o9, .ref o11, .int v13, .ref o14, .int v16, .ref o17, .int v19, .int v20, .int v21, .ref o22, .ref o24, .ref o26, .ref o28, .ref o30, .int v32, .ref o33, .ref o35, .ref o37, .int v39, .ref o40, .ref o42, .ref o44, .int v46, .ref o47])), (o3, .inl (cI, 5, .inl fw4))]) (wr := [(o9, .inl (cI, 12, .inl fw10))]) (w1 := fun u => [(o1, .inr (12, [.int u.1, .ref o3, .int v5, .ref o6, .int v8, .ref o9, .ref o11, .int v13, .ref o14, .int v16, .ref o17, .int v19, .int v20, .int v21, .ref o22, .ref o24, .ref o26, .ref o28, .ref o30, .int v32, .ref o33, .ref o35, .ref o37, .int v39, .ref o40, .ref o42, .ref o44, .int v46, .ref o47])), (o3, .inl (cI, 5, .inl u.2))]) (wn := fun u => [(o1, .inr (12, [.int u.1, .ref o3, .int v5, .ref o6, .int v8, .ref o9, .ref o11, .int v13, .ref o14, .int v16, .ref o17, .int v19, .int v20, .int v21, .ref o22, .ref o24, .ref o26, .ref o28, .ref o30, .int v32, .ref o33, .ref o35, .ref o37, .int v39, .ref o40, .ref o42, .ref o44, .int v46, .ref o47])), (o9, .inl (cI, 12, .inl fw10)), (o3, .inl (cI, 5, .inl u.2))]) (fun hPc hDc => va_runV (As := [.int 2]) (rest := []) ⟨hx, hb, hml, hown, hts⟩ (kX12_meets_3 l dC dI cI c2 cZ o1 o3 o6 o9 o11 o14 o17 o22 o24 o26 o28 o30 o33 o35 o37 o40 o42 o44 o47 v2 fw4 v5 v8 v13 v16 v19 v20 v21 v32 v39 v46 2 H.size v5_h v8_h v13_h v16_h v19_h v32_h v39_h v46_h ik_2) (cwV 1 hts gX12_told_X12_meets rfl rfl rfl (by decide +kernel) ⟨Nat.le_of_ble_eq_true rfl, Nat.le_of_ble_eq_true rfl⟩) (pre_V hPc hK hDc hN (ci := 12) (q0 := 0) rfl rfl) rfl rfl hl.1 rfl (lv_room (Nat.le_of_ble_eq_true rfl)) dX12_told_12 ⟨Nat.le_of_ble_eq_true rfl, Nat.le_of_ble_eq_true rfl⟩) hP hD hS hA [0, 2] [1] [1, 0, 2] rfl rfl (by decide +kernel) (by decide +kernel) (by decide +kernel) (by decide +kernel) (fun _ => rfl) (fun x18 u H locs hq hP hD hS => ?_)
    obtain ⟨y16, f17⟩ := u
    have x18_h := hq
    have x18_h : Iv (-3) (-3) x18 := x18_h
    have hP : va_P (dC, dI) vwCl ([(o1, .inr (12, [.int y16, .ref o3, .int v5, .ref o6, .int v8, .ref o9, .ref o11, .int v13, .ref o14, .int v16, .ref o17, .int v19, .int v20, .int v21, .ref o22, .ref o24, .ref o26, .ref o28, .ref o30, .int v32, .ref o33, .ref o35, .ref o37, .int v39, .ref o40, .ref o42, .ref o44, .int v46, .ref o47])), (o9, .inl (cI, 12, .inl fw10)), (o3, .inl (cI, 5, .inl f17))]) H := hP
    have hD : va_D A ([(o1, .inr (12, [.int y16, .ref o3, .int v5, .ref o6, .int v8, .ref o9, .ref o11, .int v13, .ref o14, .int v16, .ref o17, .int v19, .int v20, .int v21, .ref o22, .ref o24, .ref o26, .ref o28, .ref o30, .int v32, .ref o33, .ref o35, .ref o37, .int v39, .ref o40, .ref o42, .ref o44, .int v46, .ref o47])), (o9, .inl (cI, 12, .inl fw10)), (o3, .inl (cI, 5, .inl f17))]) := hD
    refine lv_goto (tgt := 41) hx hb dX12_told_15 (by decide) ?_
    rw [hQ]
    exact W.iret (v := x18) hx hb hr (fun t ht hW => ⟨⟨x18, (y16, f17), rfl, (iv_w x18_h (by decide)), by rw [ht]; exact hP, va_K.moved hW.alike hK, hD⟩, hS.F ht⟩) hS.2.2 dX12_told_41
theorem iw_X12_tear_X12 : ∀ w ∈ wsX120, w ∈ wsX12_tear := fun _ h => List.mem_cons.mpr (Or.inr (List.mem_append.mpr (Or.inr h)))
set_option maxHeartbeats 4000000 in
set_option maxRecDepth 100000 in
theorem kX12_tear_1 (l : Launch) (dC : Nat → ClassId) (dI : Nat → Nat → Nat) (cI c2 cZ : ClassId) (o1 : Nat) (o3 : Nat) (o6 : Nat) (o9 : Nat) (o11 : Nat) (o14 : Nat) (o17 : Nat) (o22 : Nat) (o24 : Nat) (o26 : Nat) (o28 : Nat) (o30 : Nat) (o33 : Nat) (o35 : Nat) (o37 : Nat) (o40 : Nat) (o42 : Nat) (o44 : Nat) (o47 : Nat) (v2 : Int32) (fw4 : Nat → Int32) (v5 : Int32) (v8 : Int32) (fw10 : Nat → Int32) (v13 : Int32) (v16 : Int32) (v19 : Int32) (v20 : Int32) (v21 : Int32) (v32 : Int32) (v39 : Int32) (v46 : Int32) (a1 : Int32) (sz : Nat) (v5_h : Iv 0 12 v5) (v8_h : Iv 0 8 v8) (fw10_b : Bd 12 (-9) 255 fw10) (v13_h : Iv 0 12 v13) (v16_h : Iv 0 12 v16) (v19_h : Iv (-9) 12 v19) (v32_h : Iv 0 99 v32) (v39_h : Iv 0 12 v39) (v46_h : Iv 0 12 v46) : Met l yX12_tear wsX12_tear ({ frames := 1, cells := 0, slots := 0, locals := 22 }) (va_Pc [.ref o1, .int a1] (wPre (dC, dI) [(cI, .int), (c2, .array .int), (cZ, .boolean)] ([(o1, .inr (12, [.int v2, .ref o3, .int v5, .ref o6, .int v8, .ref o9, .ref o11, .int v13, .ref o14, .int v16, .ref o17, .int v19, .int v20, .int v21, .ref o22, .ref o24, .ref o26, .ref o28, .ref o30, .int v32, .ref o33, .ref o35, .ref o37, .int v39, .ref o40, .ref o42, .ref o44, .int v46, .ref o47])), (o9, .inl (cI, 12, .inl fw10)), (o3, .inl (cI, 5, .inl fw4))]) sz)) (va_Qi (fun (r : Int32) (u : Int32 × (Nat → Int32) × (Nat → Int32)) => Iv (-3) 1 r ∧ Bd 12 (-9) 255 u.2.1) (fun u t => wPost (dC, dI) [(cI, .int), (c2, .array .int), (cZ, .boolean)] (va_A ([(o1, .inr (12, [.int v2, .ref o3, .int v5, .ref o6, .int v8, .ref o9, .ref o11, .int v13, .ref o14, .int v16, .ref o17, .int v19, .int v20, .int v21, .ref o22, .ref o24, .ref o26, .ref o28, .ref o30, .int v32, .ref o33, .ref o35, .ref o37, .int v39, .ref o40, .ref o42, .ref o44, .int v46, .ref o47])), (o9, .inl (cI, 12, .inl fw10)), (o3, .inl (cI, 5, .inl fw4))]) sz) ([(o1, .inr (12, [.int u.1, .ref o3, .int v5, .ref o6, .int v8, .ref o9, .ref o11, .int v13, .ref o14, .int v16, .ref o17, .int v19, .int v20, .int v21, .ref o22, .ref o24, .ref o26, .ref o28, .ref o30, .int v32, .ref o33, .ref o35, .ref o37, .int v39, .ref o40, .ref o42, .ref o44, .int v46, .ref o47])), (o9, .inl (cI, 12, .inl u.2.1)), (o3, .inl (cI, 5, .inl u.2.2))]) t) (va_A ([(o1, .inr (12, [.int v2, .ref o3, .int v5, .ref o6, .int v8, .ref o9, .ref o11, .int v13, .ref o14, .int v16, .ref o17, .int v19, .int v20, .int v21, .ref o22, .ref o24, .ref o26, .ref o28, .ref o30, .int v32, .ref o33, .ref o35, .ref o37, .int v39, .ref o40, .ref o42, .ref o44, .int v46, .ref o47])), (o9, .inl (cI, 12, .inl fw10)), (o3, .inl (cI, 5, .inl fw4))]) sz)) 0 0 (va_A ([(o1, .inr (12, [.int v2, .ref o3, .int v5, .ref o6, .int v8, .ref o9, .ref o11, .int v13, .ref o14, .int v16, .ref o17, .int v19, .int v20, .int v21, .ref o22, .ref o24, .ref o26, .ref o28, .ref o30, .int v32, .ref o33, .ref o35, .ref o37, .int v39, .ref o40, .ref o42, .ref o44, .int v46, .ref o47])), (o9, .inl (cI, 12, .inl fw10)), (o3, .inl (cI, 5, .inl fw4))]) sz) := by
  refine Met.ofW (cc := cX12_tear) (maxL := 2) (ret := (some .int)) (by decide) rfl ?_
  intro p e s m args below meth c s₁ B hml hv
  obtain ⟨rfl, hsz, hP, hK, hD0, hN⟩ := hv
  have hx := B.exec
  have hb := B.bytes
  have hr := B.returns
  have hts := atoms_spec (ws := wsX12_tear) B.pre
  have hown : s.vm.findClass RX12 = some m.cls := findClass_of_methodNamed B.named
  have hlocks := B.notSynchronized
  subst hsz
  have hD := hD0.self (sz := s.heap.size)
  generalize hAe : va_A ([(o1, .inr (12, [.int v2, .ref o3, .int v5, .ref o6, .int v8, .ref o9, .ref o11, .int v13, .ref o14, .int v16, .ref o17, .int v19, .int v20, .int v21, .ref o22, .ref o24, .ref o26, .ref o28, .ref o30, .int v32, .ref o33, .ref o35, .ref o37, .int v39, .ref o40, .ref o42, .ref o44, .int v46, .ref o47])), (o9, .inl (cI, 12, .inl fw10)), (o3, .inl (cI, 5, .inl fw4))]) s.heap.size = A at hD ⊢
  have hA : ∀ q : Nat, s.heap.size ≤ q → A q := fun q h => by rw [← hAe]; exact Or.inr h
  have hS : va_S A s.heap s.heap [] := va_S.rf
  have hP : va_P (dC, dI) vwCl ([(o1, .inr (12, [.int v2, .ref o3, .int v5, .ref o6, .int v8, .ref o9, .ref o11, .int v13, .ref o14, .int v16, .ref o17, .int v19, .int v20, .int v21, .ref o22, .ref o24, .ref o26, .ref o28, .ref o30, .int v32, .ref o33, .ref o35, .ref o37, .int v39, .ref o40, .ref o42, .ref o44, .int v46, .ref o47])), (o9, .inl (cI, 12, .inl fw10)), (o3, .inl (cI, 5, .inl fw4))]) s.heap := hP
  have hl := lv_entry ([.ref o1, .int a1]) (n := 2) (Nat.le_of_ble_eq_true rfl)
  rw [lg_entry_eq]
  generalize (lg_sl ([.ref o1, .int a1]) ++ List.replicate (2 - (lg_sl ([.ref o1, .int a1])).length) Slot.unset).toArray = ls at hl ⊢
  have hl : lv_has ls 2 [(0, .ref o1), (1, .int a1)] := hl
  refine gen_Q (fun Q hQ => ?_)
  refine lv_iload_n hx hb dX12_tear_0 rfl (lv_at hl 1 rfl) ?_
  refine lv_iconst (v := 0) hx hb dX12_tear_1 (by decide) ?_
  refine lv_bipush (v := 11) hx hb dX12_tear_2 (by decide) ?_
  refine kc_i (D := (dC, dI)) (S := Unit) (wc := []) (wr := [(o1, .inr (12, [.int v2, .ref o3, .int v5, .ref o6, .int v8, .ref o9, .ref o11, .int v13, .ref o14, .int v16, .ref o17, .int v19, .int v20, .int v21, .ref o22, .ref o24, .ref o26, .ref o28, .ref o30, .int v32, .ref o33, .ref o35, .ref o37, .int v39, .ref o40, .ref o42, .ref o44, .int v46, .ref o47])), (o9, .inl (cI, 12, .inl fw10)), (o3, .inl (cI, 5, .inl fw4))]) (w1 := fun _ => []) (wn := fun _ => [(o1, .inr (12, [.int v2, .ref o3, .int v5, .ref o6, .int v8, .ref o9, .ref o11, .int v13, .ref o14, .int v16, .ref o17, .int v19, .int v20, .int v21, .ref o22, .ref o24, .ref o26, .ref o28, .ref o30, .int v32, .ref o33, .ref o35, .ref o37, .int v39, .ref o40, .ref o42, .ref o44, .int v46, .ref o47])), (o9, .inl (cI, 12, .inl fw10)), (o3, .inl (cI, 5, .inl fw4))]) (fun hPc hDc => va_runS (As := [.int a1, .int 0, .int 11]) (rest := []) ⟨hx, hb, hml, hown, hts⟩ (kX12_in_9 l dC dI cI c2 cZ a1 0 11 s.heap.size ik_0 (iv_w ik_11 (by decide))) (va_cwS 3 hts gX12_tear_X12_in rfl rfl rfl (by decide +kernel) ⟨Nat.le_of_ble_eq_true rfl, Nat.le_of_ble_eq_true rfl⟩) (pre_S hPc hK hDc hN) rfl rfl hl.1 rfl (lv_room (Nat.le_of_ble_eq_true rfl)) dX12_tear_4 ⟨Nat.le_of_ble_eq_true rfl, Nat.le_of_ble_eq_true rfl⟩) hP hD hS hA [] [0, 1, 2] [0, 1, 2] rfl rfl (by decide +kernel) (by decide +kernel) (by decide +kernel) (by decide +kernel) (fun _ => rfl) (fun x1 _ H locs hq hP hD hS => ?_)
  obtain ⟨x1_h, i2, e3⟩ := hq
  have hP : va_P (dC, dI) vwCl ([(o1, .inr (12, [.int v2, .ref o3, .int v5, .ref o6, .int v8, .ref o9, .ref o11, .int v13, .ref o14, .int v16, .ref o17, .int v19, .int v20, .int v21, .ref o22, .ref o24, .ref o26, .ref o28, .ref o30, .int v32, .ref o33, .ref o35, .ref o37, .int v39, .ref o40, .ref o42, .ref o44, .int v46, .ref o47])), (o9, .inl (cI, 12, .inl fw10)), (o3, .inl (cI, 5, .inl fw4))]) H := hP
  have hD : va_D A ([(o1, .inr (12, [.int v2, .ref o3, .int v5, .ref o6, .int v8, .ref o9, .ref o11, .int v13, .ref o14, .int v16, .ref o17, .int v19, .int v20, .int v21, .ref o22, .ref o24, .ref o26, .ref o28, .ref o30, .int v32, .ref o33, .ref o35, .ref o37, .int v39, .ref o40, .ref o42, .ref o44, .int v46, .ref o47])), (o9, .inl (cI, 12, .inl fw10)), (o3, .inl (cI, 5, .inl fw4))]) := hD
  refine lv_if_ne (tgt := 16) hx hb dX12_tear_7 (by decide) (fun h4 => ?_) (fun h4 => ?_)
  ·
    have j5 : Iv 1 1 x1 := r_nelo h4 x1_h ik_0 (by decide)
    have j6 : Iv 0 11 a1 := i2 h4
    refine lv_aload_n hx hb dX12_tear_16 rfl (lv_at hl 0 rfl) ?_
    refine va_get (D := (dC, dI)) (ci := 12) (v := .ref o9) (C := RX12) (T := TX12) (N := 29) hx hb hts iw_X12_tear_X12 hown hK hP 0 rfl rfl 5 (by decide) (hts (.fieldLink RX12 16 "HolelessHouseModel" "rows" "[I") hm_X12_tear_1) (fun _ h9 => h9) rfl dX12_tear_17 ?_
    refine lv_iload_n hx hb dX12_tear_20 rfl (lv_at hl 1 rfl) ?_
    refine va_iald hx hb hK hP 1 0 rfl rfl (vin_iv j6 (by decide)) dX12_tear_21 (lv_topi (fun x7 x7_e => ?_))
    have x7_h : Iv (-9) 255 x7 := iv_e x7_e (bd_at fw10_b (vin_iv j6 (by decide)))
    refine lv_if_ge (tgt := 31) hx hb dX12_tear_22 (by decide) (fun h8 => ?_) (fun h8 => ?_)
    ·
      have qh8 := le_i h8
      have j9 : Iv 0 255 x7 := r_ler qh8 ik_0 x7_h (by decide)
      refine lv_aload_n hx hb dX12_tear_31 rfl (lv_at hl 0 rfl) ?_
      refine va_get (D := (dC, dI)) (ci := 12) (v := .ref o9) (C := RX12) (T := TX12) (N := 29) hx hb hts iw_X12_tear_X12 hown hK hP 0 rfl rfl 5 (by decide) (hts (.fieldLink RX12 16 "HolelessHouseModel" "rows" "[I") hm_X12_tear_1) (fun _ h9 => h9) rfl dX12_tear_32 ?_
      refine lv_iload_n hx hb dX12_tear_35 rfl (lv_at hl 1 rfl) ?_
      refine lv_bipush (v := (-9)) hx hb dX12_tear_36 (by decide) ?_
      refine k_iast hx hb hK hP hD hS 1 0 rfl rfl (vin_iv j6 (by decide)) dX12_tear_38 (fun f10 H locs f10_e hP hD hS => ?_)
      have f10_b : Bd 12 (-9) 255 f10 := bd_upd f10_e fw10_b ikm_9 (by decide)
      have hP : va_P (dC, dI) vwCl ([(o1, .inr (12, [.int v2, .ref o3, .int v5, .ref o6, .int v8, .ref o9, .ref o11, .int v13, .ref o14, .int v16, .ref o17, .int v19, .int v20, .int v21, .ref o22, .ref o24, .ref o26, .ref o28, .ref o30, .int v32, .ref o33, .ref o35, .ref o37, .int v39, .ref o40, .ref o42, .ref o44, .int v46, .ref o47])), (o9, .inl (cI, 12, .inl f10)), (o3, .inl (cI, 5, .inl fw4))]) H := hP
      have hD : va_D A ([(o1, .inr (12, [.int v2, .ref o3, .int v5, .ref o6, .int v8, .ref o9, .ref o11, .int v13, .ref o14, .int v16, .ref o17, .int v19, .int v20, .int v21, .ref o22, .ref o24, .ref o26, .ref o28, .ref o30, .int v32, .ref o33, .ref o35, .ref o37, .int v39, .ref o40, .ref o42, .ref o44, .int v46, .ref o47])), (o9, .inl (cI, 12, .inl f10)), (o3, .inl (cI, 5, .inl fw4))]) := hD
      refine lv_iconst (v := 1) hx hb dX12_tear_39 (by decide) ?_
      rw [hQ]
      exact W.iret (v := 1) hx hb hr (fun t ht hW => ⟨⟨1, (v2, f10, fw4), rfl, ⟨(iv_w ik_1 (by decide)), f10_b⟩, by rw [ht]; exact hP, va_K.moved hW.alike hK, hD⟩, hS.F ht⟩) hS.2.2 dX12_tear_40
    ·
      have qh8 := nle_i h8
      have j11 : Iv (-9) (-1) x7 := r_ltl qh8 x7_h ik_0 (by decide)
      refine lv_aload_n hx hb dX12_tear_25 rfl (lv_at hl 0 rfl) ?_
      refine lv_iconst (v := 1) hx hb dX12_tear_26 (by decide) ?_
      refine kc_i (D := (dC, dI)) (S := Int32 × (Nat → Int32)) (wc := [(o1, .inr (12, [.int v2, .ref o3, .int v5, .ref o6, .int v8, .ref o9, .ref o11, .int v13, .ref o14, .int v16, .ref o17, .int v19, .int v20, .int v21, .ref o22, .ref o24, .ref o26, .ref o28, .ref o30, .int v32, .ref o33, .ref o35, .ref o37, .int v39, .ref o40, .ref o42, .ref o44, .int v46, .ref o47])), (o3, .inl (cI, 5, .inl fw4))]) (wr := [(o9, .inl (cI, 12, .inl fw10))]) (w1 := fun u => [(o1, .inr (12, [.int u.1, .ref o3, .int v5, .ref o6, .int v8, .ref o9, .ref o11, .int v13, .ref o14, .int v16, .ref o17, .int v19, .int v20, .int v21, .ref o22, .ref o24, .ref o26, .ref o28, .ref o30, .int v32, .ref o33, .ref o35, .ref o37, .int v39, .ref o40, .ref o42, .ref o44, .int v46, .ref o47])), (o3, .inl (cI, 5, .inl u.2))]) (wn := fun u => [(o1, .inr (12, [.int u.1, .ref o3, .int v5, .ref o6, .int v8, .ref o9, .ref o11, .int v13, .ref o14, .int v16, .ref o17, .int v19, .int v20, .int v21, .ref o22, .ref o24, .ref o26, .ref o28, .ref o30, .int v32, .ref o33, .ref o35, .ref o37, .int v39, .ref o40, .ref o42, .ref o44, .int v46, .ref o47])), (o9, .inl (cI, 12, .inl fw10)), (o3, .inl (cI, 5, .inl u.2))]) (fun hPc hDc => va_runV (As := [.int 1]) (rest := []) ⟨hx, hb, hml, hown, hts⟩ (kX12_meets_4 l dC dI cI c2 cZ o1 o3 o6 o9 o11 o14 o17 o22 o24 o26 o28 o30 o33 o35 o37 o40 o42 o44 o47 v2 fw4 v5 v8 v13 v16 v19 v20 v21 v32 v39 v46 1 H.size v5_h v8_h v13_h v16_h v19_h v32_h v39_h v46_h ik_1) (cwV 1 hts gX12_tear_X12_meets rfl rfl rfl (by decide +kernel) ⟨Nat.le_of_ble_eq_true rfl, Nat.le_of_ble_eq_true rfl⟩) (pre_V hPc hK hDc hN (ci := 12) (q0 := 0) rfl rfl) rfl rfl hl.1 rfl (lv_room (Nat.le_of_ble_eq_true rfl)) dX12_tear_27 ⟨Nat.le_of_ble_eq_true rfl, Nat.le_of_ble_eq_true rfl⟩) hP hD hS hA [0, 2] [1] [1, 0, 2] rfl rfl (by decide +kernel) (by decide +kernel) (by decide +kernel) (by decide +kernel) (fun _ => rfl) (fun x14 u H locs hq hP hD hS => ?_)
      obtain ⟨y12, f13⟩ := u
      have x14_h := hq
      have x14_h : Iv (-3) (-3) x14 := x14_h
      have hP : va_P (dC, dI) vwCl ([(o1, .inr (12, [.int y12, .ref o3, .int v5, .ref o6, .int v8, .ref o9, .ref o11, .int v13, .ref o14, .int v16, .ref o17, .int v19, .int v20, .int v21, .ref o22, .ref o24, .ref o26, .ref o28, .ref o30, .int v32, .ref o33, .ref o35, .ref o37, .int v39, .ref o40, .ref o42, .ref o44, .int v46, .ref o47])), (o9, .inl (cI, 12, .inl fw10)), (o3, .inl (cI, 5, .inl f13))]) H := hP
      have hD : va_D A ([(o1, .inr (12, [.int y12, .ref o3, .int v5, .ref o6, .int v8, .ref o9, .ref o11, .int v13, .ref o14, .int v16, .ref o17, .int v19, .int v20, .int v21, .ref o22, .ref o24, .ref o26, .ref o28, .ref o30, .int v32, .ref o33, .ref o35, .ref o37, .int v39, .ref o40, .ref o42, .ref o44, .int v46, .ref o47])), (o9, .inl (cI, 12, .inl fw10)), (o3, .inl (cI, 5, .inl f13))]) := hD
      rw [hQ]
      exact W.iret (v := x14) hx hb hr (fun t ht hW => ⟨⟨x14, (y12, fw10, f13), rfl, ⟨(iv_w x14_h (by decide)), fw10_b⟩, by rw [ht]; exact hP, va_K.moved hW.alike hK, hD⟩, hS.F ht⟩) hS.2.2 dX12_tear_30
  ·
    have j15 : Iv 0 0 x1 := r_eq h4 ik_0
    refine lv_aload_n hx hb dX12_tear_10 rfl (lv_at hl 0 rfl) ?_
    refine lv_iconst (v := 2) hx hb dX12_tear_11 (by decide) ?_
    refine kc_i (D := (dC, dI)) (S := Int32 × (Nat → Int32)) (wc := [(o1, .inr (12, [.int v2, .ref o3, .int v5, .ref o6, .int v8, .ref o9, .ref o11, .int v13, .ref o14, .int v16, .ref o17, .int v19, .int v20, .int v21, .ref o22, .ref o24, .ref o26, .ref o28, .ref o30, .int v32, .ref o33, .ref o35, .ref o37, .int v39, .ref o40, .ref o42, .ref o44, .int v46, .ref o47])), (o3, .inl (cI, 5, .inl fw4))]) (wr := [(o9, .inl (cI, 12, .inl fw10))]) (w1 := fun u => [(o1, .inr (12, [.int u.1, .ref o3, .int v5, .ref o6, .int v8, .ref o9, .ref o11, .int v13, .ref o14, .int v16, .ref o17, .int v19, .int v20, .int v21, .ref o22, .ref o24, .ref o26, .ref o28, .ref o30, .int v32, .ref o33, .ref o35, .ref o37, .int v39, .ref o40, .ref o42, .ref o44, .int v46, .ref o47])), (o3, .inl (cI, 5, .inl u.2))]) (wn := fun u => [(o1, .inr (12, [.int u.1, .ref o3, .int v5, .ref o6, .int v8, .ref o9, .ref o11, .int v13, .ref o14, .int v16, .ref o17, .int v19, .int v20, .int v21, .ref o22, .ref o24, .ref o26, .ref o28, .ref o30, .int v32, .ref o33, .ref o35, .ref o37, .int v39, .ref o40, .ref o42, .ref o44, .int v46, .ref o47])), (o9, .inl (cI, 12, .inl fw10)), (o3, .inl (cI, 5, .inl u.2))]) (fun hPc hDc => va_runV (As := [.int 2]) (rest := []) ⟨hx, hb, hml, hown, hts⟩ (kX12_meets_3 l dC dI cI c2 cZ o1 o3 o6 o9 o11 o14 o17 o22 o24 o26 o28 o30 o33 o35 o37 o40 o42 o44 o47 v2 fw4 v5 v8 v13 v16 v19 v20 v21 v32 v39 v46 2 H.size v5_h v8_h v13_h v16_h v19_h v32_h v39_h v46_h ik_2) (cwV 1 hts gX12_tear_X12_meets rfl rfl rfl (by decide +kernel) ⟨Nat.le_of_ble_eq_true rfl, Nat.le_of_ble_eq_true rfl⟩) (pre_V hPc hK hDc hN (ci := 12) (q0 := 0) rfl rfl) rfl rfl hl.1 rfl (lv_room (Nat.le_of_ble_eq_true rfl)) dX12_tear_12 ⟨Nat.le_of_ble_eq_true rfl, Nat.le_of_ble_eq_true rfl⟩) hP hD hS hA [0, 2] [1] [1, 0, 2] rfl rfl (by decide +kernel) (by decide +kernel) (by decide +kernel) (by decide +kernel) (fun _ => rfl) (fun x18 u H locs hq hP hD hS => ?_)
    obtain ⟨y16, f17⟩ := u
    have x18_h := hq
    have x18_h : Iv (-3) (-3) x18 := x18_h
    have hP : va_P (dC, dI) vwCl ([(o1, .inr (12, [.int y16, .ref o3, .int v5, .ref o6, .int v8, .ref o9, .ref o11, .int v13, .ref o14, .int v16, .ref o17, .int v19, .int v20, .int v21, .ref o22, .ref o24, .ref o26, .ref o28, .ref o30, .int v32, .ref o33, .ref o35, .ref o37, .int v39, .ref o40, .ref o42, .ref o44, .int v46, .ref o47])), (o9, .inl (cI, 12, .inl fw10)), (o3, .inl (cI, 5, .inl f17))]) H := hP
    have hD : va_D A ([(o1, .inr (12, [.int y16, .ref o3, .int v5, .ref o6, .int v8, .ref o9, .ref o11, .int v13, .ref o14, .int v16, .ref o17, .int v19, .int v20, .int v21, .ref o22, .ref o24, .ref o26, .ref o28, .ref o30, .int v32, .ref o33, .ref o35, .ref o37, .int v39, .ref o40, .ref o42, .ref o44, .int v46, .ref o47])), (o9, .inl (cI, 12, .inl fw10)), (o3, .inl (cI, 5, .inl f17))]) := hD
    rw [hQ]
    exact W.iret (v := x18) hx hb hr (fun t ht hW => ⟨⟨x18, (y16, fw10, f17), rfl, ⟨(iv_w x18_h (by decide)), fw10_b⟩, by rw [ht]; exact hP, va_K.moved hW.alike hK, hD⟩, hS.F ht⟩) hS.2.2 dX12_tear_15
theorem iw_X12_copy_X12 : ∀ w ∈ wsX120, w ∈ wsX12_copy := fun _ h => List.mem_cons.mpr (Or.inr (List.mem_append.mpr (Or.inr h)))
set_option maxHeartbeats 4000000 in
set_option maxRecDepth 100000 in
theorem kX12_copy_1 (l : Launch) (dC : Nat → ClassId) (dI : Nat → Nat → Nat) (cI c2 cZ : ClassId) (o1 : Nat) (o3 : Nat) (o6 : Nat) (o9 : Nat) (o11 : Nat) (o14 : Nat) (o17 : Nat) (o22 : Nat) (o24 : Nat) (o26 : Nat) (o28 : Nat) (o30 : Nat) (o33 : Nat) (o35 : Nat) (o37 : Nat) (o40 : Nat) (o42 : Nat) (o44 : Nat) (o47 : Nat) (v2 : Int32) (fw4 : Nat → Int32) (v5 : Int32) (v8 : Int32) (fw10 : Nat → Int32) (v13 : Int32) (v16 : Int32) (v19 : Int32) (v20 : Int32) (v21 : Int32) (v32 : Int32) (v39 : Int32) (v46 : Int32) (fw48 : Nat → Int32) (a1 : Int32) (a2 : Int32) (a3 : Int32) (sz : Nat) (v5_h : Iv 0 12 v5) (v8_h : Iv 0 8 v8) (fw10_b : Bd 12 (-9) 255 fw10) (v13_h : Iv 0 12 v13) (v16_h : Iv 0 12 v16) (v19_h : Iv (-9) 12 v19) (v32_h : Iv 0 99 v32) (v39_h : Iv 0 12 v39) (v46_h : Iv 0 12 v46) (fw48_b : Bd 12 (-9) 255 fw48) : Met l yX12_copy wsX12_copy ({ frames := 1, cells := 0, slots := 0, locals := 21 }) (va_Pc [.ref o1, .int a1, .int a2, .int a3] (wPre (dC, dI) [(cI, .int), (c2, .array .int), (cZ, .boolean)] ([(o1, .inr (12, [.int v2, .ref o3, .int v5, .ref o6, .int v8, .ref o9, .ref o11, .int v13, .ref o14, .int v16, .ref o17, .int v19, .int v20, .int v21, .ref o22, .ref o24, .ref o26, .ref o28, .ref o30, .int v32, .ref o33, .ref o35, .ref o37, .int v39, .ref o40, .ref o42, .ref o44, .int v46, .ref o47])), (o3, .inl (cI, 5, .inl fw4)), (o9, .inl (cI, 12, .inl fw10)), (o47, .inl (cI, 12, .inl fw48))]) sz)) (va_Qi (fun (r : Int32) (u : Int32 × (Nat → Int32) × (Nat → Int32) × (Nat → Int32)) => Iv (-3) 1 r ∧ Bd 12 (-9) 255 u.2.2.1 ∧ Bd 12 (-9) 255 u.2.2.2) (fun u t => wPost (dC, dI) [(cI, .int), (c2, .array .int), (cZ, .boolean)] (va_A ([(o1, .inr (12, [.int v2, .ref o3, .int v5, .ref o6, .int v8, .ref o9, .ref o11, .int v13, .ref o14, .int v16, .ref o17, .int v19, .int v20, .int v21, .ref o22, .ref o24, .ref o26, .ref o28, .ref o30, .int v32, .ref o33, .ref o35, .ref o37, .int v39, .ref o40, .ref o42, .ref o44, .int v46, .ref o47])), (o3, .inl (cI, 5, .inl fw4)), (o9, .inl (cI, 12, .inl fw10)), (o47, .inl (cI, 12, .inl fw48))]) sz) ([(o1, .inr (12, [.int u.1, .ref o3, .int v5, .ref o6, .int v8, .ref o9, .ref o11, .int v13, .ref o14, .int v16, .ref o17, .int v19, .int v20, .int v21, .ref o22, .ref o24, .ref o26, .ref o28, .ref o30, .int v32, .ref o33, .ref o35, .ref o37, .int v39, .ref o40, .ref o42, .ref o44, .int v46, .ref o47])), (o3, .inl (cI, 5, .inl u.2.1)), (o9, .inl (cI, 12, .inl u.2.2.1)), (o47, .inl (cI, 12, .inl u.2.2.2))]) t) (va_A ([(o1, .inr (12, [.int v2, .ref o3, .int v5, .ref o6, .int v8, .ref o9, .ref o11, .int v13, .ref o14, .int v16, .ref o17, .int v19, .int v20, .int v21, .ref o22, .ref o24, .ref o26, .ref o28, .ref o30, .int v32, .ref o33, .ref o35, .ref o37, .int v39, .ref o40, .ref o42, .ref o44, .int v46, .ref o47])), (o3, .inl (cI, 5, .inl fw4)), (o9, .inl (cI, 12, .inl fw10)), (o47, .inl (cI, 12, .inl fw48))]) sz)) 0 0 (va_A ([(o1, .inr (12, [.int v2, .ref o3, .int v5, .ref o6, .int v8, .ref o9, .ref o11, .int v13, .ref o14, .int v16, .ref o17, .int v19, .int v20, .int v21, .ref o22, .ref o24, .ref o26, .ref o28, .ref o30, .int v32, .ref o33, .ref o35, .ref o37, .int v39, .ref o40, .ref o42, .ref o44, .int v46, .ref o47])), (o3, .inl (cI, 5, .inl fw4)), (o9, .inl (cI, 12, .inl fw10)), (o47, .inl (cI, 12, .inl fw48))]) sz) := by
  refine Met.ofW (cc := cX12_copy) (maxL := 5) (ret := (some .int)) (by decide) rfl ?_
  intro p e s m args below meth c s₁ B hml hv
  obtain ⟨rfl, hsz, hP, hK, hD0, hN⟩ := hv
  have hx := B.exec
  have hb := B.bytes
  have hr := B.returns
  have hts := atoms_spec (ws := wsX12_copy) B.pre
  have hown : s.vm.findClass RX12 = some m.cls := findClass_of_methodNamed B.named
  have hlocks := B.notSynchronized
  subst hsz
  have hD := hD0.self (sz := s.heap.size)
  generalize hAe : va_A ([(o1, .inr (12, [.int v2, .ref o3, .int v5, .ref o6, .int v8, .ref o9, .ref o11, .int v13, .ref o14, .int v16, .ref o17, .int v19, .int v20, .int v21, .ref o22, .ref o24, .ref o26, .ref o28, .ref o30, .int v32, .ref o33, .ref o35, .ref o37, .int v39, .ref o40, .ref o42, .ref o44, .int v46, .ref o47])), (o3, .inl (cI, 5, .inl fw4)), (o9, .inl (cI, 12, .inl fw10)), (o47, .inl (cI, 12, .inl fw48))]) s.heap.size = A at hD ⊢
  have hA : ∀ q : Nat, s.heap.size ≤ q → A q := fun q h => by rw [← hAe]; exact Or.inr h
  have hS : va_S A s.heap s.heap [] := va_S.rf
  have hP : va_P (dC, dI) vwCl ([(o1, .inr (12, [.int v2, .ref o3, .int v5, .ref o6, .int v8, .ref o9, .ref o11, .int v13, .ref o14, .int v16, .ref o17, .int v19, .int v20, .int v21, .ref o22, .ref o24, .ref o26, .ref o28, .ref o30, .int v32, .ref o33, .ref o35, .ref o37, .int v39, .ref o40, .ref o42, .ref o44, .int v46, .ref o47])), (o3, .inl (cI, 5, .inl fw4)), (o9, .inl (cI, 12, .inl fw10)), (o47, .inl (cI, 12, .inl fw48))]) s.heap := hP
  have hl := lv_entry ([.ref o1, .int a1, .int a2, .int a3]) (n := 5) (Nat.le_of_ble_eq_true rfl)
  rw [lg_entry_eq]
  generalize (lg_sl ([.ref o1, .int a1, .int a2, .int a3]) ++ List.replicate (5 - (lg_sl ([.ref o1, .int a1, .int a2, .int a3])).length) Slot.unset).toArray = ls at hl ⊢
  have hl : lv_has ls 5 [(0, .ref o1), (1, .int a1), (2, .int a2), (3, .int a3)] := hl
  refine gen_Q (fun Q hQ => ?_)
  refine lv_iload_n hx hb dX12_copy_0 rfl (lv_at hl 1 rfl) ?_
  refine lv_if_lt (tgt := 36) hx hb dX12_copy_1 (by decide) (fun h1 => ?_) (fun h1 => ?_)
  ·
    have qh1 := lt_i h1
    have j2 : Iv (-2147483648) (-1) a1 := r_ltl qh1 (iv_full a1) ik_0 (by decide)
    refine lv_aload_n hx hb dX12_copy_36 rfl (lv_at hl 0 rfl) ?_
    refine lv_iconst (v := 2) hx hb dX12_copy_37 (by decide) ?_
    refine kc_i (D := (dC, dI)) (S := Int32 × (Nat → Int32)) (wc := [(o1, .inr (12, [.int v2, .ref o3, .int v5, .ref o6, .int v8, .ref o9, .ref o11, .int v13, .ref o14, .int v16, .ref o17, .int v19, .int v20, .int v21, .ref o22, .ref o24, .ref o26, .ref o28, .ref o30, .int v32, .ref o33, .ref o35, .ref o37, .int v39, .ref o40, .ref o42, .ref o44, .int v46, .ref o47])), (o3, .inl (cI, 5, .inl fw4))]) (wr := [(o9, .inl (cI, 12, .inl fw10)), (o47, .inl (cI, 12, .inl fw48))]) (w1 := fun u => [(o1, .inr (12, [.int u.1, .ref o3, .int v5, .ref o6, .int v8, .ref o9, .ref o11, .int v13, .ref o14, .int v16, .ref o17, .int v19, .int v20, .int v21, .ref o22, .ref o24, .ref o26, .ref o28, .ref o30, .int v32, .ref o33, .ref o35, .ref o37, .int v39, .ref o40, .ref o42, .ref o44, .int v46, .ref o47])), (o3, .inl (cI, 5, .inl u.2))]) (wn := fun u => [(o1, .inr (12, [.int u.1, .ref o3, .int v5, .ref o6, .int v8, .ref o9, .ref o11, .int v13, .ref o14, .int v16, .ref o17, .int v19, .int v20, .int v21, .ref o22, .ref o24, .ref o26, .ref o28, .ref o30, .int v32, .ref o33, .ref o35, .ref o37, .int v39, .ref o40, .ref o42, .ref o44, .int v46, .ref o47])), (o3, .inl (cI, 5, .inl u.2)), (o9, .inl (cI, 12, .inl fw10)), (o47, .inl (cI, 12, .inl fw48))]) (fun hPc hDc => va_runV (As := [.int 2]) (rest := []) ⟨hx, hb, hml, hown, hts⟩ (kX12_meets_3 l dC dI cI c2 cZ o1 o3 o6 o9 o11 o14 o17 o22 o24 o26 o28 o30 o33 o35 o37 o40 o42 o44 o47 v2 fw4 v5 v8 v13 v16 v19 v20 v21 v32 v39 v46 2 s.heap.size v5_h v8_h v13_h v16_h v19_h v32_h v39_h v46_h ik_2) (cwV 1 hts gX12_copy_X12_meets rfl rfl rfl (by decide +kernel) ⟨Nat.le_of_ble_eq_true rfl, Nat.le_of_ble_eq_true rfl⟩) (pre_V hPc hK hDc hN (ci := 12) (q0 := 0) rfl rfl) rfl rfl hl.1 rfl (lv_room (Nat.le_of_ble_eq_true rfl)) dX12_copy_38 ⟨Nat.le_of_ble_eq_true rfl, Nat.le_of_ble_eq_true rfl⟩) hP hD hS hA [0, 1] [2, 3] [2, 3, 0, 1] rfl rfl (by decide +kernel) (by decide +kernel) (by decide +kernel) (by decide +kernel) (fun _ => rfl) (fun x5 u H locs hq hP hD hS => ?_)
    obtain ⟨y3, f4⟩ := u
    have x5_h := hq
    have x5_h : Iv (-3) (-3) x5 := x5_h
    have hP : va_P (dC, dI) vwCl ([(o1, .inr (12, [.int y3, .ref o3, .int v5, .ref o6, .int v8, .ref o9, .ref o11, .int v13, .ref o14, .int v16, .ref o17, .int v19, .int v20, .int v21, .ref o22, .ref o24, .ref o26, .ref o28, .ref o30, .int v32, .ref o33, .ref o35, .ref o37, .int v39, .ref o40, .ref o42, .ref o44, .int v46, .ref o47])), (o3, .inl (cI, 5, .inl f4)), (o9, .inl (cI, 12, .inl fw10)), (o47, .inl (cI, 12, .inl fw48))]) H := hP
    have hD : va_D A ([(o1, .inr (12, [.int y3, .ref o3, .int v5, .ref o6, .int v8, .ref o9, .ref o11, .int v13, .ref o14, .int v16, .ref o17, .int v19, .int v20, .int v21, .ref o22, .ref o24, .ref o26, .ref o28, .ref o30, .int v32, .ref o33, .ref o35, .ref o37, .int v39, .ref o40, .ref o42, .ref o44, .int v46, .ref o47])), (o3, .inl (cI, 5, .inl f4)), (o9, .inl (cI, 12, .inl fw10)), (o47, .inl (cI, 12, .inl fw48))]) := hD
    rw [hQ]
    exact W.iret (v := x5) hx hb hr (fun t ht hW => ⟨⟨x5, (y3, f4, fw10, fw48), rfl, ⟨(iv_w x5_h (by decide)), fw10_b, fw48_b⟩, by rw [ht]; exact hP, va_K.moved hW.alike hK, hD⟩, hS.F ht⟩) hS.2.2 dX12_copy_41
  ·
    have qh1 := nlt_i h1
    have j6 : Iv 0 2147483647 a1 := r_ler qh1 ik_0 (iv_full a1) (by decide)
    refine lv_iload_n hx hb dX12_copy_4 rfl (lv_at hl 2 rfl) ?_
    refine lv_if_lt (tgt := 36) hx hb dX12_copy_5 (by decide) (fun h7 => ?_) (fun h7 => ?_)
    ·
      have qh7 := lt_i h7
      have j8 : Iv (-2147483648) (-1) a2 := r_ltl qh7 (iv_full a2) ik_0 (by decide)
      refine lv_aload_n hx hb dX12_copy_36 rfl (lv_at hl 0 rfl) ?_
      refine lv_iconst (v := 2) hx hb dX12_copy_37 (by decide) ?_
      refine kc_i (D := (dC, dI)) (S := Int32 × (Nat → Int32)) (wc := [(o1, .inr (12, [.int v2, .ref o3, .int v5, .ref o6, .int v8, .ref o9, .ref o11, .int v13, .ref o14, .int v16, .ref o17, .int v19, .int v20, .int v21, .ref o22, .ref o24, .ref o26, .ref o28, .ref o30, .int v32, .ref o33, .ref o35, .ref o37, .int v39, .ref o40, .ref o42, .ref o44, .int v46, .ref o47])), (o3, .inl (cI, 5, .inl fw4))]) (wr := [(o9, .inl (cI, 12, .inl fw10)), (o47, .inl (cI, 12, .inl fw48))]) (w1 := fun u => [(o1, .inr (12, [.int u.1, .ref o3, .int v5, .ref o6, .int v8, .ref o9, .ref o11, .int v13, .ref o14, .int v16, .ref o17, .int v19, .int v20, .int v21, .ref o22, .ref o24, .ref o26, .ref o28, .ref o30, .int v32, .ref o33, .ref o35, .ref o37, .int v39, .ref o40, .ref o42, .ref o44, .int v46, .ref o47])), (o3, .inl (cI, 5, .inl u.2))]) (wn := fun u => [(o1, .inr (12, [.int u.1, .ref o3, .int v5, .ref o6, .int v8, .ref o9, .ref o11, .int v13, .ref o14, .int v16, .ref o17, .int v19, .int v20, .int v21, .ref o22, .ref o24, .ref o26, .ref o28, .ref o30, .int v32, .ref o33, .ref o35, .ref o37, .int v39, .ref o40, .ref o42, .ref o44, .int v46, .ref o47])), (o3, .inl (cI, 5, .inl u.2)), (o9, .inl (cI, 12, .inl fw10)), (o47, .inl (cI, 12, .inl fw48))]) (fun hPc hDc => va_runV (As := [.int 2]) (rest := []) ⟨hx, hb, hml, hown, hts⟩ (kX12_meets_3 l dC dI cI c2 cZ o1 o3 o6 o9 o11 o14 o17 o22 o24 o26 o28 o30 o33 o35 o37 o40 o42 o44 o47 v2 fw4 v5 v8 v13 v16 v19 v20 v21 v32 v39 v46 2 s.heap.size v5_h v8_h v13_h v16_h v19_h v32_h v39_h v46_h ik_2) (cwV 1 hts gX12_copy_X12_meets rfl rfl rfl (by decide +kernel) ⟨Nat.le_of_ble_eq_true rfl, Nat.le_of_ble_eq_true rfl⟩) (pre_V hPc hK hDc hN (ci := 12) (q0 := 0) rfl rfl) rfl rfl hl.1 rfl (lv_room (Nat.le_of_ble_eq_true rfl)) dX12_copy_38 ⟨Nat.le_of_ble_eq_true rfl, Nat.le_of_ble_eq_true rfl⟩) hP hD hS hA [0, 1] [2, 3] [2, 3, 0, 1] rfl rfl (by decide +kernel) (by decide +kernel) (by decide +kernel) (by decide +kernel) (fun _ => rfl) (fun x11 u H locs hq hP hD hS => ?_)
      obtain ⟨y9, f10⟩ := u
      have x11_h := hq
      have x11_h : Iv (-3) (-3) x11 := x11_h
      have hP : va_P (dC, dI) vwCl ([(o1, .inr (12, [.int y9, .ref o3, .int v5, .ref o6, .int v8, .ref o9, .ref o11, .int v13, .ref o14, .int v16, .ref o17, .int v19, .int v20, .int v21, .ref o22, .ref o24, .ref o26, .ref o28, .ref o30, .int v32, .ref o33, .ref o35, .ref o37, .int v39, .ref o40, .ref o42, .ref o44, .int v46, .ref o47])), (o3, .inl (cI, 5, .inl f10)), (o9, .inl (cI, 12, .inl fw10)), (o47, .inl (cI, 12, .inl fw48))]) H := hP
      have hD : va_D A ([(o1, .inr (12, [.int y9, .ref o3, .int v5, .ref o6, .int v8, .ref o9, .ref o11, .int v13, .ref o14, .int v16, .ref o17, .int v19, .int v20, .int v21, .ref o22, .ref o24, .ref o26, .ref o28, .ref o30, .int v32, .ref o33, .ref o35, .ref o37, .int v39, .ref o40, .ref o42, .ref o44, .int v46, .ref o47])), (o3, .inl (cI, 5, .inl f10)), (o9, .inl (cI, 12, .inl fw10)), (o47, .inl (cI, 12, .inl fw48))]) := hD
      rw [hQ]
      exact W.iret (v := x11) hx hb hr (fun t ht hW => ⟨⟨x11, (y9, f10, fw10, fw48), rfl, ⟨(iv_w x11_h (by decide)), fw10_b, fw48_b⟩, by rw [ht]; exact hP, va_K.moved hW.alike hK, hD⟩, hS.F ht⟩) hS.2.2 dX12_copy_41
    ·
      have qh7 := nlt_i h7
      have j12 : Iv 0 2147483647 a2 := r_ler qh7 ik_0 (iv_full a2) (by decide)
      refine lv_iload_n hx hb dX12_copy_8 rfl (lv_at hl 3 rfl) ?_
      refine lv_if_lt (tgt := 36) hx hb dX12_copy_9 (by decide) (fun h13 => ?_) (fun h13 => ?_)
      ·
        have qh13 := lt_i h13
        have j14 : Iv (-2147483648) (-1) a3 := r_ltl qh13 (iv_full a3) ik_0 (by decide)
        refine lv_aload_n hx hb dX12_copy_36 rfl (lv_at hl 0 rfl) ?_
        refine lv_iconst (v := 2) hx hb dX12_copy_37 (by decide) ?_
        refine kc_i (D := (dC, dI)) (S := Int32 × (Nat → Int32)) (wc := [(o1, .inr (12, [.int v2, .ref o3, .int v5, .ref o6, .int v8, .ref o9, .ref o11, .int v13, .ref o14, .int v16, .ref o17, .int v19, .int v20, .int v21, .ref o22, .ref o24, .ref o26, .ref o28, .ref o30, .int v32, .ref o33, .ref o35, .ref o37, .int v39, .ref o40, .ref o42, .ref o44, .int v46, .ref o47])), (o3, .inl (cI, 5, .inl fw4))]) (wr := [(o9, .inl (cI, 12, .inl fw10)), (o47, .inl (cI, 12, .inl fw48))]) (w1 := fun u => [(o1, .inr (12, [.int u.1, .ref o3, .int v5, .ref o6, .int v8, .ref o9, .ref o11, .int v13, .ref o14, .int v16, .ref o17, .int v19, .int v20, .int v21, .ref o22, .ref o24, .ref o26, .ref o28, .ref o30, .int v32, .ref o33, .ref o35, .ref o37, .int v39, .ref o40, .ref o42, .ref o44, .int v46, .ref o47])), (o3, .inl (cI, 5, .inl u.2))]) (wn := fun u => [(o1, .inr (12, [.int u.1, .ref o3, .int v5, .ref o6, .int v8, .ref o9, .ref o11, .int v13, .ref o14, .int v16, .ref o17, .int v19, .int v20, .int v21, .ref o22, .ref o24, .ref o26, .ref o28, .ref o30, .int v32, .ref o33, .ref o35, .ref o37, .int v39, .ref o40, .ref o42, .ref o44, .int v46, .ref o47])), (o3, .inl (cI, 5, .inl u.2)), (o9, .inl (cI, 12, .inl fw10)), (o47, .inl (cI, 12, .inl fw48))]) (fun hPc hDc => va_runV (As := [.int 2]) (rest := []) ⟨hx, hb, hml, hown, hts⟩ (kX12_meets_3 l dC dI cI c2 cZ o1 o3 o6 o9 o11 o14 o17 o22 o24 o26 o28 o30 o33 o35 o37 o40 o42 o44 o47 v2 fw4 v5 v8 v13 v16 v19 v20 v21 v32 v39 v46 2 s.heap.size v5_h v8_h v13_h v16_h v19_h v32_h v39_h v46_h ik_2) (cwV 1 hts gX12_copy_X12_meets rfl rfl rfl (by decide +kernel) ⟨Nat.le_of_ble_eq_true rfl, Nat.le_of_ble_eq_true rfl⟩) (pre_V hPc hK hDc hN (ci := 12) (q0 := 0) rfl rfl) rfl rfl hl.1 rfl (lv_room (Nat.le_of_ble_eq_true rfl)) dX12_copy_38 ⟨Nat.le_of_ble_eq_true rfl, Nat.le_of_ble_eq_true rfl⟩) hP hD hS hA [0, 1] [2, 3] [2, 3, 0, 1] rfl rfl (by decide +kernel) (by decide +kernel) (by decide +kernel) (by decide +kernel) (fun _ => rfl) (fun x17 u H locs hq hP hD hS => ?_)
        obtain ⟨y15, f16⟩ := u
        have x17_h := hq
        have x17_h : Iv (-3) (-3) x17 := x17_h
        have hP : va_P (dC, dI) vwCl ([(o1, .inr (12, [.int y15, .ref o3, .int v5, .ref o6, .int v8, .ref o9, .ref o11, .int v13, .ref o14, .int v16, .ref o17, .int v19, .int v20, .int v21, .ref o22, .ref o24, .ref o26, .ref o28, .ref o30, .int v32, .ref o33, .ref o35, .ref o37, .int v39, .ref o40, .ref o42, .ref o44, .int v46, .ref o47])), (o3, .inl (cI, 5, .inl f16)), (o9, .inl (cI, 12, .inl fw10)), (o47, .inl (cI, 12, .inl fw48))]) H := hP
        have hD : va_D A ([(o1, .inr (12, [.int y15, .ref o3, .int v5, .ref o6, .int v8, .ref o9, .ref o11, .int v13, .ref o14, .int v16, .ref o17, .int v19, .int v20, .int v21, .ref o22, .ref o24, .ref o26, .ref o28, .ref o30, .int v32, .ref o33, .ref o35, .ref o37, .int v39, .ref o40, .ref o42, .ref o44, .int v46, .ref o47])), (o3, .inl (cI, 5, .inl f16)), (o9, .inl (cI, 12, .inl fw10)), (o47, .inl (cI, 12, .inl fw48))]) := hD
        rw [hQ]
        exact W.iret (v := x17) hx hb hr (fun t ht hW => ⟨⟨x17, (y15, f16, fw10, fw48), rfl, ⟨(iv_w x17_h (by decide)), fw10_b, fw48_b⟩, by rw [ht]; exact hP, va_K.moved hW.alike hK, hD⟩, hS.F ht⟩) hS.2.2 dX12_copy_41
      ·
        have qh13 := nlt_i h13
        have j18 : Iv 0 2147483647 a3 := r_ler qh13 ik_0 (iv_full a3) (by decide)
        refine lv_iload_n hx hb dX12_copy_12 rfl (lv_at hl 1 rfl) ?_
        refine lv_i2l (v := Int32.toInt64 a1) hx hb dX12_copy_13 rfl (lv_topl (fun l19 l19_e => ?_))
        refine lv_iload_n hx hb dX12_copy_14 rfl (lv_at hl 3 rfl) ?_
        refine lv_i2l (v := Int32.toInt64 a3) hx hb dX12_copy_15 rfl (lv_topl (fun l20 l20_e => ?_))
        refine lv_ladd hx hb dX12_copy_16 (lv_topl (fun l21 l21_e => ?_))
        refine lv_ldc2 (v := 12) hx hb hown (hts (.constantLong RX12 209 (12)) hm_X12_copy_1) dX12_copy_17 ?_
        refine W.lcmp hx hb dX12_copy_20 (lv_topi (fun x22 x22_e => ?_))
        refine lv_if_gt (tgt := 36) hx hb dX12_copy_21 (by decide) (fun h23 => ?_) (fun h23 => ?_)
        ·
          have qh23 := lt_i h23
          have j24 : Iv 1 2147483647 x22 := r_ltr qh23 ik_0 (iv_full x22) (by decide)
          refine lv_aload_n hx hb dX12_copy_36 rfl (lv_at hl 0 rfl) ?_
          refine lv_iconst (v := 2) hx hb dX12_copy_37 (by decide) ?_
          refine kc_i (D := (dC, dI)) (S := Int32 × (Nat → Int32)) (wc := [(o1, .inr (12, [.int v2, .ref o3, .int v5, .ref o6, .int v8, .ref o9, .ref o11, .int v13, .ref o14, .int v16, .ref o17, .int v19, .int v20, .int v21, .ref o22, .ref o24, .ref o26, .ref o28, .ref o30, .int v32, .ref o33, .ref o35, .ref o37, .int v39, .ref o40, .ref o42, .ref o44, .int v46, .ref o47])), (o3, .inl (cI, 5, .inl fw4))]) (wr := [(o9, .inl (cI, 12, .inl fw10)), (o47, .inl (cI, 12, .inl fw48))]) (w1 := fun u => [(o1, .inr (12, [.int u.1, .ref o3, .int v5, .ref o6, .int v8, .ref o9, .ref o11, .int v13, .ref o14, .int v16, .ref o17, .int v19, .int v20, .int v21, .ref o22, .ref o24, .ref o26, .ref o28, .ref o30, .int v32, .ref o33, .ref o35, .ref o37, .int v39, .ref o40, .ref o42, .ref o44, .int v46, .ref o47])), (o3, .inl (cI, 5, .inl u.2))]) (wn := fun u => [(o1, .inr (12, [.int u.1, .ref o3, .int v5, .ref o6, .int v8, .ref o9, .ref o11, .int v13, .ref o14, .int v16, .ref o17, .int v19, .int v20, .int v21, .ref o22, .ref o24, .ref o26, .ref o28, .ref o30, .int v32, .ref o33, .ref o35, .ref o37, .int v39, .ref o40, .ref o42, .ref o44, .int v46, .ref o47])), (o3, .inl (cI, 5, .inl u.2)), (o9, .inl (cI, 12, .inl fw10)), (o47, .inl (cI, 12, .inl fw48))]) (fun hPc hDc => va_runV (As := [.int 2]) (rest := []) ⟨hx, hb, hml, hown, hts⟩ (kX12_meets_3 l dC dI cI c2 cZ o1 o3 o6 o9 o11 o14 o17 o22 o24 o26 o28 o30 o33 o35 o37 o40 o42 o44 o47 v2 fw4 v5 v8 v13 v16 v19 v20 v21 v32 v39 v46 2 s.heap.size v5_h v8_h v13_h v16_h v19_h v32_h v39_h v46_h ik_2) (cwV 1 hts gX12_copy_X12_meets rfl rfl rfl (by decide +kernel) ⟨Nat.le_of_ble_eq_true rfl, Nat.le_of_ble_eq_true rfl⟩) (pre_V hPc hK hDc hN (ci := 12) (q0 := 0) rfl rfl) rfl rfl hl.1 rfl (lv_room (Nat.le_of_ble_eq_true rfl)) dX12_copy_38 ⟨Nat.le_of_ble_eq_true rfl, Nat.le_of_ble_eq_true rfl⟩) hP hD hS hA [0, 1] [2, 3] [2, 3, 0, 1] rfl rfl (by decide +kernel) (by decide +kernel) (by decide +kernel) (by decide +kernel) (fun _ => rfl) (fun x27 u H locs hq hP hD hS => ?_)
          obtain ⟨y25, f26⟩ := u
          have x27_h := hq
          have x27_h : Iv (-3) (-3) x27 := x27_h
          have hP : va_P (dC, dI) vwCl ([(o1, .inr (12, [.int y25, .ref o3, .int v5, .ref o6, .int v8, .ref o9, .ref o11, .int v13, .ref o14, .int v16, .ref o17, .int v19, .int v20, .int v21, .ref o22, .ref o24, .ref o26, .ref o28, .ref o30, .int v32, .ref o33, .ref o35, .ref o37, .int v39, .ref o40, .ref o42, .ref o44, .int v46, .ref o47])), (o3, .inl (cI, 5, .inl f26)), (o9, .inl (cI, 12, .inl fw10)), (o47, .inl (cI, 12, .inl fw48))]) H := hP
          have hD : va_D A ([(o1, .inr (12, [.int y25, .ref o3, .int v5, .ref o6, .int v8, .ref o9, .ref o11, .int v13, .ref o14, .int v16, .ref o17, .int v19, .int v20, .int v21, .ref o22, .ref o24, .ref o26, .ref o28, .ref o30, .int v32, .ref o33, .ref o35, .ref o37, .int v39, .ref o40, .ref o42, .ref o44, .int v46, .ref o47])), (o3, .inl (cI, 5, .inl f26)), (o9, .inl (cI, 12, .inl fw10)), (o47, .inl (cI, 12, .inl fw48))]) := hD
          rw [hQ]
          exact W.iret (v := x27) hx hb hr (fun t ht hW => ⟨⟨x27, (y25, f26, fw10, fw48), rfl, ⟨(iv_w x27_h (by decide)), fw10_b, fw48_b⟩, by rw [ht]; exact hP, va_K.moved hW.alike hK, hD⟩, hS.F ht⟩) hS.2.2 dX12_copy_41
        ·
          have qh23 := nlt_i h23
          have j28 : Iv (-2147483648) 0 x22 := r_lel qh23 (iv_full x22) ik_0 (by decide)
          refine lv_iload_n hx hb dX12_copy_24 rfl (lv_at hl 2 rfl) ?_
          refine lv_i2l (v := Int32.toInt64 a2) hx hb dX12_copy_25 rfl (lv_topl (fun l29 l29_e => ?_))
          refine lv_iload_n hx hb dX12_copy_26 rfl (lv_at hl 3 rfl) ?_
          refine lv_i2l (v := Int32.toInt64 a3) hx hb dX12_copy_27 rfl (lv_topl (fun l30 l30_e => ?_))
          refine lv_ladd hx hb dX12_copy_28 (lv_topl (fun l31 l31_e => ?_))
          refine lv_ldc2 (v := 12) hx hb hown (hts (.constantLong RX12 209 (12)) hm_X12_copy_1) dX12_copy_29 ?_
          refine W.lcmp hx hb dX12_copy_32 (lv_topi (fun x32 x32_e => ?_))
          refine lv_if_le (tgt := 42) hx hb dX12_copy_33 (by decide) (fun h33 => ?_) (fun h33 => ?_)
          ·
            have qh33 := le_i h33
            have j34 : Iv (-2147483648) 0 x32 := r_lel qh33 (iv_full x32) ik_0 (by decide)
            have e35 := cpl l19_e l20_e l21_e x22_e qh23
            have e36 := cp_r e35 j6 j18 (by decide)
            have j37 : Iv 0 12 a1 := e36.1
            have j38 : Iv 0 12 a3 := e36.2
            have e39 := cpl l29_e l30_e l31_e x32_e qh33
            have e40 := cp_r e39 j12 j38 (by decide)
            have j41 : Iv 0 12 a2 := e40.1
            have j42 : Iv 0 12 a3 := e40.2
            refine lv_iconst (v := 0) hx hb dX12_copy_42 (by decide) ?_
            refine lv_istore (lv' := [(4, .int 0), (0, .ref o1), (1, .int a1), (2, .int a2), (3, .int a3)]) hx hb dX12_copy_43 hl (by decide) rfl (fun ls hl => ?_)
            have L1 : ∀ (N : Nat) (x121 : Int32) (f122 : Nat → Int32) (H : Heap) (locs : List Loc) (ls : Array Slot), (12 - x121.toInt).toNat < N → Iv 0 12 x121 → Bd 12 (-9) 255 f122 → va_P (dC, dI) vwCl ([(o1, .inr (12, [.int v2, .ref o3, .int v5, .ref o6, .int v8, .ref o9, .ref o11, .int v13, .ref o14, .int v16, .ref o17, .int v19, .int v20, .int v21, .ref o22, .ref o24, .ref o26, .ref o28, .ref o30, .int v32, .ref o33, .ref o35, .ref o37, .int v39, .ref o40, .ref o42, .ref o44, .int v46, .ref o47])), (o3, .inl (cI, 5, .inl fw4)), (o9, .inl (cI, 12, .inl fw10)), (o47, .inl (cI, 12, .inl f122))]) H → va_D A ([(o1, .inr (12, [.int v2, .ref o3, .int v5, .ref o6, .int v8, .ref o9, .ref o11, .int v13, .ref o14, .int v16, .ref o17, .int v19, .int v20, .int v21, .ref o22, .ref o24, .ref o26, .ref o28, .ref o30, .int v32, .ref o33, .ref o35, .ref o37, .int v39, .ref o40, .ref o42, .ref o44, .int v46, .ref o47])), (o3, .inl (cI, 5, .inl fw4)), (o9, .inl (cI, 12, .inl fw10)), (o47, .inl (cI, 12, .inl f122))]) → va_S A s.heap H locs → lv_has ls 5 [(4, .int x121), (0, .ref o1), (1, .int a1), (2, .int a2), (3, .int a3)] → W p l e ({ frames := 1, cells := 0, slots := 0, locals := 21 }) s m ([.ref o1, .int a1, .int a2, .int a3] : List Value).toArray below meth c H locs 0 0 Q (F0 m 45 ls []) := by
              intro N
              induction N with
              | zero =>
                intro x121 f122 H locs ls hM
                exact absurd hM (Nat.not_lt_zero _)
              | succ N ih1 =>
                intro x121 f122 H locs ls hM1 x121_h f122_b hP hD hS hl
                refine lv_iload hx hb dX12_copy_45 (lv_at hl 0 rfl) ?_
                refine lv_iload_n hx hb dX12_copy_47 rfl (lv_at hl 4 rfl) ?_
                refine lv_icmp_ge (tgt := 73) hx hb dX12_copy_48 (by decide) (fun h123 => ?_) (fun h123 => ?_)
                ·
                  have qh123 := le_i h123
                  refine lv_iconst (v := 0) hx hb dX12_copy_73 (by decide) ?_
                  refine lv_istore (lv' := [(4, .int 0), (0, .ref o1), (1, .int a1), (2, .int a2), (3, .int a3)]) hx hb dX12_copy_74 hl (by decide) rfl (fun ls hl => ?_)
                  have L2 : ∀ (N : Nat) (x202 : Int32) (f203 : Nat → Int32) (H : Heap) (locs : List Loc) (ls : Array Slot), (12 - x202.toInt).toNat < N → Iv 0 12 x202 → Bd 12 (-9) 255 f203 → va_P (dC, dI) vwCl ([(o1, .inr (12, [.int v2, .ref o3, .int v5, .ref o6, .int v8, .ref o9, .ref o11, .int v13, .ref o14, .int v16, .ref o17, .int v19, .int v20, .int v21, .ref o22, .ref o24, .ref o26, .ref o28, .ref o30, .int v32, .ref o33, .ref o35, .ref o37, .int v39, .ref o40, .ref o42, .ref o44, .int v46, .ref o47])), (o3, .inl (cI, 5, .inl fw4)), (o9, .inl (cI, 12, .inl f203)), (o47, .inl (cI, 12, .inl f122))]) H → va_D A ([(o1, .inr (12, [.int v2, .ref o3, .int v5, .ref o6, .int v8, .ref o9, .ref o11, .int v13, .ref o14, .int v16, .ref o17, .int v19, .int v20, .int v21, .ref o22, .ref o24, .ref o26, .ref o28, .ref o30, .int v32, .ref o33, .ref o35, .ref o37, .int v39, .ref o40, .ref o42, .ref o44, .int v46, .ref o47])), (o3, .inl (cI, 5, .inl fw4)), (o9, .inl (cI, 12, .inl f203)), (o47, .inl (cI, 12, .inl f122))]) → va_S A s.heap H locs → lv_has ls 5 [(4, .int x202), (0, .ref o1), (1, .int a1), (2, .int a2), (3, .int a3)] → W p l e ({ frames := 1, cells := 0, slots := 0, locals := 21 }) s m ([.ref o1, .int a1, .int a2, .int a3] : List Value).toArray below meth c H locs 0 0 Q (F0 m 76 ls []) := by
                    intro N
                    induction N with
                    | zero =>
                      intro x202 f203 H locs ls hM
                      exact absurd hM (Nat.not_lt_zero _)
                    | succ N ih2 =>
                      intro x202 f203 H locs ls hM2 x202_h f203_b hP hD hS hl
                      refine lv_iload hx hb dX12_copy_76 (lv_at hl 0 rfl) ?_
                      refine lv_iload_n hx hb dX12_copy_78 rfl (lv_at hl 4 rfl) ?_
                      refine lv_icmp_ge (tgt := 104) hx hb dX12_copy_79 (by decide) (fun h204 => ?_) (fun h204 => ?_)
                      ·
                        have qh204 := le_i h204
                        refine lv_iconst (v := 1) hx hb dX12_copy_104 (by decide) ?_
                        rw [hQ]
                        exact W.iret (v := 1) hx hb hr (fun t ht hW => ⟨⟨1, (v2, fw4, f203, f122), rfl, ⟨(iv_w ik_1 (by decide)), f203_b, f122_b⟩, by rw [ht]; exact hP, va_K.moved hW.alike hK, hD⟩, hS.F ht⟩) hS.2.2 dX12_copy_105
                      ·
                        have qh204 := nle_i h204
                        have j205 : Iv 0 11 x202 := r_ltl qh204 x202_h j42 (by decide)
                        have j206 : Iv 1 12 a3 := r_ltr qh204 x202_h j42 (by decide)
                        refine lv_aload_n hx hb dX12_copy_82 rfl (lv_at hl 1 rfl) ?_
                        refine va_get (D := (dC, dI)) (ci := 12) (v := .ref o9) (C := RX12) (T := TX12) (N := 29) hx hb hts iw_X12_copy_X12 hown hK hP 0 rfl rfl 5 (by decide) (hts (.fieldLink RX12 16 "HolelessHouseModel" "rows" "[I") hm_X12_copy_3) (fun _ h9 => h9) rfl dX12_copy_83 ?_
                        refine lv_iload_n hx hb dX12_copy_86 rfl (lv_at hl 3 rfl) ?_
                        refine lv_iload hx hb dX12_copy_87 (lv_at hl 0 rfl) ?_
                        refine lv_iadd hx hb dX12_copy_89 (lv_topi (fun x207 x207_e => ?_))
                        have x207_h : Iv 0 23 x207 := iv_e x207_e (iv_add j41 j205 (by decide))
                        have j208 : Iv 0 11 x207 := cp_x e39 j41 (iv_w (c := 0) (d := 12) j205 (by decide)) x207_e qh204
                        refine lv_aload_n hx hb dX12_copy_90 rfl (lv_at hl 1 rfl) ?_
                        refine va_get (D := (dC, dI)) (ci := 12) (v := .ref o47) (C := RX12) (T := TX12) (N := 29) hx hb hts iw_X12_copy_X12 hown hK hP 0 rfl rfl 28 (by decide) (hts (.fieldLink RX12 67 "HolelessHouseModel" "moving" "[I") hm_X12_copy_2) (fun _ h9 => h9) rfl dX12_copy_91 ?_
                        refine lv_iload hx hb dX12_copy_94 (lv_at hl 0 rfl) ?_
                        refine va_iald hx hb hK hP 3 0 rfl rfl (vin_iv j205 (by decide)) dX12_copy_96 (lv_topi (fun x209 x209_e => ?_))
                        have x209_h : Iv (-9) 255 x209 := iv_e x209_e (bd_at f122_b (vin_iv j205 (by decide)))
                        refine k_iast hx hb hK hP hD hS 2 0 rfl rfl (vin_iv j208 (by decide)) dX12_copy_97 (fun f210 H locs f210_e hP hD hS => ?_)
                        have f210_b : Bd 12 (-9) 255 f210 := bd_upd f210_e f203_b x209_h (by decide)
                        have hP : va_P (dC, dI) vwCl ([(o1, .inr (12, [.int v2, .ref o3, .int v5, .ref o6, .int v8, .ref o9, .ref o11, .int v13, .ref o14, .int v16, .ref o17, .int v19, .int v20, .int v21, .ref o22, .ref o24, .ref o26, .ref o28, .ref o30, .int v32, .ref o33, .ref o35, .ref o37, .int v39, .ref o40, .ref o42, .ref o44, .int v46, .ref o47])), (o3, .inl (cI, 5, .inl fw4)), (o9, .inl (cI, 12, .inl f210)), (o47, .inl (cI, 12, .inl f122))]) H := hP
                        have hD : va_D A ([(o1, .inr (12, [.int v2, .ref o3, .int v5, .ref o6, .int v8, .ref o9, .ref o11, .int v13, .ref o14, .int v16, .ref o17, .int v19, .int v20, .int v21, .ref o22, .ref o24, .ref o26, .ref o28, .ref o30, .int v32, .ref o33, .ref o35, .ref o37, .int v39, .ref o40, .ref o42, .ref o44, .int v46, .ref o47])), (o3, .inl (cI, 5, .inl fw4)), (o9, .inl (cI, 12, .inl f210)), (o47, .inl (cI, 12, .inl f122))]) := hD
                        obtain ⟨x211, x211_e⟩ : ∃ z : Int32, z = x202 + 1 := ⟨_, rfl⟩
                        have x211_h : Iv 1 12 x211 := iv_e x211_e (iv_add j205 ik_1 (by decide))
                        refine lv_iinc (v := x211) (lv' := [(4, .int x211), (0, .ref o1), (1, .int a1), (2, .int a2), (3, .int a3)]) hx hb dX12_copy_98 hl (k := 0) rfl (incN (by decide +kernel) x211_e) (by decide) rfl (fun ls hl => ?_)
                        refine lv_goto (tgt := 76) hx hb dX12_copy_101 (by decide) ?_
                        exact ih2 x211 f210 _ _ _ (ms_up x211_e j205 (by decide) hM2) (iv_w x211_h (by decide)) f210_b hP hD hS hl
                  exact L2 _ 0 fw10 _ _ _ (Nat.lt_succ_self _) (iv_w ik_0 (by decide)) fw10_b hP hD hS hl
                ·
                  have qh123 := nle_i h123
                  have j212 : Iv 0 11 x121 := r_ltl qh123 x121_h j42 (by decide)
                  have j213 : Iv 1 12 a3 := r_ltr qh123 x121_h j42 (by decide)
                  refine lv_aload_n hx hb dX12_copy_51 rfl (lv_at hl 1 rfl) ?_
                  refine va_get (D := (dC, dI)) (ci := 12) (v := .ref o47) (C := RX12) (T := TX12) (N := 29) hx hb hts iw_X12_copy_X12 hown hK hP 0 rfl rfl 28 (by decide) (hts (.fieldLink RX12 67 "HolelessHouseModel" "moving" "[I") hm_X12_copy_2) (fun _ h9 => h9) rfl dX12_copy_52 ?_
                  refine lv_iload hx hb dX12_copy_55 (lv_at hl 0 rfl) ?_
                  refine lv_aload_n hx hb dX12_copy_57 rfl (lv_at hl 1 rfl) ?_
                  refine va_get (D := (dC, dI)) (ci := 12) (v := .ref o9) (C := RX12) (T := TX12) (N := 29) hx hb hts iw_X12_copy_X12 hown hK hP 0 rfl rfl 5 (by decide) (hts (.fieldLink RX12 16 "HolelessHouseModel" "rows" "[I") hm_X12_copy_3) (fun _ h9 => h9) rfl dX12_copy_58 ?_
                  refine lv_iload_n hx hb dX12_copy_61 rfl (lv_at hl 2 rfl) ?_
                  refine lv_iload hx hb dX12_copy_62 (lv_at hl 0 rfl) ?_
                  refine lv_iadd hx hb dX12_copy_64 (lv_topi (fun x214 x214_e => ?_))
                  have x214_h : Iv 0 23 x214 := iv_e x214_e (iv_add j37 j212 (by decide))
                  have j215 : Iv 0 11 x214 := cp_x e35 j37 (iv_w (c := 0) (d := 12) j212 (by decide)) x214_e qh123
                  refine va_iald hx hb hK hP 2 0 rfl rfl (vin_iv j215 (by decide)) dX12_copy_65 (lv_topi (fun x216 x216_e => ?_))
                  have x216_h : Iv (-9) 255 x216 := iv_e x216_e (bd_at fw10_b (vin_iv j215 (by decide)))
                  refine k_iast hx hb hK hP hD hS 3 0 rfl rfl (vin_iv j212 (by decide)) dX12_copy_66 (fun f217 H locs f217_e hP hD hS => ?_)
                  have f217_b : Bd 12 (-9) 255 f217 := bd_upd f217_e f122_b x216_h (by decide)
                  have hP : va_P (dC, dI) vwCl ([(o1, .inr (12, [.int v2, .ref o3, .int v5, .ref o6, .int v8, .ref o9, .ref o11, .int v13, .ref o14, .int v16, .ref o17, .int v19, .int v20, .int v21, .ref o22, .ref o24, .ref o26, .ref o28, .ref o30, .int v32, .ref o33, .ref o35, .ref o37, .int v39, .ref o40, .ref o42, .ref o44, .int v46, .ref o47])), (o3, .inl (cI, 5, .inl fw4)), (o9, .inl (cI, 12, .inl fw10)), (o47, .inl (cI, 12, .inl f217))]) H := hP
                  have hD : va_D A ([(o1, .inr (12, [.int v2, .ref o3, .int v5, .ref o6, .int v8, .ref o9, .ref o11, .int v13, .ref o14, .int v16, .ref o17, .int v19, .int v20, .int v21, .ref o22, .ref o24, .ref o26, .ref o28, .ref o30, .int v32, .ref o33, .ref o35, .ref o37, .int v39, .ref o40, .ref o42, .ref o44, .int v46, .ref o47])), (o3, .inl (cI, 5, .inl fw4)), (o9, .inl (cI, 12, .inl fw10)), (o47, .inl (cI, 12, .inl f217))]) := hD
                  obtain ⟨x218, x218_e⟩ : ∃ z : Int32, z = x121 + 1 := ⟨_, rfl⟩
                  have x218_h : Iv 1 12 x218 := iv_e x218_e (iv_add j212 ik_1 (by decide))
                  refine lv_iinc (v := x218) (lv' := [(4, .int x218), (0, .ref o1), (1, .int a1), (2, .int a2), (3, .int a3)]) hx hb dX12_copy_67 hl (k := 0) rfl (incN (by decide +kernel) x218_e) (by decide) rfl (fun ls hl => ?_)
                  refine lv_goto (tgt := 45) hx hb dX12_copy_70 (by decide) ?_
                  exact ih1 x218 f217 _ _ _ (ms_up x218_e j212 (by decide) hM1) (iv_w x218_h (by decide)) f217_b hP hD hS hl
            exact L1 _ 0 fw48 _ _ _ (Nat.lt_succ_self _) (iv_w ik_0 (by decide)) fw48_b hP hD hS hl
          ·
            have qh33 := nle_i h33
            have j219 : Iv 1 2147483647 x32 := r_ltr qh33 ik_0 (iv_full x32) (by decide)
            refine lv_aload_n hx hb dX12_copy_36 rfl (lv_at hl 0 rfl) ?_
            refine lv_iconst (v := 2) hx hb dX12_copy_37 (by decide) ?_
            refine kc_i (D := (dC, dI)) (S := Int32 × (Nat → Int32)) (wc := [(o1, .inr (12, [.int v2, .ref o3, .int v5, .ref o6, .int v8, .ref o9, .ref o11, .int v13, .ref o14, .int v16, .ref o17, .int v19, .int v20, .int v21, .ref o22, .ref o24, .ref o26, .ref o28, .ref o30, .int v32, .ref o33, .ref o35, .ref o37, .int v39, .ref o40, .ref o42, .ref o44, .int v46, .ref o47])), (o3, .inl (cI, 5, .inl fw4))]) (wr := [(o9, .inl (cI, 12, .inl fw10)), (o47, .inl (cI, 12, .inl fw48))]) (w1 := fun u => [(o1, .inr (12, [.int u.1, .ref o3, .int v5, .ref o6, .int v8, .ref o9, .ref o11, .int v13, .ref o14, .int v16, .ref o17, .int v19, .int v20, .int v21, .ref o22, .ref o24, .ref o26, .ref o28, .ref o30, .int v32, .ref o33, .ref o35, .ref o37, .int v39, .ref o40, .ref o42, .ref o44, .int v46, .ref o47])), (o3, .inl (cI, 5, .inl u.2))]) (wn := fun u => [(o1, .inr (12, [.int u.1, .ref o3, .int v5, .ref o6, .int v8, .ref o9, .ref o11, .int v13, .ref o14, .int v16, .ref o17, .int v19, .int v20, .int v21, .ref o22, .ref o24, .ref o26, .ref o28, .ref o30, .int v32, .ref o33, .ref o35, .ref o37, .int v39, .ref o40, .ref o42, .ref o44, .int v46, .ref o47])), (o3, .inl (cI, 5, .inl u.2)), (o9, .inl (cI, 12, .inl fw10)), (o47, .inl (cI, 12, .inl fw48))]) (fun hPc hDc => va_runV (As := [.int 2]) (rest := []) ⟨hx, hb, hml, hown, hts⟩ (kX12_meets_3 l dC dI cI c2 cZ o1 o3 o6 o9 o11 o14 o17 o22 o24 o26 o28 o30 o33 o35 o37 o40 o42 o44 o47 v2 fw4 v5 v8 v13 v16 v19 v20 v21 v32 v39 v46 2 s.heap.size v5_h v8_h v13_h v16_h v19_h v32_h v39_h v46_h ik_2) (cwV 1 hts gX12_copy_X12_meets rfl rfl rfl (by decide +kernel) ⟨Nat.le_of_ble_eq_true rfl, Nat.le_of_ble_eq_true rfl⟩) (pre_V hPc hK hDc hN (ci := 12) (q0 := 0) rfl rfl) rfl rfl hl.1 rfl (lv_room (Nat.le_of_ble_eq_true rfl)) dX12_copy_38 ⟨Nat.le_of_ble_eq_true rfl, Nat.le_of_ble_eq_true rfl⟩) hP hD hS hA [0, 1] [2, 3] [2, 3, 0, 1] rfl rfl (by decide +kernel) (by decide +kernel) (by decide +kernel) (by decide +kernel) (fun _ => rfl) (fun x222 u H locs hq hP hD hS => ?_)
            obtain ⟨y220, f221⟩ := u
            have x222_h := hq
            have x222_h : Iv (-3) (-3) x222 := x222_h
            have hP : va_P (dC, dI) vwCl ([(o1, .inr (12, [.int y220, .ref o3, .int v5, .ref o6, .int v8, .ref o9, .ref o11, .int v13, .ref o14, .int v16, .ref o17, .int v19, .int v20, .int v21, .ref o22, .ref o24, .ref o26, .ref o28, .ref o30, .int v32, .ref o33, .ref o35, .ref o37, .int v39, .ref o40, .ref o42, .ref o44, .int v46, .ref o47])), (o3, .inl (cI, 5, .inl f221)), (o9, .inl (cI, 12, .inl fw10)), (o47, .inl (cI, 12, .inl fw48))]) H := hP
            have hD : va_D A ([(o1, .inr (12, [.int y220, .ref o3, .int v5, .ref o6, .int v8, .ref o9, .ref o11, .int v13, .ref o14, .int v16, .ref o17, .int v19, .int v20, .int v21, .ref o22, .ref o24, .ref o26, .ref o28, .ref o30, .int v32, .ref o33, .ref o35, .ref o37, .int v39, .ref o40, .ref o42, .ref o44, .int v46, .ref o47])), (o3, .inl (cI, 5, .inl f221)), (o9, .inl (cI, 12, .inl fw10)), (o47, .inl (cI, 12, .inl fw48))]) := hD
            rw [hQ]
            exact W.iret (v := x222) hx hb hr (fun t ht hW => ⟨⟨x222, (y220, f221, fw10, fw48), rfl, ⟨(iv_w x222_h (by decide)), fw10_b, fw48_b⟩, by rw [ht]; exact hP, va_K.moved hW.alike hK, hD⟩, hS.F ht⟩) hS.2.2 dX12_copy_41
theorem iw_X12_seat_X12 : ∀ w ∈ wsX120, w ∈ wsX12_seat := fun _ h => List.mem_cons.mpr (Or.inr (List.mem_append.mpr (Or.inr h)))
set_option maxHeartbeats 4000000 in
set_option maxRecDepth 100000 in
theorem kX12_seat_1 (l : Launch) (dC : Nat → ClassId) (dI : Nat → Nat → Nat) (cI c2 cZ : ClassId) (o1 : Nat) (o3 : Nat) (o6 : Nat) (o9 : Nat) (o11 : Nat) (o14 : Nat) (o17 : Nat) (o22 : Nat) (o24 : Nat) (o26 : Nat) (o28 : Nat) (o30 : Nat) (o33 : Nat) (o35 : Nat) (o37 : Nat) (o40 : Nat) (o42 : Nat) (o44 : Nat) (o47 : Nat) (v2 : Int32) (v5 : Int32) (v8 : Int32) (fw10 : Nat → Int32) (v13 : Int32) (v16 : Int32) (v19 : Int32) (v20 : Int32) (v21 : Int32) (v32 : Int32) (fw38 : Nat → Int32) (v39 : Int32) (fw41 : Nat → Int32) (fw43 : Nat → Int32) (fw45 : Nat → Int32) (v46 : Int32) (sz : Nat) (v5_h : Iv 0 12 v5) (v8_h : Iv 0 8 v8) (fw10_b : Bd 12 (-9) 255 fw10) (v13_h : Iv 0 12 v13) (v16_h : Iv 0 12 v16) (v19_h : Iv (-9) 12 v19) (v32_h : Iv 0 99 v32) (v39_h : Iv 0 12 v39) (fw45_b : Bd 12 0 11 fw45) (v46_h : Iv 0 12 v46) : Met l yX12_seat wsX12_seat ({ frames := 3, cells := 0, slots := 0, locals := 71 }) (va_Pc [.ref o1] (wPre (dC, dI) [(cI, .int), (c2, .array .int), (cZ, .boolean)] ([(o1, .inr (12, [.int v2, .ref o3, .int v5, .ref o6, .int v8, .ref o9, .ref o11, .int v13, .ref o14, .int v16, .ref o17, .int v19, .int v20, .int v21, .ref o22, .ref o24, .ref o26, .ref o28, .ref o30, .int v32, .ref o33, .ref o35, .ref o37, .int v39, .ref o40, .ref o42, .ref o44, .int v46, .ref o47])), (o37, .inl (cI, 12, .inl fw38)), (o9, .inl (cI, 12, .inl fw10)), (o42, .inl (cI, 49152, .inl fw43)), (o40, .inl (cZ, 49152, .inl fw41)), (o44, .inl (cI, 12, .inl fw45))]) sz)) (va_Qv (fun (u : Int32 × Int32 × (Nat → Int32) × (Nat → Int32) × (Nat → Int32) × (Nat → Int32)) => Iv 0 12 u.1 ∧ Iv 0 12 u.2.1 ∧ Bd 12 0 11 u.2.2.2.2.2) (fun u t => wPost (dC, dI) [(cI, .int), (c2, .array .int), (cZ, .boolean)] (va_A ([(o1, .inr (12, [.int v2, .ref o3, .int v5, .ref o6, .int v8, .ref o9, .ref o11, .int v13, .ref o14, .int v16, .ref o17, .int v19, .int v20, .int v21, .ref o22, .ref o24, .ref o26, .ref o28, .ref o30, .int v32, .ref o33, .ref o35, .ref o37, .int v39, .ref o40, .ref o42, .ref o44, .int v46, .ref o47])), (o37, .inl (cI, 12, .inl fw38)), (o9, .inl (cI, 12, .inl fw10)), (o42, .inl (cI, 49152, .inl fw43)), (o40, .inl (cZ, 49152, .inl fw41)), (o44, .inl (cI, 12, .inl fw45))]) sz) ([(o1, .inr (12, [.int v2, .ref o3, .int v5, .ref o6, .int v8, .ref o9, .ref o11, .int v13, .ref o14, .int v16, .ref o17, .int v19, .int v20, .int v21, .ref o22, .ref o24, .ref o26, .ref o28, .ref o30, .int v32, .ref o33, .ref o35, .ref o37, .int u.1, .ref o40, .ref o42, .ref o44, .int u.2.1, .ref o47])), (o37, .inl (cI, 12, .inl u.2.2.1)), (o9, .inl (cI, 12, .inl fw10)), (o42, .inl (cI, 49152, .inl u.2.2.2.1)), (o40, .inl (cZ, 49152, .inl u.2.2.2.2.1)), (o44, .inl (cI, 12, .inl u.2.2.2.2.2))]) t) (va_A ([(o1, .inr (12, [.int v2, .ref o3, .int v5, .ref o6, .int v8, .ref o9, .ref o11, .int v13, .ref o14, .int v16, .ref o17, .int v19, .int v20, .int v21, .ref o22, .ref o24, .ref o26, .ref o28, .ref o30, .int v32, .ref o33, .ref o35, .ref o37, .int v39, .ref o40, .ref o42, .ref o44, .int v46, .ref o47])), (o37, .inl (cI, 12, .inl fw38)), (o9, .inl (cI, 12, .inl fw10)), (o42, .inl (cI, 49152, .inl fw43)), (o40, .inl (cZ, 49152, .inl fw41)), (o44, .inl (cI, 12, .inl fw45))]) sz)) 0 0 (va_A ([(o1, .inr (12, [.int v2, .ref o3, .int v5, .ref o6, .int v8, .ref o9, .ref o11, .int v13, .ref o14, .int v16, .ref o17, .int v19, .int v20, .int v21, .ref o22, .ref o24, .ref o26, .ref o28, .ref o30, .int v32, .ref o33, .ref o35, .ref o37, .int v39, .ref o40, .ref o42, .ref o44, .int v46, .ref o47])), (o37, .inl (cI, 12, .inl fw38)), (o9, .inl (cI, 12, .inl fw10)), (o42, .inl (cI, 49152, .inl fw43)), (o40, .inl (cZ, 49152, .inl fw41)), (o44, .inl (cI, 12, .inl fw45))]) sz) := by
  refine Met.ofW (cc := cX12_seat) (maxL := 3) (ret := none) (by decide) rfl ?_
  intro p e s m args below meth c s₁ B hml hv
  obtain ⟨rfl, hsz, hP, hK, hD0, hN⟩ := hv
  have hx := B.exec
  have hb := B.bytes
  have hr := B.returns
  have hts := atoms_spec (ws := wsX12_seat) B.pre
  have hown : s.vm.findClass RX12 = some m.cls := findClass_of_methodNamed B.named
  have hlocks := B.notSynchronized
  subst hsz
  have hD := hD0.self (sz := s.heap.size)
  generalize hAe : va_A ([(o1, .inr (12, [.int v2, .ref o3, .int v5, .ref o6, .int v8, .ref o9, .ref o11, .int v13, .ref o14, .int v16, .ref o17, .int v19, .int v20, .int v21, .ref o22, .ref o24, .ref o26, .ref o28, .ref o30, .int v32, .ref o33, .ref o35, .ref o37, .int v39, .ref o40, .ref o42, .ref o44, .int v46, .ref o47])), (o37, .inl (cI, 12, .inl fw38)), (o9, .inl (cI, 12, .inl fw10)), (o42, .inl (cI, 49152, .inl fw43)), (o40, .inl (cZ, 49152, .inl fw41)), (o44, .inl (cI, 12, .inl fw45))]) s.heap.size = A at hD ⊢
  have hA : ∀ q : Nat, s.heap.size ≤ q → A q := fun q h => by rw [← hAe]; exact Or.inr h
  have hS : va_S A s.heap s.heap [] := va_S.rf
  have hP : va_P (dC, dI) vwCl ([(o1, .inr (12, [.int v2, .ref o3, .int v5, .ref o6, .int v8, .ref o9, .ref o11, .int v13, .ref o14, .int v16, .ref o17, .int v19, .int v20, .int v21, .ref o22, .ref o24, .ref o26, .ref o28, .ref o30, .int v32, .ref o33, .ref o35, .ref o37, .int v39, .ref o40, .ref o42, .ref o44, .int v46, .ref o47])), (o37, .inl (cI, 12, .inl fw38)), (o9, .inl (cI, 12, .inl fw10)), (o42, .inl (cI, 49152, .inl fw43)), (o40, .inl (cZ, 49152, .inl fw41)), (o44, .inl (cI, 12, .inl fw45))]) s.heap := hP
  have hl := lv_entry ([.ref o1]) (n := 3) (Nat.le_of_ble_eq_true rfl)
  rw [lg_entry_eq]
  generalize (lg_sl ([.ref o1]) ++ List.replicate (3 - (lg_sl ([.ref o1])).length) Slot.unset).toArray = ls at hl ⊢
  have hl : lv_has ls 3 [(0, .ref o1)] := hl
  refine gen_Q (fun Q hQ => ?_)
  refine lv_aload_n hx hb dX12_seat_0 rfl (lv_at hl 0 rfl) ?_
  refine lv_aload_n hx hb dX12_seat_1 rfl (lv_at hl 0 rfl) ?_
  refine va_get (D := (dC, dI)) (ci := 12) (v := .int v8) (C := RX12) (T := TX12) (N := 29) hx hb hts iw_X12_seat_X12 hown hK hP 0 rfl rfl 4 (by decide) (hts (.fieldLink RX12 128 "HolelessHouseModel" "columns" "I") hm_X12_seat_1) (fun _ h9 => h9) rfl dX12_seat_2 ?_
  refine va_put (D := (dC, dI)) (ci := 12) (v := .int v8) (ty := .int) (C := RX12) (T := TX12) (N := 29) hx hb hts iw_X12_seat_X12 tyX12 tyX12_ok nmX12 hown hK hP hD hS 0 rfl rfl 23 (by decide) (hts (.fieldLink RX12 191 "HolelessHouseModel" "thingMany" "I") hm_X12_seat_2) (fun _ h9 => h9) rfl (by decide +kernel) rfl rfl (Nat.le_of_ble_eq_true rfl) dX12_seat_5 (fun H locs hP hD hS => ?_)
  have hP : va_P (dC, dI) vwCl ([(o1, .inr (12, [.int v2, .ref o3, .int v5, .ref o6, .int v8, .ref o9, .ref o11, .int v13, .ref o14, .int v16, .ref o17, .int v19, .int v20, .int v21, .ref o22, .ref o24, .ref o26, .ref o28, .ref o30, .int v32, .ref o33, .ref o35, .ref o37, .int v8, .ref o40, .ref o42, .ref o44, .int v46, .ref o47])), (o37, .inl (cI, 12, .inl fw38)), (o9, .inl (cI, 12, .inl fw10)), (o42, .inl (cI, 49152, .inl fw43)), (o40, .inl (cZ, 49152, .inl fw41)), (o44, .inl (cI, 12, .inl fw45))]) H := hP
  have hD : va_D A ([(o1, .inr (12, [.int v2, .ref o3, .int v5, .ref o6, .int v8, .ref o9, .ref o11, .int v13, .ref o14, .int v16, .ref o17, .int v19, .int v20, .int v21, .ref o22, .ref o24, .ref o26, .ref o28, .ref o30, .int v32, .ref o33, .ref o35, .ref o37, .int v8, .ref o40, .ref o42, .ref o44, .int v46, .ref o47])), (o37, .inl (cI, 12, .inl fw38)), (o9, .inl (cI, 12, .inl fw10)), (o42, .inl (cI, 49152, .inl fw43)), (o40, .inl (cZ, 49152, .inl fw41)), (o44, .inl (cI, 12, .inl fw45))]) := hD
  refine lv_iconst (v := 0) hx hb dX12_seat_8 (by decide) ?_
  refine lv_istore_n (lv' := [(1, .int 0), (0, .ref o1)]) hx hb dX12_seat_9 rfl hl (by decide) rfl (fun ls hl => ?_)
  have L7 : ∀ (N : Nat) (x1390 : Int32) (f1391 : Nat → Int32) (H : Heap) (locs : List Loc) (ls : Array Slot), (8 - x1390.toInt).toNat < N → Iv 0 8 x1390 → va_P (dC, dI) vwCl ([(o1, .inr (12, [.int v2, .ref o3, .int v5, .ref o6, .int v8, .ref o9, .ref o11, .int v13, .ref o14, .int v16, .ref o17, .int v19, .int v20, .int v21, .ref o22, .ref o24, .ref o26, .ref o28, .ref o30, .int v32, .ref o33, .ref o35, .ref o37, .int v8, .ref o40, .ref o42, .ref o44, .int v46, .ref o47])), (o37, .inl (cI, 12, .inl f1391)), (o9, .inl (cI, 12, .inl fw10)), (o42, .inl (cI, 49152, .inl fw43)), (o40, .inl (cZ, 49152, .inl fw41)), (o44, .inl (cI, 12, .inl fw45))]) H → va_D A ([(o1, .inr (12, [.int v2, .ref o3, .int v5, .ref o6, .int v8, .ref o9, .ref o11, .int v13, .ref o14, .int v16, .ref o17, .int v19, .int v20, .int v21, .ref o22, .ref o24, .ref o26, .ref o28, .ref o30, .int v32, .ref o33, .ref o35, .ref o37, .int v8, .ref o40, .ref o42, .ref o44, .int v46, .ref o47])), (o37, .inl (cI, 12, .inl f1391)), (o9, .inl (cI, 12, .inl fw10)), (o42, .inl (cI, 49152, .inl fw43)), (o40, .inl (cZ, 49152, .inl fw41)), (o44, .inl (cI, 12, .inl fw45))]) → va_S A s.heap H locs → lv_has ls 3 [(1, .int x1390), (0, .ref o1)] → W p l e ({ frames := 3, cells := 0, slots := 0, locals := 71 }) s m ([.ref o1] : List Value).toArray below meth c H locs 0 0 Q (F0 m 10 ls []) := by
    intro N
    induction N with
    | zero =>
      intro x1390 f1391 H locs ls hM
      exact absurd hM (Nat.not_lt_zero _)
    | succ N ih7 =>
      intro x1390 f1391 H locs ls hM7 x1390_h hP hD hS hl
      refine lv_iload_n hx hb dX12_seat_10 rfl (lv_at hl 0 rfl) ?_
      refine lv_aload_n hx hb dX12_seat_11 rfl (lv_at hl 1 rfl) ?_
      refine va_get (D := (dC, dI)) (ci := 12) (v := .int v8) (C := RX12) (T := TX12) (N := 29) hx hb hts iw_X12_seat_X12 hown hK hP 0 rfl rfl 4 (by decide) (hts (.fieldLink RX12 128 "HolelessHouseModel" "columns" "I") hm_X12_seat_1) (fun _ h9 => h9) rfl dX12_seat_12 ?_
      refine lv_icmp_ge (tgt := 83) hx hb dX12_seat_15 (by decide) (fun h1392 => ?_) (fun h1392 => ?_)
      ·
        have qh1392 := le_i h1392
        refine lv_aload_n hx hb dX12_seat_83 rfl (lv_at hl 1 rfl) ?_
        refine kc_v (D := (dC, dI)) (S := Int32 × (Nat → Int32) × (Nat → Int32) × (Nat → Int32)) (wc := [(o1, .inr (12, [.int v2, .ref o3, .int v5, .ref o6, .int v8, .ref o9, .ref o11, .int v13, .ref o14, .int v16, .ref o17, .int v19, .int v20, .int v21, .ref o22, .ref o24, .ref o26, .ref o28, .ref o30, .int v32, .ref o33, .ref o35, .ref o37, .int v8, .ref o40, .ref o42, .ref o44, .int v46, .ref o47])), (o42, .inl (cI, 49152, .inl fw43)), (o40, .inl (cZ, 49152, .inl fw41)), (o37, .inl (cI, 12, .inl f1391)), (o44, .inl (cI, 12, .inl fw45))]) (wr := [(o9, .inl (cI, 12, .inl fw10))]) (w1 := fun u => [(o1, .inr (12, [.int v2, .ref o3, .int v5, .ref o6, .int v8, .ref o9, .ref o11, .int v13, .ref o14, .int v16, .ref o17, .int v19, .int v20, .int v21, .ref o22, .ref o24, .ref o26, .ref o28, .ref o30, .int v32, .ref o33, .ref o35, .ref o37, .int v8, .ref o40, .ref o42, .ref o44, .int u.1, .ref o47])), (o42, .inl (cI, 49152, .inl u.2.1)), (o40, .inl (cZ, 49152, .inl u.2.2.1)), (o37, .inl (cI, 12, .inl f1391)), (o44, .inl (cI, 12, .inl u.2.2.2))]) (wn := fun u => [(o1, .inr (12, [.int v2, .ref o3, .int v5, .ref o6, .int v8, .ref o9, .ref o11, .int v13, .ref o14, .int v16, .ref o17, .int v19, .int v20, .int v21, .ref o22, .ref o24, .ref o26, .ref o28, .ref o30, .int v32, .ref o33, .ref o35, .ref o37, .int v8, .ref o40, .ref o42, .ref o44, .int u.1, .ref o47])), (o37, .inl (cI, 12, .inl f1391)), (o9, .inl (cI, 12, .inl fw10)), (o42, .inl (cI, 49152, .inl u.2.1)), (o40, .inl (cZ, 49152, .inl u.2.2.1)), (o44, .inl (cI, 12, .inl u.2.2.2))]) (fun hPc hDc => va_runV (As := []) (rest := []) ⟨hx, hb, hml, hown, hts⟩ (kX12_setLine_1 l dC dI cI c2 cZ o1 o3 o6 o9 o11 o14 o17 o22 o24 o26 o28 o30 o33 o35 o37 o40 o42 o44 o47 v2 v5 v8 v13 v16 v19 v20 v21 v32 f1391 v8 fw41 fw43 fw45 v46 H.size v5_h v8_h v13_h v16_h v19_h v32_h (iv_w v8_h (by decide)) fw45_b v46_h) (cwV 0 hts gX12_seat_X12_setLine rfl rfl rfl (by decide +kernel) ⟨Nat.le_of_ble_eq_true rfl, Nat.le_of_ble_eq_true rfl⟩) (pre_V hPc hK hDc hN (ci := 12) (q0 := 0) rfl rfl) rfl rfl hl.1 rfl (lv_room (Nat.le_of_ble_eq_true rfl)) dX12_seat_84 ⟨Nat.le_of_ble_eq_true rfl, Nat.le_of_ble_eq_true rfl⟩) hP hD hS hA [0, 3, 4, 1, 5] [2] [1, 4, 0, 2, 3, 5] rfl rfl (by decide +kernel) (by decide +kernel) (by decide +kernel) (by decide +kernel) (fun _ => rfl) (fun u H locs hq hP hD hS => ?_)
        obtain ⟨y1393, f1394, f1395, f1396⟩ := u
        obtain ⟨y1393_h, f1396_b⟩ := hq
        have y1393_h : Iv 0 12 y1393 := y1393_h
        have f1396_b : Bd 12 0 11 f1396 := f1396_b
        have hP : va_P (dC, dI) vwCl ([(o1, .inr (12, [.int v2, .ref o3, .int v5, .ref o6, .int v8, .ref o9, .ref o11, .int v13, .ref o14, .int v16, .ref o17, .int v19, .int v20, .int v21, .ref o22, .ref o24, .ref o26, .ref o28, .ref o30, .int v32, .ref o33, .ref o35, .ref o37, .int v8, .ref o40, .ref o42, .ref o44, .int y1393, .ref o47])), (o37, .inl (cI, 12, .inl f1391)), (o9, .inl (cI, 12, .inl fw10)), (o42, .inl (cI, 49152, .inl f1394)), (o40, .inl (cZ, 49152, .inl f1395)), (o44, .inl (cI, 12, .inl f1396))]) H := hP
        have hD : va_D A ([(o1, .inr (12, [.int v2, .ref o3, .int v5, .ref o6, .int v8, .ref o9, .ref o11, .int v13, .ref o14, .int v16, .ref o17, .int v19, .int v20, .int v21, .ref o22, .ref o24, .ref o26, .ref o28, .ref o30, .int v32, .ref o33, .ref o35, .ref o37, .int v8, .ref o40, .ref o42, .ref o44, .int y1393, .ref o47])), (o37, .inl (cI, 12, .inl f1391)), (o9, .inl (cI, 12, .inl fw10)), (o42, .inl (cI, 49152, .inl f1394)), (o40, .inl (cZ, 49152, .inl f1395)), (o44, .inl (cI, 12, .inl f1396))]) := hD
        rw [hQ]
        exact W.vret hx hb hr (fun t ht hW => ⟨⟨(v8, y1393, f1391, f1394, f1395, f1396), rfl, ⟨(iv_w v8_h (by decide)), y1393_h, f1396_b⟩, by rw [ht]; exact hP, va_K.moved hW.alike hK, hD⟩, hS.F ht⟩) hS.2.2 dX12_seat_87
      ·
        have qh1392 := nle_i h1392
        have j1397 : Iv 0 7 x1390 := r_ltl qh1392 x1390_h v8_h (by decide)
        have j1398 : Iv 1 8 v8 := r_ltr qh1392 x1390_h v8_h (by decide)
        refine lv_aload_n hx hb dX12_seat_18 rfl (lv_at hl 1 rfl) ?_
        refine va_get (D := (dC, dI)) (ci := 12) (v := .ref o37) (C := RX12) (T := TX12) (N := 29) hx hb hts iw_X12_seat_X12 hown hK hP 0 rfl rfl 22 (by decide) (hts (.fieldLink RX12 54 "HolelessHouseModel" "things" "[I") hm_X12_seat_3) (fun _ h9 => h9) rfl dX12_seat_19 ?_
        refine lv_iload_n hx hb dX12_seat_22 rfl (lv_at hl 0 rfl) ?_
        refine lv_iconst (v := 0) hx hb dX12_seat_23 (by decide) ?_
        refine k_iast hx hb hK hP hD hS 1 0 rfl rfl (vin_iv j1397 (by decide)) dX12_seat_24 (fun f1399 H locs f1399_e hP hD hS => ?_)
        have hP : va_P (dC, dI) vwCl ([(o1, .inr (12, [.int v2, .ref o3, .int v5, .ref o6, .int v8, .ref o9, .ref o11, .int v13, .ref o14, .int v16, .ref o17, .int v19, .int v20, .int v21, .ref o22, .ref o24, .ref o26, .ref o28, .ref o30, .int v32, .ref o33, .ref o35, .ref o37, .int v8, .ref o40, .ref o42, .ref o44, .int v46, .ref o47])), (o37, .inl (cI, 12, .inl f1399)), (o9, .inl (cI, 12, .inl fw10)), (o42, .inl (cI, 49152, .inl fw43)), (o40, .inl (cZ, 49152, .inl fw41)), (o44, .inl (cI, 12, .inl fw45))]) H := hP
        have hD : va_D A ([(o1, .inr (12, [.int v2, .ref o3, .int v5, .ref o6, .int v8, .ref o9, .ref o11, .int v13, .ref o14, .int v16, .ref o17, .int v19, .int v20, .int v21, .ref o22, .ref o24, .ref o26, .ref o28, .ref o30, .int v32, .ref o33, .ref o35, .ref o37, .int v8, .ref o40, .ref o42, .ref o44, .int v46, .ref o47])), (o37, .inl (cI, 12, .inl f1399)), (o9, .inl (cI, 12, .inl fw10)), (o42, .inl (cI, 49152, .inl fw43)), (o40, .inl (cZ, 49152, .inl fw41)), (o44, .inl (cI, 12, .inl fw45))]) := hD
        refine lv_iconst (v := 0) hx hb dX12_seat_25 (by decide) ?_
        refine lv_istore_n (lv' := [(2, .int 0), (1, .int x1390), (0, .ref o1)]) hx hb dX12_seat_26 rfl hl (by decide) rfl (fun ls hl => ?_)
        have L8 : ∀ (N : Nat) (x1597 : Int32) (f1598 : Nat → Int32) (H : Heap) (locs : List Loc) (ls : Array Slot), (12 - x1597.toInt).toNat < N → Iv 0 12 x1597 → va_P (dC, dI) vwCl ([(o1, .inr (12, [.int v2, .ref o3, .int v5, .ref o6, .int v8, .ref o9, .ref o11, .int v13, .ref o14, .int v16, .ref o17, .int v19, .int v20, .int v21, .ref o22, .ref o24, .ref o26, .ref o28, .ref o30, .int v32, .ref o33, .ref o35, .ref o37, .int v8, .ref o40, .ref o42, .ref o44, .int v46, .ref o47])), (o37, .inl (cI, 12, .inl f1598)), (o9, .inl (cI, 12, .inl fw10)), (o42, .inl (cI, 49152, .inl fw43)), (o40, .inl (cZ, 49152, .inl fw41)), (o44, .inl (cI, 12, .inl fw45))]) H → va_D A ([(o1, .inr (12, [.int v2, .ref o3, .int v5, .ref o6, .int v8, .ref o9, .ref o11, .int v13, .ref o14, .int v16, .ref o17, .int v19, .int v20, .int v21, .ref o22, .ref o24, .ref o26, .ref o28, .ref o30, .int v32, .ref o33, .ref o35, .ref o37, .int v8, .ref o40, .ref o42, .ref o44, .int v46, .ref o47])), (o37, .inl (cI, 12, .inl f1598)), (o9, .inl (cI, 12, .inl fw10)), (o42, .inl (cI, 49152, .inl fw43)), (o40, .inl (cZ, 49152, .inl fw41)), (o44, .inl (cI, 12, .inl fw45))]) → va_S A s.heap H locs → lv_has ls 3 [(2, .int x1597), (1, .int x1390), (0, .ref o1)] → W p l e ({ frames := 3, cells := 0, slots := 0, locals := 71 }) s m ([.ref o1] : List Value).toArray below meth c H locs 0 0 Q (F0 m 27 ls []) := by
          intro N
          induction N with
          | zero =>
            intro x1597 f1598 H locs ls hM
            exact absurd hM (Nat.not_lt_zero _)
          | succ N ih8 =>
            intro x1597 f1598 H locs ls hM8 x1597_h hP hD hS hl
            refine lv_iload_n hx hb dX12_seat_27 rfl (lv_at hl 0 rfl) ?_
            refine lv_bipush (v := 12) hx hb dX12_seat_28 (by decide) ?_
            refine lv_icmp_ge (tgt := 77) hx hb dX12_seat_30 (by decide) (fun h1599 => ?_) (fun h1599 => ?_)
            ·
              have qh1599 := le_i h1599
              have j1600 : Iv 12 12 x1597 := r_ler qh1599 ik_12 x1597_h (by decide)
              obtain ⟨x1601, x1601_e⟩ : ∃ z : Int32, z = x1390 + 1 := ⟨_, rfl⟩
              have x1601_h : Iv 1 8 x1601 := iv_e x1601_e (iv_add j1397 ik_1 (by decide))
              refine lv_iinc (v := x1601) (lv' := [(1, .int x1601), (2, .int x1597), (0, .ref o1)]) hx hb dX12_seat_77 hl (k := 1) rfl (incN (by decide +kernel) x1601_e) (by decide) rfl (fun ls hl => ?_)
              refine lv_goto (tgt := 10) hx hb dX12_seat_80 (by decide) ?_
              exact ih7 x1601 f1598 _ _ _ (ms_up x1601_e j1397 (by decide) hM7) (iv_w x1601_h (by decide)) hP hD hS (lv_sub hl [0, 2] rfl)
            ·
              have qh1599 := nle_i h1599
              have j1602 : Iv 0 11 x1597 := r_ltl qh1599 x1597_h ik_12 (by decide)
              refine lv_aload_n hx hb dX12_seat_33 rfl (lv_at hl 2 rfl) ?_
              refine va_get (D := (dC, dI)) (ci := 12) (v := .ref o37) (C := RX12) (T := TX12) (N := 29) hx hb hts iw_X12_seat_X12 hown hK hP 0 rfl rfl 22 (by decide) (hts (.fieldLink RX12 54 "HolelessHouseModel" "things" "[I") hm_X12_seat_3) (fun _ h9 => h9) rfl dX12_seat_34 ?_
              refine lv_iload_n hx hb dX12_seat_37 rfl (lv_at hl 1 rfl) ?_
              refine lv_dup2_11 hx hb dX12_seat_38 rfl rfl ?_
              refine va_iald hx hb hK hP 1 0 rfl rfl (vin_iv j1397 (by decide)) dX12_seat_39 (lv_topi (fun x1603 x1603_e => ?_))
              refine lv_aload_n hx hb dX12_seat_40 rfl (lv_at hl 2 rfl) ?_
              refine va_get (D := (dC, dI)) (ci := 12) (v := .ref o9) (C := RX12) (T := TX12) (N := 29) hx hb hts iw_X12_seat_X12 hown hK hP 0 rfl rfl 5 (by decide) (hts (.fieldLink RX12 16 "HolelessHouseModel" "rows" "[I") hm_X12_seat_4) (fun _ h9 => h9) rfl dX12_seat_41 ?_
              refine lv_iload_n hx hb dX12_seat_44 rfl (lv_at hl 0 rfl) ?_
              refine va_iald hx hb hK hP 2 0 rfl rfl (vin_iv j1602 (by decide)) dX12_seat_45 (lv_topi (fun x1604 x1604_e => ?_))
              have x1604_h : Iv (-9) 255 x1604 := iv_e x1604_e (bd_at fw10_b (vin_iv j1602 (by decide)))
              refine lv_if_lt (tgt := 68) hx hb dX12_seat_46 (by decide) (fun h1605 => ?_) (fun h1605 => ?_)
              ·
                have qh1605 := lt_i h1605
                have j1606 : Iv (-9) (-1) x1604 := r_ltl qh1605 x1604_h ik_0 (by decide)
                refine lv_iconst (v := 0) hx hb dX12_seat_68 (by decide) ?_
                refine lv_ior hx hb dX12_seat_69 (lv_topi (fun x1607 x1607_e => ?_))
                refine k_iast hx hb hK hP hD hS 1 0 rfl rfl (vin_iv j1397 (by decide)) dX12_seat_70 (fun f1608 H locs f1608_e hP hD hS => ?_)
                have hP : va_P (dC, dI) vwCl ([(o1, .inr (12, [.int v2, .ref o3, .int v5, .ref o6, .int v8, .ref o9, .ref o11, .int v13, .ref o14, .int v16, .ref o17, .int v19, .int v20, .int v21, .ref o22, .ref o24, .ref o26, .ref o28, .ref o30, .int v32, .ref o33, .ref o35, .ref o37, .int v8, .ref o40, .ref o42, .ref o44, .int v46, .ref o47])), (o37, .inl (cI, 12, .inl f1608)), (o9, .inl (cI, 12, .inl fw10)), (o42, .inl (cI, 49152, .inl fw43)), (o40, .inl (cZ, 49152, .inl fw41)), (o44, .inl (cI, 12, .inl fw45))]) H := hP
                have hD : va_D A ([(o1, .inr (12, [.int v2, .ref o3, .int v5, .ref o6, .int v8, .ref o9, .ref o11, .int v13, .ref o14, .int v16, .ref o17, .int v19, .int v20, .int v21, .ref o22, .ref o24, .ref o26, .ref o28, .ref o30, .int v32, .ref o33, .ref o35, .ref o37, .int v8, .ref o40, .ref o42, .ref o44, .int v46, .ref o47])), (o37, .inl (cI, 12, .inl f1608)), (o9, .inl (cI, 12, .inl fw10)), (o42, .inl (cI, 49152, .inl fw43)), (o40, .inl (cZ, 49152, .inl fw41)), (o44, .inl (cI, 12, .inl fw45))]) := hD
                obtain ⟨x1609, x1609_e⟩ : ∃ z : Int32, z = x1597 + 1 := ⟨_, rfl⟩
                have x1609_h : Iv 1 12 x1609 := iv_e x1609_e (iv_add j1602 ik_1 (by decide))
                refine lv_iinc (v := x1609) (lv' := [(2, .int x1609), (1, .int x1390), (0, .ref o1)]) hx hb dX12_seat_71 hl (k := 0) rfl (incN (by decide +kernel) x1609_e) (by decide) rfl (fun ls hl => ?_)
                refine lv_goto (tgt := 27) hx hb dX12_seat_74 (by decide) ?_
                exact ih8 x1609 f1608 _ _ _ (ms_up x1609_e j1602 (by decide) hM8) (iv_w x1609_h (by decide)) hP hD hS hl
              ·
                have qh1605 := nlt_i h1605
                have j1610 : Iv 0 255 x1604 := r_ler qh1605 ik_0 x1604_h (by decide)
                refine lv_aload_n hx hb dX12_seat_49 rfl (lv_at hl 2 rfl) ?_
                refine va_get (D := (dC, dI)) (ci := 12) (v := .ref o9) (C := RX12) (T := TX12) (N := 29) hx hb hts iw_X12_seat_X12 hown hK hP 0 rfl rfl 5 (by decide) (hts (.fieldLink RX12 16 "HolelessHouseModel" "rows" "[I") hm_X12_seat_4) (fun _ h9 => h9) rfl dX12_seat_50 ?_
                refine lv_iload_n hx hb dX12_seat_53 rfl (lv_at hl 0 rfl) ?_
                refine va_iald hx hb hK hP 2 0 rfl rfl (vin_iv j1602 (by decide)) dX12_seat_54 (lv_topi (fun x1611 x1611_e => ?_))
                have x1611_h : Iv 0 255 x1611 := iv_e (x1611_e.trans x1604_e.symm) j1610
                refine lv_iload_n hx hb dX12_seat_55 rfl (lv_at hl 1 rfl) ?_
                refine kc_i (D := (dC, dI)) (S := Unit) (wc := []) (wr := [(o1, .inr (12, [.int v2, .ref o3, .int v5, .ref o6, .int v8, .ref o9, .ref o11, .int v13, .ref o14, .int v16, .ref o17, .int v19, .int v20, .int v21, .ref o22, .ref o24, .ref o26, .ref o28, .ref o30, .int v32, .ref o33, .ref o35, .ref o37, .int v8, .ref o40, .ref o42, .ref o44, .int v46, .ref o47])), (o37, .inl (cI, 12, .inl f1598)), (o9, .inl (cI, 12, .inl fw10)), (o42, .inl (cI, 49152, .inl fw43)), (o40, .inl (cZ, 49152, .inl fw41)), (o44, .inl (cI, 12, .inl fw45))]) (w1 := fun _ => []) (wn := fun _ => [(o1, .inr (12, [.int v2, .ref o3, .int v5, .ref o6, .int v8, .ref o9, .ref o11, .int v13, .ref o14, .int v16, .ref o17, .int v19, .int v20, .int v21, .ref o22, .ref o24, .ref o26, .ref o28, .ref o30, .int v32, .ref o33, .ref o35, .ref o37, .int v8, .ref o40, .ref o42, .ref o44, .int v46, .ref o47])), (o37, .inl (cI, 12, .inl f1598)), (o9, .inl (cI, 12, .inl fw10)), (o42, .inl (cI, 49152, .inl fw43)), (o40, .inl (cZ, 49152, .inl fw41)), (o44, .inl (cI, 12, .inl fw45))]) (fun hPc hDc => va_runS (As := [.int x1611, .int x1390]) (rest := [.int x1603, .int x1390, .ref o37]) ⟨hx, hb, hml, hown, hts⟩ (kX12_has_1 l dC dI cI c2 cZ x1611 x1390 H.size (iv_w j1397 (by decide))) (va_cwS 2 hts gX12_seat_X12_has rfl rfl rfl (by decide +kernel) ⟨Nat.le_of_ble_eq_true rfl, Nat.le_of_ble_eq_true rfl⟩) (pre_S hPc hK hDc hN) rfl rfl hl.1 rfl (lv_room (Nat.le_of_ble_eq_true rfl)) dX12_seat_56 ⟨Nat.le_of_ble_eq_true rfl, Nat.le_of_ble_eq_true rfl⟩) hP hD hS hA [] [0, 1, 2, 3, 4, 5] [0, 1, 2, 3, 4, 5] rfl rfl (by decide +kernel) (by decide +kernel) (by decide +kernel) (by decide +kernel) (fun _ => rfl) (fun x1612 _ H locs hq hP hD hS => ?_)
                obtain ⟨x1612_h, e1613⟩ := hq
                have hP : va_P (dC, dI) vwCl ([(o1, .inr (12, [.int v2, .ref o3, .int v5, .ref o6, .int v8, .ref o9, .ref o11, .int v13, .ref o14, .int v16, .ref o17, .int v19, .int v20, .int v21, .ref o22, .ref o24, .ref o26, .ref o28, .ref o30, .int v32, .ref o33, .ref o35, .ref o37, .int v8, .ref o40, .ref o42, .ref o44, .int v46, .ref o47])), (o37, .inl (cI, 12, .inl f1598)), (o9, .inl (cI, 12, .inl fw10)), (o42, .inl (cI, 49152, .inl fw43)), (o40, .inl (cZ, 49152, .inl fw41)), (o44, .inl (cI, 12, .inl fw45))]) H := hP
                have hD : va_D A ([(o1, .inr (12, [.int v2, .ref o3, .int v5, .ref o6, .int v8, .ref o9, .ref o11, .int v13, .ref o14, .int v16, .ref o17, .int v19, .int v20, .int v21, .ref o22, .ref o24, .ref o26, .ref o28, .ref o30, .int v32, .ref o33, .ref o35, .ref o37, .int v8, .ref o40, .ref o42, .ref o44, .int v46, .ref o47])), (o37, .inl (cI, 12, .inl f1598)), (o9, .inl (cI, 12, .inl fw10)), (o42, .inl (cI, 49152, .inl fw43)), (o40, .inl (cZ, 49152, .inl fw41)), (o44, .inl (cI, 12, .inl fw45))]) := hD
                refine lv_if_eq (tgt := 68) hx hb dX12_seat_59 (by decide) (fun h1614 => ?_) (fun h1614 => ?_)
                ·
                  have j1615 : Iv 0 0 x1612 := r_eq h1614 ik_0
                  have b1616 : bt x1611 (Int32.toNatClampNeg x1390) = false := has_f e1613 h1614
                  refine lv_iconst (v := 0) hx hb dX12_seat_68 (by decide) ?_
                  refine lv_ior hx hb dX12_seat_69 (lv_topi (fun x1617 x1617_e => ?_))
                  refine k_iast hx hb hK hP hD hS 1 0 rfl rfl (vin_iv j1397 (by decide)) dX12_seat_70 (fun f1618 H locs f1618_e hP hD hS => ?_)
                  have hP : va_P (dC, dI) vwCl ([(o1, .inr (12, [.int v2, .ref o3, .int v5, .ref o6, .int v8, .ref o9, .ref o11, .int v13, .ref o14, .int v16, .ref o17, .int v19, .int v20, .int v21, .ref o22, .ref o24, .ref o26, .ref o28, .ref o30, .int v32, .ref o33, .ref o35, .ref o37, .int v8, .ref o40, .ref o42, .ref o44, .int v46, .ref o47])), (o37, .inl (cI, 12, .inl f1618)), (o9, .inl (cI, 12, .inl fw10)), (o42, .inl (cI, 49152, .inl fw43)), (o40, .inl (cZ, 49152, .inl fw41)), (o44, .inl (cI, 12, .inl fw45))]) H := hP
                  have hD : va_D A ([(o1, .inr (12, [.int v2, .ref o3, .int v5, .ref o6, .int v8, .ref o9, .ref o11, .int v13, .ref o14, .int v16, .ref o17, .int v19, .int v20, .int v21, .ref o22, .ref o24, .ref o26, .ref o28, .ref o30, .int v32, .ref o33, .ref o35, .ref o37, .int v8, .ref o40, .ref o42, .ref o44, .int v46, .ref o47])), (o37, .inl (cI, 12, .inl f1618)), (o9, .inl (cI, 12, .inl fw10)), (o42, .inl (cI, 49152, .inl fw43)), (o40, .inl (cZ, 49152, .inl fw41)), (o44, .inl (cI, 12, .inl fw45))]) := hD
                  obtain ⟨x1619, x1619_e⟩ : ∃ z : Int32, z = x1597 + 1 := ⟨_, rfl⟩
                  have x1619_h : Iv 1 12 x1619 := iv_e x1619_e (iv_add j1602 ik_1 (by decide))
                  refine lv_iinc (v := x1619) (lv' := [(2, .int x1619), (1, .int x1390), (0, .ref o1)]) hx hb dX12_seat_71 hl (k := 0) rfl (incN (by decide +kernel) x1619_e) (by decide) rfl (fun ls hl => ?_)
                  refine lv_goto (tgt := 27) hx hb dX12_seat_74 (by decide) ?_
                  exact ih8 x1619 f1618 _ _ _ (ms_up x1619_e j1602 (by decide) hM8) (iv_w x1619_h (by decide)) hP hD hS hl
                ·
                  have j1620 : Iv 1 1 x1612 := r_nelo h1614 x1612_h ik_0 (by decide)
                  have b1621 : bt x1611 (Int32.toNatClampNeg x1390) = true := has_t e1613 h1614
                  refine lv_iconst (v := 1) hx hb dX12_seat_62 (by decide) ?_
                  refine lv_iload_n hx hb dX12_seat_63 rfl (lv_at hl 0 rfl) ?_
                  refine lv_ishl hx hb dX12_seat_64 (lv_topi (fun x1622 x1622_e => ?_))
                  have x1622_h : Iv 1 2048 x1622 := iv_e x1622_e (iv_shl1 j1602 (by decide))
                  refine lv_goto (tgt := 69) hx hb dX12_seat_65 (by decide) ?_
                  refine lv_ior hx hb dX12_seat_69 (lv_topi (fun x1623 x1623_e => ?_))
                  refine k_iast hx hb hK hP hD hS 1 0 rfl rfl (vin_iv j1397 (by decide)) dX12_seat_70 (fun f1624 H locs f1624_e hP hD hS => ?_)
                  have hP : va_P (dC, dI) vwCl ([(o1, .inr (12, [.int v2, .ref o3, .int v5, .ref o6, .int v8, .ref o9, .ref o11, .int v13, .ref o14, .int v16, .ref o17, .int v19, .int v20, .int v21, .ref o22, .ref o24, .ref o26, .ref o28, .ref o30, .int v32, .ref o33, .ref o35, .ref o37, .int v8, .ref o40, .ref o42, .ref o44, .int v46, .ref o47])), (o37, .inl (cI, 12, .inl f1624)), (o9, .inl (cI, 12, .inl fw10)), (o42, .inl (cI, 49152, .inl fw43)), (o40, .inl (cZ, 49152, .inl fw41)), (o44, .inl (cI, 12, .inl fw45))]) H := hP
                  have hD : va_D A ([(o1, .inr (12, [.int v2, .ref o3, .int v5, .ref o6, .int v8, .ref o9, .ref o11, .int v13, .ref o14, .int v16, .ref o17, .int v19, .int v20, .int v21, .ref o22, .ref o24, .ref o26, .ref o28, .ref o30, .int v32, .ref o33, .ref o35, .ref o37, .int v8, .ref o40, .ref o42, .ref o44, .int v46, .ref o47])), (o37, .inl (cI, 12, .inl f1624)), (o9, .inl (cI, 12, .inl fw10)), (o42, .inl (cI, 49152, .inl fw43)), (o40, .inl (cZ, 49152, .inl fw41)), (o44, .inl (cI, 12, .inl fw45))]) := hD
                  obtain ⟨x1625, x1625_e⟩ : ∃ z : Int32, z = x1597 + 1 := ⟨_, rfl⟩
                  have x1625_h : Iv 1 12 x1625 := iv_e x1625_e (iv_add j1602 ik_1 (by decide))
                  refine lv_iinc (v := x1625) (lv' := [(2, .int x1625), (1, .int x1390), (0, .ref o1)]) hx hb dX12_seat_71 hl (k := 0) rfl (incN (by decide +kernel) x1625_e) (by decide) rfl (fun ls hl => ?_)
                  refine lv_goto (tgt := 27) hx hb dX12_seat_74 (by decide) ?_
                  exact ih8 x1625 f1624 _ _ _ (ms_up x1625_e j1602 (by decide) hM8) (iv_w x1625_h (by decide)) hP hD hS hl
        exact L8 _ 0 f1399 _ _ _ (Nat.lt_succ_self _) (iv_w ik_0 (by decide)) hP hD hS hl
  exact L7 _ 0 fw38 _ _ _ (Nat.lt_succ_self _) (iv_w ik_0 (by decide)) hP hD hS hl
theorem iw_X12_lines_X12 : ∀ w ∈ wsX120, w ∈ wsX12_lines := fun _ h => List.mem_cons.mpr (Or.inr (List.mem_append.mpr (Or.inr h)))
set_option maxHeartbeats 4000000 in
set_option maxRecDepth 100000 in
theorem kX12_lines_1 (l : Launch) (dC : Nat → ClassId) (dI : Nat → Nat → Nat) (cI c2 cZ : ClassId) (o1 : Nat) (o3 : Nat) (o6 : Nat) (o9 : Nat) (o11 : Nat) (o14 : Nat) (o17 : Nat) (o22 : Nat) (o24 : Nat) (o26 : Nat) (o28 : Nat) (o30 : Nat) (o33 : Nat) (o35 : Nat) (o37 : Nat) (o40 : Nat) (o42 : Nat) (o44 : Nat) (o47 : Nat) (v2 : Int32) (v5 : Int32) (v8 : Int32) (v13 : Int32) (v16 : Int32) (v19 : Int32) (v20 : Int32) (v21 : Int32) (v32 : Int32) (v39 : Int32) (fw43 : Nat → Int32) (v46 : Int32) (sz : Nat) (v5_h : Iv 0 12 v5) (v8_h : Iv 0 8 v8) (v13_h : Iv 0 12 v13) (v16_h : Iv 0 12 v16) (v19_h : Iv (-9) 12 v19) (v32_h : Iv 0 99 v32) (v39_h : Iv 0 12 v39) (v46_h : Iv 0 12 v46) : Met l yX12_lines wsX12_lines ({ frames := 0, cells := 0, slots := 0, locals := 0 }) (va_Pc [.ref o1] (wPre (dC, dI) [(cI, .int), (c2, .array .int), (cZ, .boolean)] ([(o1, .inr (12, [.int v2, .ref o3, .int v5, .ref o6, .int v8, .ref o9, .ref o11, .int v13, .ref o14, .int v16, .ref o17, .int v19, .int v20, .int v21, .ref o22, .ref o24, .ref o26, .ref o28, .ref o30, .int v32, .ref o33, .ref o35, .ref o37, .int v39, .ref o40, .ref o42, .ref o44, .int v46, .ref o47])), (o42, .inl (cI, 49152, .inl fw43))]) sz)) (va_Qi (fun (r : Int32) (_ : Unit) => True) (fun _ t => wPost (dC, dI) [(cI, .int), (c2, .array .int), (cZ, .boolean)] (va_A ([(o1, .inr (12, [.int v2, .ref o3, .int v5, .ref o6, .int v8, .ref o9, .ref o11, .int v13, .ref o14, .int v16, .ref o17, .int v19, .int v20, .int v21, .ref o22, .ref o24, .ref o26, .ref o28, .ref o30, .int v32, .ref o33, .ref o35, .ref o37, .int v39, .ref o40, .ref o42, .ref o44, .int v46, .ref o47])), (o42, .inl (cI, 49152, .inl fw43))]) sz) ([(o1, .inr (12, [.int v2, .ref o3, .int v5, .ref o6, .int v8, .ref o9, .ref o11, .int v13, .ref o14, .int v16, .ref o17, .int v19, .int v20, .int v21, .ref o22, .ref o24, .ref o26, .ref o28, .ref o30, .int v32, .ref o33, .ref o35, .ref o37, .int v39, .ref o40, .ref o42, .ref o44, .int v46, .ref o47])), (o42, .inl (cI, 49152, .inl fw43))]) t) (va_A ([(o1, .inr (12, [.int v2, .ref o3, .int v5, .ref o6, .int v8, .ref o9, .ref o11, .int v13, .ref o14, .int v16, .ref o17, .int v19, .int v20, .int v21, .ref o22, .ref o24, .ref o26, .ref o28, .ref o30, .int v32, .ref o33, .ref o35, .ref o37, .int v39, .ref o40, .ref o42, .ref o44, .int v46, .ref o47])), (o42, .inl (cI, 49152, .inl fw43))]) sz)) 0 0 (va_A ([(o1, .inr (12, [.int v2, .ref o3, .int v5, .ref o6, .int v8, .ref o9, .ref o11, .int v13, .ref o14, .int v16, .ref o17, .int v19, .int v20, .int v21, .ref o22, .ref o24, .ref o26, .ref o28, .ref o30, .int v32, .ref o33, .ref o35, .ref o37, .int v39, .ref o40, .ref o42, .ref o44, .int v46, .ref o47])), (o42, .inl (cI, 49152, .inl fw43))]) sz) := by
  refine Met.ofW (cc := cX12_lines) (maxL := 3) (ret := (some .int)) (by decide) rfl ?_
  intro p e s m args below meth c s₁ B hml hv
  obtain ⟨rfl, hsz, hP, hK, hD0, hN⟩ := hv
  have hx := B.exec
  have hb := B.bytes
  have hr := B.returns
  have hts := atoms_spec (ws := wsX12_lines) B.pre
  have hown : s.vm.findClass RX12 = some m.cls := findClass_of_methodNamed B.named
  have hlocks := B.notSynchronized
  subst hsz
  have hD := hD0.self (sz := s.heap.size)
  generalize hAe : va_A ([(o1, .inr (12, [.int v2, .ref o3, .int v5, .ref o6, .int v8, .ref o9, .ref o11, .int v13, .ref o14, .int v16, .ref o17, .int v19, .int v20, .int v21, .ref o22, .ref o24, .ref o26, .ref o28, .ref o30, .int v32, .ref o33, .ref o35, .ref o37, .int v39, .ref o40, .ref o42, .ref o44, .int v46, .ref o47])), (o42, .inl (cI, 49152, .inl fw43))]) s.heap.size = A at hD ⊢
  have hA : ∀ q : Nat, s.heap.size ≤ q → A q := fun q h => by rw [← hAe]; exact Or.inr h
  have hS : va_S A s.heap s.heap [] := va_S.rf
  have hP : va_P (dC, dI) vwCl ([(o1, .inr (12, [.int v2, .ref o3, .int v5, .ref o6, .int v8, .ref o9, .ref o11, .int v13, .ref o14, .int v16, .ref o17, .int v19, .int v20, .int v21, .ref o22, .ref o24, .ref o26, .ref o28, .ref o30, .int v32, .ref o33, .ref o35, .ref o37, .int v39, .ref o40, .ref o42, .ref o44, .int v46, .ref o47])), (o42, .inl (cI, 49152, .inl fw43))]) s.heap := hP
  have hl := lv_entry ([.ref o1]) (n := 3) (Nat.le_of_ble_eq_true rfl)
  rw [lg_entry_eq]
  generalize (lg_sl ([.ref o1]) ++ List.replicate (3 - (lg_sl ([.ref o1])).length) Slot.unset).toArray = ls at hl ⊢
  have hl : lv_has ls 3 [(0, .ref o1)] := hl
  refine gen_Q (fun Q hQ => ?_)
  refine lv_aload_n hx hb dX12_lines_0 rfl (lv_at hl 0 rfl) ?_
  refine va_get (D := (dC, dI)) (ci := 12) (v := .int v39) (C := RX12) (T := TX12) (N := 29) hx hb hts iw_X12_lines_X12 hown hK hP 0 rfl rfl 23 (by decide) (hts (.fieldLink RX12 191 "HolelessHouseModel" "thingMany" "I") hm_X12_lines_1) (fun _ h9 => h9) rfl dX12_lines_1 ?_
  refine lv_if_ne (tgt := 11) hx hb dX12_lines_4 (by decide) (fun h1 => ?_) (fun h1 => ?_)
  ·
    have j2 : Iv 1 12 v39 := r_nelo h1 v39_h ik_0 (by decide)
    refine lv_iconst (v := 0) hx hb dX12_lines_11 (by decide) ?_
    refine lv_istore_n (lv' := [(1, .int 0), (0, .ref o1)]) hx hb dX12_lines_12 rfl hl (by decide) rfl (fun ls hl => ?_)
    refine lv_iconst (v := 0) hx hb dX12_lines_13 (by decide) ?_
    refine lv_istore_n (lv' := [(2, .int 0), (1, .int 0), (0, .ref o1)]) hx hb dX12_lines_14 rfl hl (by decide) rfl (fun ls hl => ?_)
    have L1 : ∀ (N : Nat) (x82 : Int32) (x83 : Int32) (H : Heap) (locs : List Loc) (ls : Array Slot), (12 - x82.toInt).toNat < N → Iv 0 12 x82 → va_P (dC, dI) vwCl ([(o1, .inr (12, [.int v2, .ref o3, .int v5, .ref o6, .int v8, .ref o9, .ref o11, .int v13, .ref o14, .int v16, .ref o17, .int v19, .int v20, .int v21, .ref o22, .ref o24, .ref o26, .ref o28, .ref o30, .int v32, .ref o33, .ref o35, .ref o37, .int v39, .ref o40, .ref o42, .ref o44, .int v46, .ref o47])), (o42, .inl (cI, 49152, .inl fw43))]) H → va_D A ([(o1, .inr (12, [.int v2, .ref o3, .int v5, .ref o6, .int v8, .ref o9, .ref o11, .int v13, .ref o14, .int v16, .ref o17, .int v19, .int v20, .int v21, .ref o22, .ref o24, .ref o26, .ref o28, .ref o30, .int v32, .ref o33, .ref o35, .ref o37, .int v39, .ref o40, .ref o42, .ref o44, .int v46, .ref o47])), (o42, .inl (cI, 49152, .inl fw43))]) → va_S A s.heap H locs → lv_has ls 3 [(2, .int x82), (1, .int x83), (0, .ref o1)] → W p l e ({ frames := 0, cells := 0, slots := 0, locals := 0 }) s m ([.ref o1] : List Value).toArray below meth c H locs 0 0 Q (F0 m 15 ls []) := by
      intro N
      induction N with
      | zero =>
        intro x82 x83 H locs ls hM
        exact absurd hM (Nat.not_lt_zero _)
      | succ N ih1 =>
        intro x82 x83 H locs ls hM1 x82_h hP hD hS hl
        refine lv_iload_n hx hb dX12_lines_15 rfl (lv_at hl 0 rfl) ?_
        refine lv_aload_n hx hb dX12_lines_16 rfl (lv_at hl 2 rfl) ?_
        refine va_get (D := (dC, dI)) (ci := 12) (v := .int v39) (C := RX12) (T := TX12) (N := 29) hx hb hts iw_X12_lines_X12 hown hK hP 0 rfl rfl 23 (by decide) (hts (.fieldLink RX12 191 "HolelessHouseModel" "thingMany" "I") hm_X12_lines_1) (fun _ h9 => h9) rfl dX12_lines_17 ?_
        refine lv_icmp_ge (tgt := 45) hx hb dX12_lines_20 (by decide) (fun h84 => ?_) (fun h84 => ?_)
        ·
          have qh84 := le_i h84
          have j85 : Iv 1 12 x82 := r_ler qh84 j2 x82_h (by decide)
          refine lv_iload_n hx hb dX12_lines_45 rfl (lv_at hl 1 rfl) ?_
          rw [hQ]
          exact W.iret (v := x83) hx hb hr (fun t ht hW => ⟨⟨x83, (), rfl, trivial, by rw [ht]; exact hP, va_K.moved hW.alike hK, hD⟩, hS.F ht⟩) hS.2.2 dX12_lines_46
        ·
          have qh84 := nle_i h84
          have j86 : Iv 0 11 x82 := r_ltl qh84 x82_h j2 (by decide)
          refine lv_iload_n hx hb dX12_lines_23 rfl (lv_at hl 1 rfl) ?_
          refine lv_aload_n hx hb dX12_lines_24 rfl (lv_at hl 2 rfl) ?_
          refine va_get (D := (dC, dI)) (ci := 12) (v := .ref o42) (C := RX12) (T := TX12) (N := 29) hx hb hts iw_X12_lines_X12 hown hK hP 0 rfl rfl 25 (by decide) (hts (.fieldLink RX12 61 "HolelessHouseModel" "counts" "[I") hm_X12_lines_2) (fun _ h9 => h9) rfl dX12_lines_25 ?_
          refine lv_bipush (v := 12) hx hb dX12_lines_28 (by decide) ?_
          refine lv_iconst (v := 1) hx hb dX12_lines_30 (by decide) ?_
          refine lv_iload_n hx hb dX12_lines_31 rfl (lv_at hl 0 rfl) ?_
          refine lv_ishl hx hb dX12_lines_32 (lv_topi (fun x87 x87_e => ?_))
          have x87_h : Iv 1 2048 x87 := iv_e x87_e (iv_shl1 j86 (by decide))
          refine lv_imul hx hb dX12_lines_33 (lv_topi (fun x88 x88_e => ?_))
          have x88_h : Iv 0 24576 x88 := iv_e x88_e (iv_mul ik_12 x87_h (by decide))
          refine lv_iload_n hx hb dX12_lines_34 rfl (lv_at hl 0 rfl) ?_
          refine lv_iadd hx hb dX12_lines_35 (lv_topi (fun x89 x89_e => ?_))
          have x89_h : Iv 0 24587 x89 := iv_e x89_e (iv_add x88_h j86 (by decide))
          refine va_iald hx hb hK hP 1 0 rfl rfl (vin_iv x89_h (by decide)) dX12_lines_36 (lv_topi (fun x90 x90_e => ?_))
          refine lv_iadd hx hb dX12_lines_37 (lv_topi (fun x91 x91_e => ?_))
          refine lv_istore_n (lv' := [(1, .int x91), (2, .int x82), (0, .ref o1)]) hx hb dX12_lines_38 rfl hl (by decide) rfl (fun ls hl => ?_)
          obtain ⟨x92, x92_e⟩ : ∃ z : Int32, z = x82 + 1 := ⟨_, rfl⟩
          have x92_h : Iv 1 12 x92 := iv_e x92_e (iv_add j86 ik_1 (by decide))
          refine lv_iinc (v := x92) (lv' := [(2, .int x92), (1, .int x91), (0, .ref o1)]) hx hb dX12_lines_39 hl (k := 1) rfl (incN (by decide +kernel) x92_e) (by decide) rfl (fun ls hl => ?_)
          refine lv_goto (tgt := 15) hx hb dX12_lines_42 (by decide) ?_
          exact ih1 x92 x91 _ _ _ (ms_up x92_e j86 (by decide) hM1) (iv_w x92_h (by decide)) hP hD hS hl
    exact L1 _ 0 0 _ _ _ (Nat.lt_succ_self _) (iv_w ik_0 (by decide)) hP hD hS hl
  ·
    have j93 : Iv 0 0 v39 := r_eq h1 ik_0
    refine lv_iconst (v := 1) hx hb dX12_lines_7 (by decide) ?_
    refine lv_goto (tgt := 12) hx hb dX12_lines_8 (by decide) ?_
    refine lv_istore_n (lv' := [(1, .int 1), (0, .ref o1)]) hx hb dX12_lines_12 rfl hl (by decide) rfl (fun ls hl => ?_)
    refine lv_iconst (v := 0) hx hb dX12_lines_13 (by decide) ?_
    refine lv_istore_n (lv' := [(2, .int 0), (1, .int 1), (0, .ref o1)]) hx hb dX12_lines_14 rfl hl (by decide) rfl (fun ls hl => ?_)
    refine lv_iload_n hx hb dX12_lines_15 rfl (lv_at hl 0 rfl) ?_
    refine lv_aload_n hx hb dX12_lines_16 rfl (lv_at hl 2 rfl) ?_
    refine va_get (D := (dC, dI)) (ci := 12) (v := .int v39) (C := RX12) (T := TX12) (N := 29) hx hb hts iw_X12_lines_X12 hown hK hP 0 rfl rfl 23 (by decide) (hts (.fieldLink RX12 191 "HolelessHouseModel" "thingMany" "I") hm_X12_lines_1) (fun _ h9 => h9) rfl dX12_lines_17 ?_
    refine lv_icmp_ge (tgt := 45) hx hb dX12_lines_20 (by decide) (fun _ => ?_) (fun h9 => absurd (d_le j93 ik_0 (by decide)) h9)
    refine lv_iload_n hx hb dX12_lines_45 rfl (lv_at hl 1 rfl) ?_
    rw [hQ]
    exact W.iret (v := 1) hx hb hr (fun t ht hW => ⟨⟨1, (), rfl, trivial, by rw [ht]; exact hP, va_K.moved hW.alike hK, hD⟩, hS.F ht⟩) hS.2.2 dX12_lines_46
set_option maxHeartbeats 4000000 in
set_option maxRecDepth 100000 in
theorem kX12_seatings_1 (l : Launch) (dC : Nat → ClassId) (dI : Nat → Nat → Nat) (cI c2 cZ : ClassId) (o1 : Nat) (o3 : Nat) (o6 : Nat) (o9 : Nat) (o11 : Nat) (o14 : Nat) (o17 : Nat) (o22 : Nat) (o24 : Nat) (o26 : Nat) (o28 : Nat) (o30 : Nat) (o33 : Nat) (o35 : Nat) (o37 : Nat) (o40 : Nat) (o42 : Nat) (o44 : Nat) (o47 : Nat) (v2 : Int32) (v5 : Int32) (v8 : Int32) (fw10 : Nat → Int32) (v13 : Int32) (v16 : Int32) (v19 : Int32) (v20 : Int32) (v21 : Int32) (v32 : Int32) (fw38 : Nat → Int32) (v39 : Int32) (fw41 : Nat → Int32) (fw43 : Nat → Int32) (fw45 : Nat → Int32) (v46 : Int32) (sz : Nat) (v5_h : Iv 0 12 v5) (v8_h : Iv 0 8 v8) (fw10_b : Bd 12 (-9) 255 fw10) (v13_h : Iv 0 12 v13) (v16_h : Iv 0 12 v16) (v19_h : Iv (-9) 12 v19) (v32_h : Iv 0 99 v32) (v39_h : Iv 0 12 v39) (fw45_b : Bd 12 0 11 fw45) (v46_h : Iv 0 12 v46) : Met l yX12_seatings wsX12_seatings ({ frames := 4, cells := 0, slots := 0, locals := 93 }) (va_Pc [.ref o1] (wPre (dC, dI) [(cI, .int), (c2, .array .int), (cZ, .boolean)] ([(o1, .inr (12, [.int v2, .ref o3, .int v5, .ref o6, .int v8, .ref o9, .ref o11, .int v13, .ref o14, .int v16, .ref o17, .int v19, .int v20, .int v21, .ref o22, .ref o24, .ref o26, .ref o28, .ref o30, .int v32, .ref o33, .ref o35, .ref o37, .int v39, .ref o40, .ref o42, .ref o44, .int v46, .ref o47])), (o37, .inl (cI, 12, .inl fw38)), (o9, .inl (cI, 12, .inl fw10)), (o42, .inl (cI, 49152, .inl fw43)), (o40, .inl (cZ, 49152, .inl fw41)), (o44, .inl (cI, 12, .inl fw45))]) sz)) (va_Qi (fun (r : Int32) (u : Int32 × Int32 × (Nat → Int32) × (Nat → Int32) × (Nat → Int32) × (Nat → Int32)) => Iv 0 12 u.1 ∧ Iv 0 12 u.2.1 ∧ Bd 12 0 11 u.2.2.2.2.2) (fun u t => wPost (dC, dI) [(cI, .int), (c2, .array .int), (cZ, .boolean)] (va_A ([(o1, .inr (12, [.int v2, .ref o3, .int v5, .ref o6, .int v8, .ref o9, .ref o11, .int v13, .ref o14, .int v16, .ref o17, .int v19, .int v20, .int v21, .ref o22, .ref o24, .ref o26, .ref o28, .ref o30, .int v32, .ref o33, .ref o35, .ref o37, .int v39, .ref o40, .ref o42, .ref o44, .int v46, .ref o47])), (o37, .inl (cI, 12, .inl fw38)), (o9, .inl (cI, 12, .inl fw10)), (o42, .inl (cI, 49152, .inl fw43)), (o40, .inl (cZ, 49152, .inl fw41)), (o44, .inl (cI, 12, .inl fw45))]) sz) ([(o1, .inr (12, [.int v2, .ref o3, .int v5, .ref o6, .int v8, .ref o9, .ref o11, .int v13, .ref o14, .int v16, .ref o17, .int v19, .int v20, .int v21, .ref o22, .ref o24, .ref o26, .ref o28, .ref o30, .int v32, .ref o33, .ref o35, .ref o37, .int u.1, .ref o40, .ref o42, .ref o44, .int u.2.1, .ref o47])), (o37, .inl (cI, 12, .inl u.2.2.1)), (o9, .inl (cI, 12, .inl fw10)), (o42, .inl (cI, 49152, .inl u.2.2.2.1)), (o40, .inl (cZ, 49152, .inl u.2.2.2.2.1)), (o44, .inl (cI, 12, .inl u.2.2.2.2.2))]) t) (va_A ([(o1, .inr (12, [.int v2, .ref o3, .int v5, .ref o6, .int v8, .ref o9, .ref o11, .int v13, .ref o14, .int v16, .ref o17, .int v19, .int v20, .int v21, .ref o22, .ref o24, .ref o26, .ref o28, .ref o30, .int v32, .ref o33, .ref o35, .ref o37, .int v39, .ref o40, .ref o42, .ref o44, .int v46, .ref o47])), (o37, .inl (cI, 12, .inl fw38)), (o9, .inl (cI, 12, .inl fw10)), (o42, .inl (cI, 49152, .inl fw43)), (o40, .inl (cZ, 49152, .inl fw41)), (o44, .inl (cI, 12, .inl fw45))]) sz)) 0 0 (va_A ([(o1, .inr (12, [.int v2, .ref o3, .int v5, .ref o6, .int v8, .ref o9, .ref o11, .int v13, .ref o14, .int v16, .ref o17, .int v19, .int v20, .int v21, .ref o22, .ref o24, .ref o26, .ref o28, .ref o30, .int v32, .ref o33, .ref o35, .ref o37, .int v39, .ref o40, .ref o42, .ref o44, .int v46, .ref o47])), (o37, .inl (cI, 12, .inl fw38)), (o9, .inl (cI, 12, .inl fw10)), (o42, .inl (cI, 49152, .inl fw43)), (o40, .inl (cZ, 49152, .inl fw41)), (o44, .inl (cI, 12, .inl fw45))]) sz) := by
  refine Met.ofW (cc := cX12_seatings) (maxL := 1) (ret := (some .int)) (by decide) rfl ?_
  intro p e s m args below meth c s₁ B hml hv
  obtain ⟨rfl, hsz, hP, hK, hD0, hN⟩ := hv
  have hx := B.exec
  have hb := B.bytes
  have hr := B.returns
  have hts := atoms_spec (ws := wsX12_seatings) B.pre
  have hown : s.vm.findClass RX12 = some m.cls := findClass_of_methodNamed B.named
  have hlocks := B.notSynchronized
  subst hsz
  have hD := hD0.self (sz := s.heap.size)
  generalize hAe : va_A ([(o1, .inr (12, [.int v2, .ref o3, .int v5, .ref o6, .int v8, .ref o9, .ref o11, .int v13, .ref o14, .int v16, .ref o17, .int v19, .int v20, .int v21, .ref o22, .ref o24, .ref o26, .ref o28, .ref o30, .int v32, .ref o33, .ref o35, .ref o37, .int v39, .ref o40, .ref o42, .ref o44, .int v46, .ref o47])), (o37, .inl (cI, 12, .inl fw38)), (o9, .inl (cI, 12, .inl fw10)), (o42, .inl (cI, 49152, .inl fw43)), (o40, .inl (cZ, 49152, .inl fw41)), (o44, .inl (cI, 12, .inl fw45))]) s.heap.size = A at hD ⊢
  have hA : ∀ q : Nat, s.heap.size ≤ q → A q := fun q h => by rw [← hAe]; exact Or.inr h
  have hS : va_S A s.heap s.heap [] := va_S.rf
  have hP : va_P (dC, dI) vwCl ([(o1, .inr (12, [.int v2, .ref o3, .int v5, .ref o6, .int v8, .ref o9, .ref o11, .int v13, .ref o14, .int v16, .ref o17, .int v19, .int v20, .int v21, .ref o22, .ref o24, .ref o26, .ref o28, .ref o30, .int v32, .ref o33, .ref o35, .ref o37, .int v39, .ref o40, .ref o42, .ref o44, .int v46, .ref o47])), (o37, .inl (cI, 12, .inl fw38)), (o9, .inl (cI, 12, .inl fw10)), (o42, .inl (cI, 49152, .inl fw43)), (o40, .inl (cZ, 49152, .inl fw41)), (o44, .inl (cI, 12, .inl fw45))]) s.heap := hP
  have hl := lv_entry ([.ref o1]) (n := 1) (Nat.le_of_ble_eq_true rfl)
  rw [lg_entry_eq]
  generalize (lg_sl ([.ref o1]) ++ List.replicate (1 - (lg_sl ([.ref o1])).length) Slot.unset).toArray = ls at hl ⊢
  have hl : lv_has ls 1 [(0, .ref o1)] := hl
  refine gen_Q (fun Q hQ => ?_)
  refine lv_aload_n hx hb dX12_seatings_0 rfl (lv_at hl 0 rfl) ?_
  refine kc_v (D := (dC, dI)) (S := Int32 × Int32 × (Nat → Int32) × (Nat → Int32) × (Nat → Int32) × (Nat → Int32)) (wc := [(o1, .inr (12, [.int v2, .ref o3, .int v5, .ref o6, .int v8, .ref o9, .ref o11, .int v13, .ref o14, .int v16, .ref o17, .int v19, .int v20, .int v21, .ref o22, .ref o24, .ref o26, .ref o28, .ref o30, .int v32, .ref o33, .ref o35, .ref o37, .int v39, .ref o40, .ref o42, .ref o44, .int v46, .ref o47])), (o37, .inl (cI, 12, .inl fw38)), (o9, .inl (cI, 12, .inl fw10)), (o42, .inl (cI, 49152, .inl fw43)), (o40, .inl (cZ, 49152, .inl fw41)), (o44, .inl (cI, 12, .inl fw45))]) (wr := []) (w1 := fun u => [(o1, .inr (12, [.int v2, .ref o3, .int v5, .ref o6, .int v8, .ref o9, .ref o11, .int v13, .ref o14, .int v16, .ref o17, .int v19, .int v20, .int v21, .ref o22, .ref o24, .ref o26, .ref o28, .ref o30, .int v32, .ref o33, .ref o35, .ref o37, .int u.1, .ref o40, .ref o42, .ref o44, .int u.2.1, .ref o47])), (o37, .inl (cI, 12, .inl u.2.2.1)), (o9, .inl (cI, 12, .inl fw10)), (o42, .inl (cI, 49152, .inl u.2.2.2.1)), (o40, .inl (cZ, 49152, .inl u.2.2.2.2.1)), (o44, .inl (cI, 12, .inl u.2.2.2.2.2))]) (wn := fun u => [(o1, .inr (12, [.int v2, .ref o3, .int v5, .ref o6, .int v8, .ref o9, .ref o11, .int v13, .ref o14, .int v16, .ref o17, .int v19, .int v20, .int v21, .ref o22, .ref o24, .ref o26, .ref o28, .ref o30, .int v32, .ref o33, .ref o35, .ref o37, .int u.1, .ref o40, .ref o42, .ref o44, .int u.2.1, .ref o47])), (o37, .inl (cI, 12, .inl u.2.2.1)), (o9, .inl (cI, 12, .inl fw10)), (o42, .inl (cI, 49152, .inl u.2.2.2.1)), (o40, .inl (cZ, 49152, .inl u.2.2.2.2.1)), (o44, .inl (cI, 12, .inl u.2.2.2.2.2))]) (fun hPc hDc => va_runV (As := []) (rest := []) ⟨hx, hb, hml, hown, hts⟩ (kX12_seat_1 l dC dI cI c2 cZ o1 o3 o6 o9 o11 o14 o17 o22 o24 o26 o28 o30 o33 o35 o37 o40 o42 o44 o47 v2 v5 v8 fw10 v13 v16 v19 v20 v21 v32 fw38 v39 fw41 fw43 fw45 v46 s.heap.size v5_h v8_h fw10_b v13_h v16_h v19_h v32_h v39_h fw45_b v46_h) (cwV 0 hts gX12_seatings_X12_seat rfl rfl rfl (by decide +kernel) ⟨Nat.le_of_ble_eq_true rfl, Nat.le_of_ble_eq_true rfl⟩) (pre_V hPc hK hDc hN (ci := 12) (q0 := 0) rfl rfl) rfl rfl hl.1 rfl (lv_room (Nat.le_of_ble_eq_true rfl)) dX12_seatings_1 ⟨Nat.le_of_ble_eq_true rfl, Nat.le_of_ble_eq_true rfl⟩) hP hD hS hA [0, 1, 2, 3, 4, 5] [] [0, 1, 2, 3, 4, 5] rfl rfl (by decide +kernel) (by decide +kernel) (by decide +kernel) (by decide +kernel) (fun _ => rfl) (fun u H locs hq hP hD hS => ?_)
  obtain ⟨y1, y2, f3, f4, f5, f6⟩ := u
  obtain ⟨y1_h, y2_h, f6_b⟩ := hq
  have y1_h : Iv 0 12 y1 := y1_h
  have y2_h : Iv 0 12 y2 := y2_h
  have f6_b : Bd 12 0 11 f6 := f6_b
  have hP : va_P (dC, dI) vwCl ([(o1, .inr (12, [.int v2, .ref o3, .int v5, .ref o6, .int v8, .ref o9, .ref o11, .int v13, .ref o14, .int v16, .ref o17, .int v19, .int v20, .int v21, .ref o22, .ref o24, .ref o26, .ref o28, .ref o30, .int v32, .ref o33, .ref o35, .ref o37, .int y1, .ref o40, .ref o42, .ref o44, .int y2, .ref o47])), (o37, .inl (cI, 12, .inl f3)), (o9, .inl (cI, 12, .inl fw10)), (o42, .inl (cI, 49152, .inl f4)), (o40, .inl (cZ, 49152, .inl f5)), (o44, .inl (cI, 12, .inl f6))]) H := hP
  have hD : va_D A ([(o1, .inr (12, [.int v2, .ref o3, .int v5, .ref o6, .int v8, .ref o9, .ref o11, .int v13, .ref o14, .int v16, .ref o17, .int v19, .int v20, .int v21, .ref o22, .ref o24, .ref o26, .ref o28, .ref o30, .int v32, .ref o33, .ref o35, .ref o37, .int y1, .ref o40, .ref o42, .ref o44, .int y2, .ref o47])), (o37, .inl (cI, 12, .inl f3)), (o9, .inl (cI, 12, .inl fw10)), (o42, .inl (cI, 49152, .inl f4)), (o40, .inl (cZ, 49152, .inl f5)), (o44, .inl (cI, 12, .inl f6))]) := hD
  refine lv_aload_n hx hb dX12_seatings_4 rfl (lv_at hl 0 rfl) ?_
  refine kc_i (D := (dC, dI)) (S := Unit) (wc := [(o1, .inr (12, [.int v2, .ref o3, .int v5, .ref o6, .int v8, .ref o9, .ref o11, .int v13, .ref o14, .int v16, .ref o17, .int v19, .int v20, .int v21, .ref o22, .ref o24, .ref o26, .ref o28, .ref o30, .int v32, .ref o33, .ref o35, .ref o37, .int y1, .ref o40, .ref o42, .ref o44, .int y2, .ref o47])), (o42, .inl (cI, 49152, .inl f4))]) (wr := [(o37, .inl (cI, 12, .inl f3)), (o9, .inl (cI, 12, .inl fw10)), (o40, .inl (cZ, 49152, .inl f5)), (o44, .inl (cI, 12, .inl f6))]) (w1 := fun _ => [(o1, .inr (12, [.int v2, .ref o3, .int v5, .ref o6, .int v8, .ref o9, .ref o11, .int v13, .ref o14, .int v16, .ref o17, .int v19, .int v20, .int v21, .ref o22, .ref o24, .ref o26, .ref o28, .ref o30, .int v32, .ref o33, .ref o35, .ref o37, .int y1, .ref o40, .ref o42, .ref o44, .int y2, .ref o47])), (o42, .inl (cI, 49152, .inl f4))]) (wn := fun _ => [(o1, .inr (12, [.int v2, .ref o3, .int v5, .ref o6, .int v8, .ref o9, .ref o11, .int v13, .ref o14, .int v16, .ref o17, .int v19, .int v20, .int v21, .ref o22, .ref o24, .ref o26, .ref o28, .ref o30, .int v32, .ref o33, .ref o35, .ref o37, .int y1, .ref o40, .ref o42, .ref o44, .int y2, .ref o47])), (o37, .inl (cI, 12, .inl f3)), (o9, .inl (cI, 12, .inl fw10)), (o42, .inl (cI, 49152, .inl f4)), (o40, .inl (cZ, 49152, .inl f5)), (o44, .inl (cI, 12, .inl f6))]) (fun hPc hDc => va_runV (As := []) (rest := []) ⟨hx, hb, hml, hown, hts⟩ (kX12_lines_1 l dC dI cI c2 cZ o1 o3 o6 o9 o11 o14 o17 o22 o24 o26 o28 o30 o33 o35 o37 o40 o42 o44 o47 v2 v5 v8 v13 v16 v19 v20 v21 v32 y1 f4 y2 H.size v5_h v8_h v13_h v16_h v19_h v32_h y1_h y2_h) (cwV 0 hts gX12_seatings_X12_lines rfl rfl rfl (by decide +kernel) ⟨Nat.le_of_ble_eq_true rfl, Nat.le_of_ble_eq_true rfl⟩) (pre_V hPc hK hDc hN (ci := 12) (q0 := 0) rfl rfl) rfl rfl hl.1 rfl (lv_room (Nat.le_of_ble_eq_true rfl)) dX12_seatings_5 ⟨Nat.le_of_ble_eq_true rfl, Nat.le_of_ble_eq_true rfl⟩) hP hD hS hA [0, 3] [1, 2, 4, 5] [4, 0, 1, 5, 2, 3] rfl rfl (by decide +kernel) (by decide +kernel) (by decide +kernel) (by decide +kernel) (fun _ => rfl) (fun x7 _ H locs hq hP hD hS => ?_)
  have hP : va_P (dC, dI) vwCl ([(o1, .inr (12, [.int v2, .ref o3, .int v5, .ref o6, .int v8, .ref o9, .ref o11, .int v13, .ref o14, .int v16, .ref o17, .int v19, .int v20, .int v21, .ref o22, .ref o24, .ref o26, .ref o28, .ref o30, .int v32, .ref o33, .ref o35, .ref o37, .int y1, .ref o40, .ref o42, .ref o44, .int y2, .ref o47])), (o37, .inl (cI, 12, .inl f3)), (o9, .inl (cI, 12, .inl fw10)), (o42, .inl (cI, 49152, .inl f4)), (o40, .inl (cZ, 49152, .inl f5)), (o44, .inl (cI, 12, .inl f6))]) H := hP
  have hD : va_D A ([(o1, .inr (12, [.int v2, .ref o3, .int v5, .ref o6, .int v8, .ref o9, .ref o11, .int v13, .ref o14, .int v16, .ref o17, .int v19, .int v20, .int v21, .ref o22, .ref o24, .ref o26, .ref o28, .ref o30, .int v32, .ref o33, .ref o35, .ref o37, .int y1, .ref o40, .ref o42, .ref o44, .int y2, .ref o47])), (o37, .inl (cI, 12, .inl f3)), (o9, .inl (cI, 12, .inl fw10)), (o42, .inl (cI, 49152, .inl f4)), (o40, .inl (cZ, 49152, .inl f5)), (o44, .inl (cI, 12, .inl f6))]) := hD
  rw [hQ]
  exact W.iret (v := x7) hx hb hr (fun t ht hW => ⟨⟨x7, (y1, y2, f3, f4, f5, f6), rfl, ⟨y1_h, y2_h, f6_b⟩, by rw [ht]; exact hP, va_K.moved hW.alike hK, hD⟩, hS.F ht⟩) hS.2.2 dX12_seatings_8
