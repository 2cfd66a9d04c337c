theorem hm_X12_seat__1 : (.fieldLink RX12 197 "HolelessHouseModel" "lined" "I" : Cond) ∈ wsX12_seat_ := List.mem_of_getElem? (i := 1) rfl
theorem hm_X12_seat__2 : (.fieldLink RX12 128 "HolelessHouseModel" "columns" "I" : Cond) ∈ wsX12_seat_ := List.mem_of_getElem? (i := 2) rfl
theorem hm_X12_seat__3 : (.fieldLink RX12 64 "HolelessHouseModel" "line" "[I" : Cond) ∈ wsX12_seat_ := List.mem_of_getElem? (i := 3) rfl
theorem hm_X12_count_2 : (.fieldLink RX12 73 "HolelessHouseModel" "n" "I" : Cond) ∈ wsX12_count := List.mem_of_getElem? (i := 2) rfl
theorem hm_X12_count_3 : (.fieldLink RX12 128 "HolelessHouseModel" "columns" "I" : Cond) ∈ wsX12_count := List.mem_of_getElem? (i := 3) rfl
theorem hm_X12_count_4 : (.fieldLink RX12 80 "HolelessHouseModel" "drafted" "I" : Cond) ∈ wsX12_count := List.mem_of_getElem? (i := 4) rfl
theorem hm_X12_count_1 : (.fieldLink RX12 16 "HolelessHouseModel" "rows" "[I" : Cond) ∈ wsX12_count := List.mem_of_getElem? (i := 1) rfl
theorem hm_X12_finding_1 : (.fieldLink RX12 70 "HolelessHouseModel" "finding" "I" : Cond) ∈ wsX12_finding := List.mem_of_getElem? (i := 1) rfl
theorem hm_X12_findings_1 : (.fieldLink RX12 7 "HolelessHouseModel" "findings" "[I" : Cond) ∈ wsX12_findings := List.mem_of_getElem? (i := 1) rfl
theorem hm_X12_digest_1 : (.constantLong RX12 217 (527) : Cond) ∈ wsX12_digest := List.mem_of_getElem? (i := 1) rfl
theorem hm_X12_digest_2 : (.fieldLink RX12 73 "HolelessHouseModel" "n" "I" : Cond) ∈ wsX12_digest := List.mem_of_getElem? (i := 2) rfl
theorem hm_X12_digest_5 : (.fieldLink RX12 28 "HolelessHouseModel" "ordered" "I" : Cond) ∈ wsX12_digest := List.mem_of_getElem? (i := 5) rfl
theorem hm_X12_digest_3 : (.constantLong RX12 219 (31) : Cond) ∈ wsX12_digest := List.mem_of_getElem? (i := 3) rfl
theorem hm_X12_digest_7 : (.fieldLink RX12 128 "HolelessHouseModel" "columns" "I" : Cond) ∈ wsX12_digest := List.mem_of_getElem? (i := 7) rfl
theorem hm_X12_digest_9 : (.fieldLink RX12 80 "HolelessHouseModel" "drafted" "I" : Cond) ∈ wsX12_digest := List.mem_of_getElem? (i := 9) rfl
theorem hm_X12_digest_10 : (.fieldLink RX12 22 "HolelessHouseModel" "draft" "[I" : Cond) ∈ wsX12_digest := List.mem_of_getElem? (i := 10) rfl
theorem hm_X12_digest_8 : (.fieldLink RX12 16 "HolelessHouseModel" "rows" "[I" : Cond) ∈ wsX12_digest := List.mem_of_getElem? (i := 8) rfl
theorem hm_X12_digest_6 : (.fieldLink RX12 25 "HolelessHouseModel" "order" "[I" : Cond) ∈ wsX12_digest := List.mem_of_getElem? (i := 6) rfl
theorem hm_X12_digest_4 : (.fieldLink RX12 13 "HolelessHouseModel" "near" "[I" : Cond) ∈ wsX12_digest := List.mem_of_getElem? (i := 4) rfl
set_option maxHeartbeats 4000000 in
set_option maxRecDepth 100000 in
theorem kX12_in_10 (l : Launch) (dC : Nat → ClassId) (dI : Nat → Nat → Nat) (cI c2 cZ : ClassId) (a0 : Int32) (a1 : Int32) (a2 : Int32) (sz : Nat) (a1_h : Iv 0 0 a1) (a2_h : Iv (-1) 8 a2) : Met l yX12_in wsX12_in ({ frames := 0, cells := 0, slots := 0, locals := 0 }) (va_Pc [.int a0, .int a1, .int a2] (wPre (dC, dI) [(cI, .int), (c2, .array .int), (cZ, .boolean)] ([]) sz)) (va_Qi (fun (r : Int32) (_ : Unit) => Iv 0 1 r ∧ (¬ r = 0 → Iv 0 8 a0) ∧ (¬ r = 0 → Iv 0 8 a2) ∧ (¬ r = 0 → Int32.toInt a1 ≤ Int32.toInt a0 ∧ Int32.toInt a0 ≤ Int32.toInt a2)) (fun _ t => wPost (dC, dI) [(cI, .int), (c2, .array .int), (cZ, .boolean)] (va_A ([]) sz) ([]) t) (va_A ([]) sz)) 0 0 (va_A ([]) sz) := by
  refine Met.ofW (cc := cX12_in) (maxL := 3) (ret := (some .boolean)) (by decide) rfl ?_
  intro p e s m args below meth c s₁ B hml hv
  obtain ⟨rfl, hsz, hP, hK, hD0, hN⟩ := hv
  have hx := B.exec
  have hb := B.bytes
  have hr := B.returns
  have hts := atoms_spec (ws := wsX12_in) B.pre
  have hown : s.vm.findClass RX12 = some m.cls := findClass_of_methodNamed B.named
  have hlocks := B.notSynchronized
  subst hsz
  have hD := hD0.self (sz := s.heap.size)
  generalize hAe : va_A ([]) s.heap.size = A at hD ⊢
  have hA : ∀ q : Nat, s.heap.size ≤ q → A q := fun q h => by rw [← hAe]; exact Or.inr h
  have hS : va_S A s.heap s.heap [] := va_S.rf
  have hP : va_P (dC, dI) vwCl ([]) s.heap := hP
  have hl := lv_entry ([.int a0, .int a1, .int a2]) (n := 3) (Nat.le_of_ble_eq_true rfl)
  rw [lg_entry_eq]
  generalize (lg_sl ([.int a0, .int a1, .int a2]) ++ List.replicate (3 - (lg_sl ([.int a0, .int a1, .int a2])).length) Slot.unset).toArray = ls at hl ⊢
  have hl : lv_has ls 3 [(0, .int a0), (1, .int a1), (2, .int a2)] := hl
  refine gen_Q (fun Q hQ => ?_)
  refine lv_iload_n hx hb dX12_in_0 rfl (lv_at hl 0 rfl) ?_
  refine lv_iload_n hx hb dX12_in_1 rfl (lv_at hl 1 rfl) ?_
  refine lv_icmp_lt (tgt := 14) hx hb dX12_in_2 (by decide) (fun h1 => ?_) (fun h1 => ?_)
  ·
    have qh1 := lt_i h1
    have j2 : Iv (-2147483648) (-1) a0 := r_ltl qh1 (iv_full a0) a1_h (by decide)
    refine lv_iconst (v := 0) hx hb dX12_in_14 (by decide) ?_
    rw [hQ]
    exact W.zret (v := 0) (ty := .boolean) hx hb hr rfl (fun t ht hW => ⟨⟨0, (), rfl, ⟨(iv_w ik_0 (by decide)), (fun h8 => absurd rfl h8), (fun h8 => absurd rfl h8), (fun h8 => absurd rfl h8)⟩, by rw [ht]; exact hP, va_K.moved hW.alike hK, hD⟩, hS.F ht⟩) hS.2.2 dX12_in_15
  ·
    have qh1 := nlt_i h1
    have j3 : Iv 0 2147483647 a0 := r_ler qh1 a1_h (iv_full a0) (by decide)
    refine lv_iload_n hx hb dX12_in_5 rfl (lv_at hl 0 rfl) ?_
    refine lv_iload_n hx hb dX12_in_6 rfl (lv_at hl 2 rfl) ?_
    refine lv_icmp_gt (tgt := 14) hx hb dX12_in_7 (by decide) (fun h4 => ?_) (fun h4 => ?_)
    ·
      have qh4 := lt_i h4
      refine lv_iconst (v := 0) hx hb dX12_in_14 (by decide) ?_
      rw [hQ]
      exact W.zret (v := 0) (ty := .boolean) hx hb hr rfl (fun t ht hW => ⟨⟨0, (), rfl, ⟨(iv_w ik_0 (by decide)), (fun h8 => absurd rfl h8), (fun h8 => absurd rfl h8), (fun h8 => absurd rfl h8)⟩, by rw [ht]; exact hP, va_K.moved hW.alike hK, hD⟩, hS.F ht⟩) hS.2.2 dX12_in_15
    ·
      have qh4 := nlt_i h4
      have j5 : Iv 0 8 a0 := r_lel qh4 j3 a2_h (by decide)
      have j6 : Iv 0 8 a2 := r_ler qh4 j3 a2_h (by decide)
      refine lv_iconst (v := 1) hx hb dX12_in_10 (by decide) ?_
      refine lv_goto (tgt := 15) hx hb dX12_in_11 (by decide) ?_
      rw [hQ]
      exact W.zret (v := 1) (ty := .boolean) hx hb hr rfl (fun t ht hW => ⟨⟨1, (), rfl, ⟨(iv_w ik_1 (by decide)), (fun _ => j5), (fun _ => j6), (fun _ => ⟨qh1, qh4⟩)⟩, by rw [ht]; exact hP, va_K.moved hW.alike hK, hD⟩, hS.F ht⟩) hS.2.2 dX12_in_15
theorem iw_X12_seat__X12 : ∀ w ∈ wsX120, w ∈ wsX12_seat_ := fun _ h => List.mem_cons.mpr (Or.inr (List.mem_append.mpr (Or.inr h)))
set_option maxHeartbeats 4000000 in
set_option maxRecDepth 100000 in
theorem kX12_seat__1 (l : Launch) (dC : Nat → ClassId) (dI : Nat → Nat → Nat) (cI c2 cZ : ClassId) (o1 : Nat) (o3 : Nat) (o6 : Nat) (o9 : Nat) (o11 : Nat) (o14 : Nat) (o17 : Nat) (o22 : Nat) (o24 : Nat) (o26 : Nat) (o28 : Nat) (o30 : Nat) (o33 : Nat) (o35 : Nat) (o37 : Nat) (o40 : Nat) (o42 : Nat) (o44 : Nat) (o47 : Nat) (v2 : Int32) (v5 : Int32) (v8 : Int32) (fw10 : Nat → Int32) (v13 : Int32) (v16 : Int32) (v19 : Int32) (v20 : Int32) (v21 : Int32) (v32 : Int32) (fw38 : Nat → Int32) (v39 : Int32) (fw41 : Nat → Int32) (fw43 : Nat → Int32) (fw45 : Nat → Int32) (v46 : Int32) (a1 : Int32) (sz : Nat) (v5_h : Iv 0 12 v5) (v8_h : Iv 0 8 v8) (fw10_b : Bd 12 (-9) 255 fw10) (v13_h : Iv 0 12 v13) (v16_h : Iv 0 12 v16) (v19_h : Iv (-9) 12 v19) (v32_h : Iv 0 99 v32) (v39_h : Iv 0 12 v39) (fw45_b : Bd 12 0 11 fw45) (v46_h : Iv 0 12 v46) : Met l yX12_seat_ wsX12_seat_ ({ frames := 4, cells := 0, slots := 0, locals := 93 }) (va_Pc [.ref o1, .int a1] (wPre (dC, dI) [(cI, .int), (c2, .array .int), (cZ, .boolean)] ([(o1, .inr (12, [.int v2, .ref o3, .int v5, .ref o6, .int v8, .ref o9, .ref o11, .int v13, .ref o14, .int v16, .ref o17, .int v19, .int v20, .int v21, .ref o22, .ref o24, .ref o26, .ref o28, .ref o30, .int v32, .ref o33, .ref o35, .ref o37, .int v39, .ref o40, .ref o42, .ref o44, .int v46, .ref o47])), (o37, .inl (cI, 12, .inl fw38)), (o9, .inl (cI, 12, .inl fw10)), (o42, .inl (cI, 49152, .inl fw43)), (o40, .inl (cZ, 49152, .inl fw41)), (o44, .inl (cI, 12, .inl fw45))]) sz)) (va_Qi (fun (r : Int32) (u : Int32 × Int32 × (Nat → Int32) × (Nat → Int32) × (Nat → Int32) × (Nat → Int32)) => Iv (-9) 11 r ∧ Iv 0 12 u.1 ∧ Iv 0 12 u.2.1 ∧ Bd 12 0 11 u.2.2.2.2.2) (fun u t => wPost (dC, dI) [(cI, .int), (c2, .array .int), (cZ, .boolean)] (va_A ([(o1, .inr (12, [.int v2, .ref o3, .int v5, .ref o6, .int v8, .ref o9, .ref o11, .int v13, .ref o14, .int v16, .ref o17, .int v19, .int v20, .int v21, .ref o22, .ref o24, .ref o26, .ref o28, .ref o30, .int v32, .ref o33, .ref o35, .ref o37, .int v39, .ref o40, .ref o42, .ref o44, .int v46, .ref o47])), (o37, .inl (cI, 12, .inl fw38)), (o9, .inl (cI, 12, .inl fw10)), (o42, .inl (cI, 49152, .inl fw43)), (o40, .inl (cZ, 49152, .inl fw41)), (o44, .inl (cI, 12, .inl fw45))]) sz) ([(o1, .inr (12, [.int v2, .ref o3, .int v5, .ref o6, .int v8, .ref o9, .ref o11, .int v13, .ref o14, .int v16, .ref o17, .int v19, .int v20, .int v21, .ref o22, .ref o24, .ref o26, .ref o28, .ref o30, .int v32, .ref o33, .ref o35, .ref o37, .int u.1, .ref o40, .ref o42, .ref o44, .int u.2.1, .ref o47])), (o37, .inl (cI, 12, .inl u.2.2.1)), (o9, .inl (cI, 12, .inl fw10)), (o42, .inl (cI, 49152, .inl u.2.2.2.1)), (o40, .inl (cZ, 49152, .inl u.2.2.2.2.1)), (o44, .inl (cI, 12, .inl u.2.2.2.2.2))]) t) (va_A ([(o1, .inr (12, [.int v2, .ref o3, .int v5, .ref o6, .int v8, .ref o9, .ref o11, .int v13, .ref o14, .int v16, .ref o17, .int v19, .int v20, .int v21, .ref o22, .ref o24, .ref o26, .ref o28, .ref o30, .int v32, .ref o33, .ref o35, .ref o37, .int v39, .ref o40, .ref o42, .ref o44, .int v46, .ref o47])), (o37, .inl (cI, 12, .inl fw38)), (o9, .inl (cI, 12, .inl fw10)), (o42, .inl (cI, 49152, .inl fw43)), (o40, .inl (cZ, 49152, .inl fw41)), (o44, .inl (cI, 12, .inl fw45))]) sz)) 0 0 (va_A ([(o1, .inr (12, [.int v2, .ref o3, .int v5, .ref o6, .int v8, .ref o9, .ref o11, .int v13, .ref o14, .int v16, .ref o17, .int v19, .int v20, .int v21, .ref o22, .ref o24, .ref o26, .ref o28, .ref o30, .int v32, .ref o33, .ref o35, .ref o37, .int v39, .ref o40, .ref o42, .ref o44, .int v46, .ref o47])), (o37, .inl (cI, 12, .inl fw38)), (o9, .inl (cI, 12, .inl fw10)), (o42, .inl (cI, 49152, .inl fw43)), (o40, .inl (cZ, 49152, .inl fw41)), (o44, .inl (cI, 12, .inl fw45))]) sz) := by
  refine Met.ofW (cc := cX12_seat_) (maxL := 2) (ret := (some .int)) (by decide) rfl ?_
  intro p e s m args below meth c s₁ B hml hv
  obtain ⟨rfl, hsz, hP, hK, hD0, hN⟩ := hv
  have hx := B.exec
  have hb := B.bytes
  have hr := B.returns
  have hts := atoms_spec (ws := wsX12_seat_) B.pre
  have hown : s.vm.findClass RX12 = some m.cls := findClass_of_methodNamed B.named
  have hlocks := B.notSynchronized
  subst hsz
  have hD := hD0.self (sz := s.heap.size)
  generalize hAe : va_A ([(o1, .inr (12, [.int v2, .ref o3, .int v5, .ref o6, .int v8, .ref o9, .ref o11, .int v13, .ref o14, .int v16, .ref o17, .int v19, .int v20, .int v21, .ref o22, .ref o24, .ref o26, .ref o28, .ref o30, .int v32, .ref o33, .ref o35, .ref o37, .int v39, .ref o40, .ref o42, .ref o44, .int v46, .ref o47])), (o37, .inl (cI, 12, .inl fw38)), (o9, .inl (cI, 12, .inl fw10)), (o42, .inl (cI, 49152, .inl fw43)), (o40, .inl (cZ, 49152, .inl fw41)), (o44, .inl (cI, 12, .inl fw45))]) s.heap.size = A at hD ⊢
  have hA : ∀ q : Nat, s.heap.size ≤ q → A q := fun q h => by rw [← hAe]; exact Or.inr h
  have hS : va_S A s.heap s.heap [] := va_S.rf
  have hP : va_P (dC, dI) vwCl ([(o1, .inr (12, [.int v2, .ref o3, .int v5, .ref o6, .int v8, .ref o9, .ref o11, .int v13, .ref o14, .int v16, .ref o17, .int v19, .int v20, .int v21, .ref o22, .ref o24, .ref o26, .ref o28, .ref o30, .int v32, .ref o33, .ref o35, .ref o37, .int v39, .ref o40, .ref o42, .ref o44, .int v46, .ref o47])), (o37, .inl (cI, 12, .inl fw38)), (o9, .inl (cI, 12, .inl fw10)), (o42, .inl (cI, 49152, .inl fw43)), (o40, .inl (cZ, 49152, .inl fw41)), (o44, .inl (cI, 12, .inl fw45))]) s.heap := hP
  have hl := lv_entry ([.ref o1, .int a1]) (n := 2) (Nat.le_of_ble_eq_true rfl)
  rw [lg_entry_eq]
  generalize (lg_sl ([.ref o1, .int a1]) ++ List.replicate (2 - (lg_sl ([.ref o1, .int a1])).length) Slot.unset).toArray = ls at hl ⊢
  have hl : lv_has ls 2 [(0, .ref o1), (1, .int a1)] := hl
  refine gen_Q (fun Q hQ => ?_)
  refine lv_aload_n hx hb dX12_seat__0 rfl (lv_at hl 0 rfl) ?_
  refine kc_v (D := (dC, dI)) (S := Int32 × Int32 × (Nat → Int32) × (Nat → Int32) × (Nat → Int32) × (Nat → Int32)) (wc := [(o1, .inr (12, [.int v2, .ref o3, .int v5, .ref o6, .int v8, .ref o9, .ref o11, .int v13, .ref o14, .int v16, .ref o17, .int v19, .int v20, .int v21, .ref o22, .ref o24, .ref o26, .ref o28, .ref o30, .int v32, .ref o33, .ref o35, .ref o37, .int v39, .ref o40, .ref o42, .ref o44, .int v46, .ref o47])), (o37, .inl (cI, 12, .inl fw38)), (o9, .inl (cI, 12, .inl fw10)), (o42, .inl (cI, 49152, .inl fw43)), (o40, .inl (cZ, 49152, .inl fw41)), (o44, .inl (cI, 12, .inl fw45))]) (wr := []) (w1 := fun u => [(o1, .inr (12, [.int v2, .ref o3, .int v5, .ref o6, .int v8, .ref o9, .ref o11, .int v13, .ref o14, .int v16, .ref o17, .int v19, .int v20, .int v21, .ref o22, .ref o24, .ref o26, .ref o28, .ref o30, .int v32, .ref o33, .ref o35, .ref o37, .int u.1, .ref o40, .ref o42, .ref o44, .int u.2.1, .ref o47])), (o37, .inl (cI, 12, .inl u.2.2.1)), (o9, .inl (cI, 12, .inl fw10)), (o42, .inl (cI, 49152, .inl u.2.2.2.1)), (o40, .inl (cZ, 49152, .inl u.2.2.2.2.1)), (o44, .inl (cI, 12, .inl u.2.2.2.2.2))]) (wn := fun u => [(o1, .inr (12, [.int v2, .ref o3, .int v5, .ref o6, .int v8, .ref o9, .ref o11, .int v13, .ref o14, .int v16, .ref o17, .int v19, .int v20, .int v21, .ref o22, .ref o24, .ref o26, .ref o28, .ref o30, .int v32, .ref o33, .ref o35, .ref o37, .int u.1, .ref o40, .ref o42, .ref o44, .int u.2.1, .ref o47])), (o37, .inl (cI, 12, .inl u.2.2.1)), (o9, .inl (cI, 12, .inl fw10)), (o42, .inl (cI, 49152, .inl u.2.2.2.1)), (o40, .inl (cZ, 49152, .inl u.2.2.2.2.1)), (o44, .inl (cI, 12, .inl u.2.2.2.2.2))]) (fun hPc hDc => va_runV (As := []) (rest := []) ⟨hx, hb, hml, hown, hts⟩ (kX12_seat_1 l dC dI cI c2 cZ o1 o3 o6 o9 o11 o14 o17 o22 o24 o26 o28 o30 o33 o35 o37 o40 o42 o44 o47 v2 v5 v8 fw10 v13 v16 v19 v20 v21 v32 fw38 v39 fw41 fw43 fw45 v46 s.heap.size v5_h v8_h fw10_b v13_h v16_h v19_h v32_h v39_h fw45_b v46_h) (cwV 0 hts gX12_seat__X12_seat rfl rfl rfl (by decide +kernel) ⟨Nat.le_of_ble_eq_true rfl, Nat.le_of_ble_eq_true rfl⟩) (pre_V hPc hK hDc hN (ci := 12) (q0 := 0) rfl rfl) rfl rfl hl.1 rfl (lv_room (Nat.le_of_ble_eq_true rfl)) dX12_seat__1 ⟨Nat.le_of_ble_eq_true rfl, Nat.le_of_ble_eq_true rfl⟩) hP hD hS hA [0, 1, 2, 3, 4, 5] [] [0, 1, 2, 3, 4, 5] rfl rfl (by decide +kernel) (by decide +kernel) (by decide +kernel) (by decide +kernel) (fun _ => rfl) (fun u H locs hq hP hD hS => ?_)
  obtain ⟨y1, y2, f3, f4, f5, f6⟩ := u
  obtain ⟨y1_h, y2_h, f6_b⟩ := hq
  have y1_h : Iv 0 12 y1 := y1_h
  have y2_h : Iv 0 12 y2 := y2_h
  have f6_b : Bd 12 0 11 f6 := f6_b
  have hP : va_P (dC, dI) vwCl ([(o1, .inr (12, [.int v2, .ref o3, .int v5, .ref o6, .int v8, .ref o9, .ref o11, .int v13, .ref o14, .int v16, .ref o17, .int v19, .int v20, .int v21, .ref o22, .ref o24, .ref o26, .ref o28, .ref o30, .int v32, .ref o33, .ref o35, .ref o37, .int y1, .ref o40, .ref o42, .ref o44, .int y2, .ref o47])), (o37, .inl (cI, 12, .inl f3)), (o9, .inl (cI, 12, .inl fw10)), (o42, .inl (cI, 49152, .inl f4)), (o40, .inl (cZ, 49152, .inl f5)), (o44, .inl (cI, 12, .inl f6))]) H := hP
  have hD : va_D A ([(o1, .inr (12, [.int v2, .ref o3, .int v5, .ref o6, .int v8, .ref o9, .ref o11, .int v13, .ref o14, .int v16, .ref o17, .int v19, .int v20, .int v21, .ref o22, .ref o24, .ref o26, .ref o28, .ref o30, .int v32, .ref o33, .ref o35, .ref o37, .int y1, .ref o40, .ref o42, .ref o44, .int y2, .ref o47])), (o37, .inl (cI, 12, .inl f3)), (o9, .inl (cI, 12, .inl fw10)), (o42, .inl (cI, 49152, .inl f4)), (o40, .inl (cZ, 49152, .inl f5)), (o44, .inl (cI, 12, .inl f6))]) := hD
  refine lv_aload_n hx hb dX12_seat__4 rfl (lv_at hl 0 rfl) ?_
  refine va_get (D := (dC, dI)) (ci := 12) (v := .int y2) (C := RX12) (T := TX12) (N := 29) hx hb hts iw_X12_seat__X12 hown hK hP 0 rfl rfl 27 (by decide) (hts (.fieldLink RX12 197 "HolelessHouseModel" "lined" "I") hm_X12_seat__1) (fun _ h9 => h9) rfl dX12_seat__5 ?_
  refine lv_aload_n hx hb dX12_seat__8 rfl (lv_at hl 0 rfl) ?_
  refine va_get (D := (dC, dI)) (ci := 12) (v := .int v8) (C := RX12) (T := TX12) (N := 29) hx hb hts iw_X12_seat__X12 hown hK hP 0 rfl rfl 4 (by decide) (hts (.fieldLink RX12 128 "HolelessHouseModel" "columns" "I") hm_X12_seat__2) (fun _ h9 => h9) rfl dX12_seat__9 ?_
  refine lv_icmp_ne (tgt := 38) hx hb dX12_seat__12 (by decide) (fun h7 => ?_) (fun h7 => ?_)
  ·
    refine lv_bipush (v := (-9)) hx hb dX12_seat__38 (by decide) ?_
    rw [hQ]
    exact W.iret (v := (-9)) hx hb hr (fun t ht hW => ⟨⟨(-9), (y1, y2, f3, f4, f5, f6), rfl, ⟨(iv_w ikm_9 (by decide)), y1_h, y2_h, f6_b⟩, by rw [ht]; exact hP, va_K.moved hW.alike hK, hD⟩, hS.F ht⟩) hS.2.2 dX12_seat__40
  ·
    have j8 : Iv 0 8 y2 := r_eq h7 v8_h
    refine lv_iload_n hx hb dX12_seat__15 rfl (lv_at hl 1 rfl) ?_
    refine lv_iconst (v := 0) hx hb dX12_seat__16 (by decide) ?_
    refine lv_aload_n hx hb dX12_seat__17 rfl (lv_at hl 0 rfl) ?_
    refine va_get (D := (dC, dI)) (ci := 12) (v := .int y2) (C := RX12) (T := TX12) (N := 29) hx hb hts iw_X12_seat__X12 hown hK hP 0 rfl rfl 27 (by decide) (hts (.fieldLink RX12 197 "HolelessHouseModel" "lined" "I") hm_X12_seat__1) (fun _ h9 => h9) rfl dX12_seat__18 ?_
    refine lv_iconst (v := 1) hx hb dX12_seat__21 (by decide) ?_
    refine lv_isub hx hb dX12_seat__22 (lv_topi (fun x9 x9_e => ?_))
    have x9_h : Iv (-1) 7 x9 := iv_e x9_e (iv_sub j8 ik_1 (by decide))
    refine kc_i (D := (dC, dI)) (S := Unit) (wc := []) (wr := [(o1, .inr (12, [.int v2, .ref o3, .int v5, .ref o6, .int v8, .ref o9, .ref o11, .int v13, .ref o14, .int v16, .ref o17, .int v19, .int v20, .int v21, .ref o22, .ref o24, .ref o26, .ref o28, .ref o30, .int v32, .ref o33, .ref o35, .ref o37, .int y1, .ref o40, .ref o42, .ref o44, .int y2, .ref o47])), (o37, .inl (cI, 12, .inl f3)), (o9, .inl (cI, 12, .inl fw10)), (o42, .inl (cI, 49152, .inl f4)), (o40, .inl (cZ, 49152, .inl f5)), (o44, .inl (cI, 12, .inl f6))]) (w1 := fun _ => []) (wn := fun _ => [(o1, .inr (12, [.int v2, .ref o3, .int v5, .ref o6, .int v8, .ref o9, .ref o11, .int v13, .ref o14, .int v16, .ref o17, .int v19, .int v20, .int v21, .ref o22, .ref o24, .ref o26, .ref o28, .ref o30, .int v32, .ref o33, .ref o35, .ref o37, .int y1, .ref o40, .ref o42, .ref o44, .int y2, .ref o47])), (o37, .inl (cI, 12, .inl f3)), (o9, .inl (cI, 12, .inl fw10)), (o42, .inl (cI, 49152, .inl f4)), (o40, .inl (cZ, 49152, .inl f5)), (o44, .inl (cI, 12, .inl f6))]) (fun hPc hDc => va_runS (As := [.int a1, .int 0, .int x9]) (rest := []) ⟨hx, hb, hml, hown, hts⟩ (kX12_in_10 l dC dI cI c2 cZ a1 0 x9 H.size ik_0 (iv_w x9_h (by decide))) (va_cwS 3 hts gX12_seat__X12_in rfl rfl rfl (by decide +kernel) ⟨Nat.le_of_ble_eq_true rfl, Nat.le_of_ble_eq_true rfl⟩) (pre_S hPc hK hDc hN) rfl rfl hl.1 rfl (lv_room (Nat.le_of_ble_eq_true rfl)) dX12_seat__23 ⟨Nat.le_of_ble_eq_true rfl, Nat.le_of_ble_eq_true rfl⟩) hP hD hS hA [] [0, 1, 2, 3, 4, 5] [0, 1, 2, 3, 4, 5] rfl rfl (by decide +kernel) (by decide +kernel) (by decide +kernel) (by decide +kernel) (fun _ => rfl) (fun x10 _ H locs hq hP hD hS => ?_)
    obtain ⟨x10_h, i11, i12, e13⟩ := hq
    have hP : va_P (dC, dI) vwCl ([(o1, .inr (12, [.int v2, .ref o3, .int v5, .ref o6, .int v8, .ref o9, .ref o11, .int v13, .ref o14, .int v16, .ref o17, .int v19, .int v20, .int v21, .ref o22, .ref o24, .ref o26, .ref o28, .ref o30, .int v32, .ref o33, .ref o35, .ref o37, .int y1, .ref o40, .ref o42, .ref o44, .int y2, .ref o47])), (o37, .inl (cI, 12, .inl f3)), (o9, .inl (cI, 12, .inl fw10)), (o42, .inl (cI, 49152, .inl f4)), (o40, .inl (cZ, 49152, .inl f5)), (o44, .inl (cI, 12, .inl f6))]) H := hP
    have hD : va_D A ([(o1, .inr (12, [.int v2, .ref o3, .int v5, .ref o6, .int v8, .ref o9, .ref o11, .int v13, .ref o14, .int v16, .ref o17, .int v19, .int v20, .int v21, .ref o22, .ref o24, .ref o26, .ref o28, .ref o30, .int v32, .ref o33, .ref o35, .ref o37, .int y1, .ref o40, .ref o42, .ref o44, .int y2, .ref o47])), (o37, .inl (cI, 12, .inl f3)), (o9, .inl (cI, 12, .inl fw10)), (o42, .inl (cI, 49152, .inl f4)), (o40, .inl (cZ, 49152, .inl f5)), (o44, .inl (cI, 12, .inl f6))]) := hD
    refine lv_if_eq (tgt := 38) hx hb dX12_seat__26 (by decide) (fun h14 => ?_) (fun h14 => ?_)
    ·
      have j15 : Iv 0 0 x10 := r_eq h14 ik_0
      refine lv_bipush (v := (-9)) hx hb dX12_seat__38 (by decide) ?_
      rw [hQ]
      exact W.iret (v := (-9)) hx hb hr (fun t ht hW => ⟨⟨(-9), (y1, y2, f3, f4, f5, f6), rfl, ⟨(iv_w ikm_9 (by decide)), y1_h, (iv_w j8 (by decide)), f6_b⟩, by rw [ht]; exact hP, va_K.moved hW.alike hK, hD⟩, hS.F ht⟩) hS.2.2 dX12_seat__40
    ·
      have j16 : Iv 1 1 x10 := r_nelo h14 x10_h ik_0 (by decide)
      have j17 : Iv 0 8 a1 := i11 h14
      have j18 : Iv 0 8 x9 := i12 h14
      have j19 : Iv 1 8 y2 := ivb_sub x9_e j8 ik_1 j18 (by decide)
      refine lv_aload_n hx hb dX12_seat__29 rfl (lv_at hl 0 rfl) ?_
      refine va_get (D := (dC, dI)) (ci := 12) (v := .ref o44) (C := RX12) (T := TX12) (N := 29) hx hb hts iw_X12_seat__X12 hown hK hP 0 rfl rfl 26 (by decide) (hts (.fieldLink RX12 64 "HolelessHouseModel" "line" "[I") hm_X12_seat__3) (fun _ h9 => h9) rfl dX12_seat__30 ?_
      refine lv_iload_n hx hb dX12_seat__33 rfl (lv_at hl 1 rfl) ?_
      refine va_iald hx hb hK hP 5 0 rfl rfl (vin_iv j17 (by decide)) dX12_seat__34 (lv_topi (fun x20 x20_e => ?_))
      have x20_h : Iv 0 11 x20 := iv_e x20_e (bd_at f6_b (vin_iv j17 (by decide)))
      refine lv_goto (tgt := 40) hx hb dX12_seat__35 (by decide) ?_
      rw [hQ]
      exact W.iret (v := x20) hx hb hr (fun t ht hW => ⟨⟨x20, (y1, y2, f3, f4, f5, f6), rfl, ⟨(iv_w x20_h (by decide)), y1_h, (iv_w j19 (by decide)), f6_b⟩, by rw [ht]; exact hP, va_K.moved hW.alike hK, hD⟩, hS.F ht⟩) hS.2.2 dX12_seat__40
theorem iw_X12_count_X12 : ∀ w ∈ wsX120, w ∈ wsX12_count := fun _ h => List.mem_cons.mpr (Or.inr (List.mem_append.mpr (Or.inr h)))
set_option maxHeartbeats 4000000 in
set_option maxRecDepth 100000 in
theorem kX12_count_1 (l : Launch) (dC : Nat → ClassId) (dI : Nat → Nat → Nat) (cI c2 cZ : ClassId) (o1 : Nat) (o3 : Nat) (o6 : Nat) (o9 : Nat) (o11 : Nat) (o14 : Nat) (o17 : Nat) (o22 : Nat) (o24 : Nat) (o26 : Nat) (o28 : Nat) (o30 : Nat) (o33 : Nat) (o35 : Nat) (o37 : Nat) (o40 : Nat) (o42 : Nat) (o44 : Nat) (o47 : Nat) (v2 : Int32) (v5 : Int32) (fw7 : Nat → Int32) (v8 : Int32) (fw10 : Nat → Int32) (v13 : Int32) (v16 : Int32) (v19 : Int32) (v20 : Int32) (v21 : Int32) (v32 : Int32) (v39 : Int32) (v46 : Int32) (a1 : Int32) (sz : Nat) (v5_h : Iv 0 12 v5) (fw7_b : Bd 12 0 4095 fw7) (v8_h : Iv 0 8 v8) (fw10_b : Bd 12 (-9) 255 fw10) (v13_h : Iv 0 12 v13) (v16_h : Iv 0 12 v16) (v19_h : Iv (-9) 12 v19) (v32_h : Iv 0 99 v32) (v39_h : Iv 0 12 v39) (v46_h : Iv 0 12 v46) : Met l yX12_count wsX12_count ({ frames := 2, cells := 0, slots := 0, locals := 44 }) (va_Pc [.ref o1, .int a1] (wPre (dC, dI) [(cI, .int), (c2, .array .int), (cZ, .boolean)] ([(o1, .inr (12, [.int v2, .ref o3, .int v5, .ref o6, .int v8, .ref o9, .ref o11, .int v13, .ref o14, .int v16, .ref o17, .int v19, .int v20, .int v21, .ref o22, .ref o24, .ref o26, .ref o28, .ref o30, .int v32, .ref o33, .ref o35, .ref o37, .int v39, .ref o40, .ref o42, .ref o44, .int v46, .ref o47])), (o9, .inl (cI, 12, .inl fw10)), (o6, .inl (cI, 12, .inl fw7))]) sz)) (va_Qi (fun (r : Int32) (_ : Unit) => True) (fun _ t => wPost (dC, dI) [(cI, .int), (c2, .array .int), (cZ, .boolean)] (va_A ([(o1, .inr (12, [.int v2, .ref o3, .int v5, .ref o6, .int v8, .ref o9, .ref o11, .int v13, .ref o14, .int v16, .ref o17, .int v19, .int v20, .int v21, .ref o22, .ref o24, .ref o26, .ref o28, .ref o30, .int v32, .ref o33, .ref o35, .ref o37, .int v39, .ref o40, .ref o42, .ref o44, .int v46, .ref o47])), (o9, .inl (cI, 12, .inl fw10)), (o6, .inl (cI, 12, .inl fw7))]) sz) ([(o1, .inr (12, [.int v2, .ref o3, .int v5, .ref o6, .int v8, .ref o9, .ref o11, .int v13, .ref o14, .int v16, .ref o17, .int v19, .int v20, .int v21, .ref o22, .ref o24, .ref o26, .ref o28, .ref o30, .int v32, .ref o33, .ref o35, .ref o37, .int v39, .ref o40, .ref o42, .ref o44, .int v46, .ref o47])), (o9, .inl (cI, 12, .inl fw10)), (o6, .inl (cI, 12, .inl fw7))]) t) (va_A ([(o1, .inr (12, [.int v2, .ref o3, .int v5, .ref o6, .int v8, .ref o9, .ref o11, .int v13, .ref o14, .int v16, .ref o17, .int v19, .int v20, .int v21, .ref o22, .ref o24, .ref o26, .ref o28, .ref o30, .int v32, .ref o33, .ref o35, .ref o37, .int v39, .ref o40, .ref o42, .ref o44, .int v46, .ref o47])), (o9, .inl (cI, 12, .inl fw10)), (o6, .inl (cI, 12, .inl fw7))]) sz)) 0 0 (va_A ([(o1, .inr (12, [.int v2, .ref o3, .int v5, .ref o6, .int v8, .ref o9, .ref o11, .int v13, .ref o14, .int v16, .ref o17, .int v19, .int v20, .int v21, .ref o22, .ref o24, .ref o26, .ref o28, .ref o30, .int v32, .ref o33, .ref o35, .ref o37, .int v39, .ref o40, .ref o42, .ref o44, .int v46, .ref o47])), (o9, .inl (cI, 12, .inl fw10)), (o6, .inl (cI, 12, .inl fw7))]) sz) := by
  refine Met.ofW (cc := cX12_count) (maxL := 4) (ret := (some .int)) (by decide) rfl ?_
  intro p e s m args below meth c s₁ B hml hv
  obtain ⟨rfl, hsz, hP, hK, hD0, hN⟩ := hv
  have hx := B.exec
  have hb := B.bytes
  have hr := B.returns
  have hts := atoms_spec (ws := wsX12_count) B.pre
  have hown : s.vm.findClass RX12 = some m.cls := findClass_of_methodNamed B.named
  have hlocks := B.notSynchronized
  subst hsz
  have hD := hD0.self (sz := s.heap.size)
  generalize hAe : va_A ([(o1, .inr (12, [.int v2, .ref o3, .int v5, .ref o6, .int v8, .ref o9, .ref o11, .int v13, .ref o14, .int v16, .ref o17, .int v19, .int v20, .int v21, .ref o22, .ref o24, .ref o26, .ref o28, .ref o30, .int v32, .ref o33, .ref o35, .ref o37, .int v39, .ref o40, .ref o42, .ref o44, .int v46, .ref o47])), (o9, .inl (cI, 12, .inl fw10)), (o6, .inl (cI, 12, .inl fw7))]) s.heap.size = A at hD ⊢
  have hA : ∀ q : Nat, s.heap.size ≤ q → A q := fun q h => by rw [← hAe]; exact Or.inr h
  have hS : va_S A s.heap s.heap [] := va_S.rf
  have hP : va_P (dC, dI) vwCl ([(o1, .inr (12, [.int v2, .ref o3, .int v5, .ref o6, .int v8, .ref o9, .ref o11, .int v13, .ref o14, .int v16, .ref o17, .int v19, .int v20, .int v21, .ref o22, .ref o24, .ref o26, .ref o28, .ref o30, .int v32, .ref o33, .ref o35, .ref o37, .int v39, .ref o40, .ref o42, .ref o44, .int v46, .ref o47])), (o9, .inl (cI, 12, .inl fw10)), (o6, .inl (cI, 12, .inl fw7))]) s.heap := hP
  have hl := lv_entry ([.ref o1, .int a1]) (n := 4) (Nat.le_of_ble_eq_true rfl)
  rw [lg_entry_eq]
  generalize (lg_sl ([.ref o1, .int a1]) ++ List.replicate (4 - (lg_sl ([.ref o1, .int a1])).length) Slot.unset).toArray = ls at hl ⊢
  have hl : lv_has ls 4 [(0, .ref o1), (1, .int a1)] := hl
  refine gen_Q (fun Q hQ => ?_)
  refine lv_iconst (v := 0) hx hb dX12_count_0 (by decide) ?_
  refine lv_istore_n (lv' := [(2, .int 0), (0, .ref o1), (1, .int a1)]) hx hb dX12_count_1 rfl hl (by decide) rfl (fun ls hl => ?_)
  refine lv_iconst (v := 0) hx hb dX12_count_2 (by decide) ?_
  refine lv_istore_n (lv' := [(3, .int 0), (2, .int 0), (0, .ref o1), (1, .int a1)]) hx hb dX12_count_3 rfl hl (by decide) rfl (fun ls hl => ?_)
  have L1 : ∀ (N : Nat) (x299 : Int32) (x300 : Int32) (H : Heap) (locs : List Loc) (ls : Array Slot), (12 - x299.toInt).toNat < N → Iv 0 12 x299 → va_P (dC, dI) vwCl ([(o1, .inr (12, [.int v2, .ref o3, .int v5, .ref o6, .int v8, .ref o9, .ref o11, .int v13, .ref o14, .int v16, .ref o17, .int v19, .int v20, .int v21, .ref o22, .ref o24, .ref o26, .ref o28, .ref o30, .int v32, .ref o33, .ref o35, .ref o37, .int v39, .ref o40, .ref o42, .ref o44, .int v46, .ref o47])), (o9, .inl (cI, 12, .inl fw10)), (o6, .inl (cI, 12, .inl fw7))]) H → va_D A ([(o1, .inr (12, [.int v2, .ref o3, .int v5, .ref o6, .int v8, .ref o9, .ref o11, .int v13, .ref o14, .int v16, .ref o17, .int v19, .int v20, .int v21, .ref o22, .ref o24, .ref o26, .ref o28, .ref o30, .int v32, .ref o33, .ref o35, .ref o37, .int v39, .ref o40, .ref o42, .ref o44, .int v46, .ref o47])), (o9, .inl (cI, 12, .inl fw10)), (o6, .inl (cI, 12, .inl fw7))]) → va_S A s.heap H locs → lv_has ls 4 [(3, .int x299), (2, .int x300), (0, .ref o1), (1, .int a1)] → W p l e ({ frames := 2, cells := 0, slots := 0, locals := 44 }) s m ([.ref o1, .int a1] : List Value).toArray below meth c H locs 0 0 Q (F0 m 4 ls []) := by
    intro N
    induction N with
    | zero =>
      intro x299 x300 H locs ls hM
      exact absurd hM (Nat.not_lt_zero _)
    | succ N ih1 =>
      intro x299 x300 H locs ls hM1 x299_h hP hD hS hl
      refine lv_iload_n hx hb dX12_count_4 rfl (lv_at hl 0 rfl) ?_
      refine lv_bipush (v := 12) hx hb dX12_count_5 (by decide) ?_
      refine lv_icmp_ge (tgt := 33) hx hb dX12_count_7 (by decide) (fun h301 => ?_) (fun h301 => ?_)
      ·
        have qh301 := le_i h301
        have j302 : Iv 12 12 x299 := r_ler qh301 ik_12 x299_h (by decide)
        refine lv_iload_n hx hb dX12_count_33 rfl (lv_at hl 3 rfl) ?_
        by_cases h303 : a1 = 0
        ·
          have j304 : Iv 0 0 a1 := r_eq h303 ik_0
          refine tk_i (v := 0) h303 ?_
          refine lv_tableIn (off := 34) (tgt := 68) hx hb dX12_count_34 (by decide +kernel) (by decide +kernel) (by decide +kernel) (by decide) ?_
          refine lv_aload_n hx hb dX12_count_68 rfl (lv_at hl 2 rfl) ?_
          refine va_get (D := (dC, dI)) (ci := 12) (v := .int v5) (C := RX12) (T := TX12) (N := 29) hx hb hts iw_X12_count_X12 hown hK hP 0 rfl rfl 2 (by decide) (hts (.fieldLink RX12 73 "HolelessHouseModel" "n" "I") hm_X12_count_2) (fun _ h9 => h9) rfl dX12_count_69 ?_
          rw [hQ]
          exact W.iret (v := v5) hx hb hr (fun t ht hW => ⟨⟨v5, (), rfl, trivial, by rw [ht]; exact hP, va_K.moved hW.alike hK, hD⟩, hS.F ht⟩) hS.2.2 dX12_count_72
        by_cases h305 : a1 = 1
        ·
          have j306 : Iv 1 1 a1 := r_eq h305 ik_1
          refine tk_i (v := 1) h305 ?_
          refine lv_tableIn (off := 39) (tgt := 73) hx hb dX12_count_34 (by decide +kernel) (by decide +kernel) (by decide +kernel) (by decide) ?_
          refine lv_aload_n hx hb dX12_count_73 rfl (lv_at hl 2 rfl) ?_
          refine kc_i (D := (dC, dI)) (S := Unit) (wc := [(o1, .inr (12, [.int v2, .ref o3, .int v5, .ref o6, .int v8, .ref o9, .ref o11, .int v13, .ref o14, .int v16, .ref o17, .int v19, .int v20, .int v21, .ref o22, .ref o24, .ref o26, .ref o28, .ref o30, .int v32, .ref o33, .ref o35, .ref o37, .int v39, .ref o40, .ref o42, .ref o44, .int v46, .ref o47])), (o6, .inl (cI, 12, .inl fw7))]) (wr := [(o9, .inl (cI, 12, .inl fw10))]) (w1 := fun _ => [(o1, .inr (12, [.int v2, .ref o3, .int v5, .ref o6, .int v8, .ref o9, .ref o11, .int v13, .ref o14, .int v16, .ref o17, .int v19, .int v20, .int v21, .ref o22, .ref o24, .ref o26, .ref o28, .ref o30, .int v32, .ref o33, .ref o35, .ref o37, .int v39, .ref o40, .ref o42, .ref o44, .int v46, .ref o47])), (o6, .inl (cI, 12, .inl fw7))]) (wn := fun _ => [(o1, .inr (12, [.int v2, .ref o3, .int v5, .ref o6, .int v8, .ref o9, .ref o11, .int v13, .ref o14, .int v16, .ref o17, .int v19, .int v20, .int v21, .ref o22, .ref o24, .ref o26, .ref o28, .ref o30, .int v32, .ref o33, .ref o35, .ref o37, .int v39, .ref o40, .ref o42, .ref o44, .int v46, .ref o47])), (o9, .inl (cI, 12, .inl fw10)), (o6, .inl (cI, 12, .inl fw7))]) (fun hPc hDc => va_runV (As := []) (rest := []) ⟨hx, hb, hml, hown, hts⟩ (kX12_pairs_1 l dC dI cI c2 cZ o1 o3 o6 o9 o11 o14 o17 o22 o24 o26 o28 o30 o33 o35 o37 o40 o42 o44 o47 v2 v5 fw7 v8 v13 v16 v19 v20 v21 v32 v39 v46 H.size v5_h fw7_b v8_h v13_h v16_h v19_h v32_h v39_h v46_h) (cwV 0 hts gX12_count_X12_pairs rfl rfl rfl (by decide +kernel) ⟨Nat.le_of_ble_eq_true rfl, Nat.le_of_ble_eq_true rfl⟩) (pre_V hPc hK hDc hN (ci := 12) (q0 := 0) rfl rfl) rfl rfl hl.1 rfl (lv_room (Nat.le_of_ble_eq_true rfl)) dX12_count_74 ⟨Nat.le_of_ble_eq_true rfl, Nat.le_of_ble_eq_true rfl⟩) hP hD hS hA [0, 2] [1] [1, 0, 2] rfl rfl (by decide +kernel) (by decide +kernel) (by decide +kernel) (by decide +kernel) (fun _ => rfl) (fun x307 _ H locs hq hP hD hS => ?_)
          have hP : va_P (dC, dI) vwCl ([(o1, .inr (12, [.int v2, .ref o3, .int v5, .ref o6, .int v8, .ref o9, .ref o11, .int v13, .ref o14, .int v16, .ref o17, .int v19, .int v20, .int v21, .ref o22, .ref o24, .ref o26, .ref o28, .ref o30, .int v32, .ref o33, .ref o35, .ref o37, .int v39, .ref o40, .ref o42, .ref o44, .int v46, .ref o47])), (o9, .inl (cI, 12, .inl fw10)), (o6, .inl (cI, 12, .inl fw7))]) H := hP
          have hD : va_D A ([(o1, .inr (12, [.int v2, .ref o3, .int v5, .ref o6, .int v8, .ref o9, .ref o11, .int v13, .ref o14, .int v16, .ref o17, .int v19, .int v20, .int v21, .ref o22, .ref o24, .ref o26, .ref o28, .ref o30, .int v32, .ref o33, .ref o35, .ref o37, .int v39, .ref o40, .ref o42, .ref o44, .int v46, .ref o47])), (o9, .inl (cI, 12, .inl fw10)), (o6, .inl (cI, 12, .inl fw7))]) := hD
          rw [hQ]
          exact W.iret (v := x307) hx hb hr (fun t ht hW => ⟨⟨x307, (), rfl, trivial, by rw [ht]; exact hP, va_K.moved hW.alike hK, hD⟩, hS.F ht⟩) hS.2.2 dX12_count_77
        by_cases h308 : a1 = 2
        ·
          have j309 : Iv 2 2 a1 := r_eq h308 ik_2
          refine tk_i (v := 2) h308 ?_
          refine lv_tableIn (off := 44) (tgt := 78) hx hb dX12_count_34 (by decide +kernel) (by decide +kernel) (by decide +kernel) (by decide) ?_
          refine lv_aload_n hx hb dX12_count_78 rfl (lv_at hl 2 rfl) ?_
          refine va_get (D := (dC, dI)) (ci := 12) (v := .int v8) (C := RX12) (T := TX12) (N := 29) hx hb hts iw_X12_count_X12 hown hK hP 0 rfl rfl 4 (by decide) (hts (.fieldLink RX12 128 "HolelessHouseModel" "columns" "I") hm_X12_count_3) (fun _ h9 => h9) rfl dX12_count_79 ?_
          rw [hQ]
          exact W.iret (v := v8) hx hb hr (fun t ht hW => ⟨⟨v8, (), rfl, trivial, by rw [ht]; exact hP, va_K.moved hW.alike hK, hD⟩, hS.F ht⟩) hS.2.2 dX12_count_82
        by_cases h310 : a1 = 3
        ·
          have j311 : Iv 3 3 a1 := r_eq h310 ik_3
          refine tk_i (v := 3) h310 ?_
          refine lv_tableIn (off := 49) (tgt := 83) hx hb dX12_count_34 (by decide +kernel) (by decide +kernel) (by decide +kernel) (by decide) ?_
          refine lv_iload_n hx hb dX12_count_83 rfl (lv_at hl 1 rfl) ?_
          rw [hQ]
          exact W.iret (v := x300) hx hb hr (fun t ht hW => ⟨⟨x300, (), rfl, trivial, by rw [ht]; exact hP, va_K.moved hW.alike hK, hD⟩, hS.F ht⟩) hS.2.2 dX12_count_84
        by_cases h312 : a1 = 4
        ·
          have j313 : Iv 4 4 a1 := r_eq h312 ik_4
          refine tk_i (v := 4) h312 ?_
          refine lv_tableIn (off := 51) (tgt := 85) hx hb dX12_count_34 (by decide +kernel) (by decide +kernel) (by decide +kernel) (by decide) ?_
          refine lv_aload_n hx hb dX12_count_85 rfl (lv_at hl 2 rfl) ?_
          refine va_get (D := (dC, dI)) (ci := 12) (v := .int v16) (C := RX12) (T := TX12) (N := 29) hx hb hts iw_X12_count_X12 hown hK hP 0 rfl rfl 9 (by decide) (hts (.fieldLink RX12 80 "HolelessHouseModel" "drafted" "I") hm_X12_count_4) (fun _ h9 => h9) rfl dX12_count_86 ?_
          rw [hQ]
          exact W.iret (v := v16) hx hb hr (fun t ht hW => ⟨⟨v16, (), rfl, trivial, by rw [ht]; exact hP, va_K.moved hW.alike hK, hD⟩, hS.F ht⟩) hS.2.2 dX12_count_89
        have nh303 : Int32.toInt a1 ≠ 0 := fun q => h303 (Int32.toInt_inj.mp (q.trans (by decide +kernel)))
        have nh305 : Int32.toInt a1 ≠ 1 := fun q => h305 (Int32.toInt_inj.mp (q.trans (by decide +kernel)))
        have nh308 : Int32.toInt a1 ≠ 2 := fun q => h308 (Int32.toInt_inj.mp (q.trans (by decide +kernel)))
        have nh310 : Int32.toInt a1 ≠ 3 := fun q => h310 (Int32.toInt_inj.mp (q.trans (by decide +kernel)))
        have nh312 : Int32.toInt a1 ≠ 4 := fun q => h312 (Int32.toInt_inj.mp (q.trans (by decide +kernel)))
        refine lv_tableOut (tgt := 90) hx hb dX12_count_34 (by have h8 := (iv_full a1); unfold Iv at h8; omega) (by decide) ?_
        refine lv_iconst (v := (-1)) hx hb dX12_count_90 (by decide) ?_
        rw [hQ]
        exact W.iret (v := (-1)) hx hb hr (fun t ht hW => ⟨⟨(-1), (), rfl, trivial, by rw [ht]; exact hP, va_K.moved hW.alike hK, hD⟩, hS.F ht⟩) hS.2.2 dX12_count_91
      ·
        have qh301 := nle_i h301
        have j314 : Iv 0 11 x299 := r_ltl qh301 x299_h ik_12 (by decide)
        refine lv_iload_n hx hb dX12_count_10 rfl (lv_at hl 1 rfl) ?_
        refine lv_aload_n hx hb dX12_count_11 rfl (lv_at hl 2 rfl) ?_
        refine va_get (D := (dC, dI)) (ci := 12) (v := .ref o9) (C := RX12) (T := TX12) (N := 29) hx hb hts iw_X12_count_X12 hown hK hP 0 rfl rfl 5 (by decide) (hts (.fieldLink RX12 16 "HolelessHouseModel" "rows" "[I") hm_X12_count_1) (fun _ h9 => h9) rfl dX12_count_12 ?_
        refine lv_iload_n hx hb dX12_count_15 rfl (lv_at hl 0 rfl) ?_
        refine va_iald hx hb hK hP 1 0 rfl rfl (vin_iv j314 (by decide)) dX12_count_16 (lv_topi (fun x315 x315_e => ?_))
        have x315_h : Iv (-9) 255 x315 := iv_e x315_e (bd_at fw10_b (vin_iv j314 (by decide)))
        refine lv_if_lt (tgt := 24) hx hb dX12_count_17 (by decide) (fun h316 => ?_) (fun h316 => ?_)
        ·
          have qh316 := lt_i h316
          have j317 : Iv (-9) (-1) x315 := r_ltl qh316 x315_h ik_0 (by decide)
          refine lv_iconst (v := 0) hx hb dX12_count_24 (by decide) ?_
          refine lv_iadd hx hb dX12_count_25 (lv_topi (fun x318 x318_e => ?_))
          refine lv_istore_n (lv' := [(2, .int x318), (3, .int x299), (0, .ref o1), (1, .int a1)]) hx hb dX12_count_26 rfl hl (by decide) rfl (fun ls hl => ?_)
          obtain ⟨x319, x319_e⟩ : ∃ z : Int32, z = x299 + 1 := ⟨_, rfl⟩
          have x319_h : Iv 1 12 x319 := iv_e x319_e (iv_add j314 ik_1 (by decide))
          refine lv_iinc (v := x319) (lv' := [(3, .int x319), (2, .int x318), (0, .ref o1), (1, .int a1)]) hx hb dX12_count_27 hl (k := 1) rfl (incN (by decide +kernel) x319_e) (by decide) rfl (fun ls hl => ?_)
          refine lv_goto (tgt := 4) hx hb dX12_count_30 (by decide) ?_
          exact ih1 x319 x318 _ _ _ (ms_up x319_e j314 (by decide) hM1) (iv_w x319_h (by decide)) hP hD hS hl
        ·
          have qh316 := nlt_i h316
          have j320 : Iv 0 255 x315 := r_ler qh316 ik_0 x315_h (by decide)
          refine lv_iconst (v := 1) hx hb dX12_count_20 (by decide) ?_
          refine lv_goto (tgt := 25) hx hb dX12_count_21 (by decide) ?_
          refine lv_iadd hx hb dX12_count_25 (lv_topi (fun x321 x321_e => ?_))
          refine lv_istore_n (lv' := [(2, .int x321), (3, .int x299), (0, .ref o1), (1, .int a1)]) hx hb dX12_count_26 rfl hl (by decide) rfl (fun ls hl => ?_)
          obtain ⟨x322, x322_e⟩ : ∃ z : Int32, z = x299 + 1 := ⟨_, rfl⟩
          have x322_h : Iv 1 12 x322 := iv_e x322_e (iv_add j314 ik_1 (by decide))
          refine lv_iinc (v := x322) (lv' := [(3, .int x322), (2, .int x321), (0, .ref o1), (1, .int a1)]) hx hb dX12_count_27 hl (k := 1) rfl (incN (by decide +kernel) x322_e) (by decide) rfl (fun ls hl => ?_)
          refine lv_goto (tgt := 4) hx hb dX12_count_30 (by decide) ?_
          exact ih1 x322 x321 _ _ _ (ms_up x322_e j314 (by decide) hM1) (iv_w x322_h (by decide)) hP hD hS hl
  exact L1 _ 0 0 _ _ _ (Nat.lt_succ_self _) (iv_w ik_0 (by decide)) hP hD hS hl
theorem iw_X12_finding_X12 : ∀ w ∈ wsX120, w ∈ wsX12_finding := fun _ h => List.mem_cons.mpr (Or.inr (List.mem_append.mpr (Or.inr h)))
set_option maxHeartbeats 4000000 in
set_option maxRecDepth 100000 in
theorem kX12_finding_1 (l : Launch) (dC : Nat → ClassId) (dI : Nat → Nat → Nat) (cI c2 cZ : ClassId) (o1 : Nat) (o3 : Nat) (o6 : Nat) (o9 : Nat) (o11 : Nat) (o14 : Nat) (o17 : Nat) (o22 : Nat) (o24 : Nat) (o26 : Nat) (o28 : Nat) (o30 : Nat) (o33 : Nat) (o35 : Nat) (o37 : Nat) (o40 : Nat) (o42 : Nat) (o44 : Nat) (o47 : Nat) (v2 : Int32) (v5 : Int32) (v8 : Int32) (v13 : Int32) (v16 : Int32) (v19 : Int32) (v20 : Int32) (v21 : Int32) (v32 : Int32) (v39 : Int32) (v46 : Int32) (sz : Nat) (v5_h : Iv 0 12 v5) (v8_h : Iv 0 8 v8) (v13_h : Iv 0 12 v13) (v16_h : Iv 0 12 v16) (v19_h : Iv (-9) 12 v19) (v32_h : Iv 0 99 v32) (v39_h : Iv 0 12 v39) (v46_h : Iv 0 12 v46) : Met l yX12_finding wsX12_finding ({ frames := 0, cells := 0, slots := 0, locals := 0 }) (va_Pc [.ref o1] (wPre (dC, dI) [(cI, .int), (c2, .array .int), (cZ, .boolean)] ([(o1, .inr (12, [.int v2, .ref o3, .int v5, .ref o6, .int v8, .ref o9, .ref o11, .int v13, .ref o14, .int v16, .ref o17, .int v19, .int v20, .int v21, .ref o22, .ref o24, .ref o26, .ref o28, .ref o30, .int v32, .ref o33, .ref o35, .ref o37, .int v39, .ref o40, .ref o42, .ref o44, .int v46, .ref o47]))]) sz)) (va_Qi (fun (r : Int32) (_ : Unit) => True) (fun _ t => wPost (dC, dI) [(cI, .int), (c2, .array .int), (cZ, .boolean)] (va_A ([(o1, .inr (12, [.int v2, .ref o3, .int v5, .ref o6, .int v8, .ref o9, .ref o11, .int v13, .ref o14, .int v16, .ref o17, .int v19, .int v20, .int v21, .ref o22, .ref o24, .ref o26, .ref o28, .ref o30, .int v32, .ref o33, .ref o35, .ref o37, .int v39, .ref o40, .ref o42, .ref o44, .int v46, .ref o47]))]) sz) ([(o1, .inr (12, [.int v2, .ref o3, .int v5, .ref o6, .int v8, .ref o9, .ref o11, .int v13, .ref o14, .int v16, .ref o17, .int v19, .int v20, .int v21, .ref o22, .ref o24, .ref o26, .ref o28, .ref o30, .int v32, .ref o33, .ref o35, .ref o37, .int v39, .ref o40, .ref o42, .ref o44, .int v46, .ref o47]))]) t) (va_A ([(o1, .inr (12, [.int v2, .ref o3, .int v5, .ref o6, .int v8, .ref o9, .ref o11, .int v13, .ref o14, .int v16, .ref o17, .int v19, .int v20, .int v21, .ref o22, .ref o24, .ref o26, .ref o28, .ref o30, .int v32, .ref o33, .ref o35, .ref o37, .int v39, .ref o40, .ref o42, .ref o44, .int v46, .ref o47]))]) sz)) 0 0 (va_A ([(o1, .inr (12, [.int v2, .ref o3, .int v5, .ref o6, .int v8, .ref o9, .ref o11, .int v13, .ref o14, .int v16, .ref o17, .int v19, .int v20, .int v21, .ref o22, .ref o24, .ref o26, .ref o28, .ref o30, .int v32, .ref o33, .ref o35, .ref o37, .int v39, .ref o40, .ref o42, .ref o44, .int v46, .ref o47]))]) sz) := by
  refine Met.ofW (cc := cX12_finding) (maxL := 1) (ret := (some .int)) (by decide) rfl ?_
  intro p e s m args below meth c s₁ B hml hv
  obtain ⟨rfl, hsz, hP, hK, hD0, hN⟩ := hv
  have hx := B.exec
  have hb := B.bytes
  have hr := B.returns
  have hts := atoms_spec (ws := wsX12_finding) B.pre
  have hown : s.vm.findClass RX12 = some m.cls := findClass_of_methodNamed B.named
  have hlocks := B.notSynchronized
  subst hsz
  have hD := hD0.self (sz := s.heap.size)
  generalize hAe : va_A ([(o1, .inr (12, [.int v2, .ref o3, .int v5, .ref o6, .int v8, .ref o9, .ref o11, .int v13, .ref o14, .int v16, .ref o17, .int v19, .int v20, .int v21, .ref o22, .ref o24, .ref o26, .ref o28, .ref o30, .int v32, .ref o33, .ref o35, .ref o37, .int v39, .ref o40, .ref o42, .ref o44, .int v46, .ref o47]))]) s.heap.size = A at hD ⊢
  have hA : ∀ q : Nat, s.heap.size ≤ q → A q := fun q h => by rw [← hAe]; exact Or.inr h
  have hS : va_S A s.heap s.heap [] := va_S.rf
  have hP : va_P (dC, dI) vwCl ([(o1, .inr (12, [.int v2, .ref o3, .int v5, .ref o6, .int v8, .ref o9, .ref o11, .int v13, .ref o14, .int v16, .ref o17, .int v19, .int v20, .int v21, .ref o22, .ref o24, .ref o26, .ref o28, .ref o30, .int v32, .ref o33, .ref o35, .ref o37, .int v39, .ref o40, .ref o42, .ref o44, .int v46, .ref o47]))]) s.heap := hP
  have hl := lv_entry ([.ref o1]) (n := 1) (Nat.le_of_ble_eq_true rfl)
  rw [lg_entry_eq]
  generalize (lg_sl ([.ref o1]) ++ List.replicate (1 - (lg_sl ([.ref o1])).length) Slot.unset).toArray = ls at hl ⊢
  have hl : lv_has ls 1 [(0, .ref o1)] := hl
  refine gen_Q (fun Q hQ => ?_)
  refine lv_aload_n hx hb dX12_finding_0 rfl (lv_at hl 0 rfl) ?_
  refine va_get (D := (dC, dI)) (ci := 12) (v := .int v2) (C := RX12) (T := TX12) (N := 29) hx hb hts iw_X12_finding_X12 hown hK hP 0 rfl rfl 0 (by decide) (hts (.fieldLink RX12 70 "HolelessHouseModel" "finding" "I") hm_X12_finding_1) (fun _ h9 => h9) rfl dX12_finding_1 ?_
  rw [hQ]
  exact W.iret (v := v2) hx hb hr (fun t ht hW => ⟨⟨v2, (), rfl, trivial, by rw [ht]; exact hP, va_K.moved hW.alike hK, hD⟩, hS.F ht⟩) hS.2.2 dX12_finding_4
set_option maxHeartbeats 4000000 in
set_option maxRecDepth 100000 in
theorem kX12_in_11 (l : Launch) (dC : Nat → ClassId) (dI : Nat → Nat → Nat) (cI c2 cZ : ClassId) (a0 : Int32) (a1 : Int32) (a2 : Int32) (sz : Nat) (a1_h : Iv 1 1 a1) (a2_h : Iv 4 4 a2) : Met l yX12_in wsX12_in ({ frames := 0, cells := 0, slots := 0, locals := 0 }) (va_Pc [.int a0, .int a1, .int a2] (wPre (dC, dI) [(cI, .int), (c2, .array .int), (cZ, .boolean)] ([]) sz)) (va_Qi (fun (r : Int32) (_ : Unit) => Iv 0 1 r ∧ (¬ r = 0 → Iv 1 4 a0) ∧ (¬ r = 0 → Int32.toInt a1 ≤ Int32.toInt a0 ∧ Int32.toInt a0 ≤ Int32.toInt a2)) (fun _ t => wPost (dC, dI) [(cI, .int), (c2, .array .int), (cZ, .boolean)] (va_A ([]) sz) ([]) t) (va_A ([]) sz)) 0 0 (va_A ([]) sz) := by
  refine Met.ofW (cc := cX12_in) (maxL := 3) (ret := (some .boolean)) (by decide) rfl ?_
  intro p e s m args below meth c s₁ B hml hv
  obtain ⟨rfl, hsz, hP, hK, hD0, hN⟩ := hv
  have hx := B.exec
  have hb := B.bytes
  have hr := B.returns
  have hts := atoms_spec (ws := wsX12_in) B.pre
  have hown : s.vm.findClass RX12 = some m.cls := findClass_of_methodNamed B.named
  have hlocks := B.notSynchronized
  subst hsz
  have hD := hD0.self (sz := s.heap.size)
  generalize hAe : va_A ([]) s.heap.size = A at hD ⊢
  have hA : ∀ q : Nat, s.heap.size ≤ q → A q := fun q h => by rw [← hAe]; exact Or.inr h
  have hS : va_S A s.heap s.heap [] := va_S.rf
  have hP : va_P (dC, dI) vwCl ([]) s.heap := hP
  have hl := lv_entry ([.int a0, .int a1, .int a2]) (n := 3) (Nat.le_of_ble_eq_true rfl)
  rw [lg_entry_eq]
  generalize (lg_sl ([.int a0, .int a1, .int a2]) ++ List.replicate (3 - (lg_sl ([.int a0, .int a1, .int a2])).length) Slot.unset).toArray = ls at hl ⊢
  have hl : lv_has ls 3 [(0, .int a0), (1, .int a1), (2, .int a2)] := hl
  refine gen_Q (fun Q hQ => ?_)
  refine lv_iload_n hx hb dX12_in_0 rfl (lv_at hl 0 rfl) ?_
  refine lv_iload_n hx hb dX12_in_1 rfl (lv_at hl 1 rfl) ?_
  refine lv_icmp_lt (tgt := 14) hx hb dX12_in_2 (by decide) (fun h1 => ?_) (fun h1 => ?_)
  ·
    have qh1 := lt_i h1
    have j2 : Iv (-2147483648) 0 a0 := r_ltl qh1 (iv_full a0) a1_h (by decide)
    refine lv_iconst (v := 0) hx hb dX12_in_14 (by decide) ?_
    rw [hQ]
    exact W.zret (v := 0) (ty := .boolean) hx hb hr rfl (fun t ht hW => ⟨⟨0, (), rfl, ⟨(iv_w ik_0 (by decide)), (fun h8 => absurd rfl h8), (fun h8 => absurd rfl h8)⟩, by rw [ht]; exact hP, va_K.moved hW.alike hK, hD⟩, hS.F ht⟩) hS.2.2 dX12_in_15
  ·
    have qh1 := nlt_i h1
    have j3 : Iv 1 2147483647 a0 := r_ler qh1 a1_h (iv_full a0) (by decide)
    refine lv_iload_n hx hb dX12_in_5 rfl (lv_at hl 0 rfl) ?_
    refine lv_iload_n hx hb dX12_in_6 rfl (lv_at hl 2 rfl) ?_
    refine lv_icmp_gt (tgt := 14) hx hb dX12_in_7 (by decide) (fun h4 => ?_) (fun h4 => ?_)
    ·
      have qh4 := lt_i h4
      have j5 : Iv 5 2147483647 a0 := r_ltr qh4 a2_h j3 (by decide)
      refine lv_iconst (v := 0) hx hb dX12_in_14 (by decide) ?_
      rw [hQ]
      exact W.zret (v := 0) (ty := .boolean) hx hb hr rfl (fun t ht hW => ⟨⟨0, (), rfl, ⟨(iv_w ik_0 (by decide)), (fun h8 => absurd rfl h8), (fun h8 => absurd rfl h8)⟩, by rw [ht]; exact hP, va_K.moved hW.alike hK, hD⟩, hS.F ht⟩) hS.2.2 dX12_in_15
    ·
      have qh4 := nlt_i h4
      have j6 : Iv 1 4 a0 := r_lel qh4 j3 a2_h (by decide)
      refine lv_iconst (v := 1) hx hb dX12_in_10 (by decide) ?_
      refine lv_goto (tgt := 15) hx hb dX12_in_11 (by decide) ?_
      rw [hQ]
      exact W.zret (v := 1) (ty := .boolean) hx hb hr rfl (fun t ht hW => ⟨⟨1, (), rfl, ⟨(iv_w ik_1 (by decide)), (fun _ => j6), (fun _ => ⟨qh1, qh4⟩)⟩, by rw [ht]; exact hP, va_K.moved hW.alike hK, hD⟩, hS.F ht⟩) hS.2.2 dX12_in_15
theorem iw_X12_findings_X12 : ∀ w ∈ wsX120, w ∈ wsX12_findings := fun _ h => List.mem_cons.mpr (Or.inr (List.mem_append.mpr (Or.inr h)))
set_option maxHeartbeats 4000000 in
set_option maxRecDepth 100000 in
theorem kX12_findings_1 (l : Launch) (dC : Nat → ClassId) (dI : Nat → Nat → Nat) (cI c2 cZ : ClassId) (o1 : Nat) (o3 : Nat) (o6 : Nat) (o9 : Nat) (o11 : Nat) (o14 : Nat) (o17 : Nat) (o22 : Nat) (o24 : Nat) (o26 : Nat) (o28 : Nat) (o30 : Nat) (o33 : Nat) (o35 : Nat) (o37 : Nat) (o40 : Nat) (o42 : Nat) (o44 : Nat) (o47 : Nat) (v2 : Int32) (fw4 : Nat → Int32) (v5 : Int32) (v8 : Int32) (v13 : Int32) (v16 : Int32) (v19 : Int32) (v20 : Int32) (v21 : Int32) (v32 : Int32) (v39 : Int32) (v46 : Int32) (a1 : Int32) (sz : Nat) (v5_h : Iv 0 12 v5) (v8_h : Iv 0 8 v8) (v13_h : Iv 0 12 v13) (v16_h : Iv 0 12 v16) (v19_h : Iv (-9) 12 v19) (v32_h : Iv 0 99 v32) (v39_h : Iv 0 12 v39) (v46_h : Iv 0 12 v46) : Met l yX12_findings wsX12_findings ({ frames := 1, cells := 0, slots := 0, locals := 22 }) (va_Pc [.ref o1, .int a1] (wPre (dC, dI) [(cI, .int), (c2, .array .int), (cZ, .boolean)] ([(o1, .inr (12, [.int v2, .ref o3, .int v5, .ref o6, .int v8, .ref o9, .ref o11, .int v13, .ref o14, .int v16, .ref o17, .int v19, .int v20, .int v21, .ref o22, .ref o24, .ref o26, .ref o28, .ref o30, .int v32, .ref o33, .ref o35, .ref o37, .int v39, .ref o40, .ref o42, .ref o44, .int v46, .ref o47])), (o3, .inl (cI, 5, .inl fw4))]) sz)) (va_Qi (fun (r : Int32) (_ : Unit) => True) (fun _ t => wPost (dC, dI) [(cI, .int), (c2, .array .int), (cZ, .boolean)] (va_A ([(o1, .inr (12, [.int v2, .ref o3, .int v5, .ref o6, .int v8, .ref o9, .ref o11, .int v13, .ref o14, .int v16, .ref o17, .int v19, .int v20, .int v21, .ref o22, .ref o24, .ref o26, .ref o28, .ref o30, .int v32, .ref o33, .ref o35, .ref o37, .int v39, .ref o40, .ref o42, .ref o44, .int v46, .ref o47])), (o3, .inl (cI, 5, .inl fw4))]) sz) ([(o1, .inr (12, [.int v2, .ref o3, .int v5, .ref o6, .int v8, .ref o9, .ref o11, .int v13, .ref o14, .int v16, .ref o17, .int v19, .int v20, .int v21, .ref o22, .ref o24, .ref o26, .ref o28, .ref o30, .int v32, .ref o33, .ref o35, .ref o37, .int v39, .ref o40, .ref o42, .ref o44, .int v46, .ref o47])), (o3, .inl (cI, 5, .inl fw4))]) t) (va_A ([(o1, .inr (12, [.int v2, .ref o3, .int v5, .ref o6, .int v8, .ref o9, .ref o11, .int v13, .ref o14, .int v16, .ref o17, .int v19, .int v20, .int v21, .ref o22, .ref o24, .ref o26, .ref o28, .ref o30, .int v32, .ref o33, .ref o35, .ref o37, .int v39, .ref o40, .ref o42, .ref o44, .int v46, .ref o47])), (o3, .inl (cI, 5, .inl fw4))]) sz)) 0 0 (va_A ([(o1, .inr (12, [.int v2, .ref o3, .int v5, .ref o6, .int v8, .ref o9, .ref o11, .int v13, .ref o14, .int v16, .ref o17, .int v19, .int v20, .int v21, .ref o22, .ref o24, .ref o26, .ref o28, .ref o30, .int v32, .ref o33, .ref o35, .ref o37, .int v39, .ref o40, .ref o42, .ref o44, .int v46, .ref o47])), (o3, .inl (cI, 5, .inl fw4))]) sz) := by
  refine Met.ofW (cc := cX12_findings) (maxL := 2) (ret := (some .int)) (by decide) rfl ?_
  intro p e s m args below meth c s₁ B hml hv
  obtain ⟨rfl, hsz, hP, hK, hD0, hN⟩ := hv
  have hx := B.exec
  have hb := B.bytes
  have hr := B.returns
  have hts := atoms_spec (ws := wsX12_findings) B.pre
  have hown : s.vm.findClass RX12 = some m.cls := findClass_of_methodNamed B.named
  have hlocks := B.notSynchronized
  subst hsz
  have hD := hD0.self (sz := s.heap.size)
  generalize hAe : va_A ([(o1, .inr (12, [.int v2, .ref o3, .int v5, .ref o6, .int v8, .ref o9, .ref o11, .int v13, .ref o14, .int v16, .ref o17, .int v19, .int v20, .int v21, .ref o22, .ref o24, .ref o26, .ref o28, .ref o30, .int v32, .ref o33, .ref o35, .ref o37, .int v39, .ref o40, .ref o42, .ref o44, .int v46, .ref o47])), (o3, .inl (cI, 5, .inl fw4))]) s.heap.size = A at hD ⊢
  have hA : ∀ q : Nat, s.heap.size ≤ q → A q := fun q h => by rw [← hAe]; exact Or.inr h
  have hS : va_S A s.heap s.heap [] := va_S.rf
  have hP : va_P (dC, dI) vwCl ([(o1, .inr (12, [.int v2, .ref o3, .int v5, .ref o6, .int v8, .ref o9, .ref o11, .int v13, .ref o14, .int v16, .ref o17, .int v19, .int v20, .int v21, .ref o22, .ref o24, .ref o26, .ref o28, .ref o30, .int v32, .ref o33, .ref o35, .ref o37, .int v39, .ref o40, .ref o42, .ref o44, .int v46, .ref o47])), (o3, .inl (cI, 5, .inl fw4))]) s.heap := hP
  have hl := lv_entry ([.ref o1, .int a1]) (n := 2) (Nat.le_of_ble_eq_true rfl)
  rw [lg_entry_eq]
  generalize (lg_sl ([.ref o1, .int a1]) ++ List.replicate (2 - (lg_sl ([.ref o1, .int a1])).length) Slot.unset).toArray = ls at hl ⊢
  have hl : lv_has ls 2 [(0, .ref o1), (1, .int a1)] := hl
  refine gen_Q (fun Q hQ => ?_)
  refine lv_iload_n hx hb dX12_findings_0 rfl (lv_at hl 1 rfl) ?_
  refine lv_iconst (v := 1) hx hb dX12_findings_1 (by decide) ?_
  refine lv_iconst (v := 4) hx hb dX12_findings_2 (by decide) ?_
  refine kc_i (D := (dC, dI)) (S := Unit) (wc := []) (wr := [(o1, .inr (12, [.int v2, .ref o3, .int v5, .ref o6, .int v8, .ref o9, .ref o11, .int v13, .ref o14, .int v16, .ref o17, .int v19, .int v20, .int v21, .ref o22, .ref o24, .ref o26, .ref o28, .ref o30, .int v32, .ref o33, .ref o35, .ref o37, .int v39, .ref o40, .ref o42, .ref o44, .int v46, .ref o47])), (o3, .inl (cI, 5, .inl fw4))]) (w1 := fun _ => []) (wn := fun _ => [(o1, .inr (12, [.int v2, .ref o3, .int v5, .ref o6, .int v8, .ref o9, .ref o11, .int v13, .ref o14, .int v16, .ref o17, .int v19, .int v20, .int v21, .ref o22, .ref o24, .ref o26, .ref o28, .ref o30, .int v32, .ref o33, .ref o35, .ref o37, .int v39, .ref o40, .ref o42, .ref o44, .int v46, .ref o47])), (o3, .inl (cI, 5, .inl fw4))]) (fun hPc hDc => va_runS (As := [.int a1, .int 1, .int 4]) (rest := []) ⟨hx, hb, hml, hown, hts⟩ (kX12_in_11 l dC dI cI c2 cZ a1 1 4 s.heap.size ik_1 ik_4) (va_cwS 3 hts gX12_findings_X12_in rfl rfl rfl (by decide +kernel) ⟨Nat.le_of_ble_eq_true rfl, Nat.le_of_ble_eq_true rfl⟩) (pre_S hPc hK hDc hN) rfl rfl hl.1 rfl (lv_room (Nat.le_of_ble_eq_true rfl)) dX12_findings_3 ⟨Nat.le_of_ble_eq_true rfl, Nat.le_of_ble_eq_true rfl⟩) hP hD hS hA [] [0, 1] [0, 1] rfl rfl (by decide +kernel) (by decide +kernel) (by decide +kernel) (by decide +kernel) (fun _ => rfl) (fun x1 _ H locs hq hP hD hS => ?_)
  obtain ⟨x1_h, i2, e3⟩ := hq
  have hP : va_P (dC, dI) vwCl ([(o1, .inr (12, [.int v2, .ref o3, .int v5, .ref o6, .int v8, .ref o9, .ref o11, .int v13, .ref o14, .int v16, .ref o17, .int v19, .int v20, .int v21, .ref o22, .ref o24, .ref o26, .ref o28, .ref o30, .int v32, .ref o33, .ref o35, .ref o37, .int v39, .ref o40, .ref o42, .ref o44, .int v46, .ref o47])), (o3, .inl (cI, 5, .inl fw4))]) H := hP
  have hD : va_D A ([(o1, .inr (12, [.int v2, .ref o3, .int v5, .ref o6, .int v8, .ref o9, .ref o11, .int v13, .ref o14, .int v16, .ref o17, .int v19, .int v20, .int v21, .ref o22, .ref o24, .ref o26, .ref o28, .ref o30, .int v32, .ref o33, .ref o35, .ref o37, .int v39, .ref o40, .ref o42, .ref o44, .int v46, .ref o47])), (o3, .inl (cI, 5, .inl fw4))]) := hD
  refine lv_if_eq (tgt := 18) hx hb dX12_findings_6 (by decide) (fun h4 => ?_) (fun h4 => ?_)
  ·
    have j5 : Iv 0 0 x1 := r_eq h4 ik_0
    refine lv_iconst (v := (-1)) hx hb dX12_findings_18 (by decide) ?_
    rw [hQ]
    exact W.iret (v := (-1)) hx hb hr (fun t ht hW => ⟨⟨(-1), (), rfl, trivial, by rw [ht]; exact hP, va_K.moved hW.alike hK, hD⟩, hS.F ht⟩) hS.2.2 dX12_findings_19
  ·
    have j6 : Iv 1 1 x1 := r_nelo h4 x1_h ik_0 (by decide)
    have j7 : Iv 1 4 a1 := i2 h4
    refine lv_aload_n hx hb dX12_findings_9 rfl (lv_at hl 0 rfl) ?_
    refine va_get (D := (dC, dI)) (ci := 12) (v := .ref o3) (C := RX12) (T := TX12) (N := 29) hx hb hts iw_X12_findings_X12 hown hK hP 0 rfl rfl 1 (by decide) (hts (.fieldLink RX12 7 "HolelessHouseModel" "findings" "[I") hm_X12_findings_1) (fun _ h9 => h9) rfl dX12_findings_10 ?_
    refine lv_iload_n hx hb dX12_findings_13 rfl (lv_at hl 1 rfl) ?_
    refine va_iald hx hb hK hP 1 0 rfl rfl (vin_iv j7 (by decide)) dX12_findings_14 (lv_topi (fun x8 x8_e => ?_))
    refine lv_goto (tgt := 19) hx hb dX12_findings_15 (by decide) ?_
    rw [hQ]
    exact W.iret (v := x8) hx hb hr (fun t ht hW => ⟨⟨x8, (), rfl, trivial, by rw [ht]; exact hP, va_K.moved hW.alike hK, hD⟩, hS.F ht⟩) hS.2.2 dX12_findings_19
theorem iw_X12_digest_X12 : ∀ w ∈ wsX120, w ∈ wsX12_digest := fun _ h => List.mem_cons.mpr (Or.inr (List.mem_append.mpr (Or.inr h)))
set_option maxHeartbeats 4000000 in
set_option maxRecDepth 100000 in
theorem kX12_digest_1 (l : Launch) (dC : Nat → ClassId) (dI : Nat → Nat → Nat) (cI c2 cZ : ClassId) (o1 : Nat) (o3 : Nat) (o6 : Nat) (o9 : Nat) (o11 : Nat) (o14 : Nat) (o17 : Nat) (o22 : Nat) (o24 : Nat) (o26 : Nat) (o28 : Nat) (o30 : Nat) (o33 : Nat) (o35 : Nat) (o37 : Nat) (o40 : Nat) (o42 : Nat) (o44 : Nat) (o47 : Nat) (v2 : Int32) (v5 : Int32) (fw7 : Nat → Int32) (v8 : Int32) (fw10 : Nat → Int32) (v13 : Int32) (fw15 : Nat → Int32) (v16 : Int32) (fw18 : Nat → Int32) (v19 : Int32) (v20 : Int32) (v21 : Int32) (v32 : Int32) (v39 : Int32) (v46 : Int32) (sz : Nat) (v5_h : Iv 0 12 v5) (fw7_b : Bd 12 0 4095 fw7) (v8_h : Iv 0 8 v8) (fw10_b : Bd 12 (-9) 255 fw10) (v13_h : Iv 0 12 v13) (fw15_b : Bd 12 0 11 fw15) (v16_h : Iv 0 12 v16) (fw18_b : Bd 12 0 11 fw18) (v19_h : Iv (-9) 12 v19) (v32_h : Iv 0 99 v32) (v39_h : Iv 0 12 v39) (v46_h : Iv 0 12 v46) : Met l yX12_digest wsX12_digest ({ frames := 0, cells := 0, slots := 0, locals := 0 }) (va_Pc [.ref o1] (wPre (dC, dI) [(cI, .int), (c2, .array .int), (cZ, .boolean)] ([(o1, .inr (12, [.int v2, .ref o3, .int v5, .ref o6, .int v8, .ref o9, .ref o11, .int v13, .ref o14, .int v16, .ref o17, .int v19, .int v20, .int v21, .ref o22, .ref o24, .ref o26, .ref o28, .ref o30, .int v32, .ref o33, .ref o35, .ref o37, .int v39, .ref o40, .ref o42, .ref o44, .int v46, .ref o47])), (o6, .inl (cI, 12, .inl fw7)), (o17, .inl (cI, 12, .inl fw18)), (o9, .inl (cI, 12, .inl fw10)), (o14, .inl (cI, 12, .inl fw15))]) sz)) (va_Ql (fun (r : Int64) (_ : Unit) => True) (fun _ t => wPost (dC, dI) [(cI, .int), (c2, .array .int), (cZ, .boolean)] (va_A ([(o1, .inr (12, [.int v2, .ref o3, .int v5, .ref o6, .int v8, .ref o9, .ref o11, .int v13, .ref o14, .int v16, .ref o17, .int v19, .int v20, .int v21, .ref o22, .ref o24, .ref o26, .ref o28, .ref o30, .int v32, .ref o33, .ref o35, .ref o37, .int v39, .ref o40, .ref o42, .ref o44, .int v46, .ref o47])), (o6, .inl (cI, 12, .inl fw7)), (o17, .inl (cI, 12, .inl fw18)), (o9, .inl (cI, 12, .inl fw10)), (o14, .inl (cI, 12, .inl fw15))]) sz) ([(o1, .inr (12, [.int v2, .ref o3, .int v5, .ref o6, .int v8, .ref o9, .ref o11, .int v13, .ref o14, .int v16, .ref o17, .int v19, .int v20, .int v21, .ref o22, .ref o24, .ref o26, .ref o28, .ref o30, .int v32, .ref o33, .ref o35, .ref o37, .int v39, .ref o40, .ref o42, .ref o44, .int v46, .ref o47])), (o6, .inl (cI, 12, .inl fw7)), (o17, .inl (cI, 12, .inl fw18)), (o9, .inl (cI, 12, .inl fw10)), (o14, .inl (cI, 12, .inl fw15))]) t) (va_A ([(o1, .inr (12, [.int v2, .ref o3, .int v5, .ref o6, .int v8, .ref o9, .ref o11, .int v13, .ref o14, .int v16, .ref o17, .int v19, .int v20, .int v21, .ref o22, .ref o24, .ref o26, .ref o28, .ref o30, .int v32, .ref o33, .ref o35, .ref o37, .int v39, .ref o40, .ref o42, .ref o44, .int v46, .ref o47])), (o6, .inl (cI, 12, .inl fw7)), (o17, .inl (cI, 12, .inl fw18)), (o9, .inl (cI, 12, .inl fw10)), (o14, .inl (cI, 12, .inl fw15))]) sz)) 0 0 (va_A ([(o1, .inr (12, [.int v2, .ref o3, .int v5, .ref o6, .int v8, .ref o9, .ref o11, .int v13, .ref o14, .int v16, .ref o17, .int v19, .int v20, .int v21, .ref o22, .ref o24, .ref o26, .ref o28, .ref o30, .int v32, .ref o33, .ref o35, .ref o37, .int v39, .ref o40, .ref o42, .ref o44, .int v46, .ref o47])), (o6, .inl (cI, 12, .inl fw7)), (o17, .inl (cI, 12, .inl fw18)), (o9, .inl (cI, 12, .inl fw10)), (o14, .inl (cI, 12, .inl fw15))]) sz) := by
  refine Met.ofW (cc := cX12_digest) (maxL := 4) (ret := (some .long)) (by decide) rfl ?_
  intro p e s m args below meth c s₁ B hml hv
  obtain ⟨rfl, hsz, hP, hK, hD0, hN⟩ := hv
  have hx := B.exec
  have hb := B.bytes
  have hr := B.returns
  have hts := atoms_spec (ws := wsX12_digest) B.pre
  have hown : s.vm.findClass RX12 = some m.cls := findClass_of_methodNamed B.named
  have hlocks := B.notSynchronized
  subst hsz
  have hD := hD0.self (sz := s.heap.size)
  generalize hAe : va_A ([(o1, .inr (12, [.int v2, .ref o3, .int v5, .ref o6, .int v8, .ref o9, .ref o11, .int v13, .ref o14, .int v16, .ref o17, .int v19, .int v20, .int v21, .ref o22, .ref o24, .ref o26, .ref o28, .ref o30, .int v32, .ref o33, .ref o35, .ref o37, .int v39, .ref o40, .ref o42, .ref o44, .int v46, .ref o47])), (o6, .inl (cI, 12, .inl fw7)), (o17, .inl (cI, 12, .inl fw18)), (o9, .inl (cI, 12, .inl fw10)), (o14, .inl (cI, 12, .inl fw15))]) s.heap.size = A at hD ⊢
  have hA : ∀ q : Nat, s.heap.size ≤ q → A q := fun q h => by rw [← hAe]; exact Or.inr h
  have hS : va_S A s.heap s.heap [] := va_S.rf
  have hP : va_P (dC, dI) vwCl ([(o1, .inr (12, [.int v2, .ref o3, .int v5, .ref o6, .int v8, .ref o9, .ref o11, .int v13, .ref o14, .int v16, .ref o17, .int v19, .int v20, .int v21, .ref o22, .ref o24, .ref o26, .ref o28, .ref o30, .int v32, .ref o33, .ref o35, .ref o37, .int v39, .ref o40, .ref o42, .ref o44, .int v46, .ref o47])), (o6, .inl (cI, 12, .inl fw7)), (o17, .inl (cI, 12, .inl fw18)), (o9, .inl (cI, 12, .inl fw10)), (o14, .inl (cI, 12, .inl fw15))]) s.heap := hP
  have hl := lv_entry ([.ref o1]) (n := 4) (Nat.le_of_ble_eq_true rfl)
  rw [lg_entry_eq]
  generalize (lg_sl ([.ref o1]) ++ List.replicate (4 - (lg_sl ([.ref o1])).length) Slot.unset).toArray = ls at hl ⊢
  have hl : lv_has ls 4 [(0, .ref o1)] := hl
  refine gen_Q (fun Q hQ => ?_)
  refine lv_ldc2 (v := 527) hx hb hown (hts (.constantLong RX12 217 (527)) hm_X12_digest_1) dX12_digest_0 ?_
  refine lv_aload_n hx hb dX12_digest_3 rfl (lv_at hl 0 rfl) ?_
  refine va_get (D := (dC, dI)) (ci := 12) (v := .int v5) (C := RX12) (T := TX12) (N := 29) hx hb hts iw_X12_digest_X12 hown hK hP 0 rfl rfl 2 (by decide) (hts (.fieldLink RX12 73 "HolelessHouseModel" "n" "I") hm_X12_digest_2) (fun _ h9 => h9) rfl dX12_digest_4 ?_
  refine lv_i2l (v := Int32.toInt64 v5) hx hb dX12_digest_7 rfl (lv_topl (fun l1 l1_e => ?_))
  refine lv_ladd hx hb dX12_digest_8 (lv_topl (fun l2 l2_e => ?_))
  refine lv_lstore_n (lv' := [(1, .long l2), (0, .ref o1)]) hx hb dX12_digest_9 rfl hl (by decide) rfl (fun ls hl => ?_)
  refine lv_iconst (v := 0) hx hb dX12_digest_10 (by decide) ?_
  refine lv_istore_n (lv' := [(3, .int 0), (1, .long l2), (0, .ref o1)]) hx hb dX12_digest_11 rfl hl (by decide) rfl (fun ls hl => ?_)
  have L1 : ∀ (N : Nat) (x80 : Int32) (l81 : Int64) (H : Heap) (locs : List Loc) (ls : Array Slot), (12 - x80.toInt).toNat < N → Iv 0 12 x80 → va_P (dC, dI) vwCl ([(o1, .inr (12, [.int v2, .ref o3, .int v5, .ref o6, .int v8, .ref o9, .ref o11, .int v13, .ref o14, .int v16, .ref o17, .int v19, .int v20, .int v21, .ref o22, .ref o24, .ref o26, .ref o28, .ref o30, .int v32, .ref o33, .ref o35, .ref o37, .int v39, .ref o40, .ref o42, .ref o44, .int v46, .ref o47])), (o6, .inl (cI, 12, .inl fw7)), (o17, .inl (cI, 12, .inl fw18)), (o9, .inl (cI, 12, .inl fw10)), (o14, .inl (cI, 12, .inl fw15))]) H → va_D A ([(o1, .inr (12, [.int v2, .ref o3, .int v5, .ref o6, .int v8, .ref o9, .ref o11, .int v13, .ref o14, .int v16, .ref o17, .int v19, .int v20, .int v21, .ref o22, .ref o24, .ref o26, .ref o28, .ref o30, .int v32, .ref o33, .ref o35, .ref o37, .int v39, .ref o40, .ref o42, .ref o44, .int v46, .ref o47])), (o6, .inl (cI, 12, .inl fw7)), (o17, .inl (cI, 12, .inl fw18)), (o9, .inl (cI, 12, .inl fw10)), (o14, .inl (cI, 12, .inl fw15))]) → va_S A s.heap H locs → lv_has ls 4 [(3, .int x80), (1, .long l81), (0, .ref o1)] → W p l e ({ frames := 0, cells := 0, slots := 0, locals := 0 }) s m ([.ref o1] : List Value).toArray below meth c H locs 0 0 Q (F0 m 12 ls []) := by
    intro N
    induction N with
    | zero =>
      intro x80 l81 H locs ls hM
      exact absurd hM (Nat.not_lt_zero _)
    | succ N ih1 =>
      intro x80 l81 H locs ls hM1 x80_h hP hD hS hl
      refine lv_iload_n hx hb dX12_digest_12 rfl (lv_at hl 0 rfl) ?_
      refine lv_aload_n hx hb dX12_digest_13 rfl (lv_at hl 2 rfl) ?_
      refine va_get (D := (dC, dI)) (ci := 12) (v := .int v5) (C := RX12) (T := TX12) (N := 29) hx hb hts iw_X12_digest_X12 hown hK hP 0 rfl rfl 2 (by decide) (hts (.fieldLink RX12 73 "HolelessHouseModel" "n" "I") hm_X12_digest_2) (fun _ h9 => h9) rfl dX12_digest_14 ?_
      refine lv_icmp_ge (tgt := 40) hx hb dX12_digest_17 (by decide) (fun h82 => ?_) (fun h82 => ?_)
      ·
        have qh82 := le_i h82
        refine lv_iconst (v := 0) hx hb dX12_digest_40 (by decide) ?_
        refine lv_istore_n (lv' := [(3, .int 0), (1, .long l81), (0, .ref o1)]) hx hb dX12_digest_41 rfl hl (by decide) rfl (fun ls hl => ?_)
        have L2 : ∀ (N : Nat) (x160 : Int32) (l161 : Int64) (H : Heap) (locs : List Loc) (ls : Array Slot), (12 - x160.toInt).toNat < N → Iv 0 12 x160 → va_P (dC, dI) vwCl ([(o1, .inr (12, [.int v2, .ref o3, .int v5, .ref o6, .int v8, .ref o9, .ref o11, .int v13, .ref o14, .int v16, .ref o17, .int v19, .int v20, .int v21, .ref o22, .ref o24, .ref o26, .ref o28, .ref o30, .int v32, .ref o33, .ref o35, .ref o37, .int v39, .ref o40, .ref o42, .ref o44, .int v46, .ref o47])), (o6, .inl (cI, 12, .inl fw7)), (o17, .inl (cI, 12, .inl fw18)), (o9, .inl (cI, 12, .inl fw10)), (o14, .inl (cI, 12, .inl fw15))]) H → va_D A ([(o1, .inr (12, [.int v2, .ref o3, .int v5, .ref o6, .int v8, .ref o9, .ref o11, .int v13, .ref o14, .int v16, .ref o17, .int v19, .int v20, .int v21, .ref o22, .ref o24, .ref o26, .ref o28, .ref o30, .int v32, .ref o33, .ref o35, .ref o37, .int v39, .ref o40, .ref o42, .ref o44, .int v46, .ref o47])), (o6, .inl (cI, 12, .inl fw7)), (o17, .inl (cI, 12, .inl fw18)), (o9, .inl (cI, 12, .inl fw10)), (o14, .inl (cI, 12, .inl fw15))]) → va_S A s.heap H locs → lv_has ls 4 [(3, .int x160), (1, .long l161), (0, .ref o1)] → W p l e ({ frames := 0, cells := 0, slots := 0, locals := 0 }) s m ([.ref o1] : List Value).toArray below meth c H locs 0 0 Q (F0 m 42 ls []) := by
          intro N
          induction N with
          | zero =>
            intro x160 l161 H locs ls hM
            exact absurd hM (Nat.not_lt_zero _)
          | succ N ih2 =>
            intro x160 l161 H locs ls hM2 x160_h hP hD hS hl
            refine lv_iload_n hx hb dX12_digest_42 rfl (lv_at hl 0 rfl) ?_
            refine lv_aload_n hx hb dX12_digest_43 rfl (lv_at hl 2 rfl) ?_
            refine va_get (D := (dC, dI)) (ci := 12) (v := .int v19) (C := RX12) (T := TX12) (N := 29) hx hb hts iw_X12_digest_X12 hown hK hP 0 rfl rfl 11 (by decide) (hts (.fieldLink RX12 28 "HolelessHouseModel" "ordered" "I") hm_X12_digest_5) (fun _ h9 => h9) rfl dX12_digest_44 ?_
            refine lv_icmp_ge (tgt := 70) hx hb dX12_digest_47 (by decide) (fun h162 => ?_) (fun h162 => ?_)
            ·
              have qh162 := le_i h162
              refine lv_ldc2 (v := 31) hx hb hown (hts (.constantLong RX12 219 (31)) hm_X12_digest_3) dX12_digest_70 ?_
              refine lv_lload_n hx hb dX12_digest_73 rfl (lv_at hl 1 rfl) ?_
              refine lv_lmul hx hb dX12_digest_74 (lv_topl (fun l163 l163_e => ?_))
              refine lv_aload_n hx hb dX12_digest_75 rfl (lv_at hl 2 rfl) ?_
              refine va_get (D := (dC, dI)) (ci := 12) (v := .int v8) (C := RX12) (T := TX12) (N := 29) hx hb hts iw_X12_digest_X12 hown hK hP 0 rfl rfl 4 (by decide) (hts (.fieldLink RX12 128 "HolelessHouseModel" "columns" "I") hm_X12_digest_7) (fun _ h9 => h9) rfl dX12_digest_76 ?_
              refine lv_i2l (v := Int32.toInt64 v8) hx hb dX12_digest_79 rfl (lv_topl (fun l164 l164_e => ?_))
              refine lv_ladd hx hb dX12_digest_80 (lv_topl (fun l165 l165_e => ?_))
              refine lv_lstore_n (lv' := [(1, .long l165), (3, .int x160), (0, .ref o1)]) hx hb dX12_digest_81 rfl hl (by decide) rfl (fun ls hl => ?_)
              refine lv_iconst (v := 0) hx hb dX12_digest_82 (by decide) ?_
              refine lv_istore_n (lv' := [(3, .int 0), (1, .long l165), (0, .ref o1)]) hx hb dX12_digest_83 rfl hl (by decide) rfl (fun ls hl => ?_)
              have L3 : ∀ (N : Nat) (x277 : Int32) (l278 : Int64) (H : Heap) (locs : List Loc) (ls : Array Slot), (12 - x277.toInt).toNat < N → Iv 0 12 x277 → va_P (dC, dI) vwCl ([(o1, .inr (12, [.int v2, .ref o3, .int v5, .ref o6, .int v8, .ref o9, .ref o11, .int v13, .ref o14, .int v16, .ref o17, .int v19, .int v20, .int v21, .ref o22, .ref o24, .ref o26, .ref o28, .ref o30, .int v32, .ref o33, .ref o35, .ref o37, .int v39, .ref o40, .ref o42, .ref o44, .int v46, .ref o47])), (o6, .inl (cI, 12, .inl fw7)), (o17, .inl (cI, 12, .inl fw18)), (o9, .inl (cI, 12, .inl fw10)), (o14, .inl (cI, 12, .inl fw15))]) H → va_D A ([(o1, .inr (12, [.int v2, .ref o3, .int v5, .ref o6, .int v8, .ref o9, .ref o11, .int v13, .ref o14, .int v16, .ref o17, .int v19, .int v20, .int v21, .ref o22, .ref o24, .ref o26, .ref o28, .ref o30, .int v32, .ref o33, .ref o35, .ref o37, .int v39, .ref o40, .ref o42, .ref o44, .int v46, .ref o47])), (o6, .inl (cI, 12, .inl fw7)), (o17, .inl (cI, 12, .inl fw18)), (o9, .inl (cI, 12, .inl fw10)), (o14, .inl (cI, 12, .inl fw15))]) → va_S A s.heap H locs → lv_has ls 4 [(3, .int x277), (1, .long l278), (0, .ref o1)] → W p l e ({ frames := 0, cells := 0, slots := 0, locals := 0 }) s m ([.ref o1] : List Value).toArray below meth c H locs 0 0 Q (F0 m 84 ls []) := by
                intro N
                induction N with
                | zero =>
                  intro x277 l278 H locs ls hM
                  exact absurd hM (Nat.not_lt_zero _)
                | succ N ih3 =>
                  intro x277 l278 H locs ls hM3 x277_h hP hD hS hl
                  refine lv_iload_n hx hb dX12_digest_84 rfl (lv_at hl 0 rfl) ?_
                  refine lv_bipush (v := 12) hx hb dX12_digest_85 (by decide) ?_
                  refine lv_icmp_ge (tgt := 123) hx hb dX12_digest_87 (by decide) (fun h279 => ?_) (fun h279 => ?_)
                  ·
                    have qh279 := le_i h279
                    have j280 : Iv 12 12 x277 := r_ler qh279 ik_12 x277_h (by decide)
                    refine lv_iconst (v := 0) hx hb dX12_digest_123 (by decide) ?_
                    refine lv_istore_n (lv' := [(3, .int 0), (1, .long l278), (0, .ref o1)]) hx hb dX12_digest_124 rfl hl (by decide) rfl (fun ls hl => ?_)
                    have L4 : ∀ (N : Nat) (x358 : Int32) (l359 : Int64) (H : Heap) (locs : List Loc) (ls : Array Slot), (12 - x358.toInt).toNat < N → Iv 0 12 x358 → va_P (dC, dI) vwCl ([(o1, .inr (12, [.int v2, .ref o3, .int v5, .ref o6, .int v8, .ref o9, .ref o11, .int v13, .ref o14, .int v16, .ref o17, .int v19, .int v20, .int v21, .ref o22, .ref o24, .ref o26, .ref o28, .ref o30, .int v32, .ref o33, .ref o35, .ref o37, .int v39, .ref o40, .ref o42, .ref o44, .int v46, .ref o47])), (o6, .inl (cI, 12, .inl fw7)), (o17, .inl (cI, 12, .inl fw18)), (o9, .inl (cI, 12, .inl fw10)), (o14, .inl (cI, 12, .inl fw15))]) H → va_D A ([(o1, .inr (12, [.int v2, .ref o3, .int v5, .ref o6, .int v8, .ref o9, .ref o11, .int v13, .ref o14, .int v16, .ref o17, .int v19, .int v20, .int v21, .ref o22, .ref o24, .ref o26, .ref o28, .ref o30, .int v32, .ref o33, .ref o35, .ref o37, .int v39, .ref o40, .ref o42, .ref o44, .int v46, .ref o47])), (o6, .inl (cI, 12, .inl fw7)), (o17, .inl (cI, 12, .inl fw18)), (o9, .inl (cI, 12, .inl fw10)), (o14, .inl (cI, 12, .inl fw15))]) → va_S A s.heap H locs → lv_has ls 4 [(3, .int x358), (1, .long l359), (0, .ref o1)] → W p l e ({ frames := 0, cells := 0, slots := 0, locals := 0 }) s m ([.ref o1] : List Value).toArray below meth c H locs 0 0 Q (F0 m 125 ls []) := by
                      intro N
                      induction N with
                      | zero =>
                        intro x358 l359 H locs ls hM
                        exact absurd hM (Nat.not_lt_zero _)
                      | succ N ih4 =>
                        intro x358 l359 H locs ls hM4 x358_h hP hD hS hl
                        refine lv_iload_n hx hb dX12_digest_125 rfl (lv_at hl 0 rfl) ?_
                        refine lv_aload_n hx hb dX12_digest_126 rfl (lv_at hl 2 rfl) ?_
                        refine va_get (D := (dC, dI)) (ci := 12) (v := .int v16) (C := RX12) (T := TX12) (N := 29) hx hb hts iw_X12_digest_X12 hown hK hP 0 rfl rfl 9 (by decide) (hts (.fieldLink RX12 80 "HolelessHouseModel" "drafted" "I") hm_X12_digest_9) (fun _ h9 => h9) rfl dX12_digest_127 ?_
                        refine lv_icmp_ge (tgt := 153) hx hb dX12_digest_130 (by decide) (fun h360 => ?_) (fun h360 => ?_)
                        ·
                          have qh360 := le_i h360
                          refine lv_lload_n hx hb dX12_digest_153 rfl (lv_at hl 1 rfl) ?_
                          rw [hQ]
                          exact W.lret (v := l359) hx hb hr (fun t ht hW => ⟨⟨l359, (), rfl, trivial, by rw [ht]; exact hP, va_K.moved hW.alike hK, hD⟩, hS.F ht⟩) hS.2.2 dX12_digest_154
                        ·
                          have qh360 := nle_i h360
                          have j361 : Iv 0 11 x358 := r_ltl qh360 x358_h v16_h (by decide)
                          have j362 : Iv 1 12 v16 := r_ltr qh360 x358_h v16_h (by decide)
                          refine lv_ldc2 (v := 31) hx hb hown (hts (.constantLong RX12 219 (31)) hm_X12_digest_3) dX12_digest_133 ?_
                          refine lv_lload_n hx hb dX12_digest_136 rfl (lv_at hl 1 rfl) ?_
                          refine lv_lmul hx hb dX12_digest_137 (lv_topl (fun l363 l363_e => ?_))
                          refine lv_aload_n hx hb dX12_digest_138 rfl (lv_at hl 2 rfl) ?_
                          refine va_get (D := (dC, dI)) (ci := 12) (v := .ref o14) (C := RX12) (T := TX12) (N := 29) hx hb hts iw_X12_digest_X12 hown hK hP 0 rfl rfl 8 (by decide) (hts (.fieldLink RX12 22 "HolelessHouseModel" "draft" "[I") hm_X12_digest_10) (fun _ h9 => h9) rfl dX12_digest_139 ?_
                          refine lv_iload_n hx hb dX12_digest_142 rfl (lv_at hl 0 rfl) ?_
                          refine va_iald hx hb hK hP 4 0 rfl rfl (vin_iv j361 (by decide)) dX12_digest_143 (lv_topi (fun x364 x364_e => ?_))
                          have x364_h : Iv 0 11 x364 := iv_e x364_e (bd_at fw15_b (vin_iv j361 (by decide)))
                          refine lv_i2l (v := Int32.toInt64 x364) hx hb dX12_digest_144 rfl (lv_topl (fun l365 l365_e => ?_))
                          refine lv_ladd hx hb dX12_digest_145 (lv_topl (fun l366 l366_e => ?_))
                          refine lv_lstore_n (lv' := [(1, .long l366), (3, .int x358), (0, .ref o1)]) hx hb dX12_digest_146 rfl hl (by decide) rfl (fun ls hl => ?_)
                          obtain ⟨x367, x367_e⟩ : ∃ z : Int32, z = x358 + 1 := ⟨_, rfl⟩
                          have x367_h : Iv 1 12 x367 := iv_e x367_e (iv_add j361 ik_1 (by decide))
                          refine lv_iinc (v := x367) (lv' := [(3, .int x367), (1, .long l366), (0, .ref o1)]) hx hb dX12_digest_147 hl (k := 1) rfl (incN (by decide +kernel) x367_e) (by decide) rfl (fun ls hl => ?_)
                          refine lv_goto (tgt := 125) hx hb dX12_digest_150 (by decide) ?_
                          exact ih4 x367 l366 _ _ _ (ms_up x367_e j361 (by decide) hM4) (iv_w x367_h (by decide)) hP hD hS hl
                    exact L4 _ 0 l278 _ _ _ (Nat.lt_succ_self _) (iv_w ik_0 (by decide)) hP hD hS hl
                  ·
                    have qh279 := nle_i h279
                    have j368 : Iv 0 11 x277 := r_ltl qh279 x277_h ik_12 (by decide)
                    refine lv_ldc2 (v := 31) hx hb hown (hts (.constantLong RX12 219 (31)) hm_X12_digest_3) dX12_digest_90 ?_
                    refine lv_lload_n hx hb dX12_digest_93 rfl (lv_at hl 1 rfl) ?_
                    refine lv_lmul hx hb dX12_digest_94 (lv_topl (fun l369 l369_e => ?_))
                    refine lv_aload_n hx hb dX12_digest_95 rfl (lv_at hl 2 rfl) ?_
                    refine va_get (D := (dC, dI)) (ci := 12) (v := .ref o9) (C := RX12) (T := TX12) (N := 29) hx hb hts iw_X12_digest_X12 hown hK hP 0 rfl rfl 5 (by decide) (hts (.fieldLink RX12 16 "HolelessHouseModel" "rows" "[I") hm_X12_digest_8) (fun _ h9 => h9) rfl dX12_digest_96 ?_
                    refine lv_iload_n hx hb dX12_digest_99 rfl (lv_at hl 0 rfl) ?_
                    refine va_iald hx hb hK hP 3 0 rfl rfl (vin_iv j368 (by decide)) dX12_digest_100 (lv_topi (fun x370 x370_e => ?_))
                    have x370_h : Iv (-9) 255 x370 := iv_e x370_e (bd_at fw10_b (vin_iv j368 (by decide)))
                    refine lv_if_ge (tgt := 108) hx hb dX12_digest_101 (by decide) (fun h371 => ?_) (fun h371 => ?_)
                    ·
                      have qh371 := le_i h371
                      have j372 : Iv 0 255 x370 := r_ler qh371 ik_0 x370_h (by decide)
                      refine lv_aload_n hx hb dX12_digest_108 rfl (lv_at hl 2 rfl) ?_
                      refine va_get (D := (dC, dI)) (ci := 12) (v := .ref o9) (C := RX12) (T := TX12) (N := 29) hx hb hts iw_X12_digest_X12 hown hK hP 0 rfl rfl 5 (by decide) (hts (.fieldLink RX12 16 "HolelessHouseModel" "rows" "[I") hm_X12_digest_8) (fun _ h9 => h9) rfl dX12_digest_109 ?_
                      refine lv_iload_n hx hb dX12_digest_112 rfl (lv_at hl 0 rfl) ?_
                      refine va_iald hx hb hK hP 3 0 rfl rfl (vin_iv j368 (by decide)) dX12_digest_113 (lv_topi (fun x373 x373_e => ?_))
                      have x373_h : Iv 0 255 x373 := iv_e (x373_e.trans x370_e.symm) j372
                      refine lv_i2l (v := Int32.toInt64 x373) hx hb dX12_digest_114 rfl (lv_topl (fun l374 l374_e => ?_))
                      refine lv_ladd hx hb dX12_digest_115 (lv_topl (fun l375 l375_e => ?_))
                      refine lv_lstore_n (lv' := [(1, .long l375), (3, .int x277), (0, .ref o1)]) hx hb dX12_digest_116 rfl hl (by decide) rfl (fun ls hl => ?_)
                      obtain ⟨x376, x376_e⟩ : ∃ z : Int32, z = x277 + 1 := ⟨_, rfl⟩
                      have x376_h : Iv 1 12 x376 := iv_e x376_e (iv_add j368 ik_1 (by decide))
                      refine lv_iinc (v := x376) (lv' := [(3, .int x376), (1, .long l375), (0, .ref o1)]) hx hb dX12_digest_117 hl (k := 1) rfl (incN (by decide +kernel) x376_e) (by decide) rfl (fun ls hl => ?_)
                      refine lv_goto (tgt := 84) hx hb dX12_digest_120 (by decide) ?_
                      exact ih3 x376 l375 _ _ _ (ms_up x376_e j368 (by decide) hM3) (iv_w x376_h (by decide)) hP hD hS hl
                    ·
                      have qh371 := nle_i h371
                      have j377 : Iv (-9) (-1) x370 := r_ltl qh371 x370_h ik_0 (by decide)
                      refine lv_iconst (v := (-1)) hx hb dX12_digest_104 (by decide) ?_
                      refine lv_goto (tgt := 114) hx hb dX12_digest_105 (by decide) ?_
                      refine lv_i2l (v := Int32.toInt64 (-1)) hx hb dX12_digest_114 rfl (lv_topl (fun l378 l378_e => ?_))
                      refine lv_ladd hx hb dX12_digest_115 (lv_topl (fun l379 l379_e => ?_))
                      refine lv_lstore_n (lv' := [(1, .long l379), (3, .int x277), (0, .ref o1)]) hx hb dX12_digest_116 rfl hl (by decide) rfl (fun ls hl => ?_)
                      obtain ⟨x380, x380_e⟩ : ∃ z : Int32, z = x277 + 1 := ⟨_, rfl⟩
                      have x380_h : Iv 1 12 x380 := iv_e x380_e (iv_add j368 ik_1 (by decide))
                      refine lv_iinc (v := x380) (lv' := [(3, .int x380), (1, .long l379), (0, .ref o1)]) hx hb dX12_digest_117 hl (k := 1) rfl (incN (by decide +kernel) x380_e) (by decide) rfl (fun ls hl => ?_)
                      refine lv_goto (tgt := 84) hx hb dX12_digest_120 (by decide) ?_
                      exact ih3 x380 l379 _ _ _ (ms_up x380_e j368 (by decide) hM3) (iv_w x380_h (by decide)) hP hD hS hl
              exact L3 _ 0 l165 _ _ _ (Nat.lt_succ_self _) (iv_w ik_0 (by decide)) hP hD hS hl
            ·
              have qh162 := nle_i h162
              have j381 : Iv 0 11 x160 := r_ltl qh162 x160_h v19_h (by decide)
              have j382 : Iv 1 12 v19 := r_ltr qh162 x160_h v19_h (by decide)
              refine lv_ldc2 (v := 31) hx hb hown (hts (.constantLong RX12 219 (31)) hm_X12_digest_3) dX12_digest_50 ?_
              refine lv_lload_n hx hb dX12_digest_53 rfl (lv_at hl 1 rfl) ?_
              refine lv_lmul hx hb dX12_digest_54 (lv_topl (fun l383 l383_e => ?_))
              refine lv_aload_n hx hb dX12_digest_55 rfl (lv_at hl 2 rfl) ?_
              refine va_get (D := (dC, dI)) (ci := 12) (v := .ref o17) (C := RX12) (T := TX12) (N := 29) hx hb hts iw_X12_digest_X12 hown hK hP 0 rfl rfl 10 (by decide) (hts (.fieldLink RX12 25 "HolelessHouseModel" "order" "[I") hm_X12_digest_6) (fun _ h9 => h9) rfl dX12_digest_56 ?_
              refine lv_iload_n hx hb dX12_digest_59 rfl (lv_at hl 0 rfl) ?_
              refine va_iald hx hb hK hP 2 0 rfl rfl (vin_iv j381 (by decide)) dX12_digest_60 (lv_topi (fun x384 x384_e => ?_))
              have x384_h : Iv 0 11 x384 := iv_e x384_e (bd_at fw18_b (vin_iv j381 (by decide)))
              refine lv_i2l (v := Int32.toInt64 x384) hx hb dX12_digest_61 rfl (lv_topl (fun l385 l385_e => ?_))
              refine lv_ladd hx hb dX12_digest_62 (lv_topl (fun l386 l386_e => ?_))
              refine lv_lstore_n (lv' := [(1, .long l386), (3, .int x160), (0, .ref o1)]) hx hb dX12_digest_63 rfl hl (by decide) rfl (fun ls hl => ?_)
              obtain ⟨x387, x387_e⟩ : ∃ z : Int32, z = x160 + 1 := ⟨_, rfl⟩
              have x387_h : Iv 1 12 x387 := iv_e x387_e (iv_add j381 ik_1 (by decide))
              refine lv_iinc (v := x387) (lv' := [(3, .int x387), (1, .long l386), (0, .ref o1)]) hx hb dX12_digest_64 hl (k := 1) rfl (incN (by decide +kernel) x387_e) (by decide) rfl (fun ls hl => ?_)
              refine lv_goto (tgt := 42) hx hb dX12_digest_67 (by decide) ?_
              exact ih2 x387 l386 _ _ _ (ms_up x387_e j381 (by decide) hM2) (iv_w x387_h (by decide)) hP hD hS hl
        exact L2 _ 0 l81 _ _ _ (Nat.lt_succ_self _) (iv_w ik_0 (by decide)) hP hD hS hl
      ·
        have qh82 := nle_i h82
        have j388 : Iv 0 11 x80 := r_ltl qh82 x80_h v5_h (by decide)
        have j389 : Iv 1 12 v5 := r_ltr qh82 x80_h v5_h (by decide)
        refine lv_ldc2 (v := 31) hx hb hown (hts (.constantLong RX12 219 (31)) hm_X12_digest_3) dX12_digest_20 ?_
        refine lv_lload_n hx hb dX12_digest_23 rfl (lv_at hl 1 rfl) ?_
        refine lv_lmul hx hb dX12_digest_24 (lv_topl (fun l390 l390_e => ?_))
        refine lv_aload_n hx hb dX12_digest_25 rfl (lv_at hl 2 rfl) ?_
        refine va_get (D := (dC, dI)) (ci := 12) (v := .ref o6) (C := RX12) (T := TX12) (N := 29) hx hb hts iw_X12_digest_X12 hown hK hP 0 rfl rfl 3 (by decide) (hts (.fieldLink RX12 13 "HolelessHouseModel" "near" "[I") hm_X12_digest_4) (fun _ h9 => h9) rfl dX12_digest_26 ?_
        refine lv_iload_n hx hb dX12_digest_29 rfl (lv_at hl 0 rfl) ?_
        refine va_iald hx hb hK hP 1 0 rfl rfl (vin_iv j388 (by decide)) dX12_digest_30 (lv_topi (fun x391 x391_e => ?_))
        have x391_h : Iv 0 4095 x391 := iv_e x391_e (bd_at fw7_b (vin_iv j388 (by decide)))
        refine lv_i2l (v := Int32.toInt64 x391) hx hb dX12_digest_31 rfl (lv_topl (fun l392 l392_e => ?_))
        refine lv_ladd hx hb dX12_digest_32 (lv_topl (fun l393 l393_e => ?_))
        refine lv_lstore_n (lv' := [(1, .long l393), (3, .int x80), (0, .ref o1)]) hx hb dX12_digest_33 rfl hl (by decide) rfl (fun ls hl => ?_)
        obtain ⟨x394, x394_e⟩ : ∃ z : Int32, z = x80 + 1 := ⟨_, rfl⟩
        have x394_h : Iv 1 12 x394 := iv_e x394_e (iv_add j388 ik_1 (by decide))
        refine lv_iinc (v := x394) (lv' := [(3, .int x394), (1, .long l393), (0, .ref o1)]) hx hb dX12_digest_34 hl (k := 1) rfl (incN (by decide +kernel) x394_e) (by decide) rfl (fun ls hl => ?_)
        refine lv_goto (tgt := 12) hx hb dX12_digest_37 (by decide) ?_
        exact ih1 x394 l393 _ _ _ (ms_up x394_e j388 (by decide) hM1) (iv_w x394_h (by decide)) hP hD hS hl
  exact L1 _ 0 l2 _ _ _ (Nat.lt_succ_self _) (iv_w ik_0 (by decide)) hP hD hS hl
