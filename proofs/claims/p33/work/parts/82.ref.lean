theorem hm_X12_hasSpans_1 : (.fieldLink RX12 191 "HolelessHouseModel" "thingMany" "I" : Cond) ∈ wsX12_hasSpans := List.mem_of_getElem? (i := 1) rfl
theorem hm_X12_hasSpans_2 : (.fieldLink RX12 197 "HolelessHouseModel" "lined" "I" : Cond) ∈ wsX12_hasSpans := List.mem_of_getElem? (i := 2) rfl
theorem hm_X12_hasSpans_3 : (.fieldLink RX12 164 "HolelessHouseModel" "cliqueMany" "I" : Cond) ∈ wsX12_hasSpans := List.mem_of_getElem? (i := 3) rfl
theorem hm_X12_hasSpans_4 : (.fieldLink RX12 54 "HolelessHouseModel" "things" "[I" : Cond) ∈ wsX12_hasSpans := List.mem_of_getElem? (i := 4) rfl
theorem hm_X12_hasSpans_5 : (.fieldLink RX12 45 "HolelessHouseModel" "cliques" "[I" : Cond) ∈ wsX12_hasSpans := List.mem_of_getElem? (i := 5) rfl
theorem hm_X12_line_1 : (.fieldLink RX12 197 "HolelessHouseModel" "lined" "I" : Cond) ∈ wsX12_line := List.mem_of_getElem? (i := 1) rfl
theorem hm_X12_line_2 : (.fieldLink RX12 64 "HolelessHouseModel" "line" "[I" : Cond) ∈ wsX12_line := List.mem_of_getElem? (i := 2) rfl
theorem hm_X12_span_1 : (.fieldLink RX12 197 "HolelessHouseModel" "lined" "I" : Cond) ∈ wsX12_span := List.mem_of_getElem? (i := 1) rfl
theorem hm_X12_span_2 : (.fieldLink RX12 45 "HolelessHouseModel" "cliques" "[I" : Cond) ∈ wsX12_span := List.mem_of_getElem? (i := 2) rfl
theorem hm_X12_span_3 : (.fieldLink RX12 64 "HolelessHouseModel" "line" "[I" : Cond) ∈ wsX12_span := List.mem_of_getElem? (i := 3) rfl
theorem hm_X12_isFar_1 : (.fieldLink RX12 13 "HolelessHouseModel" "near" "[I" : Cond) ∈ wsX12_isFar := List.mem_of_getElem? (i := 1) rfl
theorem hm_X12_far_1 : (.fieldLink RX12 73 "HolelessHouseModel" "n" "I" : Cond) ∈ wsX12_far := List.mem_of_getElem? (i := 1) rfl
theorem hm_X12_columns_1 : (.fieldLink RX12 128 "HolelessHouseModel" "columns" "I" : Cond) ∈ wsX12_columns := List.mem_of_getElem? (i := 1) rfl
theorem hm_X12_columns_2 : (.fieldLink RX12 16 "HolelessHouseModel" "rows" "[I" : Cond) ∈ wsX12_columns := List.mem_of_getElem? (i := 2) rfl
theorem iw_X12_hasSpans_X12 : ∀ w ∈ wsX120, w ∈ wsX12_hasSpans := fun _ h => List.mem_cons.mpr (Or.inr (List.mem_append.mpr (Or.inr h)))
set_option maxHeartbeats 4000000 in
set_option maxRecDepth 100000 in
theorem kX12_hasSpans_1 (l : Launch) (dC : Nat → ClassId) (dI : Nat → Nat → Nat) (cI c2 cZ : ClassId) (o1 : Nat) (o3 : Nat) (o6 : Nat) (o9 : Nat) (o11 : Nat) (o14 : Nat) (o17 : Nat) (o22 : Nat) (o24 : Nat) (o26 : Nat) (o28 : Nat) (o30 : Nat) (o33 : Nat) (o35 : Nat) (o37 : Nat) (o40 : Nat) (o42 : Nat) (o44 : Nat) (o47 : Nat) (v2 : Int32) (v5 : Int32) (fw7 : Nat → Int32) (v8 : Int32) (v13 : Int32) (v16 : Int32) (v19 : Int32) (v20 : Int32) (v21 : Int32) (fw31 : Nat → Int32) (v32 : Int32) (fw38 : Nat → Int32) (v39 : Int32) (fw41 : Nat → Int32) (fw43 : Nat → Int32) (fw45 : Nat → Int32) (v46 : Int32) (sz : Nat) (v5_h : Iv 0 12 v5) (fw7_b : Bd 12 0 4095 fw7) (v8_h : Iv 0 8 v8) (v13_h : Iv 0 12 v13) (v16_h : Iv 0 12 v16) (v19_h : Iv (-9) 12 v19) (fw31_b : Bd 100 0 4095 fw31) (v32_h : Iv 0 99 v32) (v39_h : Iv 0 12 v39) (fw45_b : Bd 12 0 11 fw45) (v46_h : Iv 0 12 v46) : Met l yX12_hasSpans wsX12_hasSpans ({ frames := 4, cells := 0, slots := 0, locals := 88 }) (va_Pc [.ref o1] (wPre (dC, dI) [(cI, .int), (c2, .array .int), (cZ, .boolean)] ([(o1, .inr (12, [.int v2, .ref o3, .int v5, .ref o6, .int v8, .ref o9, .ref o11, .int v13, .ref o14, .int v16, .ref o17, .int v19, .int v20, .int v21, .ref o22, .ref o24, .ref o26, .ref o28, .ref o30, .int v32, .ref o33, .ref o35, .ref o37, .int v39, .ref o40, .ref o42, .ref o44, .int v46, .ref o47])), (o6, .inl (cI, 12, .inl fw7)), (o30, .inl (cI, 100, .inl fw31)), (o37, .inl (cI, 12, .inl fw38)), (o42, .inl (cI, 49152, .inl fw43)), (o40, .inl (cZ, 49152, .inl fw41)), (o44, .inl (cI, 12, .inl fw45))]) sz)) (va_Qi (fun (r : Int32) (u : Int32 × Int32 × Int32 × (Nat → Int32) × (Nat → Int32) × (Nat → Int32) × (Nat → Int32) × (Nat → Int32)) => Iv 0 1 r ∧ Iv 0 99 u.1 ∧ Iv 0 12 u.2.1 ∧ Iv 0 12 u.2.2.1 ∧ Bd 100 0 4095 u.2.2.2.1 ∧ Bd 12 0 11 u.2.2.2.2.2.2.2) (fun u t => wPost (dC, dI) [(cI, .int), (c2, .array .int), (cZ, .boolean)] (va_A ([(o1, .inr (12, [.int v2, .ref o3, .int v5, .ref o6, .int v8, .ref o9, .ref o11, .int v13, .ref o14, .int v16, .ref o17, .int v19, .int v20, .int v21, .ref o22, .ref o24, .ref o26, .ref o28, .ref o30, .int v32, .ref o33, .ref o35, .ref o37, .int v39, .ref o40, .ref o42, .ref o44, .int v46, .ref o47])), (o6, .inl (cI, 12, .inl fw7)), (o30, .inl (cI, 100, .inl fw31)), (o37, .inl (cI, 12, .inl fw38)), (o42, .inl (cI, 49152, .inl fw43)), (o40, .inl (cZ, 49152, .inl fw41)), (o44, .inl (cI, 12, .inl fw45))]) sz) ([(o1, .inr (12, [.int v2, .ref o3, .int v5, .ref o6, .int v8, .ref o9, .ref o11, .int v13, .ref o14, .int v16, .ref o17, .int v19, .int v20, .int v21, .ref o22, .ref o24, .ref o26, .ref o28, .ref o30, .int u.1, .ref o33, .ref o35, .ref o37, .int u.2.1, .ref o40, .ref o42, .ref o44, .int u.2.2.1, .ref o47])), (o6, .inl (cI, 12, .inl fw7)), (o30, .inl (cI, 100, .inl u.2.2.2.1)), (o37, .inl (cI, 12, .inl u.2.2.2.2.1)), (o42, .inl (cI, 49152, .inl u.2.2.2.2.2.1)), (o40, .inl (cZ, 49152, .inl u.2.2.2.2.2.2.1)), (o44, .inl (cI, 12, .inl u.2.2.2.2.2.2.2))]) t) (va_A ([(o1, .inr (12, [.int v2, .ref o3, .int v5, .ref o6, .int v8, .ref o9, .ref o11, .int v13, .ref o14, .int v16, .ref o17, .int v19, .int v20, .int v21, .ref o22, .ref o24, .ref o26, .ref o28, .ref o30, .int v32, .ref o33, .ref o35, .ref o37, .int v39, .ref o40, .ref o42, .ref o44, .int v46, .ref o47])), (o6, .inl (cI, 12, .inl fw7)), (o30, .inl (cI, 100, .inl fw31)), (o37, .inl (cI, 12, .inl fw38)), (o42, .inl (cI, 49152, .inl fw43)), (o40, .inl (cZ, 49152, .inl fw41)), (o44, .inl (cI, 12, .inl fw45))]) sz)) 0 0 (va_A ([(o1, .inr (12, [.int v2, .ref o3, .int v5, .ref o6, .int v8, .ref o9, .ref o11, .int v13, .ref o14, .int v16, .ref o17, .int v19, .int v20, .int v21, .ref o22, .ref o24, .ref o26, .ref o28, .ref o30, .int v32, .ref o33, .ref o35, .ref o37, .int v39, .ref o40, .ref o42, .ref o44, .int v46, .ref o47])), (o6, .inl (cI, 12, .inl fw7)), (o30, .inl (cI, 100, .inl fw31)), (o37, .inl (cI, 12, .inl fw38)), (o42, .inl (cI, 49152, .inl fw43)), (o40, .inl (cZ, 49152, .inl fw41)), (o44, .inl (cI, 12, .inl fw45))]) sz) := by
  refine Met.ofW (cc := cX12_hasSpans) (maxL := 2) (ret := (some .boolean)) (by decide) rfl ?_
  intro p e s m args below meth c s₁ B hml hv
  obtain ⟨rfl, hsz, hP, hK, hD0, hN⟩ := hv
  have hx := B.exec
  have hb := B.bytes
  have hr := B.returns
  have hts := atoms_spec (ws := wsX12_hasSpans) B.pre
  have hown : s.vm.findClass RX12 = some m.cls := findClass_of_methodNamed B.named
  have hlocks := B.notSynchronized
  subst hsz
  have hD := hD0.self (sz := s.heap.size)
  generalize hAe : va_A ([(o1, .inr (12, [.int v2, .ref o3, .int v5, .ref o6, .int v8, .ref o9, .ref o11, .int v13, .ref o14, .int v16, .ref o17, .int v19, .int v20, .int v21, .ref o22, .ref o24, .ref o26, .ref o28, .ref o30, .int v32, .ref o33, .ref o35, .ref o37, .int v39, .ref o40, .ref o42, .ref o44, .int v46, .ref o47])), (o6, .inl (cI, 12, .inl fw7)), (o30, .inl (cI, 100, .inl fw31)), (o37, .inl (cI, 12, .inl fw38)), (o42, .inl (cI, 49152, .inl fw43)), (o40, .inl (cZ, 49152, .inl fw41)), (o44, .inl (cI, 12, .inl fw45))]) s.heap.size = A at hD ⊢
  have hA : ∀ q : Nat, s.heap.size ≤ q → A q := fun q h => by rw [← hAe]; exact Or.inr h
  have hS : va_S A s.heap s.heap [] := va_S.rf
  have hP : va_P (dC, dI) vwCl ([(o1, .inr (12, [.int v2, .ref o3, .int v5, .ref o6, .int v8, .ref o9, .ref o11, .int v13, .ref o14, .int v16, .ref o17, .int v19, .int v20, .int v21, .ref o22, .ref o24, .ref o26, .ref o28, .ref o30, .int v32, .ref o33, .ref o35, .ref o37, .int v39, .ref o40, .ref o42, .ref o44, .int v46, .ref o47])), (o6, .inl (cI, 12, .inl fw7)), (o30, .inl (cI, 100, .inl fw31)), (o37, .inl (cI, 12, .inl fw38)), (o42, .inl (cI, 49152, .inl fw43)), (o40, .inl (cZ, 49152, .inl fw41)), (o44, .inl (cI, 12, .inl fw45))]) s.heap := hP
  have hl := lv_entry ([.ref o1]) (n := 2) (Nat.le_of_ble_eq_true rfl)
  rw [lg_entry_eq]
  generalize (lg_sl ([.ref o1]) ++ List.replicate (2 - (lg_sl ([.ref o1])).length) Slot.unset).toArray = ls at hl ⊢
  have hl : lv_has ls 2 [(0, .ref o1)] := hl
  refine gen_Q (fun Q hQ => ?_)
  refine lv_aload_n hx hb dX12_hasSpans_0 rfl (lv_at hl 0 rfl) ?_
  refine kc_v (D := (dC, dI)) (S := Int32 × (Nat → Int32)) (wc := [(o1, .inr (12, [.int v2, .ref o3, .int v5, .ref o6, .int v8, .ref o9, .ref o11, .int v13, .ref o14, .int v16, .ref o17, .int v19, .int v20, .int v21, .ref o22, .ref o24, .ref o26, .ref o28, .ref o30, .int v32, .ref o33, .ref o35, .ref o37, .int v39, .ref o40, .ref o42, .ref o44, .int v46, .ref o47])), (o6, .inl (cI, 12, .inl fw7)), (o30, .inl (cI, 100, .inl fw31))]) (wr := [(o37, .inl (cI, 12, .inl fw38)), (o42, .inl (cI, 49152, .inl fw43)), (o40, .inl (cZ, 49152, .inl fw41)), (o44, .inl (cI, 12, .inl fw45))]) (w1 := fun u => [(o1, .inr (12, [.int v2, .ref o3, .int v5, .ref o6, .int v8, .ref o9, .ref o11, .int v13, .ref o14, .int v16, .ref o17, .int v19, .int v20, .int v21, .ref o22, .ref o24, .ref o26, .ref o28, .ref o30, .int u.1, .ref o33, .ref o35, .ref o37, .int v39, .ref o40, .ref o42, .ref o44, .int v46, .ref o47])), (o6, .inl (cI, 12, .inl fw7)), (o30, .inl (cI, 100, .inl u.2))]) (wn := fun u => [(o1, .inr (12, [.int v2, .ref o3, .int v5, .ref o6, .int v8, .ref o9, .ref o11, .int v13, .ref o14, .int v16, .ref o17, .int v19, .int v20, .int v21, .ref o22, .ref o24, .ref o26, .ref o28, .ref o30, .int u.1, .ref o33, .ref o35, .ref o37, .int v39, .ref o40, .ref o42, .ref o44, .int v46, .ref o47])), (o6, .inl (cI, 12, .inl fw7)), (o30, .inl (cI, 100, .inl u.2)), (o37, .inl (cI, 12, .inl fw38)), (o42, .inl (cI, 49152, .inl fw43)), (o40, .inl (cZ, 49152, .inl fw41)), (o44, .inl (cI, 12, .inl fw45))]) (fun hPc hDc => va_runV (As := []) (rest := []) ⟨hx, hb, hml, hown, hts⟩ (kX12_setCliques_1 l dC dI cI c2 cZ o1 o3 o6 o9 o11 o14 o17 o22 o24 o26 o28 o30 o33 o35 o37 o40 o42 o44 o47 v2 v5 fw7 v8 v13 v16 v19 v20 v21 fw31 v32 v39 v46 s.heap.size v5_h fw7_b v8_h v13_h v16_h v19_h fw31_b v32_h v39_h v46_h) (cwV 0 hts gX12_hasSpans_X12_setCliques rfl rfl rfl (by decide +kernel) ⟨Nat.le_of_ble_eq_true rfl, Nat.le_of_ble_eq_true rfl⟩) (pre_V hPc hK hDc hN (ci := 12) (q0 := 0) rfl rfl) rfl rfl hl.1 rfl (lv_room (Nat.le_of_ble_eq_true rfl)) dX12_hasSpans_1 ⟨Nat.le_of_ble_eq_true rfl, Nat.le_of_ble_eq_true rfl⟩) hP hD hS hA [0, 1, 2] [3, 4, 5, 6] [4, 5, 6, 0, 1, 2, 3] rfl rfl (by decide +kernel) (by decide +kernel) (by decide +kernel) (by decide +kernel) (fun _ => rfl) (fun u H locs hq hP hD hS => ?_)
  obtain ⟨y1, f2⟩ := u
  obtain ⟨y1_h, f2_b, e3⟩ := hq
  have y1_h : Iv 0 99 y1 := y1_h
  have f2_b : Bd 100 0 4095 f2 := f2_b
  have e3 : CL fw7 (Int32.toNatClampNeg v5) f2 (Int32.toNatClampNeg y1) 4096 := e3
  have hP : va_P (dC, dI) vwCl ([(o1, .inr (12, [.int v2, .ref o3, .int v5, .ref o6, .int v8, .ref o9, .ref o11, .int v13, .ref o14, .int v16, .ref o17, .int v19, .int v20, .int v21, .ref o22, .ref o24, .ref o26, .ref o28, .ref o30, .int y1, .ref o33, .ref o35, .ref o37, .int v39, .ref o40, .ref o42, .ref o44, .int v46, .ref o47])), (o6, .inl (cI, 12, .inl fw7)), (o30, .inl (cI, 100, .inl f2)), (o37, .inl (cI, 12, .inl fw38)), (o42, .inl (cI, 49152, .inl fw43)), (o40, .inl (cZ, 49152, .inl fw41)), (o44, .inl (cI, 12, .inl fw45))]) H := hP
  have hD : va_D A ([(o1, .inr (12, [.int v2, .ref o3, .int v5, .ref o6, .int v8, .ref o9, .ref o11, .int v13, .ref o14, .int v16, .ref o17, .int v19, .int v20, .int v21, .ref o22, .ref o24, .ref o26, .ref o28, .ref o30, .int y1, .ref o33, .ref o35, .ref o37, .int v39, .ref o40, .ref o42, .ref o44, .int v46, .ref o47])), (o6, .inl (cI, 12, .inl fw7)), (o30, .inl (cI, 100, .inl f2)), (o37, .inl (cI, 12, .inl fw38)), (o42, .inl (cI, 49152, .inl fw43)), (o40, .inl (cZ, 49152, .inl fw41)), (o44, .inl (cI, 12, .inl fw45))]) := hD
  refine lv_aload_n hx hb dX12_hasSpans_4 rfl (lv_at hl 0 rfl) ?_
  refine lv_iconst (v := 0) hx hb dX12_hasSpans_5 (by decide) ?_
  refine va_put (D := (dC, dI)) (ci := 12) (v := .int 0) (ty := .int) (C := RX12) (T := TX12) (N := 29) hx hb hts iw_X12_hasSpans_X12 tyX12 tyX12_ok nmX12 hown hK hP hD hS 0 rfl rfl 23 (by decide) (hts (.fieldLink RX12 191 "HolelessHouseModel" "thingMany" "I") hm_X12_hasSpans_1) (fun _ h9 => h9) rfl (by decide +kernel) rfl rfl (Nat.le_of_ble_eq_true rfl) dX12_hasSpans_6 (fun H locs hP hD hS => ?_)
  have hP : va_P (dC, dI) vwCl ([(o1, .inr (12, [.int v2, .ref o3, .int v5, .ref o6, .int v8, .ref o9, .ref o11, .int v13, .ref o14, .int v16, .ref o17, .int v19, .int v20, .int v21, .ref o22, .ref o24, .ref o26, .ref o28, .ref o30, .int y1, .ref o33, .ref o35, .ref o37, .int 0, .ref o40, .ref o42, .ref o44, .int v46, .ref o47])), (o6, .inl (cI, 12, .inl fw7)), (o30, .inl (cI, 100, .inl f2)), (o37, .inl (cI, 12, .inl fw38)), (o42, .inl (cI, 49152, .inl fw43)), (o40, .inl (cZ, 49152, .inl fw41)), (o44, .inl (cI, 12, .inl fw45))]) H := hP
  have hD : va_D A ([(o1, .inr (12, [.int v2, .ref o3, .int v5, .ref o6, .int v8, .ref o9, .ref o11, .int v13, .ref o14, .int v16, .ref o17, .int v19, .int v20, .int v21, .ref o22, .ref o24, .ref o26, .ref o28, .ref o30, .int y1, .ref o33, .ref o35, .ref o37, .int 0, .ref o40, .ref o42, .ref o44, .int v46, .ref o47])), (o6, .inl (cI, 12, .inl fw7)), (o30, .inl (cI, 100, .inl f2)), (o37, .inl (cI, 12, .inl fw38)), (o42, .inl (cI, 49152, .inl fw43)), (o40, .inl (cZ, 49152, .inl fw41)), (o44, .inl (cI, 12, .inl fw45))]) := hD
  refine lv_aload_n hx hb dX12_hasSpans_9 rfl (lv_at hl 0 rfl) ?_
  refine lv_iconst (v := 0) hx hb dX12_hasSpans_10 (by decide) ?_
  refine va_put (D := (dC, dI)) (ci := 12) (v := .int 0) (ty := .int) (C := RX12) (T := TX12) (N := 29) hx hb hts iw_X12_hasSpans_X12 tyX12 tyX12_ok nmX12 hown hK hP hD hS 0 rfl rfl 27 (by decide) (hts (.fieldLink RX12 197 "HolelessHouseModel" "lined" "I") hm_X12_hasSpans_2) (fun _ h9 => h9) rfl (by decide +kernel) rfl rfl (Nat.le_of_ble_eq_true rfl) dX12_hasSpans_11 (fun H locs hP hD hS => ?_)
  have hP : va_P (dC, dI) vwCl ([(o1, .inr (12, [.int v2, .ref o3, .int v5, .ref o6, .int v8, .ref o9, .ref o11, .int v13, .ref o14, .int v16, .ref o17, .int v19, .int v20, .int v21, .ref o22, .ref o24, .ref o26, .ref o28, .ref o30, .int y1, .ref o33, .ref o35, .ref o37, .int 0, .ref o40, .ref o42, .ref o44, .int 0, .ref o47])), (o6, .inl (cI, 12, .inl fw7)), (o30, .inl (cI, 100, .inl f2)), (o37, .inl (cI, 12, .inl fw38)), (o42, .inl (cI, 49152, .inl fw43)), (o40, .inl (cZ, 49152, .inl fw41)), (o44, .inl (cI, 12, .inl fw45))]) H := hP
  have hD : va_D A ([(o1, .inr (12, [.int v2, .ref o3, .int v5, .ref o6, .int v8, .ref o9, .ref o11, .int v13, .ref o14, .int v16, .ref o17, .int v19, .int v20, .int v21, .ref o22, .ref o24, .ref o26, .ref o28, .ref o30, .int y1, .ref o33, .ref o35, .ref o37, .int 0, .ref o40, .ref o42, .ref o44, .int 0, .ref o47])), (o6, .inl (cI, 12, .inl fw7)), (o30, .inl (cI, 100, .inl f2)), (o37, .inl (cI, 12, .inl fw38)), (o42, .inl (cI, 49152, .inl fw43)), (o40, .inl (cZ, 49152, .inl fw41)), (o44, .inl (cI, 12, .inl fw45))]) := hD
  refine lv_aload_n hx hb dX12_hasSpans_14 rfl (lv_at hl 0 rfl) ?_
  refine kc_i (D := (dC, dI)) (S := Unit) (wc := [(o1, .inr (12, [.int v2, .ref o3, .int v5, .ref o6, .int v8, .ref o9, .ref o11, .int v13, .ref o14, .int v16, .ref o17, .int v19, .int v20, .int v21, .ref o22, .ref o24, .ref o26, .ref o28, .ref o30, .int y1, .ref o33, .ref o35, .ref o37, .int 0, .ref o40, .ref o42, .ref o44, .int 0, .ref o47])), (o6, .inl (cI, 12, .inl fw7))]) (wr := [(o30, .inl (cI, 100, .inl f2)), (o37, .inl (cI, 12, .inl fw38)), (o42, .inl (cI, 49152, .inl fw43)), (o40, .inl (cZ, 49152, .inl fw41)), (o44, .inl (cI, 12, .inl fw45))]) (w1 := fun _ => [(o1, .inr (12, [.int v2, .ref o3, .int v5, .ref o6, .int v8, .ref o9, .ref o11, .int v13, .ref o14, .int v16, .ref o17, .int v19, .int v20, .int v21, .ref o22, .ref o24, .ref o26, .ref o28, .ref o30, .int y1, .ref o33, .ref o35, .ref o37, .int 0, .ref o40, .ref o42, .ref o44, .int 0, .ref o47])), (o6, .inl (cI, 12, .inl fw7))]) (wn := fun _ => [(o1, .inr (12, [.int v2, .ref o3, .int v5, .ref o6, .int v8, .ref o9, .ref o11, .int v13, .ref o14, .int v16, .ref o17, .int v19, .int v20, .int v21, .ref o22, .ref o24, .ref o26, .ref o28, .ref o30, .int y1, .ref o33, .ref o35, .ref o37, .int 0, .ref o40, .ref o42, .ref o44, .int 0, .ref o47])), (o6, .inl (cI, 12, .inl fw7)), (o30, .inl (cI, 100, .inl f2)), (o37, .inl (cI, 12, .inl fw38)), (o42, .inl (cI, 49152, .inl fw43)), (o40, .inl (cZ, 49152, .inl fw41)), (o44, .inl (cI, 12, .inl fw45))]) (fun hPc hDc => va_runV (As := []) (rest := []) ⟨hx, hb, hml, hown, hts⟩ (kX12_isSound_1 l dC dI cI c2 cZ o1 o3 o6 o9 o11 o14 o17 o22 o24 o26 o28 o30 o33 o35 o37 o40 o42 o44 o47 v2 v5 fw7 v8 v13 v16 v19 v20 v21 y1 0 0 H.size v5_h fw7_b v8_h v13_h v16_h v19_h y1_h (iv_w ik_0 (by decide)) (iv_w ik_0 (by decide))) (cwV 0 hts gX12_hasSpans_X12_isSound rfl rfl rfl (by decide +kernel) ⟨Nat.le_of_ble_eq_true rfl, Nat.le_of_ble_eq_true rfl⟩) (pre_V hPc hK hDc hN (ci := 12) (q0 := 0) rfl rfl) rfl rfl hl.1 rfl (lv_room (Nat.le_of_ble_eq_true rfl)) dX12_hasSpans_15 ⟨Nat.le_of_ble_eq_true rfl, Nat.le_of_ble_eq_true rfl⟩) hP hD hS hA [0, 1] [2, 3, 4, 5, 6] [5, 6, 0, 1, 2, 3, 4] rfl rfl (by decide +kernel) (by decide +kernel) (by decide +kernel) (by decide +kernel) (fun _ => rfl) (fun x4 _ H locs hq hP hD hS => ?_)
  obtain ⟨x4_h, e5⟩ := hq
  have hP : va_P (dC, dI) vwCl ([(o1, .inr (12, [.int v2, .ref o3, .int v5, .ref o6, .int v8, .ref o9, .ref o11, .int v13, .ref o14, .int v16, .ref o17, .int v19, .int v20, .int v21, .ref o22, .ref o24, .ref o26, .ref o28, .ref o30, .int y1, .ref o33, .ref o35, .ref o37, .int 0, .ref o40, .ref o42, .ref o44, .int 0, .ref o47])), (o6, .inl (cI, 12, .inl fw7)), (o30, .inl (cI, 100, .inl f2)), (o37, .inl (cI, 12, .inl fw38)), (o42, .inl (cI, 49152, .inl fw43)), (o40, .inl (cZ, 49152, .inl fw41)), (o44, .inl (cI, 12, .inl fw45))]) H := hP
  have hD : va_D A ([(o1, .inr (12, [.int v2, .ref o3, .int v5, .ref o6, .int v8, .ref o9, .ref o11, .int v13, .ref o14, .int v16, .ref o17, .int v19, .int v20, .int v21, .ref o22, .ref o24, .ref o26, .ref o28, .ref o30, .int y1, .ref o33, .ref o35, .ref o37, .int 0, .ref o40, .ref o42, .ref o44, .int 0, .ref o47])), (o6, .inl (cI, 12, .inl fw7)), (o30, .inl (cI, 100, .inl f2)), (o37, .inl (cI, 12, .inl fw38)), (o42, .inl (cI, 49152, .inl fw43)), (o40, .inl (cZ, 49152, .inl fw41)), (o44, .inl (cI, 12, .inl fw45))]) := hD
  refine lv_if_ne (tgt := 23) hx hb dX12_hasSpans_18 (by decide) (fun h6 => ?_) (fun h6 => ?_)
  ·
    have j7 : Iv 1 1 x4 := r_nelo h6 x4_h ik_0 (by decide)
    have j8 : Iv 0 12 y1 := CL_12 e3 (e5 h6) (cl_b v5_h (by decide)) y1_h (by decide)
    refine lv_iconst (v := 0) hx hb dX12_hasSpans_23 (by decide) ?_
    refine lv_istore_n (lv' := [(1, .int 0), (0, .ref o1)]) hx hb dX12_hasSpans_24 rfl hl (by decide) rfl (fun ls hl => ?_)
    have L1 : ∀ (N : Nat) (x70 : Int32) (f71 : Nat → Int32) (H : Heap) (locs : List Loc) (ls : Array Slot), (12 - x70.toInt).toNat < N → Iv 0 12 x70 → va_P (dC, dI) vwCl ([(o1, .inr (12, [.int v2, .ref o3, .int v5, .ref o6, .int v8, .ref o9, .ref o11, .int v13, .ref o14, .int v16, .ref o17, .int v19, .int v20, .int v21, .ref o22, .ref o24, .ref o26, .ref o28, .ref o30, .int y1, .ref o33, .ref o35, .ref o37, .int 0, .ref o40, .ref o42, .ref o44, .int 0, .ref o47])), (o6, .inl (cI, 12, .inl fw7)), (o30, .inl (cI, 100, .inl f2)), (o37, .inl (cI, 12, .inl f71)), (o42, .inl (cI, 49152, .inl fw43)), (o40, .inl (cZ, 49152, .inl fw41)), (o44, .inl (cI, 12, .inl fw45))]) H → va_D A ([(o1, .inr (12, [.int v2, .ref o3, .int v5, .ref o6, .int v8, .ref o9, .ref o11, .int v13, .ref o14, .int v16, .ref o17, .int v19, .int v20, .int v21, .ref o22, .ref o24, .ref o26, .ref o28, .ref o30, .int y1, .ref o33, .ref o35, .ref o37, .int 0, .ref o40, .ref o42, .ref o44, .int 0, .ref o47])), (o6, .inl (cI, 12, .inl fw7)), (o30, .inl (cI, 100, .inl f2)), (o37, .inl (cI, 12, .inl f71)), (o42, .inl (cI, 49152, .inl fw43)), (o40, .inl (cZ, 49152, .inl fw41)), (o44, .inl (cI, 12, .inl fw45))]) → va_S A s.heap H locs → lv_has ls 2 [(1, .int x70), (0, .ref o1)] → W p l e ({ frames := 4, cells := 0, slots := 0, locals := 88 }) s m ([.ref o1] : List Value).toArray below meth c H locs 0 0 Q (F0 m 25 ls []) := by
      intro N
      induction N with
      | zero =>
        intro x70 f71 H locs ls hM
        exact absurd hM (Nat.not_lt_zero _)
      | succ N ih1 =>
        intro x70 f71 H locs ls hM1 x70_h hP hD hS hl
        refine lv_iload_n hx hb dX12_hasSpans_25 rfl (lv_at hl 0 rfl) ?_
        refine lv_aload_n hx hb dX12_hasSpans_26 rfl (lv_at hl 1 rfl) ?_
        refine va_get (D := (dC, dI)) (ci := 12) (v := .int y1) (C := RX12) (T := TX12) (N := 29) hx hb hts iw_X12_hasSpans_X12 hown hK hP 0 rfl rfl 19 (by decide) (hts (.fieldLink RX12 164 "HolelessHouseModel" "cliqueMany" "I") hm_X12_hasSpans_3) (fun _ h9 => h9) rfl dX12_hasSpans_27 ?_
        refine lv_icmp_ge (tgt := 51) hx hb dX12_hasSpans_30 (by decide) (fun h72 => ?_) (fun h72 => ?_)
        ·
          have qh72 := le_i h72
          refine lv_aload_n hx hb dX12_hasSpans_51 rfl (lv_at hl 1 rfl) ?_
          refine lv_aload_n hx hb dX12_hasSpans_52 rfl (lv_at hl 1 rfl) ?_
          refine va_get (D := (dC, dI)) (ci := 12) (v := .int y1) (C := RX12) (T := TX12) (N := 29) hx hb hts iw_X12_hasSpans_X12 hown hK hP 0 rfl rfl 19 (by decide) (hts (.fieldLink RX12 164 "HolelessHouseModel" "cliqueMany" "I") hm_X12_hasSpans_3) (fun _ h9 => h9) rfl dX12_hasSpans_53 ?_
          refine va_put (D := (dC, dI)) (ci := 12) (v := .int y1) (ty := .int) (C := RX12) (T := TX12) (N := 29) hx hb hts iw_X12_hasSpans_X12 tyX12 tyX12_ok nmX12 hown hK hP hD hS 0 rfl rfl 23 (by decide) (hts (.fieldLink RX12 191 "HolelessHouseModel" "thingMany" "I") hm_X12_hasSpans_1) (fun _ h9 => h9) rfl (by decide +kernel) rfl rfl (Nat.le_of_ble_eq_true rfl) dX12_hasSpans_56 (fun H locs hP hD hS => ?_)
          have hP : va_P (dC, dI) vwCl ([(o1, .inr (12, [.int v2, .ref o3, .int v5, .ref o6, .int v8, .ref o9, .ref o11, .int v13, .ref o14, .int v16, .ref o17, .int v19, .int v20, .int v21, .ref o22, .ref o24, .ref o26, .ref o28, .ref o30, .int y1, .ref o33, .ref o35, .ref o37, .int y1, .ref o40, .ref o42, .ref o44, .int 0, .ref o47])), (o6, .inl (cI, 12, .inl fw7)), (o30, .inl (cI, 100, .inl f2)), (o37, .inl (cI, 12, .inl f71)), (o42, .inl (cI, 49152, .inl fw43)), (o40, .inl (cZ, 49152, .inl fw41)), (o44, .inl (cI, 12, .inl fw45))]) H := hP
          have hD : va_D A ([(o1, .inr (12, [.int v2, .ref o3, .int v5, .ref o6, .int v8, .ref o9, .ref o11, .int v13, .ref o14, .int v16, .ref o17, .int v19, .int v20, .int v21, .ref o22, .ref o24, .ref o26, .ref o28, .ref o30, .int y1, .ref o33, .ref o35, .ref o37, .int y1, .ref o40, .ref o42, .ref o44, .int 0, .ref o47])), (o6, .inl (cI, 12, .inl fw7)), (o30, .inl (cI, 100, .inl f2)), (o37, .inl (cI, 12, .inl f71)), (o42, .inl (cI, 49152, .inl fw43)), (o40, .inl (cZ, 49152, .inl fw41)), (o44, .inl (cI, 12, .inl fw45))]) := hD
          refine lv_aload_n hx hb dX12_hasSpans_59 rfl (lv_at hl 1 rfl) ?_
          refine kc_v (D := (dC, dI)) (S := Int32 × (Nat → Int32) × (Nat → Int32) × (Nat → Int32)) (wc := [(o1, .inr (12, [.int v2, .ref o3, .int v5, .ref o6, .int v8, .ref o9, .ref o11, .int v13, .ref o14, .int v16, .ref o17, .int v19, .int v20, .int v21, .ref o22, .ref o24, .ref o26, .ref o28, .ref o30, .int y1, .ref o33, .ref o35, .ref o37, .int y1, .ref o40, .ref o42, .ref o44, .int 0, .ref o47])), (o42, .inl (cI, 49152, .inl fw43)), (o40, .inl (cZ, 49152, .inl fw41)), (o37, .inl (cI, 12, .inl f71)), (o44, .inl (cI, 12, .inl fw45))]) (wr := [(o6, .inl (cI, 12, .inl fw7)), (o30, .inl (cI, 100, .inl f2))]) (w1 := fun u => [(o1, .inr (12, [.int v2, .ref o3, .int v5, .ref o6, .int v8, .ref o9, .ref o11, .int v13, .ref o14, .int v16, .ref o17, .int v19, .int v20, .int v21, .ref o22, .ref o24, .ref o26, .ref o28, .ref o30, .int y1, .ref o33, .ref o35, .ref o37, .int y1, .ref o40, .ref o42, .ref o44, .int u.1, .ref o47])), (o42, .inl (cI, 49152, .inl u.2.1)), (o40, .inl (cZ, 49152, .inl u.2.2.1)), (o37, .inl (cI, 12, .inl f71)), (o44, .inl (cI, 12, .inl u.2.2.2))]) (wn := fun u => [(o1, .inr (12, [.int v2, .ref o3, .int v5, .ref o6, .int v8, .ref o9, .ref o11, .int v13, .ref o14, .int v16, .ref o17, .int v19, .int v20, .int v21, .ref o22, .ref o24, .ref o26, .ref o28, .ref o30, .int y1, .ref o33, .ref o35, .ref o37, .int y1, .ref o40, .ref o42, .ref o44, .int u.1, .ref o47])), (o6, .inl (cI, 12, .inl fw7)), (o30, .inl (cI, 100, .inl f2)), (o37, .inl (cI, 12, .inl f71)), (o42, .inl (cI, 49152, .inl u.2.1)), (o40, .inl (cZ, 49152, .inl u.2.2.1)), (o44, .inl (cI, 12, .inl u.2.2.2))]) (fun hPc hDc => va_runV (As := []) (rest := []) ⟨hx, hb, hml, hown, hts⟩ (kX12_setLine_1 l dC dI cI c2 cZ o1 o3 o6 o9 o11 o14 o17 o22 o24 o26 o28 o30 o33 o35 o37 o40 o42 o44 o47 v2 v5 v8 v13 v16 v19 v20 v21 y1 f71 y1 fw41 fw43 fw45 0 H.size v5_h v8_h v13_h v16_h v19_h (iv_w j8 (by decide)) j8 fw45_b (iv_w ik_0 (by decide))) (cwV 0 hts gX12_hasSpans_X12_setLine rfl rfl rfl (by decide +kernel) ⟨Nat.le_of_ble_eq_true rfl, Nat.le_of_ble_eq_true rfl⟩) (pre_V hPc hK hDc hN (ci := 12) (q0 := 0) rfl rfl) rfl rfl hl.1 rfl (lv_room (Nat.le_of_ble_eq_true rfl)) dX12_hasSpans_60 ⟨Nat.le_of_ble_eq_true rfl, Nat.le_of_ble_eq_true rfl⟩) hP hD hS hA [0, 4, 5, 3, 6] [1, 2] [2, 0, 1, 5, 3, 4, 6] rfl rfl (by decide +kernel) (by decide +kernel) (by decide +kernel) (by decide +kernel) (fun _ => rfl) (fun u H locs hq hP hD hS => ?_)
          obtain ⟨y73, f74, f75, f76⟩ := u
          obtain ⟨y73_h, f76_b⟩ := hq
          have y73_h : Iv 0 12 y73 := y73_h
          have f76_b : Bd 12 0 11 f76 := f76_b
          have hP : va_P (dC, dI) vwCl ([(o1, .inr (12, [.int v2, .ref o3, .int v5, .ref o6, .int v8, .ref o9, .ref o11, .int v13, .ref o14, .int v16, .ref o17, .int v19, .int v20, .int v21, .ref o22, .ref o24, .ref o26, .ref o28, .ref o30, .int y1, .ref o33, .ref o35, .ref o37, .int y1, .ref o40, .ref o42, .ref o44, .int y73, .ref o47])), (o6, .inl (cI, 12, .inl fw7)), (o30, .inl (cI, 100, .inl f2)), (o37, .inl (cI, 12, .inl f71)), (o42, .inl (cI, 49152, .inl f74)), (o40, .inl (cZ, 49152, .inl f75)), (o44, .inl (cI, 12, .inl f76))]) H := hP
          have hD : va_D A ([(o1, .inr (12, [.int v2, .ref o3, .int v5, .ref o6, .int v8, .ref o9, .ref o11, .int v13, .ref o14, .int v16, .ref o17, .int v19, .int v20, .int v21, .ref o22, .ref o24, .ref o26, .ref o28, .ref o30, .int y1, .ref o33, .ref o35, .ref o37, .int y1, .ref o40, .ref o42, .ref o44, .int y73, .ref o47])), (o6, .inl (cI, 12, .inl fw7)), (o30, .inl (cI, 100, .inl f2)), (o37, .inl (cI, 12, .inl f71)), (o42, .inl (cI, 49152, .inl f74)), (o40, .inl (cZ, 49152, .inl f75)), (o44, .inl (cI, 12, .inl f76))]) := hD
          refine lv_aload_n hx hb dX12_hasSpans_63 rfl (lv_at hl 1 rfl) ?_
          refine va_get (D := (dC, dI)) (ci := 12) (v := .int y73) (C := RX12) (T := TX12) (N := 29) hx hb hts iw_X12_hasSpans_X12 hown hK hP 0 rfl rfl 27 (by decide) (hts (.fieldLink RX12 197 "HolelessHouseModel" "lined" "I") hm_X12_hasSpans_2) (fun _ h9 => h9) rfl dX12_hasSpans_64 ?_
          refine lv_aload_n hx hb dX12_hasSpans_67 rfl (lv_at hl 1 rfl) ?_
          refine va_get (D := (dC, dI)) (ci := 12) (v := .int y1) (C := RX12) (T := TX12) (N := 29) hx hb hts iw_X12_hasSpans_X12 hown hK hP 0 rfl rfl 19 (by decide) (hts (.fieldLink RX12 164 "HolelessHouseModel" "cliqueMany" "I") hm_X12_hasSpans_3) (fun _ h9 => h9) rfl dX12_hasSpans_68 ?_
          refine lv_icmp_ne (tgt := 78) hx hb dX12_hasSpans_71 (by decide) (fun h77 => ?_) (fun h77 => ?_)
          ·
            refine lv_iconst (v := 0) hx hb dX12_hasSpans_78 (by decide) ?_
            rw [hQ]
            exact W.zret (v := 0) (ty := .boolean) hx hb hr rfl (fun t ht hW => ⟨⟨0, (y1, y1, y73, f2, f71, f74, f75, f76), rfl, ⟨(iv_w ik_0 (by decide)), (iv_w j8 (by decide)), j8, y73_h, f2_b, f76_b⟩, by rw [ht]; exact hP, va_K.moved hW.alike hK, hD⟩, hS.F ht⟩) hS.2.2 dX12_hasSpans_79
          ·
            refine lv_iconst (v := 1) hx hb dX12_hasSpans_74 (by decide) ?_
            refine lv_goto (tgt := 79) hx hb dX12_hasSpans_75 (by decide) ?_
            rw [hQ]
            exact W.zret (v := 1) (ty := .boolean) hx hb hr rfl (fun t ht hW => ⟨⟨1, (y1, y1, y73, f2, f71, f74, f75, f76), rfl, ⟨(iv_w ik_1 (by decide)), (iv_w j8 (by decide)), j8, y73_h, f2_b, f76_b⟩, by rw [ht]; exact hP, va_K.moved hW.alike hK, hD⟩, hS.F ht⟩) hS.2.2 dX12_hasSpans_79
        ·
          have qh72 := nle_i h72
          have j78 : Iv 0 11 x70 := r_ltl qh72 x70_h j8 (by decide)
          have j79 : Iv 1 12 y1 := r_ltr qh72 x70_h j8 (by decide)
          refine lv_aload_n hx hb dX12_hasSpans_33 rfl (lv_at hl 1 rfl) ?_
          refine va_get (D := (dC, dI)) (ci := 12) (v := .ref o37) (C := RX12) (T := TX12) (N := 29) hx hb hts iw_X12_hasSpans_X12 hown hK hP 0 rfl rfl 22 (by decide) (hts (.fieldLink RX12 54 "HolelessHouseModel" "things" "[I") hm_X12_hasSpans_4) (fun _ h9 => h9) rfl dX12_hasSpans_34 ?_
          refine lv_iload_n hx hb dX12_hasSpans_37 rfl (lv_at hl 0 rfl) ?_
          refine lv_aload_n hx hb dX12_hasSpans_38 rfl (lv_at hl 1 rfl) ?_
          refine va_get (D := (dC, dI)) (ci := 12) (v := .ref o30) (C := RX12) (T := TX12) (N := 29) hx hb hts iw_X12_hasSpans_X12 hown hK hP 0 rfl rfl 18 (by decide) (hts (.fieldLink RX12 45 "HolelessHouseModel" "cliques" "[I") hm_X12_hasSpans_5) (fun _ h9 => h9) rfl dX12_hasSpans_39 ?_
          refine lv_iload_n hx hb dX12_hasSpans_42 rfl (lv_at hl 0 rfl) ?_
          refine va_iald hx hb hK hP 2 0 rfl rfl (vin_iv j78 (by decide)) dX12_hasSpans_43 (lv_topi (fun x80 x80_e => ?_))
          have x80_h : Iv 0 4095 x80 := iv_e x80_e (bd_at f2_b (vin_iv j78 (by decide)))
          refine k_iast hx hb hK hP hD hS 3 0 rfl rfl (vin_iv j78 (by decide)) dX12_hasSpans_44 (fun f81 H locs f81_e hP hD hS => ?_)
          have hP : va_P (dC, dI) vwCl ([(o1, .inr (12, [.int v2, .ref o3, .int v5, .ref o6, .int v8, .ref o9, .ref o11, .int v13, .ref o14, .int v16, .ref o17, .int v19, .int v20, .int v21, .ref o22, .ref o24, .ref o26, .ref o28, .ref o30, .int y1, .ref o33, .ref o35, .ref o37, .int 0, .ref o40, .ref o42, .ref o44, .int 0, .ref o47])), (o6, .inl (cI, 12, .inl fw7)), (o30, .inl (cI, 100, .inl f2)), (o37, .inl (cI, 12, .inl f81)), (o42, .inl (cI, 49152, .inl fw43)), (o40, .inl (cZ, 49152, .inl fw41)), (o44, .inl (cI, 12, .inl fw45))]) H := hP
          have hD : va_D A ([(o1, .inr (12, [.int v2, .ref o3, .int v5, .ref o6, .int v8, .ref o9, .ref o11, .int v13, .ref o14, .int v16, .ref o17, .int v19, .int v20, .int v21, .ref o22, .ref o24, .ref o26, .ref o28, .ref o30, .int y1, .ref o33, .ref o35, .ref o37, .int 0, .ref o40, .ref o42, .ref o44, .int 0, .ref o47])), (o6, .inl (cI, 12, .inl fw7)), (o30, .inl (cI, 100, .inl f2)), (o37, .inl (cI, 12, .inl f81)), (o42, .inl (cI, 49152, .inl fw43)), (o40, .inl (cZ, 49152, .inl fw41)), (o44, .inl (cI, 12, .inl fw45))]) := hD
          obtain ⟨x82, x82_e⟩ : ∃ z : Int32, z = x70 + 1 := ⟨_, rfl⟩
          have x82_h : Iv 1 12 x82 := iv_e x82_e (iv_add j78 ik_1 (by decide))
          refine lv_iinc (v := x82) (lv' := [(1, .int x82), (0, .ref o1)]) hx hb dX12_hasSpans_45 hl (k := 0) rfl (incN (by decide +kernel) x82_e) (by decide) rfl (fun ls hl => ?_)
          refine lv_goto (tgt := 25) hx hb dX12_hasSpans_48 (by decide) ?_
          exact ih1 x82 f81 _ _ _ (ms_up x82_e j78 (by decide) hM1) (iv_w x82_h (by decide)) hP hD hS hl
    exact L1 _ 0 fw38 _ _ _ (Nat.lt_succ_self _) (iv_w ik_0 (by decide)) hP hD hS hl
  ·
    have j83 : Iv 0 0 x4 := r_eq h6 ik_0
    refine lv_iconst (v := 0) hx hb dX12_hasSpans_21 (by decide) ?_
    rw [hQ]
    exact W.zret (v := 0) (ty := .boolean) hx hb hr rfl (fun t ht hW => ⟨⟨0, (y1, 0, 0, f2, fw38, fw43, fw41, fw45), rfl, ⟨(iv_w ik_0 (by decide)), y1_h, (iv_w ik_0 (by decide)), (iv_w ik_0 (by decide)), f2_b, fw45_b⟩, by rw [ht]; exact hP, va_K.moved hW.alike hK, hD⟩, hS.F ht⟩) hS.2.2 dX12_hasSpans_22
theorem iw_X12_line_X12 : ∀ w ∈ wsX120, w ∈ wsX12_line := fun _ h => List.mem_cons.mpr (Or.inr (List.mem_append.mpr (Or.inr h)))
set_option maxHeartbeats 4000000 in
set_option maxRecDepth 100000 in
theorem kX12_line_1 (l : Launch) (dC : Nat → ClassId) (dI : Nat → Nat → Nat) (cI c2 cZ : ClassId) (o1 : Nat) (o3 : Nat) (o6 : Nat) (o9 : Nat) (o11 : Nat) (o14 : Nat) (o17 : Nat) (o22 : Nat) (o24 : Nat) (o26 : Nat) (o28 : Nat) (o30 : Nat) (o33 : Nat) (o35 : Nat) (o37 : Nat) (o40 : Nat) (o42 : Nat) (o44 : Nat) (o47 : Nat) (v2 : Int32) (v5 : Int32) (fw7 : Nat → Int32) (v8 : Int32) (v13 : Int32) (v16 : Int32) (v19 : Int32) (v20 : Int32) (v21 : Int32) (fw31 : Nat → Int32) (v32 : Int32) (fw38 : Nat → Int32) (v39 : Int32) (fw41 : Nat → Int32) (fw43 : Nat → Int32) (fw45 : Nat → Int32) (v46 : Int32) (a1 : Int32) (sz : Nat) (v5_h : Iv 0 12 v5) (fw7_b : Bd 12 0 4095 fw7) (v8_h : Iv 0 8 v8) (v13_h : Iv 0 12 v13) (v16_h : Iv 0 12 v16) (v19_h : Iv (-9) 12 v19) (fw31_b : Bd 100 0 4095 fw31) (v32_h : Iv 0 99 v32) (v39_h : Iv 0 12 v39) (fw45_b : Bd 12 0 11 fw45) (v46_h : Iv 0 12 v46) : Met l yX12_line wsX12_line ({ frames := 5, cells := 0, slots := 0, locals := 109 }) (va_Pc [.ref o1, .int a1] (wPre (dC, dI) [(cI, .int), (c2, .array .int), (cZ, .boolean)] ([(o1, .inr (12, [.int v2, .ref o3, .int v5, .ref o6, .int v8, .ref o9, .ref o11, .int v13, .ref o14, .int v16, .ref o17, .int v19, .int v20, .int v21, .ref o22, .ref o24, .ref o26, .ref o28, .ref o30, .int v32, .ref o33, .ref o35, .ref o37, .int v39, .ref o40, .ref o42, .ref o44, .int v46, .ref o47])), (o6, .inl (cI, 12, .inl fw7)), (o30, .inl (cI, 100, .inl fw31)), (o37, .inl (cI, 12, .inl fw38)), (o42, .inl (cI, 49152, .inl fw43)), (o40, .inl (cZ, 49152, .inl fw41)), (o44, .inl (cI, 12, .inl fw45))]) sz)) (va_Qi (fun (r : Int32) (u : Int32 × Int32 × Int32 × (Nat → Int32) × (Nat → Int32) × (Nat → Int32) × (Nat → Int32) × (Nat → Int32)) => Iv (-9) 11 r ∧ Iv 0 99 u.1 ∧ Iv 0 12 u.2.1 ∧ Iv 0 12 u.2.2.1 ∧ Bd 100 0 4095 u.2.2.2.1 ∧ Bd 12 0 11 u.2.2.2.2.2.2.2) (fun u t => wPost (dC, dI) [(cI, .int), (c2, .array .int), (cZ, .boolean)] (va_A ([(o1, .inr (12, [.int v2, .ref o3, .int v5, .ref o6, .int v8, .ref o9, .ref o11, .int v13, .ref o14, .int v16, .ref o17, .int v19, .int v20, .int v21, .ref o22, .ref o24, .ref o26, .ref o28, .ref o30, .int v32, .ref o33, .ref o35, .ref o37, .int v39, .ref o40, .ref o42, .ref o44, .int v46, .ref o47])), (o6, .inl (cI, 12, .inl fw7)), (o30, .inl (cI, 100, .inl fw31)), (o37, .inl (cI, 12, .inl fw38)), (o42, .inl (cI, 49152, .inl fw43)), (o40, .inl (cZ, 49152, .inl fw41)), (o44, .inl (cI, 12, .inl fw45))]) sz) ([(o1, .inr (12, [.int v2, .ref o3, .int v5, .ref o6, .int v8, .ref o9, .ref o11, .int v13, .ref o14, .int v16, .ref o17, .int v19, .int v20, .int v21, .ref o22, .ref o24, .ref o26, .ref o28, .ref o30, .int u.1, .ref o33, .ref o35, .ref o37, .int u.2.1, .ref o40, .ref o42, .ref o44, .int u.2.2.1, .ref o47])), (o6, .inl (cI, 12, .inl fw7)), (o30, .inl (cI, 100, .inl u.2.2.2.1)), (o37, .inl (cI, 12, .inl u.2.2.2.2.1)), (o42, .inl (cI, 49152, .inl u.2.2.2.2.2.1)), (o40, .inl (cZ, 49152, .inl u.2.2.2.2.2.2.1)), (o44, .inl (cI, 12, .inl u.2.2.2.2.2.2.2))]) t) (va_A ([(o1, .inr (12, [.int v2, .ref o3, .int v5, .ref o6, .int v8, .ref o9, .ref o11, .int v13, .ref o14, .int v16, .ref o17, .int v19, .int v20, .int v21, .ref o22, .ref o24, .ref o26, .ref o28, .ref o30, .int v32, .ref o33, .ref o35, .ref o37, .int v39, .ref o40, .ref o42, .ref o44, .int v46, .ref o47])), (o6, .inl (cI, 12, .inl fw7)), (o30, .inl (cI, 100, .inl fw31)), (o37, .inl (cI, 12, .inl fw38)), (o42, .inl (cI, 49152, .inl fw43)), (o40, .inl (cZ, 49152, .inl fw41)), (o44, .inl (cI, 12, .inl fw45))]) sz)) 0 0 (va_A ([(o1, .inr (12, [.int v2, .ref o3, .int v5, .ref o6, .int v8, .ref o9, .ref o11, .int v13, .ref o14, .int v16, .ref o17, .int v19, .int v20, .int v21, .ref o22, .ref o24, .ref o26, .ref o28, .ref o30, .int v32, .ref o33, .ref o35, .ref o37, .int v39, .ref o40, .ref o42, .ref o44, .int v46, .ref o47])), (o6, .inl (cI, 12, .inl fw7)), (o30, .inl (cI, 100, .inl fw31)), (o37, .inl (cI, 12, .inl fw38)), (o42, .inl (cI, 49152, .inl fw43)), (o40, .inl (cZ, 49152, .inl fw41)), (o44, .inl (cI, 12, .inl fw45))]) sz) := by
  refine Met.ofW (cc := cX12_line) (maxL := 2) (ret := (some .int)) (by decide) rfl ?_
  intro p e s m args below meth c s₁ B hml hv
  obtain ⟨rfl, hsz, hP, hK, hD0, hN⟩ := hv
  have hx := B.exec
  have hb := B.bytes
  have hr := B.returns
  have hts := atoms_spec (ws := wsX12_line) B.pre
  have hown : s.vm.findClass RX12 = some m.cls := findClass_of_methodNamed B.named
  have hlocks := B.notSynchronized
  subst hsz
  have hD := hD0.self (sz := s.heap.size)
  generalize hAe : va_A ([(o1, .inr (12, [.int v2, .ref o3, .int v5, .ref o6, .int v8, .ref o9, .ref o11, .int v13, .ref o14, .int v16, .ref o17, .int v19, .int v20, .int v21, .ref o22, .ref o24, .ref o26, .ref o28, .ref o30, .int v32, .ref o33, .ref o35, .ref o37, .int v39, .ref o40, .ref o42, .ref o44, .int v46, .ref o47])), (o6, .inl (cI, 12, .inl fw7)), (o30, .inl (cI, 100, .inl fw31)), (o37, .inl (cI, 12, .inl fw38)), (o42, .inl (cI, 49152, .inl fw43)), (o40, .inl (cZ, 49152, .inl fw41)), (o44, .inl (cI, 12, .inl fw45))]) s.heap.size = A at hD ⊢
  have hA : ∀ q : Nat, s.heap.size ≤ q → A q := fun q h => by rw [← hAe]; exact Or.inr h
  have hS : va_S A s.heap s.heap [] := va_S.rf
  have hP : va_P (dC, dI) vwCl ([(o1, .inr (12, [.int v2, .ref o3, .int v5, .ref o6, .int v8, .ref o9, .ref o11, .int v13, .ref o14, .int v16, .ref o17, .int v19, .int v20, .int v21, .ref o22, .ref o24, .ref o26, .ref o28, .ref o30, .int v32, .ref o33, .ref o35, .ref o37, .int v39, .ref o40, .ref o42, .ref o44, .int v46, .ref o47])), (o6, .inl (cI, 12, .inl fw7)), (o30, .inl (cI, 100, .inl fw31)), (o37, .inl (cI, 12, .inl fw38)), (o42, .inl (cI, 49152, .inl fw43)), (o40, .inl (cZ, 49152, .inl fw41)), (o44, .inl (cI, 12, .inl fw45))]) s.heap := hP
  have hl := lv_entry ([.ref o1, .int a1]) (n := 2) (Nat.le_of_ble_eq_true rfl)
  rw [lg_entry_eq]
  generalize (lg_sl ([.ref o1, .int a1]) ++ List.replicate (2 - (lg_sl ([.ref o1, .int a1])).length) Slot.unset).toArray = ls at hl ⊢
  have hl : lv_has ls 2 [(0, .ref o1), (1, .int a1)] := hl
  refine gen_Q (fun Q hQ => ?_)
  refine lv_aload_n hx hb dX12_line_0 rfl (lv_at hl 0 rfl) ?_
  refine kc_i (D := (dC, dI)) (S := Int32 × Int32 × Int32 × (Nat → Int32) × (Nat → Int32) × (Nat → Int32) × (Nat → Int32) × (Nat → Int32)) (wc := [(o1, .inr (12, [.int v2, .ref o3, .int v5, .ref o6, .int v8, .ref o9, .ref o11, .int v13, .ref o14, .int v16, .ref o17, .int v19, .int v20, .int v21, .ref o22, .ref o24, .ref o26, .ref o28, .ref o30, .int v32, .ref o33, .ref o35, .ref o37, .int v39, .ref o40, .ref o42, .ref o44, .int v46, .ref o47])), (o6, .inl (cI, 12, .inl fw7)), (o30, .inl (cI, 100, .inl fw31)), (o37, .inl (cI, 12, .inl fw38)), (o42, .inl (cI, 49152, .inl fw43)), (o40, .inl (cZ, 49152, .inl fw41)), (o44, .inl (cI, 12, .inl fw45))]) (wr := []) (w1 := fun u => [(o1, .inr (12, [.int v2, .ref o3, .int v5, .ref o6, .int v8, .ref o9, .ref o11, .int v13, .ref o14, .int v16, .ref o17, .int v19, .int v20, .int v21, .ref o22, .ref o24, .ref o26, .ref o28, .ref o30, .int u.1, .ref o33, .ref o35, .ref o37, .int u.2.1, .ref o40, .ref o42, .ref o44, .int u.2.2.1, .ref o47])), (o6, .inl (cI, 12, .inl fw7)), (o30, .inl (cI, 100, .inl u.2.2.2.1)), (o37, .inl (cI, 12, .inl u.2.2.2.2.1)), (o42, .inl (cI, 49152, .inl u.2.2.2.2.2.1)), (o40, .inl (cZ, 49152, .inl u.2.2.2.2.2.2.1)), (o44, .inl (cI, 12, .inl u.2.2.2.2.2.2.2))]) (wn := fun u => [(o1, .inr (12, [.int v2, .ref o3, .int v5, .ref o6, .int v8, .ref o9, .ref o11, .int v13, .ref o14, .int v16, .ref o17, .int v19, .int v20, .int v21, .ref o22, .ref o24, .ref o26, .ref o28, .ref o30, .int u.1, .ref o33, .ref o35, .ref o37, .int u.2.1, .ref o40, .ref o42, .ref o44, .int u.2.2.1, .ref o47])), (o6, .inl (cI, 12, .inl fw7)), (o30, .inl (cI, 100, .inl u.2.2.2.1)), (o37, .inl (cI, 12, .inl u.2.2.2.2.1)), (o42, .inl (cI, 49152, .inl u.2.2.2.2.2.1)), (o40, .inl (cZ, 49152, .inl u.2.2.2.2.2.2.1)), (o44, .inl (cI, 12, .inl u.2.2.2.2.2.2.2))]) (fun hPc hDc => va_runV (As := []) (rest := []) ⟨hx, hb, hml, hown, hts⟩ (kX12_hasSpans_1 l dC dI cI c2 cZ o1 o3 o6 o9 o11 o14 o17 o22 o24 o26 o28 o30 o33 o35 o37 o40 o42 o44 o47 v2 v5 fw7 v8 v13 v16 v19 v20 v21 fw31 v32 fw38 v39 fw41 fw43 fw45 v46 s.heap.size v5_h fw7_b v8_h v13_h v16_h v19_h fw31_b v32_h v39_h fw45_b v46_h) (cwV 0 hts gX12_line_X12_hasSpans rfl rfl rfl (by decide +kernel) ⟨Nat.le_of_ble_eq_true rfl, Nat.le_of_ble_eq_true rfl⟩) (pre_V hPc hK hDc hN (ci := 12) (q0 := 0) rfl rfl) rfl rfl hl.1 rfl (lv_room (Nat.le_of_ble_eq_true rfl)) dX12_line_1 ⟨Nat.le_of_ble_eq_true rfl, Nat.le_of_ble_eq_true rfl⟩) hP hD hS hA [0, 1, 2, 3, 4, 5, 6] [] [0, 1, 2, 3, 4, 5, 6] rfl rfl (by decide +kernel) (by decide +kernel) (by decide +kernel) (by decide +kernel) (fun _ => rfl) (fun x9 u H locs hq hP hD hS => ?_)
  obtain ⟨y1, y2, y3, f4, f5, f6, f7, f8⟩ := u
  obtain ⟨x9_h, y1_h, y2_h, y3_h, f4_b, f8_b⟩ := hq
  have x9_h : Iv 0 1 x9 := x9_h
  have y1_h : Iv 0 99 y1 := y1_h
  have y2_h : Iv 0 12 y2 := y2_h
  have y3_h : Iv 0 12 y3 := y3_h
  have f4_b : Bd 100 0 4095 f4 := f4_b
  have f8_b : Bd 12 0 11 f8 := f8_b
  have hP : va_P (dC, dI) vwCl ([(o1, .inr (12, [.int v2, .ref o3, .int v5, .ref o6, .int v8, .ref o9, .ref o11, .int v13, .ref o14, .int v16, .ref o17, .int v19, .int v20, .int v21, .ref o22, .ref o24, .ref o26, .ref o28, .ref o30, .int y1, .ref o33, .ref o35, .ref o37, .int y2, .ref o40, .ref o42, .ref o44, .int y3, .ref o47])), (o6, .inl (cI, 12, .inl fw7)), (o30, .inl (cI, 100, .inl f4)), (o37, .inl (cI, 12, .inl f5)), (o42, .inl (cI, 49152, .inl f6)), (o40, .inl (cZ, 49152, .inl f7)), (o44, .inl (cI, 12, .inl f8))]) H := hP
  have hD : va_D A ([(o1, .inr (12, [.int v2, .ref o3, .int v5, .ref o6, .int v8, .ref o9, .ref o11, .int v13, .ref o14, .int v16, .ref o17, .int v19, .int v20, .int v21, .ref o22, .ref o24, .ref o26, .ref o28, .ref o30, .int y1, .ref o33, .ref o35, .ref o37, .int y2, .ref o40, .ref o42, .ref o44, .int y3, .ref o47])), (o6, .inl (cI, 12, .inl fw7)), (o30, .inl (cI, 100, .inl f4)), (o37, .inl (cI, 12, .inl f5)), (o42, .inl (cI, 49152, .inl f6)), (o40, .inl (cZ, 49152, .inl f7)), (o44, .inl (cI, 12, .inl f8))]) := hD
  refine lv_if_eq (tgt := 30) hx hb dX12_line_4 (by decide) (fun h10 => ?_) (fun h10 => ?_)
  ·
    have j11 : Iv 0 0 x9 := r_eq h10 ik_0
    refine lv_bipush (v := (-9)) hx hb dX12_line_30 (by decide) ?_
    rw [hQ]
    exact W.iret (v := (-9)) hx hb hr (fun t ht hW => ⟨⟨(-9), (y1, y2, y3, f4, f5, f6, f7, f8), rfl, ⟨(iv_w ikm_9 (by decide)), y1_h, y2_h, y3_h, f4_b, f8_b⟩, by rw [ht]; exact hP, va_K.moved hW.alike hK, hD⟩, hS.F ht⟩) hS.2.2 dX12_line_32
  ·
    have j12 : Iv 1 1 x9 := r_nelo h10 x9_h ik_0 (by decide)
    refine lv_iload_n hx hb dX12_line_7 rfl (lv_at hl 1 rfl) ?_
    refine lv_iconst (v := 0) hx hb dX12_line_8 (by decide) ?_
    refine lv_aload_n hx hb dX12_line_9 rfl (lv_at hl 0 rfl) ?_
    refine va_get (D := (dC, dI)) (ci := 12) (v := .int y3) (C := RX12) (T := TX12) (N := 29) hx hb hts iw_X12_line_X12 hown hK hP 0 rfl rfl 27 (by decide) (hts (.fieldLink RX12 197 "HolelessHouseModel" "lined" "I") hm_X12_line_1) (fun _ h9 => h9) rfl dX12_line_10 ?_
    refine lv_iconst (v := 1) hx hb dX12_line_13 (by decide) ?_
    refine lv_isub hx hb dX12_line_14 (lv_topi (fun x13 x13_e => ?_))
    have x13_h : Iv (-1) 11 x13 := iv_e x13_e (iv_sub y3_h ik_1 (by decide))
    refine kc_i (D := (dC, dI)) (S := Unit) (wc := []) (wr := [(o1, .inr (12, [.int v2, .ref o3, .int v5, .ref o6, .int v8, .ref o9, .ref o11, .int v13, .ref o14, .int v16, .ref o17, .int v19, .int v20, .int v21, .ref o22, .ref o24, .ref o26, .ref o28, .ref o30, .int y1, .ref o33, .ref o35, .ref o37, .int y2, .ref o40, .ref o42, .ref o44, .int y3, .ref o47])), (o6, .inl (cI, 12, .inl fw7)), (o30, .inl (cI, 100, .inl f4)), (o37, .inl (cI, 12, .inl f5)), (o42, .inl (cI, 49152, .inl f6)), (o40, .inl (cZ, 49152, .inl f7)), (o44, .inl (cI, 12, .inl f8))]) (w1 := fun _ => []) (wn := fun _ => [(o1, .inr (12, [.int v2, .ref o3, .int v5, .ref o6, .int v8, .ref o9, .ref o11, .int v13, .ref o14, .int v16, .ref o17, .int v19, .int v20, .int v21, .ref o22, .ref o24, .ref o26, .ref o28, .ref o30, .int y1, .ref o33, .ref o35, .ref o37, .int y2, .ref o40, .ref o42, .ref o44, .int y3, .ref o47])), (o6, .inl (cI, 12, .inl fw7)), (o30, .inl (cI, 100, .inl f4)), (o37, .inl (cI, 12, .inl f5)), (o42, .inl (cI, 49152, .inl f6)), (o40, .inl (cZ, 49152, .inl f7)), (o44, .inl (cI, 12, .inl f8))]) (fun hPc hDc => va_runS (As := [.int a1, .int 0, .int x13]) (rest := []) ⟨hx, hb, hml, hown, hts⟩ (kX12_in_2 l dC dI cI c2 cZ a1 0 x13 H.size ik_0 x13_h) (va_cwS 3 hts gX12_line_X12_in rfl rfl rfl (by decide +kernel) ⟨Nat.le_of_ble_eq_true rfl, Nat.le_of_ble_eq_true rfl⟩) (pre_S hPc hK hDc hN) rfl rfl hl.1 rfl (lv_room (Nat.le_of_ble_eq_true rfl)) dX12_line_15 ⟨Nat.le_of_ble_eq_true rfl, Nat.le_of_ble_eq_true rfl⟩) hP hD hS hA [] [0, 1, 2, 3, 4, 5, 6] [0, 1, 2, 3, 4, 5, 6] rfl rfl (by decide +kernel) (by decide +kernel) (by decide +kernel) (by decide +kernel) (fun _ => rfl) (fun x14 _ H locs hq hP hD hS => ?_)
    obtain ⟨x14_h, i15, i16, e17⟩ := hq
    have hP : va_P (dC, dI) vwCl ([(o1, .inr (12, [.int v2, .ref o3, .int v5, .ref o6, .int v8, .ref o9, .ref o11, .int v13, .ref o14, .int v16, .ref o17, .int v19, .int v20, .int v21, .ref o22, .ref o24, .ref o26, .ref o28, .ref o30, .int y1, .ref o33, .ref o35, .ref o37, .int y2, .ref o40, .ref o42, .ref o44, .int y3, .ref o47])), (o6, .inl (cI, 12, .inl fw7)), (o30, .inl (cI, 100, .inl f4)), (o37, .inl (cI, 12, .inl f5)), (o42, .inl (cI, 49152, .inl f6)), (o40, .inl (cZ, 49152, .inl f7)), (o44, .inl (cI, 12, .inl f8))]) H := hP
    have hD : va_D A ([(o1, .inr (12, [.int v2, .ref o3, .int v5, .ref o6, .int v8, .ref o9, .ref o11, .int v13, .ref o14, .int v16, .ref o17, .int v19, .int v20, .int v21, .ref o22, .ref o24, .ref o26, .ref o28, .ref o30, .int y1, .ref o33, .ref o35, .ref o37, .int y2, .ref o40, .ref o42, .ref o44, .int y3, .ref o47])), (o6, .inl (cI, 12, .inl fw7)), (o30, .inl (cI, 100, .inl f4)), (o37, .inl (cI, 12, .inl f5)), (o42, .inl (cI, 49152, .inl f6)), (o40, .inl (cZ, 49152, .inl f7)), (o44, .inl (cI, 12, .inl f8))]) := hD
    refine lv_if_eq (tgt := 30) hx hb dX12_line_18 (by decide) (fun h18 => ?_) (fun h18 => ?_)
    ·
      have j19 : Iv 0 0 x14 := r_eq h18 ik_0
      refine lv_bipush (v := (-9)) hx hb dX12_line_30 (by decide) ?_
      rw [hQ]
      exact W.iret (v := (-9)) hx hb hr (fun t ht hW => ⟨⟨(-9), (y1, y2, y3, f4, f5, f6, f7, f8), rfl, ⟨(iv_w ikm_9 (by decide)), y1_h, y2_h, y3_h, f4_b, f8_b⟩, by rw [ht]; exact hP, va_K.moved hW.alike hK, hD⟩, hS.F ht⟩) hS.2.2 dX12_line_32
    ·
      have j20 : Iv 1 1 x14 := r_nelo h18 x14_h ik_0 (by decide)
      have j21 : Iv 0 11 a1 := i15 h18
      have j22 : Iv 0 11 x13 := i16 h18
      have j23 : Iv 1 12 y3 := ivb_sub x13_e y3_h ik_1 j22 (by decide)
      refine lv_aload_n hx hb dX12_line_21 rfl (lv_at hl 0 rfl) ?_
      refine va_get (D := (dC, dI)) (ci := 12) (v := .ref o44) (C := RX12) (T := TX12) (N := 29) hx hb hts iw_X12_line_X12 hown hK hP 0 rfl rfl 26 (by decide) (hts (.fieldLink RX12 64 "HolelessHouseModel" "line" "[I") hm_X12_line_2) (fun _ h9 => h9) rfl dX12_line_22 ?_
      refine lv_iload_n hx hb dX12_line_25 rfl (lv_at hl 1 rfl) ?_
      refine va_iald hx hb hK hP 6 0 rfl rfl (vin_iv j21 (by decide)) dX12_line_26 (lv_topi (fun x24 x24_e => ?_))
      have x24_h : Iv 0 11 x24 := iv_e x24_e (bd_at f8_b (vin_iv j21 (by decide)))
      refine lv_goto (tgt := 32) hx hb dX12_line_27 (by decide) ?_
      rw [hQ]
      exact W.iret (v := x24) hx hb hr (fun t ht hW => ⟨⟨x24, (y1, y2, y3, f4, f5, f6, f7, f8), rfl, ⟨(iv_w x24_h (by decide)), y1_h, y2_h, (iv_w j23 (by decide)), f4_b, f8_b⟩, by rw [ht]; exact hP, va_K.moved hW.alike hK, hD⟩, hS.F ht⟩) hS.2.2 dX12_line_32
theorem iw_X12_span_X12 : ∀ w ∈ wsX120, w ∈ wsX12_span := fun _ h => List.mem_cons.mpr (Or.inr (List.mem_append.mpr (Or.inr h)))
set_option maxHeartbeats 4000000 in
set_option maxRecDepth 100000 in
theorem kX12_span_1 (l : Launch) (dC : Nat → ClassId) (dI : Nat → Nat → Nat) (cI c2 cZ : ClassId) (o1 : Nat) (o3 : Nat) (o6 : Nat) (o9 : Nat) (o11 : Nat) (o14 : Nat) (o17 : Nat) (o22 : Nat) (o24 : Nat) (o26 : Nat) (o28 : Nat) (o30 : Nat) (o33 : Nat) (o35 : Nat) (o37 : Nat) (o40 : Nat) (o42 : Nat) (o44 : Nat) (o47 : Nat) (v2 : Int32) (v5 : Int32) (fw7 : Nat → Int32) (v8 : Int32) (v13 : Int32) (v16 : Int32) (v19 : Int32) (v20 : Int32) (v21 : Int32) (fw31 : Nat → Int32) (v32 : Int32) (fw38 : Nat → Int32) (v39 : Int32) (fw41 : Nat → Int32) (fw43 : Nat → Int32) (fw45 : Nat → Int32) (v46 : Int32) (a1 : Int32) (a2 : Int32) (sz : Nat) (v5_h : Iv 0 12 v5) (fw7_b : Bd 12 0 4095 fw7) (v8_h : Iv 0 8 v8) (v13_h : Iv 0 12 v13) (v16_h : Iv 0 12 v16) (v19_h : Iv (-9) 12 v19) (fw31_b : Bd 100 0 4095 fw31) (v32_h : Iv 0 99 v32) (v39_h : Iv 0 12 v39) (fw45_b : Bd 12 0 11 fw45) (v46_h : Iv 0 12 v46) (a2_h : Iv 0 1 a2) : Met l yX12_span wsX12_span ({ frames := 5, cells := 0, slots := 0, locals := 109 }) (va_Pc [.ref o1, .int a1, .int a2] (wPre (dC, dI) [(cI, .int), (c2, .array .int), (cZ, .boolean)] ([(o1, .inr (12, [.int v2, .ref o3, .int v5, .ref o6, .int v8, .ref o9, .ref o11, .int v13, .ref o14, .int v16, .ref o17, .int v19, .int v20, .int v21, .ref o22, .ref o24, .ref o26, .ref o28, .ref o30, .int v32, .ref o33, .ref o35, .ref o37, .int v39, .ref o40, .ref o42, .ref o44, .int v46, .ref o47])), (o6, .inl (cI, 12, .inl fw7)), (o30, .inl (cI, 100, .inl fw31)), (o37, .inl (cI, 12, .inl fw38)), (o42, .inl (cI, 49152, .inl fw43)), (o40, .inl (cZ, 49152, .inl fw41)), (o44, .inl (cI, 12, .inl fw45))]) sz)) (va_Qi (fun (r : Int32) (u : Int32 × Int32 × Int32 × (Nat → Int32) × (Nat → Int32) × (Nat → Int32) × (Nat → Int32) × (Nat → Int32)) => Iv (-9) 11 r ∧ Iv 0 99 u.1 ∧ Iv 0 12 u.2.1 ∧ Iv 0 12 u.2.2.1 ∧ Bd 100 0 4095 u.2.2.2.1 ∧ Bd 12 0 11 u.2.2.2.2.2.2.2) (fun u t => wPost (dC, dI) [(cI, .int), (c2, .array .int), (cZ, .boolean)] (va_A ([(o1, .inr (12, [.int v2, .ref o3, .int v5, .ref o6, .int v8, .ref o9, .ref o11, .int v13, .ref o14, .int v16, .ref o17, .int v19, .int v20, .int v21, .ref o22, .ref o24, .ref o26, .ref o28, .ref o30, .int v32, .ref o33, .ref o35, .ref o37, .int v39, .ref o40, .ref o42, .ref o44, .int v46, .ref o47])), (o6, .inl (cI, 12, .inl fw7)), (o30, .inl (cI, 100, .inl fw31)), (o37, .inl (cI, 12, .inl fw38)), (o42, .inl (cI, 49152, .inl fw43)), (o40, .inl (cZ, 49152, .inl fw41)), (o44, .inl (cI, 12, .inl fw45))]) sz) ([(o1, .inr (12, [.int v2, .ref o3, .int v5, .ref o6, .int v8, .ref o9, .ref o11, .int v13, .ref o14, .int v16, .ref o17, .int v19, .int v20, .int v21, .ref o22, .ref o24, .ref o26, .ref o28, .ref o30, .int u.1, .ref o33, .ref o35, .ref o37, .int u.2.1, .ref o40, .ref o42, .ref o44, .int u.2.2.1, .ref o47])), (o6, .inl (cI, 12, .inl fw7)), (o30, .inl (cI, 100, .inl u.2.2.2.1)), (o37, .inl (cI, 12, .inl u.2.2.2.2.1)), (o42, .inl (cI, 49152, .inl u.2.2.2.2.2.1)), (o40, .inl (cZ, 49152, .inl u.2.2.2.2.2.2.1)), (o44, .inl (cI, 12, .inl u.2.2.2.2.2.2.2))]) t) (va_A ([(o1, .inr (12, [.int v2, .ref o3, .int v5, .ref o6, .int v8, .ref o9, .ref o11, .int v13, .ref o14, .int v16, .ref o17, .int v19, .int v20, .int v21, .ref o22, .ref o24, .ref o26, .ref o28, .ref o30, .int v32, .ref o33, .ref o35, .ref o37, .int v39, .ref o40, .ref o42, .ref o44, .int v46, .ref o47])), (o6, .inl (cI, 12, .inl fw7)), (o30, .inl (cI, 100, .inl fw31)), (o37, .inl (cI, 12, .inl fw38)), (o42, .inl (cI, 49152, .inl fw43)), (o40, .inl (cZ, 49152, .inl fw41)), (o44, .inl (cI, 12, .inl fw45))]) sz)) 0 0 (va_A ([(o1, .inr (12, [.int v2, .ref o3, .int v5, .ref o6, .int v8, .ref o9, .ref o11, .int v13, .ref o14, .int v16, .ref o17, .int v19, .int v20, .int v21, .ref o22, .ref o24, .ref o26, .ref o28, .ref o30, .int v32, .ref o33, .ref o35, .ref o37, .int v39, .ref o40, .ref o42, .ref o44, .int v46, .ref o47])), (o6, .inl (cI, 12, .inl fw7)), (o30, .inl (cI, 100, .inl fw31)), (o37, .inl (cI, 12, .inl fw38)), (o42, .inl (cI, 49152, .inl fw43)), (o40, .inl (cZ, 49152, .inl fw41)), (o44, .inl (cI, 12, .inl fw45))]) sz) := by
  refine Met.ofW (cc := cX12_span) (maxL := 7) (ret := (some .int)) (by decide) rfl ?_
  intro p e s m args below meth c s₁ B hml hv
  obtain ⟨rfl, hsz, hP, hK, hD0, hN⟩ := hv
  have hx := B.exec
  have hb := B.bytes
  have hr := B.returns
  have hts := atoms_spec (ws := wsX12_span) B.pre
  have hown : s.vm.findClass RX12 = some m.cls := findClass_of_methodNamed B.named
  have hlocks := B.notSynchronized
  subst hsz
  have hD := hD0.self (sz := s.heap.size)
  generalize hAe : va_A ([(o1, .inr (12, [.int v2, .ref o3, .int v5, .ref o6, .int v8, .ref o9, .ref o11, .int v13, .ref o14, .int v16, .ref o17, .int v19, .int v20, .int v21, .ref o22, .ref o24, .ref o26, .ref o28, .ref o30, .int v32, .ref o33, .ref o35, .ref o37, .int v39, .ref o40, .ref o42, .ref o44, .int v46, .ref o47])), (o6, .inl (cI, 12, .inl fw7)), (o30, .inl (cI, 100, .inl fw31)), (o37, .inl (cI, 12, .inl fw38)), (o42, .inl (cI, 49152, .inl fw43)), (o40, .inl (cZ, 49152, .inl fw41)), (o44, .inl (cI, 12, .inl fw45))]) s.heap.size = A at hD ⊢
  have hA : ∀ q : Nat, s.heap.size ≤ q → A q := fun q h => by rw [← hAe]; exact Or.inr h
  have hS : va_S A s.heap s.heap [] := va_S.rf
  have hP : va_P (dC, dI) vwCl ([(o1, .inr (12, [.int v2, .ref o3, .int v5, .ref o6, .int v8, .ref o9, .ref o11, .int v13, .ref o14, .int v16, .ref o17, .int v19, .int v20, .int v21, .ref o22, .ref o24, .ref o26, .ref o28, .ref o30, .int v32, .ref o33, .ref o35, .ref o37, .int v39, .ref o40, .ref o42, .ref o44, .int v46, .ref o47])), (o6, .inl (cI, 12, .inl fw7)), (o30, .inl (cI, 100, .inl fw31)), (o37, .inl (cI, 12, .inl fw38)), (o42, .inl (cI, 49152, .inl fw43)), (o40, .inl (cZ, 49152, .inl fw41)), (o44, .inl (cI, 12, .inl fw45))]) s.heap := hP
  have hl := lv_entry ([.ref o1, .int a1, .int a2]) (n := 7) (Nat.le_of_ble_eq_true rfl)
  rw [lg_entry_eq]
  generalize (lg_sl ([.ref o1, .int a1, .int a2]) ++ List.replicate (7 - (lg_sl ([.ref o1, .int a1, .int a2])).length) Slot.unset).toArray = ls at hl ⊢
  have hl : lv_has ls 7 [(0, .ref o1), (1, .int a1), (2, .int a2)] := hl
  refine gen_Q (fun Q hQ => ?_)
  refine lv_aload_n hx hb dX12_span_0 rfl (lv_at hl 0 rfl) ?_
  refine lv_iload_n hx hb dX12_span_1 rfl (lv_at hl 1 rfl) ?_
  refine kc_i (D := (dC, dI)) (S := Unit) (wc := [(o1, .inr (12, [.int v2, .ref o3, .int v5, .ref o6, .int v8, .ref o9, .ref o11, .int v13, .ref o14, .int v16, .ref o17, .int v19, .int v20, .int v21, .ref o22, .ref o24, .ref o26, .ref o28, .ref o30, .int v32, .ref o33, .ref o35, .ref o37, .int v39, .ref o40, .ref o42, .ref o44, .int v46, .ref o47]))]) (wr := [(o6, .inl (cI, 12, .inl fw7)), (o30, .inl (cI, 100, .inl fw31)), (o37, .inl (cI, 12, .inl fw38)), (o42, .inl (cI, 49152, .inl fw43)), (o40, .inl (cZ, 49152, .inl fw41)), (o44, .inl (cI, 12, .inl fw45))]) (w1 := fun _ => [(o1, .inr (12, [.int v2, .ref o3, .int v5, .ref o6, .int v8, .ref o9, .ref o11, .int v13, .ref o14, .int v16, .ref o17, .int v19, .int v20, .int v21, .ref o22, .ref o24, .ref o26, .ref o28, .ref o30, .int v32, .ref o33, .ref o35, .ref o37, .int v39, .ref o40, .ref o42, .ref o44, .int v46, .ref o47]))]) (wn := fun _ => [(o1, .inr (12, [.int v2, .ref o3, .int v5, .ref o6, .int v8, .ref o9, .ref o11, .int v13, .ref o14, .int v16, .ref o17, .int v19, .int v20, .int v21, .ref o22, .ref o24, .ref o26, .ref o28, .ref o30, .int v32, .ref o33, .ref o35, .ref o37, .int v39, .ref o40, .ref o42, .ref o44, .int v46, .ref o47])), (o6, .inl (cI, 12, .inl fw7)), (o30, .inl (cI, 100, .inl fw31)), (o37, .inl (cI, 12, .inl fw38)), (o42, .inl (cI, 49152, .inl fw43)), (o40, .inl (cZ, 49152, .inl fw41)), (o44, .inl (cI, 12, .inl fw45))]) (fun hPc hDc => va_runV (As := [.int a1]) (rest := []) ⟨hx, hb, hml, hown, hts⟩ (kX12_isNode_1 l dC dI cI c2 cZ o1 o3 o6 o9 o11 o14 o17 o22 o24 o26 o28 o30 o33 o35 o37 o40 o42 o44 o47 v2 v5 v8 v13 v16 v19 v20 v21 v32 v39 v46 a1 s.heap.size v5_h v8_h v13_h v16_h v19_h v32_h v39_h v46_h) (cwV 1 hts gX12_span_X12_isNode rfl rfl rfl (by decide +kernel) ⟨Nat.le_of_ble_eq_true rfl, Nat.le_of_ble_eq_true rfl⟩) (pre_V hPc hK hDc hN (ci := 12) (q0 := 0) rfl rfl) rfl rfl hl.1 rfl (lv_room (Nat.le_of_ble_eq_true rfl)) dX12_span_2 ⟨Nat.le_of_ble_eq_true rfl, Nat.le_of_ble_eq_true rfl⟩) hP hD hS hA [0] [1, 2, 3, 4, 5, 6] [6, 0, 1, 2, 3, 4, 5] rfl rfl (by decide +kernel) (by decide +kernel) (by decide +kernel) (by decide +kernel) (fun _ => rfl) (fun x1 _ H locs hq hP hD hS => ?_)
  obtain ⟨x1_h, i2, e3⟩ := hq
  have hP : va_P (dC, dI) vwCl ([(o1, .inr (12, [.int v2, .ref o3, .int v5, .ref o6, .int v8, .ref o9, .ref o11, .int v13, .ref o14, .int v16, .ref o17, .int v19, .int v20, .int v21, .ref o22, .ref o24, .ref o26, .ref o28, .ref o30, .int v32, .ref o33, .ref o35, .ref o37, .int v39, .ref o40, .ref o42, .ref o44, .int v46, .ref o47])), (o6, .inl (cI, 12, .inl fw7)), (o30, .inl (cI, 100, .inl fw31)), (o37, .inl (cI, 12, .inl fw38)), (o42, .inl (cI, 49152, .inl fw43)), (o40, .inl (cZ, 49152, .inl fw41)), (o44, .inl (cI, 12, .inl fw45))]) H := hP
  have hD : va_D A ([(o1, .inr (12, [.int v2, .ref o3, .int v5, .ref o6, .int v8, .ref o9, .ref o11, .int v13, .ref o14, .int v16, .ref o17, .int v19, .int v20, .int v21, .ref o22, .ref o24, .ref o26, .ref o28, .ref o30, .int v32, .ref o33, .ref o35, .ref o37, .int v39, .ref o40, .ref o42, .ref o44, .int v46, .ref o47])), (o6, .inl (cI, 12, .inl fw7)), (o30, .inl (cI, 100, .inl fw31)), (o37, .inl (cI, 12, .inl fw38)), (o42, .inl (cI, 49152, .inl fw43)), (o40, .inl (cZ, 49152, .inl fw41)), (o44, .inl (cI, 12, .inl fw45))]) := hD
  refine lv_if_ne (tgt := 10) hx hb dX12_span_5 (by decide) (fun h4 => ?_) (fun h4 => ?_)
  ·
    have j5 : Iv 1 1 x1 := r_nelo h4 x1_h ik_0 (by decide)
    have j6 : Iv 0 11 a1 := i2 h4
    have e7 := e3 h4
    refine lv_aload_n hx hb dX12_span_10 rfl (lv_at hl 0 rfl) ?_
    refine kc_i (D := (dC, dI)) (S := Int32 × Int32 × Int32 × (Nat → Int32) × (Nat → Int32) × (Nat → Int32) × (Nat → Int32) × (Nat → Int32)) (wc := [(o1, .inr (12, [.int v2, .ref o3, .int v5, .ref o6, .int v8, .ref o9, .ref o11, .int v13, .ref o14, .int v16, .ref o17, .int v19, .int v20, .int v21, .ref o22, .ref o24, .ref o26, .ref o28, .ref o30, .int v32, .ref o33, .ref o35, .ref o37, .int v39, .ref o40, .ref o42, .ref o44, .int v46, .ref o47])), (o6, .inl (cI, 12, .inl fw7)), (o30, .inl (cI, 100, .inl fw31)), (o37, .inl (cI, 12, .inl fw38)), (o42, .inl (cI, 49152, .inl fw43)), (o40, .inl (cZ, 49152, .inl fw41)), (o44, .inl (cI, 12, .inl fw45))]) (wr := []) (w1 := fun u => [(o1, .inr (12, [.int v2, .ref o3, .int v5, .ref o6, .int v8, .ref o9, .ref o11, .int v13, .ref o14, .int v16, .ref o17, .int v19, .int v20, .int v21, .ref o22, .ref o24, .ref o26, .ref o28, .ref o30, .int u.1, .ref o33, .ref o35, .ref o37, .int u.2.1, .ref o40, .ref o42, .ref o44, .int u.2.2.1, .ref o47])), (o6, .inl (cI, 12, .inl fw7)), (o30, .inl (cI, 100, .inl u.2.2.2.1)), (o37, .inl (cI, 12, .inl u.2.2.2.2.1)), (o42, .inl (cI, 49152, .inl u.2.2.2.2.2.1)), (o40, .inl (cZ, 49152, .inl u.2.2.2.2.2.2.1)), (o44, .inl (cI, 12, .inl u.2.2.2.2.2.2.2))]) (wn := fun u => [(o1, .inr (12, [.int v2, .ref o3, .int v5, .ref o6, .int v8, .ref o9, .ref o11, .int v13, .ref o14, .int v16, .ref o17, .int v19, .int v20, .int v21, .ref o22, .ref o24, .ref o26, .ref o28, .ref o30, .int u.1, .ref o33, .ref o35, .ref o37, .int u.2.1, .ref o40, .ref o42, .ref o44, .int u.2.2.1, .ref o47])), (o6, .inl (cI, 12, .inl fw7)), (o30, .inl (cI, 100, .inl u.2.2.2.1)), (o37, .inl (cI, 12, .inl u.2.2.2.2.1)), (o42, .inl (cI, 49152, .inl u.2.2.2.2.2.1)), (o40, .inl (cZ, 49152, .inl u.2.2.2.2.2.2.1)), (o44, .inl (cI, 12, .inl u.2.2.2.2.2.2.2))]) (fun hPc hDc => va_runV (As := []) (rest := []) ⟨hx, hb, hml, hown, hts⟩ (kX12_hasSpans_1 l dC dI cI c2 cZ o1 o3 o6 o9 o11 o14 o17 o22 o24 o26 o28 o30 o33 o35 o37 o40 o42 o44 o47 v2 v5 fw7 v8 v13 v16 v19 v20 v21 fw31 v32 fw38 v39 fw41 fw43 fw45 v46 H.size v5_h fw7_b v8_h v13_h v16_h v19_h fw31_b v32_h v39_h fw45_b v46_h) (cwV 0 hts gX12_span_X12_hasSpans rfl rfl rfl (by decide +kernel) ⟨Nat.le_of_ble_eq_true rfl, Nat.le_of_ble_eq_true rfl⟩) (pre_V hPc hK hDc hN (ci := 12) (q0 := 0) rfl rfl) rfl rfl hl.1 rfl (lv_room (Nat.le_of_ble_eq_true rfl)) dX12_span_11 ⟨Nat.le_of_ble_eq_true rfl, Nat.le_of_ble_eq_true rfl⟩) hP hD hS hA [0, 1, 2, 3, 4, 5, 6] [] [0, 1, 2, 3, 4, 5, 6] rfl rfl (by decide +kernel) (by decide +kernel) (by decide +kernel) (by decide +kernel) (fun _ => rfl) (fun x16 u H locs hq hP hD hS => ?_)
    obtain ⟨y8, y9, y10, f11, f12, f13, f14, f15⟩ := u
    obtain ⟨x16_h, y8_h, y9_h, y10_h, f11_b, f15_b⟩ := hq
    have x16_h : Iv 0 1 x16 := x16_h
    have y8_h : Iv 0 99 y8 := y8_h
    have y9_h : Iv 0 12 y9 := y9_h
    have y10_h : Iv 0 12 y10 := y10_h
    have f11_b : Bd 100 0 4095 f11 := f11_b
    have f15_b : Bd 12 0 11 f15 := f15_b
    have hP : va_P (dC, dI) vwCl ([(o1, .inr (12, [.int v2, .ref o3, .int v5, .ref o6, .int v8, .ref o9, .ref o11, .int v13, .ref o14, .int v16, .ref o17, .int v19, .int v20, .int v21, .ref o22, .ref o24, .ref o26, .ref o28, .ref o30, .int y8, .ref o33, .ref o35, .ref o37, .int y9, .ref o40, .ref o42, .ref o44, .int y10, .ref o47])), (o6, .inl (cI, 12, .inl fw7)), (o30, .inl (cI, 100, .inl f11)), (o37, .inl (cI, 12, .inl f12)), (o42, .inl (cI, 49152, .inl f13)), (o40, .inl (cZ, 49152, .inl f14)), (o44, .inl (cI, 12, .inl f15))]) H := hP
    have hD : va_D A ([(o1, .inr (12, [.int v2, .ref o3, .int v5, .ref o6, .int v8, .ref o9, .ref o11, .int v13, .ref o14, .int v16, .ref o17, .int v19, .int v20, .int v21, .ref o22, .ref o24, .ref o26, .ref o28, .ref o30, .int y8, .ref o33, .ref o35, .ref o37, .int y9, .ref o40, .ref o42, .ref o44, .int y10, .ref o47])), (o6, .inl (cI, 12, .inl fw7)), (o30, .inl (cI, 100, .inl f11)), (o37, .inl (cI, 12, .inl f12)), (o42, .inl (cI, 49152, .inl f13)), (o40, .inl (cZ, 49152, .inl f14)), (o44, .inl (cI, 12, .inl f15))]) := hD
    refine lv_if_ne (tgt := 20) hx hb dX12_span_14 (by decide) (fun h17 => ?_) (fun h17 => ?_)
    ·
      have j18 : Iv 1 1 x16 := r_nelo h17 x16_h ik_0 (by decide)
      refine lv_bipush (v := (-9)) hx hb dX12_span_20 (by decide) ?_
      refine lv_istore_n (lv' := [(3, .int (-9)), (0, .ref o1), (1, .int a1), (2, .int a2)]) hx hb dX12_span_22 rfl hl (by decide) rfl (fun ls hl => ?_)
      refine lv_bipush (v := (-9)) hx hb dX12_span_23 (by decide) ?_
      refine lv_istore (lv' := [(4, .int (-9)), (3, .int (-9)), (0, .ref o1), (1, .int a1), (2, .int a2)]) hx hb dX12_span_25 hl (by decide) rfl (fun ls hl => ?_)
      refine lv_iconst (v := 0) hx hb dX12_span_27 (by decide) ?_
      refine lv_istore (lv' := [(5, .int 0), (4, .int (-9)), (3, .int (-9)), (0, .ref o1), (1, .int a1), (2, .int a2)]) hx hb dX12_span_28 hl (by decide) rfl (fun ls hl => ?_)
      have L1 : ∀ (N : Nat) (x178 : Int32) (x179 : Int32) (x180 : Int32) (H : Heap) (locs : List Loc) (ls : Array Slot), (12 - x178.toInt).toNat < N → Iv 0 12 x178 → Iv (-9) 11 x179 → Iv (-9) 11 x180 → va_P (dC, dI) vwCl ([(o1, .inr (12, [.int v2, .ref o3, .int v5, .ref o6, .int v8, .ref o9, .ref o11, .int v13, .ref o14, .int v16, .ref o17, .int v19, .int v20, .int v21, .ref o22, .ref o24, .ref o26, .ref o28, .ref o30, .int y8, .ref o33, .ref o35, .ref o37, .int y9, .ref o40, .ref o42, .ref o44, .int y10, .ref o47])), (o6, .inl (cI, 12, .inl fw7)), (o30, .inl (cI, 100, .inl f11)), (o37, .inl (cI, 12, .inl f12)), (o42, .inl (cI, 49152, .inl f13)), (o40, .inl (cZ, 49152, .inl f14)), (o44, .inl (cI, 12, .inl f15))]) H → va_D A ([(o1, .inr (12, [.int v2, .ref o3, .int v5, .ref o6, .int v8, .ref o9, .ref o11, .int v13, .ref o14, .int v16, .ref o17, .int v19, .int v20, .int v21, .ref o22, .ref o24, .ref o26, .ref o28, .ref o30, .int y8, .ref o33, .ref o35, .ref o37, .int y9, .ref o40, .ref o42, .ref o44, .int y10, .ref o47])), (o6, .inl (cI, 12, .inl fw7)), (o30, .inl (cI, 100, .inl f11)), (o37, .inl (cI, 12, .inl f12)), (o42, .inl (cI, 49152, .inl f13)), (o40, .inl (cZ, 49152, .inl f14)), (o44, .inl (cI, 12, .inl f15))]) → va_S A s.heap H locs → lv_has ls 7 [(5, .int x178), (4, .int x179), (3, .int x180), (0, .ref o1), (1, .int a1), (2, .int a2)] → W p l e ({ frames := 5, cells := 0, slots := 0, locals := 109 }) s m ([.ref o1, .int a1, .int a2] : List Value).toArray below meth c H locs 0 0 Q (F0 m 30 ls []) := by
        intro N
        induction N with
        | zero =>
          intro x178 x179 x180 H locs ls hM
          exact absurd hM (Nat.not_lt_zero _)
        | succ N ih1 =>
          intro x178 x179 x180 H locs ls hM1 x178_h x179_h x180_h hP hD hS hl
          refine lv_iload hx hb dX12_span_30 (lv_at hl 0 rfl) ?_
          refine lv_aload_n hx hb dX12_span_32 rfl (lv_at hl 3 rfl) ?_
          refine va_get (D := (dC, dI)) (ci := 12) (v := .int y10) (C := RX12) (T := TX12) (N := 29) hx hb hts iw_X12_span_X12 hown hK hP 0 rfl rfl 27 (by decide) (hts (.fieldLink RX12 197 "HolelessHouseModel" "lined" "I") hm_X12_span_1) (fun _ h9 => h9) rfl dX12_span_33 ?_
          refine lv_icmp_ge (tgt := 93) hx hb dX12_span_36 (by decide) (fun h181 => ?_) (fun h181 => ?_)
          ·
            have qh181 := le_i h181
            refine lv_iload_n hx hb dX12_span_93 rfl (lv_at hl 5 rfl) ?_
            refine lv_if_eq (tgt := 102) hx hb dX12_span_94 (by decide) (fun h182 => ?_) (fun h182 => ?_)
            ·
              have j183 : Iv 0 0 a2 := r_eq h182 ik_0
              refine lv_iload_n hx hb dX12_span_102 rfl (lv_at hl 2 rfl) ?_
              rw [hQ]
              exact W.iret (v := x180) hx hb hr (fun t ht hW => ⟨⟨x180, (y8, y9, y10, f11, f12, f13, f14, f15), rfl, ⟨x180_h, y8_h, y9_h, y10_h, f11_b, f15_b⟩, by rw [ht]; exact hP, va_K.moved hW.alike hK, hD⟩, hS.F ht⟩) hS.2.2 dX12_span_103
            ·
              have j184 : Iv 1 1 a2 := r_nelo h182 a2_h ik_0 (by decide)
              refine lv_iload hx hb dX12_span_97 (lv_at hl 1 rfl) ?_
              refine lv_goto (tgt := 103) hx hb dX12_span_99 (by decide) ?_
              rw [hQ]
              exact W.iret (v := x179) hx hb hr (fun t ht hW => ⟨⟨x179, (y8, y9, y10, f11, f12, f13, f14, f15), rfl, ⟨x179_h, y8_h, y9_h, y10_h, f11_b, f15_b⟩, by rw [ht]; exact hP, va_K.moved hW.alike hK, hD⟩, hS.F ht⟩) hS.2.2 dX12_span_103
          ·
            have qh181 := nle_i h181
            have j185 : Iv 0 11 x178 := r_ltl qh181 x178_h y10_h (by decide)
            have j186 : Iv 1 12 y10 := r_ltr qh181 x178_h y10_h (by decide)
            refine lv_aload_n hx hb dX12_span_39 rfl (lv_at hl 3 rfl) ?_
            refine va_get (D := (dC, dI)) (ci := 12) (v := .ref o30) (C := RX12) (T := TX12) (N := 29) hx hb hts iw_X12_span_X12 hown hK hP 0 rfl rfl 18 (by decide) (hts (.fieldLink RX12 45 "HolelessHouseModel" "cliques" "[I") hm_X12_span_2) (fun _ h9 => h9) rfl dX12_span_40 ?_
            refine lv_aload_n hx hb dX12_span_43 rfl (lv_at hl 3 rfl) ?_
            refine va_get (D := (dC, dI)) (ci := 12) (v := .ref o44) (C := RX12) (T := TX12) (N := 29) hx hb hts iw_X12_span_X12 hown hK hP 0 rfl rfl 26 (by decide) (hts (.fieldLink RX12 64 "HolelessHouseModel" "line" "[I") hm_X12_span_3) (fun _ h9 => h9) rfl dX12_span_44 ?_
            refine lv_iload hx hb dX12_span_47 (lv_at hl 0 rfl) ?_
            refine va_iald hx hb hK hP 6 0 rfl rfl (vin_iv j185 (by decide)) dX12_span_49 (lv_topi (fun x187 x187_e => ?_))
            have x187_h : Iv 0 11 x187 := iv_e x187_e (bd_at f15_b (vin_iv j185 (by decide)))
            refine va_iald hx hb hK hP 2 0 rfl rfl (vin_iv x187_h (by decide)) dX12_span_50 (lv_topi (fun x188 x188_e => ?_))
            have x188_h : Iv 0 4095 x188 := iv_e x188_e (bd_at f11_b (vin_iv x187_h (by decide)))
            refine lv_iload_n hx hb dX12_span_51 rfl (lv_at hl 4 rfl) ?_
            refine kc_i (D := (dC, dI)) (S := Unit) (wc := []) (wr := [(o1, .inr (12, [.int v2, .ref o3, .int v5, .ref o6, .int v8, .ref o9, .ref o11, .int v13, .ref o14, .int v16, .ref o17, .int v19, .int v20, .int v21, .ref o22, .ref o24, .ref o26, .ref o28, .ref o30, .int y8, .ref o33, .ref o35, .ref o37, .int y9, .ref o40, .ref o42, .ref o44, .int y10, .ref o47])), (o6, .inl (cI, 12, .inl fw7)), (o30, .inl (cI, 100, .inl f11)), (o37, .inl (cI, 12, .inl f12)), (o42, .inl (cI, 49152, .inl f13)), (o40, .inl (cZ, 49152, .inl f14)), (o44, .inl (cI, 12, .inl f15))]) (w1 := fun _ => []) (wn := fun _ => [(o1, .inr (12, [.int v2, .ref o3, .int v5, .ref o6, .int v8, .ref o9, .ref o11, .int v13, .ref o14, .int v16, .ref o17, .int v19, .int v20, .int v21, .ref o22, .ref o24, .ref o26, .ref o28, .ref o30, .int y8, .ref o33, .ref o35, .ref o37, .int y9, .ref o40, .ref o42, .ref o44, .int y10, .ref o47])), (o6, .inl (cI, 12, .inl fw7)), (o30, .inl (cI, 100, .inl f11)), (o37, .inl (cI, 12, .inl f12)), (o42, .inl (cI, 49152, .inl f13)), (o40, .inl (cZ, 49152, .inl f14)), (o44, .inl (cI, 12, .inl f15))]) (fun hPc hDc => va_runS (As := [.int x188, .int a1]) (rest := []) ⟨hx, hb, hml, hown, hts⟩ (kX12_has_1 l dC dI cI c2 cZ x188 a1 H.size (iv_w j6 (by decide))) (va_cwS 2 hts gX12_span_X12_has rfl rfl rfl (by decide +kernel) ⟨Nat.le_of_ble_eq_true rfl, Nat.le_of_ble_eq_true rfl⟩) (pre_S hPc hK hDc hN) rfl rfl hl.1 rfl (lv_room (Nat.le_of_ble_eq_true rfl)) dX12_span_52 ⟨Nat.le_of_ble_eq_true rfl, Nat.le_of_ble_eq_true rfl⟩) hP hD hS hA [] [0, 1, 2, 3, 4, 5, 6] [0, 1, 2, 3, 4, 5, 6] rfl rfl (by decide +kernel) (by decide +kernel) (by decide +kernel) (by decide +kernel) (fun _ => rfl) (fun x189 _ H locs hq hP hD hS => ?_)
            obtain ⟨x189_h, e190⟩ := hq
            have hP : va_P (dC, dI) vwCl ([(o1, .inr (12, [.int v2, .ref o3, .int v5, .ref o6, .int v8, .ref o9, .ref o11, .int v13, .ref o14, .int v16, .ref o17, .int v19, .int v20, .int v21, .ref o22, .ref o24, .ref o26, .ref o28, .ref o30, .int y8, .ref o33, .ref o35, .ref o37, .int y9, .ref o40, .ref o42, .ref o44, .int y10, .ref o47])), (o6, .inl (cI, 12, .inl fw7)), (o30, .inl (cI, 100, .inl f11)), (o37, .inl (cI, 12, .inl f12)), (o42, .inl (cI, 49152, .inl f13)), (o40, .inl (cZ, 49152, .inl f14)), (o44, .inl (cI, 12, .inl f15))]) H := hP
            have hD : va_D A ([(o1, .inr (12, [.int v2, .ref o3, .int v5, .ref o6, .int v8, .ref o9, .ref o11, .int v13, .ref o14, .int v16, .ref o17, .int v19, .int v20, .int v21, .ref o22, .ref o24, .ref o26, .ref o28, .ref o30, .int y8, .ref o33, .ref o35, .ref o37, .int y9, .ref o40, .ref o42, .ref o44, .int y10, .ref o47])), (o6, .inl (cI, 12, .inl fw7)), (o30, .inl (cI, 100, .inl f11)), (o37, .inl (cI, 12, .inl f12)), (o42, .inl (cI, 49152, .inl f13)), (o40, .inl (cZ, 49152, .inl f14)), (o44, .inl (cI, 12, .inl f15))]) := hD
            refine lv_istore (lv' := [(6, .int x189), (5, .int x178), (4, .int x179), (3, .int x180), (0, .ref o1), (1, .int a1), (2, .int a2)]) hx hb dX12_span_55 hl (by decide) rfl (fun ls hl => ?_)
            refine lv_iload hx hb dX12_span_57 (lv_at hl 0 rfl) ?_
            refine lv_if_eq (tgt := 71) hx hb dX12_span_59 (by decide) (fun h191 => ?_) (fun h191 => ?_)
            ·
              have j192 : Iv 0 0 x189 := r_eq h191 ik_0
              have b193 : bt x188 (Int32.toNatClampNeg a1) = false := has_f e190 h191
              refine lv_iload_n hx hb dX12_span_71 rfl (lv_at hl 3 rfl) ?_
              refine lv_istore_n (lv' := [(3, .int x180), (6, .int x189), (5, .int x178), (4, .int x179), (0, .ref o1), (1, .int a1), (2, .int a2)]) hx hb dX12_span_72 rfl hl (by decide) rfl (fun ls hl => ?_)
              refine lv_iload hx hb dX12_span_73 (lv_at hl 1 rfl) ?_
              refine lv_if_eq (tgt := 83) hx hb dX12_span_75 (by decide) (fun _ => ?_) (fun h9 => absurd (d_eq j192 ik_0) h9)
              refine lv_iload hx hb dX12_span_83 (lv_at hl 3 rfl) ?_
              refine lv_istore (lv' := [(4, .int x179), (3, .int x180), (6, .int x189), (5, .int x178), (0, .ref o1), (1, .int a1), (2, .int a2)]) hx hb dX12_span_85 hl (by decide) rfl (fun ls hl => ?_)
              obtain ⟨x194, x194_e⟩ : ∃ z : Int32, z = x178 + 1 := ⟨_, rfl⟩
              have x194_h : Iv 1 12 x194 := iv_e x194_e (iv_add j185 ik_1 (by decide))
              refine lv_iinc (v := x194) (lv' := [(5, .int x194), (4, .int x179), (3, .int x180), (6, .int x189), (0, .ref o1), (1, .int a1), (2, .int a2)]) hx hb dX12_span_87 hl (k := 3) rfl (incN (by decide +kernel) x194_e) (by decide) rfl (fun ls hl => ?_)
              refine lv_goto (tgt := 30) hx hb dX12_span_90 (by decide) ?_
              exact ih1 x194 x179 x180 _ _ _ (ms_up x194_e j185 (by decide) hM1) (iv_w x194_h (by decide)) x179_h x180_h hP hD hS (lv_sub hl [0, 1, 2, 4, 5, 6] rfl)
            ·
              have j195 : Iv 1 1 x189 := r_nelo h191 x189_h ik_0 (by decide)
              have b196 : bt x188 (Int32.toNatClampNeg a1) = true := has_t e190 h191
              refine lv_iload_n hx hb dX12_span_62 rfl (lv_at hl 3 rfl) ?_
              refine lv_if_ge (tgt := 71) hx hb dX12_span_63 (by decide) (fun h197 => ?_) (fun h197 => ?_)
              ·
                have qh197 := le_i h197
                have j198 : Iv 0 11 x180 := r_ler qh197 ik_0 x180_h (by decide)
                refine lv_iload_n hx hb dX12_span_71 rfl (lv_at hl 3 rfl) ?_
                refine lv_istore_n (lv' := [(3, .int x180), (6, .int x189), (5, .int x178), (4, .int x179), (0, .ref o1), (1, .int a1), (2, .int a2)]) hx hb dX12_span_72 rfl hl (by decide) rfl (fun ls hl => ?_)
                refine lv_iload hx hb dX12_span_73 (lv_at hl 1 rfl) ?_
                refine lv_if_eq (tgt := 83) hx hb dX12_span_75 (by decide) (fun h9 => absurd h9 (d_ne j195 ik_0 (by decide))) (fun _ => ?_)
                refine lv_iload hx hb dX12_span_78 (lv_at hl 2 rfl) ?_
                refine lv_goto (tgt := 85) hx hb dX12_span_80 (by decide) ?_
                refine lv_istore (lv' := [(4, .int x178), (3, .int x180), (6, .int x189), (5, .int x178), (0, .ref o1), (1, .int a1), (2, .int a2)]) hx hb dX12_span_85 hl (by decide) rfl (fun ls hl => ?_)
                obtain ⟨x199, x199_e⟩ : ∃ z : Int32, z = x178 + 1 := ⟨_, rfl⟩
                have x199_h : Iv 1 12 x199 := iv_e x199_e (iv_add j185 ik_1 (by decide))
                refine lv_iinc (v := x199) (lv' := [(5, .int x199), (4, .int x178), (3, .int x180), (6, .int x189), (0, .ref o1), (1, .int a1), (2, .int a2)]) hx hb dX12_span_87 hl (k := 3) rfl (incN (by decide +kernel) x199_e) (by decide) rfl (fun ls hl => ?_)
                refine lv_goto (tgt := 30) hx hb dX12_span_90 (by decide) ?_
                exact ih1 x199 x178 x180 _ _ _ (ms_up x199_e j185 (by decide) hM1) (iv_w x199_h (by decide)) (iv_w j185 (by decide)) (iv_w j198 (by decide)) hP hD hS (lv_sub hl [0, 1, 2, 4, 5, 6] rfl)
              ·
                have qh197 := nle_i h197
                have j200 : Iv (-9) (-1) x180 := r_ltl qh197 x180_h ik_0 (by decide)
                refine lv_iload hx hb dX12_span_66 (lv_at hl 1 rfl) ?_
                refine lv_goto (tgt := 72) hx hb dX12_span_68 (by decide) ?_
                refine lv_istore_n (lv' := [(3, .int x178), (6, .int x189), (5, .int x178), (4, .int x179), (0, .ref o1), (1, .int a1), (2, .int a2)]) hx hb dX12_span_72 rfl hl (by decide) rfl (fun ls hl => ?_)
                refine lv_iload hx hb dX12_span_73 (lv_at hl 1 rfl) ?_
                refine lv_if_eq (tgt := 83) hx hb dX12_span_75 (by decide) (fun h9 => absurd h9 (d_ne j195 ik_0 (by decide))) (fun _ => ?_)
                refine lv_iload hx hb dX12_span_78 (lv_at hl 2 rfl) ?_
                refine lv_goto (tgt := 85) hx hb dX12_span_80 (by decide) ?_
                refine lv_istore (lv' := [(4, .int x178), (3, .int x178), (6, .int x189), (5, .int x178), (0, .ref o1), (1, .int a1), (2, .int a2)]) hx hb dX12_span_85 hl (by decide) rfl (fun ls hl => ?_)
                obtain ⟨x201, x201_e⟩ : ∃ z : Int32, z = x178 + 1 := ⟨_, rfl⟩
                have x201_h : Iv 1 12 x201 := iv_e x201_e (iv_add j185 ik_1 (by decide))
                refine lv_iinc (v := x201) (lv' := [(5, .int x201), (4, .int x178), (3, .int x178), (6, .int x189), (0, .ref o1), (1, .int a1), (2, .int a2)]) hx hb dX12_span_87 hl (k := 3) rfl (incN (by decide +kernel) x201_e) (by decide) rfl (fun ls hl => ?_)
                refine lv_goto (tgt := 30) hx hb dX12_span_90 (by decide) ?_
                exact ih1 x201 x178 x178 _ _ _ (ms_up x201_e j185 (by decide) hM1) (iv_w x201_h (by decide)) (iv_w j185 (by decide)) (iv_w j185 (by decide)) hP hD hS (lv_sub hl [0, 1, 2, 4, 5, 6] rfl)
      exact L1 _ 0 (-9) (-9) _ _ _ (Nat.lt_succ_self _) (iv_w ik_0 (by decide)) (iv_w ikm_9 (by decide)) (iv_w ikm_9 (by decide)) hP hD hS hl
    ·
      have j202 : Iv 0 0 x16 := r_eq h17 ik_0
      refine lv_bipush (v := (-4)) hx hb dX12_span_17 (by decide) ?_
      rw [hQ]
      exact W.iret (v := (-4)) hx hb hr (fun t ht hW => ⟨⟨(-4), (y8, y9, y10, f11, f12, f13, f14, f15), rfl, ⟨(iv_w ikm_4 (by decide)), y8_h, y9_h, y10_h, f11_b, f15_b⟩, by rw [ht]; exact hP, va_K.moved hW.alike hK, hD⟩, hS.F ht⟩) hS.2.2 dX12_span_19
  ·
    have j203 : Iv 0 0 x1 := r_eq h4 ik_0
    refine lv_iconst (v := (-1)) hx hb dX12_span_8 (by decide) ?_
    rw [hQ]
    exact W.iret (v := (-1)) hx hb hr (fun t ht hW => ⟨⟨(-1), (v32, v39, v46, fw31, fw38, fw43, fw41, fw45), rfl, ⟨(iv_w ikm_1 (by decide)), v32_h, v39_h, v46_h, fw31_b, fw45_b⟩, by rw [ht]; exact hP, va_K.moved hW.alike hK, hD⟩, hS.F ht⟩) hS.2.2 dX12_span_9
theorem iw_X12_isFar_X12 : ∀ w ∈ wsX120, w ∈ wsX12_isFar := fun _ h => List.mem_cons.mpr (Or.inr (List.mem_append.mpr (Or.inr h)))
set_option maxHeartbeats 4000000 in
set_option maxRecDepth 100000 in
theorem kX12_isFar_1 (l : Launch) (dC : Nat → ClassId) (dI : Nat → Nat → Nat) (cI c2 cZ : ClassId) (o1 : Nat) (o3 : Nat) (o6 : Nat) (o9 : Nat) (o11 : Nat) (o14 : Nat) (o17 : Nat) (o22 : Nat) (o24 : Nat) (o26 : Nat) (o28 : Nat) (o30 : Nat) (o33 : Nat) (o35 : Nat) (o37 : Nat) (o40 : Nat) (o42 : Nat) (o44 : Nat) (o47 : Nat) (v2 : Int32) (v5 : Int32) (fw7 : Nat → Int32) (v8 : Int32) (v13 : Int32) (v16 : Int32) (v19 : Int32) (v20 : Int32) (v21 : Int32) (v32 : Int32) (v39 : Int32) (v46 : Int32) (a1 : Int32) (a2 : Int32) (a3 : Int32) (sz : Nat) (v5_h : Iv 0 12 v5) (fw7_b : Bd 12 0 4095 fw7) (v8_h : Iv 0 8 v8) (v13_h : Iv 0 12 v13) (v16_h : Iv 0 12 v16) (v19_h : Iv (-9) 12 v19) (v32_h : Iv 0 99 v32) (v39_h : Iv 0 12 v39) (v46_h : Iv 0 12 v46) (a1_h : Iv 0 11 a1) (a2_h : Iv 0 11 a2) (a3_h : Iv 0 11 a3) : Met l yX12_isFar wsX12_isFar ({ frames := 2, cells := 0, slots := 0, locals := 47 }) (va_Pc [.ref o1, .int a1, .int a2, .int a3] (wPre (dC, dI) [(cI, .int), (c2, .array .int), (cZ, .boolean)] ([(o1, .inr (12, [.int v2, .ref o3, .int v5, .ref o6, .int v8, .ref o9, .ref o11, .int v13, .ref o14, .int v16, .ref o17, .int v19, .int v20, .int v21, .ref o22, .ref o24, .ref o26, .ref o28, .ref o30, .int v32, .ref o33, .ref o35, .ref o37, .int v39, .ref o40, .ref o42, .ref o44, .int v46, .ref o47])), (o6, .inl (cI, 12, .inl fw7))]) sz)) (va_Qi (fun (r : Int32) (_ : Unit) => Iv 0 1 r) (fun _ t => wPost (dC, dI) [(cI, .int), (c2, .array .int), (cZ, .boolean)] (va_A ([(o1, .inr (12, [.int v2, .ref o3, .int v5, .ref o6, .int v8, .ref o9, .ref o11, .int v13, .ref o14, .int v16, .ref o17, .int v19, .int v20, .int v21, .ref o22, .ref o24, .ref o26, .ref o28, .ref o30, .int v32, .ref o33, .ref o35, .ref o37, .int v39, .ref o40, .ref o42, .ref o44, .int v46, .ref o47])), (o6, .inl (cI, 12, .inl fw7))]) sz) ([(o1, .inr (12, [.int v2, .ref o3, .int v5, .ref o6, .int v8, .ref o9, .ref o11, .int v13, .ref o14, .int v16, .ref o17, .int v19, .int v20, .int v21, .ref o22, .ref o24, .ref o26, .ref o28, .ref o30, .int v32, .ref o33, .ref o35, .ref o37, .int v39, .ref o40, .ref o42, .ref o44, .int v46, .ref o47])), (o6, .inl (cI, 12, .inl fw7))]) t) (va_A ([(o1, .inr (12, [.int v2, .ref o3, .int v5, .ref o6, .int v8, .ref o9, .ref o11, .int v13, .ref o14, .int v16, .ref o17, .int v19, .int v20, .int v21, .ref o22, .ref o24, .ref o26, .ref o28, .ref o30, .int v32, .ref o33, .ref o35, .ref o37, .int v39, .ref o40, .ref o42, .ref o44, .int v46, .ref o47])), (o6, .inl (cI, 12, .inl fw7))]) sz)) 0 0 (va_A ([(o1, .inr (12, [.int v2, .ref o3, .int v5, .ref o6, .int v8, .ref o9, .ref o11, .int v13, .ref o14, .int v16, .ref o17, .int v19, .int v20, .int v21, .ref o22, .ref o24, .ref o26, .ref o28, .ref o30, .int v32, .ref o33, .ref o35, .ref o37, .int v39, .ref o40, .ref o42, .ref o44, .int v46, .ref o47])), (o6, .inl (cI, 12, .inl fw7))]) sz) := by
  refine Met.ofW (cc := cX12_isFar) (maxL := 5) (ret := (some .boolean)) (by decide) rfl ?_
  intro p e s m args below meth c s₁ B hml hv
  obtain ⟨rfl, hsz, hP, hK, hD0, hN⟩ := hv
  have hx := B.exec
  have hb := B.bytes
  have hr := B.returns
  have hts := atoms_spec (ws := wsX12_isFar) B.pre
  have hown : s.vm.findClass RX12 = some m.cls := findClass_of_methodNamed B.named
  have hlocks := B.notSynchronized
  subst hsz
  have hD := hD0.self (sz := s.heap.size)
  generalize hAe : va_A ([(o1, .inr (12, [.int v2, .ref o3, .int v5, .ref o6, .int v8, .ref o9, .ref o11, .int v13, .ref o14, .int v16, .ref o17, .int v19, .int v20, .int v21, .ref o22, .ref o24, .ref o26, .ref o28, .ref o30, .int v32, .ref o33, .ref o35, .ref o37, .int v39, .ref o40, .ref o42, .ref o44, .int v46, .ref o47])), (o6, .inl (cI, 12, .inl fw7))]) s.heap.size = A at hD ⊢
  have hA : ∀ q : Nat, s.heap.size ≤ q → A q := fun q h => by rw [← hAe]; exact Or.inr h
  have hS : va_S A s.heap s.heap [] := va_S.rf
  have hP : va_P (dC, dI) vwCl ([(o1, .inr (12, [.int v2, .ref o3, .int v5, .ref o6, .int v8, .ref o9, .ref o11, .int v13, .ref o14, .int v16, .ref o17, .int v19, .int v20, .int v21, .ref o22, .ref o24, .ref o26, .ref o28, .ref o30, .int v32, .ref o33, .ref o35, .ref o37, .int v39, .ref o40, .ref o42, .ref o44, .int v46, .ref o47])), (o6, .inl (cI, 12, .inl fw7))]) s.heap := hP
  have hl := lv_entry ([.ref o1, .int a1, .int a2, .int a3]) (n := 5) (Nat.le_of_ble_eq_true rfl)
  rw [lg_entry_eq]
  generalize (lg_sl ([.ref o1, .int a1, .int a2, .int a3]) ++ List.replicate (5 - (lg_sl ([.ref o1, .int a1, .int a2, .int a3])).length) Slot.unset).toArray = ls at hl ⊢
  have hl : lv_has ls 5 [(0, .ref o1), (1, .int a1), (2, .int a2), (3, .int a3)] := hl
  refine gen_Q (fun Q hQ => ?_)
  refine lv_iconst (v := 1) hx hb dX12_isFar_0 (by decide) ?_
  refine lv_iload_n hx hb dX12_isFar_1 rfl (lv_at hl 1 rfl) ?_
  refine lv_ishl hx hb dX12_isFar_2 (lv_topi (fun x1 x1_e => ?_))
  have x1_h : Iv 1 2048 x1 := iv_e x1_e (iv_shl1 a1_h (by decide))
  refine lv_iconst (v := 1) hx hb dX12_isFar_3 (by decide) ?_
  refine lv_iload_n hx hb dX12_isFar_4 rfl (lv_at hl 2 rfl) ?_
  refine lv_ishl hx hb dX12_isFar_5 (lv_topi (fun x2 x2_e => ?_))
  have x2_h : Iv 1 2048 x2 := iv_e x2_e (iv_shl1 a2_h (by decide))
  refine lv_ior hx hb dX12_isFar_6 (lv_topi (fun x3 x3_e => ?_))
  have x3_h : Iv 0 4095 x3 := iv_e x3_e (iv_or 12 x1_h x2_h (by decide))
  refine lv_iconst (v := 1) hx hb dX12_isFar_7 (by decide) ?_
  refine lv_iload_n hx hb dX12_isFar_8 rfl (lv_at hl 3 rfl) ?_
  refine lv_ishl hx hb dX12_isFar_9 (lv_topi (fun x4 x4_e => ?_))
  have x4_h : Iv 1 2048 x4 := iv_e x4_e (iv_shl1 a3_h (by decide))
  refine lv_ior hx hb dX12_isFar_10 (lv_topi (fun x5 x5_e => ?_))
  have x5_h : Iv 0 4095 x5 := iv_e x5_e (iv_or 12 x3_h x4_h (by decide))
  refine lv_istore (lv' := [(4, .int x5), (0, .ref o1), (1, .int a1), (2, .int a2), (3, .int a3)]) hx hb dX12_isFar_11 hl (by decide) rfl (fun ls hl => ?_)
  refine lv_aload_n hx hb dX12_isFar_13 rfl (lv_at hl 1 rfl) ?_
  refine lv_iload hx hb dX12_isFar_14 (lv_at hl 0 rfl) ?_
  refine kc_i (D := (dC, dI)) (S := Unit) (wc := [(o1, .inr (12, [.int v2, .ref o3, .int v5, .ref o6, .int v8, .ref o9, .ref o11, .int v13, .ref o14, .int v16, .ref o17, .int v19, .int v20, .int v21, .ref o22, .ref o24, .ref o26, .ref o28, .ref o30, .int v32, .ref o33, .ref o35, .ref o37, .int v39, .ref o40, .ref o42, .ref o44, .int v46, .ref o47])), (o6, .inl (cI, 12, .inl fw7))]) (wr := []) (w1 := fun _ => [(o1, .inr (12, [.int v2, .ref o3, .int v5, .ref o6, .int v8, .ref o9, .ref o11, .int v13, .ref o14, .int v16, .ref o17, .int v19, .int v20, .int v21, .ref o22, .ref o24, .ref o26, .ref o28, .ref o30, .int v32, .ref o33, .ref o35, .ref o37, .int v39, .ref o40, .ref o42, .ref o44, .int v46, .ref o47])), (o6, .inl (cI, 12, .inl fw7))]) (wn := fun _ => [(o1, .inr (12, [.int v2, .ref o3, .int v5, .ref o6, .int v8, .ref o9, .ref o11, .int v13, .ref o14, .int v16, .ref o17, .int v19, .int v20, .int v21, .ref o22, .ref o24, .ref o26, .ref o28, .ref o30, .int v32, .ref o33, .ref o35, .ref o37, .int v39, .ref o40, .ref o42, .ref o44, .int v46, .ref o47])), (o6, .inl (cI, 12, .inl fw7))]) (fun hPc hDc => va_runV (As := [.int x5]) (rest := []) ⟨hx, hb, hml, hown, hts⟩ (kX12_isApart_1 l dC dI cI c2 cZ o1 o3 o6 o9 o11 o14 o17 o22 o24 o26 o28 o30 o33 o35 o37 o40 o42 o44 o47 v2 v5 fw7 v8 v13 v16 v19 v20 v21 v32 v39 v46 x5 s.heap.size v5_h fw7_b v8_h v13_h v16_h v19_h v32_h v39_h v46_h) (cwV 1 hts gX12_isFar_X12_isApart rfl rfl rfl (by decide +kernel) ⟨Nat.le_of_ble_eq_true rfl, Nat.le_of_ble_eq_true rfl⟩) (pre_V hPc hK hDc hN (ci := 12) (q0 := 0) rfl rfl) rfl rfl hl.1 rfl (lv_room (Nat.le_of_ble_eq_true rfl)) dX12_isFar_16 ⟨Nat.le_of_ble_eq_true rfl, Nat.le_of_ble_eq_true rfl⟩) hP hD hS hA [0, 1] [] [0, 1] rfl rfl (by decide +kernel) (by decide +kernel) (by decide +kernel) (by decide +kernel) (fun _ => rfl) (fun x6 _ H locs hq hP hD hS => ?_)
  have x6_h := hq
  have hP : va_P (dC, dI) vwCl ([(o1, .inr (12, [.int v2, .ref o3, .int v5, .ref o6, .int v8, .ref o9, .ref o11, .int v13, .ref o14, .int v16, .ref o17, .int v19, .int v20, .int v21, .ref o22, .ref o24, .ref o26, .ref o28, .ref o30, .int v32, .ref o33, .ref o35, .ref o37, .int v39, .ref o40, .ref o42, .ref o44, .int v46, .ref o47])), (o6, .inl (cI, 12, .inl fw7))]) H := hP
  have hD : va_D A ([(o1, .inr (12, [.int v2, .ref o3, .int v5, .ref o6, .int v8, .ref o9, .ref o11, .int v13, .ref o14, .int v16, .ref o17, .int v19, .int v20, .int v21, .ref o22, .ref o24, .ref o26, .ref o28, .ref o30, .int v32, .ref o33, .ref o35, .ref o37, .int v39, .ref o40, .ref o42, .ref o44, .int v46, .ref o47])), (o6, .inl (cI, 12, .inl fw7))]) := hD
  refine lv_if_eq (tgt := 92) hx hb dX12_isFar_19 (by decide) (fun h7 => ?_) (fun h7 => ?_)
  ·
    have j8 : Iv 0 0 x6 := r_eq h7 ik_0
    refine lv_iconst (v := 0) hx hb dX12_isFar_92 (by decide) ?_
    rw [hQ]
    exact W.zret (v := 0) (ty := .boolean) hx hb hr rfl (fun t ht hW => ⟨⟨0, (), rfl, (iv_w ik_0 (by decide)), by rw [ht]; exact hP, va_K.moved hW.alike hK, hD⟩, hS.F ht⟩) hS.2.2 dX12_isFar_93
  ·
    have j9 : Iv 1 1 x6 := r_nelo h7 x6_h ik_0 (by decide)
    refine lv_aload_n hx hb dX12_isFar_22 rfl (lv_at hl 1 rfl) ?_
    refine lv_iload_n hx hb dX12_isFar_23 rfl (lv_at hl 2 rfl) ?_
    refine lv_aload_n hx hb dX12_isFar_24 rfl (lv_at hl 1 rfl) ?_
    refine va_get (D := (dC, dI)) (ci := 12) (v := .ref o6) (C := RX12) (T := TX12) (N := 29) hx hb hts iw_X12_isFar_X12 hown hK hP 0 rfl rfl 3 (by decide) (hts (.fieldLink RX12 13 "HolelessHouseModel" "near" "[I") hm_X12_isFar_1) (fun _ h9 => h9) rfl dX12_isFar_25 ?_
    refine lv_iload_n hx hb dX12_isFar_28 rfl (lv_at hl 4 rfl) ?_
    refine va_iald hx hb hK hP 1 0 rfl rfl (vin_iv a3_h (by decide)) dX12_isFar_29 (lv_topi (fun x10 x10_e => ?_))
    have x10_h : Iv 0 4095 x10 := iv_e x10_e (bd_at fw7_b (vin_iv a3_h (by decide)))
    refine lv_iconst (v := 1) hx hb dX12_isFar_30 (by decide) ?_
    refine lv_iload_n hx hb dX12_isFar_31 rfl (lv_at hl 4 rfl) ?_
    refine lv_ishl hx hb dX12_isFar_32 (lv_topi (fun x11 x11_e => ?_))
    have x11_h : Iv 1 2048 x11 := iv_e x11_e (iv_shl1 a3_h (by decide))
    refine lv_ior hx hb dX12_isFar_33 (lv_topi (fun x12 x12_e => ?_))
    have x12_h : Iv 0 4095 x12 := iv_e x12_e (iv_or 12 x10_h x11_h (by decide))
    refine kc_i (D := (dC, dI)) (S := Unit) (wc := [(o1, .inr (12, [.int v2, .ref o3, .int v5, .ref o6, .int v8, .ref o9, .ref o11, .int v13, .ref o14, .int v16, .ref o17, .int v19, .int v20, .int v21, .ref o22, .ref o24, .ref o26, .ref o28, .ref o30, .int v32, .ref o33, .ref o35, .ref o37, .int v39, .ref o40, .ref o42, .ref o44, .int v46, .ref o47])), (o6, .inl (cI, 12, .inl fw7))]) (wr := []) (w1 := fun _ => [(o1, .inr (12, [.int v2, .ref o3, .int v5, .ref o6, .int v8, .ref o9, .ref o11, .int v13, .ref o14, .int v16, .ref o17, .int v19, .int v20, .int v21, .ref o22, .ref o24, .ref o26, .ref o28, .ref o30, .int v32, .ref o33, .ref o35, .ref o37, .int v39, .ref o40, .ref o42, .ref o44, .int v46, .ref o47])), (o6, .inl (cI, 12, .inl fw7))]) (wn := fun _ => [(o1, .inr (12, [.int v2, .ref o3, .int v5, .ref o6, .int v8, .ref o9, .ref o11, .int v13, .ref o14, .int v16, .ref o17, .int v19, .int v20, .int v21, .ref o22, .ref o24, .ref o26, .ref o28, .ref o30, .int v32, .ref o33, .ref o35, .ref o37, .int v39, .ref o40, .ref o42, .ref o44, .int v46, .ref o47])), (o6, .inl (cI, 12, .inl fw7))]) (fun hPc hDc => va_runV (As := [.int a1, .int x12]) (rest := []) ⟨hx, hb, hml, hown, hts⟩ (kX12_reach_1 l dC dI cI c2 cZ o1 o3 o6 o9 o11 o14 o17 o22 o24 o26 o28 o30 o33 o35 o37 o40 o42 o44 o47 v2 v5 fw7 v8 v13 v16 v19 v20 v21 v32 v39 v46 a1 x12 H.size v5_h fw7_b v8_h v13_h v16_h v19_h v32_h v39_h v46_h a1_h x12_h) (cwV 2 hts gX12_isFar_X12_reach rfl rfl rfl (by decide +kernel) ⟨Nat.le_of_ble_eq_true rfl, Nat.le_of_ble_eq_true rfl⟩) (pre_V hPc hK hDc hN (ci := 12) (q0 := 0) rfl rfl) rfl rfl hl.1 rfl (lv_room (Nat.le_of_ble_eq_true rfl)) dX12_isFar_34 ⟨Nat.le_of_ble_eq_true rfl, Nat.le_of_ble_eq_true rfl⟩) hP hD hS hA [0, 1] [] [0, 1] rfl rfl (by decide +kernel) (by decide +kernel) (by decide +kernel) (by decide +kernel) (fun _ => rfl) (fun x13 _ H locs hq hP hD hS => ?_)
    have x13_h := hq
    have hP : va_P (dC, dI) vwCl ([(o1, .inr (12, [.int v2, .ref o3, .int v5, .ref o6, .int v8, .ref o9, .ref o11, .int v13, .ref o14, .int v16, .ref o17, .int v19, .int v20, .int v21, .ref o22, .ref o24, .ref o26, .ref o28, .ref o30, .int v32, .ref o33, .ref o35, .ref o37, .int v39, .ref o40, .ref o42, .ref o44, .int v46, .ref o47])), (o6, .inl (cI, 12, .inl fw7))]) H := hP
    have hD : va_D A ([(o1, .inr (12, [.int v2, .ref o3, .int v5, .ref o6, .int v8, .ref o9, .ref o11, .int v13, .ref o14, .int v16, .ref o17, .int v19, .int v20, .int v21, .ref o22, .ref o24, .ref o26, .ref o28, .ref o30, .int v32, .ref o33, .ref o35, .ref o37, .int v39, .ref o40, .ref o42, .ref o44, .int v46, .ref o47])), (o6, .inl (cI, 12, .inl fw7))]) := hD
    refine lv_iload_n hx hb dX12_isFar_37 rfl (lv_at hl 3 rfl) ?_
    refine kc_i (D := (dC, dI)) (S := Unit) (wc := []) (wr := [(o1, .inr (12, [.int v2, .ref o3, .int v5, .ref o6, .int v8, .ref o9, .ref o11, .int v13, .ref o14, .int v16, .ref o17, .int v19, .int v20, .int v21, .ref o22, .ref o24, .ref o26, .ref o28, .ref o30, .int v32, .ref o33, .ref o35, .ref o37, .int v39, .ref o40, .ref o42, .ref o44, .int v46, .ref o47])), (o6, .inl (cI, 12, .inl fw7))]) (w1 := fun _ => []) (wn := fun _ => [(o1, .inr (12, [.int v2, .ref o3, .int v5, .ref o6, .int v8, .ref o9, .ref o11, .int v13, .ref o14, .int v16, .ref o17, .int v19, .int v20, .int v21, .ref o22, .ref o24, .ref o26, .ref o28, .ref o30, .int v32, .ref o33, .ref o35, .ref o37, .int v39, .ref o40, .ref o42, .ref o44, .int v46, .ref o47])), (o6, .inl (cI, 12, .inl fw7))]) (fun hPc hDc => va_runS (As := [.int x13, .int a2]) (rest := []) ⟨hx, hb, hml, hown, hts⟩ (kX12_has_1 l dC dI cI c2 cZ x13 a2 H.size (iv_w a2_h (by decide))) (va_cwS 2 hts gX12_isFar_X12_has rfl rfl rfl (by decide +kernel) ⟨Nat.le_of_ble_eq_true rfl, Nat.le_of_ble_eq_true rfl⟩) (pre_S hPc hK hDc hN) rfl rfl hl.1 rfl (lv_room (Nat.le_of_ble_eq_true rfl)) dX12_isFar_38 ⟨Nat.le_of_ble_eq_true rfl, Nat.le_of_ble_eq_true rfl⟩) hP hD hS hA [] [0, 1] [0, 1] rfl rfl (by decide +kernel) (by decide +kernel) (by decide +kernel) (by decide +kernel) (fun _ => rfl) (fun x14 _ H locs hq hP hD hS => ?_)
    obtain ⟨x14_h, e15⟩ := hq
    have hP : va_P (dC, dI) vwCl ([(o1, .inr (12, [.int v2, .ref o3, .int v5, .ref o6, .int v8, .ref o9, .ref o11, .int v13, .ref o14, .int v16, .ref o17, .int v19, .int v20, .int v21, .ref o22, .ref o24, .ref o26, .ref o28, .ref o30, .int v32, .ref o33, .ref o35, .ref o37, .int v39, .ref o40, .ref o42, .ref o44, .int v46, .ref o47])), (o6, .inl (cI, 12, .inl fw7))]) H := hP
    have hD : va_D A ([(o1, .inr (12, [.int v2, .ref o3, .int v5, .ref o6, .int v8, .ref o9, .ref o11, .int v13, .ref o14, .int v16, .ref o17, .int v19, .int v20, .int v21, .ref o22, .ref o24, .ref o26, .ref o28, .ref o30, .int v32, .ref o33, .ref o35, .ref o37, .int v39, .ref o40, .ref o42, .ref o44, .int v46, .ref o47])), (o6, .inl (cI, 12, .inl fw7))]) := hD
    refine lv_if_eq (tgt := 92) hx hb dX12_isFar_41 (by decide) (fun h16 => ?_) (fun h16 => ?_)
    ·
      have j17 : Iv 0 0 x14 := r_eq h16 ik_0
      have b18 : bt x13 (Int32.toNatClampNeg a2) = false := has_f e15 h16
      refine lv_iconst (v := 0) hx hb dX12_isFar_92 (by decide) ?_
      rw [hQ]
      exact W.zret (v := 0) (ty := .boolean) hx hb hr rfl (fun t ht hW => ⟨⟨0, (), rfl, (iv_w ik_0 (by decide)), by rw [ht]; exact hP, va_K.moved hW.alike hK, hD⟩, hS.F ht⟩) hS.2.2 dX12_isFar_93
    ·
      have j19 : Iv 1 1 x14 := r_nelo h16 x14_h ik_0 (by decide)
      have b20 : bt x13 (Int32.toNatClampNeg a2) = true := has_t e15 h16
      refine lv_aload_n hx hb dX12_isFar_44 rfl (lv_at hl 1 rfl) ?_
      refine lv_iload_n hx hb dX12_isFar_45 rfl (lv_at hl 2 rfl) ?_
      refine lv_aload_n hx hb dX12_isFar_46 rfl (lv_at hl 1 rfl) ?_
      refine va_get (D := (dC, dI)) (ci := 12) (v := .ref o6) (C := RX12) (T := TX12) (N := 29) hx hb hts iw_X12_isFar_X12 hown hK hP 0 rfl rfl 3 (by decide) (hts (.fieldLink RX12 13 "HolelessHouseModel" "near" "[I") hm_X12_isFar_1) (fun _ h9 => h9) rfl dX12_isFar_47 ?_
      refine lv_iload_n hx hb dX12_isFar_50 rfl (lv_at hl 3 rfl) ?_
      refine va_iald hx hb hK hP 1 0 rfl rfl (vin_iv a2_h (by decide)) dX12_isFar_51 (lv_topi (fun x21 x21_e => ?_))
      have x21_h : Iv 0 4095 x21 := iv_e x21_e (bd_at fw7_b (vin_iv a2_h (by decide)))
      refine lv_iconst (v := 1) hx hb dX12_isFar_52 (by decide) ?_
      refine lv_iload_n hx hb dX12_isFar_53 rfl (lv_at hl 3 rfl) ?_
      refine lv_ishl hx hb dX12_isFar_54 (lv_topi (fun x22 x22_e => ?_))
      have x22_h : Iv 1 2048 x22 := iv_e x22_e (iv_shl1 a2_h (by decide))
      refine lv_ior hx hb dX12_isFar_55 (lv_topi (fun x23 x23_e => ?_))
      have x23_h : Iv 0 4095 x23 := iv_e x23_e (iv_or 12 x21_h x22_h (by decide))
      refine kc_i (D := (dC, dI)) (S := Unit) (wc := [(o1, .inr (12, [.int v2, .ref o3, .int v5, .ref o6, .int v8, .ref o9, .ref o11, .int v13, .ref o14, .int v16, .ref o17, .int v19, .int v20, .int v21, .ref o22, .ref o24, .ref o26, .ref o28, .ref o30, .int v32, .ref o33, .ref o35, .ref o37, .int v39, .ref o40, .ref o42, .ref o44, .int v46, .ref o47])), (o6, .inl (cI, 12, .inl fw7))]) (wr := []) (w1 := fun _ => [(o1, .inr (12, [.int v2, .ref o3, .int v5, .ref o6, .int v8, .ref o9, .ref o11, .int v13, .ref o14, .int v16, .ref o17, .int v19, .int v20, .int v21, .ref o22, .ref o24, .ref o26, .ref o28, .ref o30, .int v32, .ref o33, .ref o35, .ref o37, .int v39, .ref o40, .ref o42, .ref o44, .int v46, .ref o47])), (o6, .inl (cI, 12, .inl fw7))]) (wn := fun _ => [(o1, .inr (12, [.int v2, .ref o3, .int v5, .ref o6, .int v8, .ref o9, .ref o11, .int v13, .ref o14, .int v16, .ref o17, .int v19, .int v20, .int v21, .ref o22, .ref o24, .ref o26, .ref o28, .ref o30, .int v32, .ref o33, .ref o35, .ref o37, .int v39, .ref o40, .ref o42, .ref o44, .int v46, .ref o47])), (o6, .inl (cI, 12, .inl fw7))]) (fun hPc hDc => va_runV (As := [.int a1, .int x23]) (rest := []) ⟨hx, hb, hml, hown, hts⟩ (kX12_reach_1 l dC dI cI c2 cZ o1 o3 o6 o9 o11 o14 o17 o22 o24 o26 o28 o30 o33 o35 o37 o40 o42 o44 o47 v2 v5 fw7 v8 v13 v16 v19 v20 v21 v32 v39 v46 a1 x23 H.size v5_h fw7_b v8_h v13_h v16_h v19_h v32_h v39_h v46_h a1_h x23_h) (cwV 2 hts gX12_isFar_X12_reach rfl rfl rfl (by decide +kernel) ⟨Nat.le_of_ble_eq_true rfl, Nat.le_of_ble_eq_true rfl⟩) (pre_V hPc hK hDc hN (ci := 12) (q0 := 0) rfl rfl) rfl rfl hl.1 rfl (lv_room (Nat.le_of_ble_eq_true rfl)) dX12_isFar_56 ⟨Nat.le_of_ble_eq_true rfl, Nat.le_of_ble_eq_true rfl⟩) hP hD hS hA [0, 1] [] [0, 1] rfl rfl (by decide +kernel) (by decide +kernel) (by decide +kernel) (by decide +kernel) (fun _ => rfl) (fun x24 _ H locs hq hP hD hS => ?_)
      have x24_h := hq
      have hP : va_P (dC, dI) vwCl ([(o1, .inr (12, [.int v2, .ref o3, .int v5, .ref o6, .int v8, .ref o9, .ref o11, .int v13, .ref o14, .int v16, .ref o17, .int v19, .int v20, .int v21, .ref o22, .ref o24, .ref o26, .ref o28, .ref o30, .int v32, .ref o33, .ref o35, .ref o37, .int v39, .ref o40, .ref o42, .ref o44, .int v46, .ref o47])), (o6, .inl (cI, 12, .inl fw7))]) H := hP
      have hD : va_D A ([(o1, .inr (12, [.int v2, .ref o3, .int v5, .ref o6, .int v8, .ref o9, .ref o11, .int v13, .ref o14, .int v16, .ref o17, .int v19, .int v20, .int v21, .ref o22, .ref o24, .ref o26, .ref o28, .ref o30, .int v32, .ref o33, .ref o35, .ref o37, .int v39, .ref o40, .ref o42, .ref o44, .int v46, .ref o47])), (o6, .inl (cI, 12, .inl fw7))]) := hD
      refine lv_iload_n hx hb dX12_isFar_59 rfl (lv_at hl 4 rfl) ?_
      refine kc_i (D := (dC, dI)) (S := Unit) (wc := []) (wr := [(o1, .inr (12, [.int v2, .ref o3, .int v5, .ref o6, .int v8, .ref o9, .ref o11, .int v13, .ref o14, .int v16, .ref o17, .int v19, .int v20, .int v21, .ref o22, .ref o24, .ref o26, .ref o28, .ref o30, .int v32, .ref o33, .ref o35, .ref o37, .int v39, .ref o40, .ref o42, .ref o44, .int v46, .ref o47])), (o6, .inl (cI, 12, .inl fw7))]) (w1 := fun _ => []) (wn := fun _ => [(o1, .inr (12, [.int v2, .ref o3, .int v5, .ref o6, .int v8, .ref o9, .ref o11, .int v13, .ref o14, .int v16, .ref o17, .int v19, .int v20, .int v21, .ref o22, .ref o24, .ref o26, .ref o28, .ref o30, .int v32, .ref o33, .ref o35, .ref o37, .int v39, .ref o40, .ref o42, .ref o44, .int v46, .ref o47])), (o6, .inl (cI, 12, .inl fw7))]) (fun hPc hDc => va_runS (As := [.int x24, .int a3]) (rest := []) ⟨hx, hb, hml, hown, hts⟩ (kX12_has_1 l dC dI cI c2 cZ x24 a3 H.size (iv_w a3_h (by decide))) (va_cwS 2 hts gX12_isFar_X12_has rfl rfl rfl (by decide +kernel) ⟨Nat.le_of_ble_eq_true rfl, Nat.le_of_ble_eq_true rfl⟩) (pre_S hPc hK hDc hN) rfl rfl hl.1 rfl (lv_room (Nat.le_of_ble_eq_true rfl)) dX12_isFar_60 ⟨Nat.le_of_ble_eq_true rfl, Nat.le_of_ble_eq_true rfl⟩) hP hD hS hA [] [0, 1] [0, 1] rfl rfl (by decide +kernel) (by decide +kernel) (by decide +kernel) (by decide +kernel) (fun _ => rfl) (fun x25 _ H locs hq hP hD hS => ?_)
      obtain ⟨x25_h, e26⟩ := hq
      have hP : va_P (dC, dI) vwCl ([(o1, .inr (12, [.int v2, .ref o3, .int v5, .ref o6, .int v8, .ref o9, .ref o11, .int v13, .ref o14, .int v16, .ref o17, .int v19, .int v20, .int v21, .ref o22, .ref o24, .ref o26, .ref o28, .ref o30, .int v32, .ref o33, .ref o35, .ref o37, .int v39, .ref o40, .ref o42, .ref o44, .int v46, .ref o47])), (o6, .inl (cI, 12, .inl fw7))]) H := hP
      have hD : va_D A ([(o1, .inr (12, [.int v2, .ref o3, .int v5, .ref o6, .int v8, .ref o9, .ref o11, .int v13, .ref o14, .int v16, .ref o17, .int v19, .int v20, .int v21, .ref o22, .ref o24, .ref o26, .ref o28, .ref o30, .int v32, .ref o33, .ref o35, .ref o37, .int v39, .ref o40, .ref o42, .ref o44, .int v46, .ref o47])), (o6, .inl (cI, 12, .inl fw7))]) := hD
      refine lv_if_eq (tgt := 92) hx hb dX12_isFar_63 (by decide) (fun h27 => ?_) (fun h27 => ?_)
      ·
        have j28 : Iv 0 0 x25 := r_eq h27 ik_0
        have b29 : bt x24 (Int32.toNatClampNeg a3) = false := has_f e26 h27
        refine lv_iconst (v := 0) hx hb dX12_isFar_92 (by decide) ?_
        rw [hQ]
        exact W.zret (v := 0) (ty := .boolean) hx hb hr rfl (fun t ht hW => ⟨⟨0, (), rfl, (iv_w ik_0 (by decide)), by rw [ht]; exact hP, va_K.moved hW.alike hK, hD⟩, hS.F ht⟩) hS.2.2 dX12_isFar_93
      ·
        have j30 : Iv 1 1 x25 := r_nelo h27 x25_h ik_0 (by decide)
        have b31 : bt x24 (Int32.toNatClampNeg a3) = true := has_t e26 h27
        refine lv_aload_n hx hb dX12_isFar_66 rfl (lv_at hl 1 rfl) ?_
        refine lv_iload_n hx hb dX12_isFar_67 rfl (lv_at hl 3 rfl) ?_
        refine lv_aload_n hx hb dX12_isFar_68 rfl (lv_at hl 1 rfl) ?_
        refine va_get (D := (dC, dI)) (ci := 12) (v := .ref o6) (C := RX12) (T := TX12) (N := 29) hx hb hts iw_X12_isFar_X12 hown hK hP 0 rfl rfl 3 (by decide) (hts (.fieldLink RX12 13 "HolelessHouseModel" "near" "[I") hm_X12_isFar_1) (fun _ h9 => h9) rfl dX12_isFar_69 ?_
        refine lv_iload_n hx hb dX12_isFar_72 rfl (lv_at hl 2 rfl) ?_
        refine va_iald hx hb hK hP 1 0 rfl rfl (vin_iv a1_h (by decide)) dX12_isFar_73 (lv_topi (fun x32 x32_e => ?_))
        have x32_h : Iv 0 4095 x32 := iv_e x32_e (bd_at fw7_b (vin_iv a1_h (by decide)))
        refine lv_iconst (v := 1) hx hb dX12_isFar_74 (by decide) ?_
        refine lv_iload_n hx hb dX12_isFar_75 rfl (lv_at hl 2 rfl) ?_
        refine lv_ishl hx hb dX12_isFar_76 (lv_topi (fun x33 x33_e => ?_))
        have x33_h : Iv 1 2048 x33 := iv_e x33_e (iv_shl1 a1_h (by decide))
        refine lv_ior hx hb dX12_isFar_77 (lv_topi (fun x34 x34_e => ?_))
        have x34_h : Iv 0 4095 x34 := iv_e x34_e (iv_or 12 x32_h x33_h (by decide))
        refine kc_i (D := (dC, dI)) (S := Unit) (wc := [(o1, .inr (12, [.int v2, .ref o3, .int v5, .ref o6, .int v8, .ref o9, .ref o11, .int v13, .ref o14, .int v16, .ref o17, .int v19, .int v20, .int v21, .ref o22, .ref o24, .ref o26, .ref o28, .ref o30, .int v32, .ref o33, .ref o35, .ref o37, .int v39, .ref o40, .ref o42, .ref o44, .int v46, .ref o47])), (o6, .inl (cI, 12, .inl fw7))]) (wr := []) (w1 := fun _ => [(o1, .inr (12, [.int v2, .ref o3, .int v5, .ref o6, .int v8, .ref o9, .ref o11, .int v13, .ref o14, .int v16, .ref o17, .int v19, .int v20, .int v21, .ref o22, .ref o24, .ref o26, .ref o28, .ref o30, .int v32, .ref o33, .ref o35, .ref o37, .int v39, .ref o40, .ref o42, .ref o44, .int v46, .ref o47])), (o6, .inl (cI, 12, .inl fw7))]) (wn := fun _ => [(o1, .inr (12, [.int v2, .ref o3, .int v5, .ref o6, .int v8, .ref o9, .ref o11, .int v13, .ref o14, .int v16, .ref o17, .int v19, .int v20, .int v21, .ref o22, .ref o24, .ref o26, .ref o28, .ref o30, .int v32, .ref o33, .ref o35, .ref o37, .int v39, .ref o40, .ref o42, .ref o44, .int v46, .ref o47])), (o6, .inl (cI, 12, .inl fw7))]) (fun hPc hDc => va_runV (As := [.int a2, .int x34]) (rest := []) ⟨hx, hb, hml, hown, hts⟩ (kX12_reach_1 l dC dI cI c2 cZ o1 o3 o6 o9 o11 o14 o17 o22 o24 o26 o28 o30 o33 o35 o37 o40 o42 o44 o47 v2 v5 fw7 v8 v13 v16 v19 v20 v21 v32 v39 v46 a2 x34 H.size v5_h fw7_b v8_h v13_h v16_h v19_h v32_h v39_h v46_h a2_h x34_h) (cwV 2 hts gX12_isFar_X12_reach rfl rfl rfl (by decide +kernel) ⟨Nat.le_of_ble_eq_true rfl, Nat.le_of_ble_eq_true rfl⟩) (pre_V hPc hK hDc hN (ci := 12) (q0 := 0) rfl rfl) rfl rfl hl.1 rfl (lv_room (Nat.le_of_ble_eq_true rfl)) dX12_isFar_78 ⟨Nat.le_of_ble_eq_true rfl, Nat.le_of_ble_eq_true rfl⟩) hP hD hS hA [0, 1] [] [0, 1] rfl rfl (by decide +kernel) (by decide +kernel) (by decide +kernel) (by decide +kernel) (fun _ => rfl) (fun x35 _ H locs hq hP hD hS => ?_)
        have x35_h := hq
        have hP : va_P (dC, dI) vwCl ([(o1, .inr (12, [.int v2, .ref o3, .int v5, .ref o6, .int v8, .ref o9, .ref o11, .int v13, .ref o14, .int v16, .ref o17, .int v19, .int v20, .int v21, .ref o22, .ref o24, .ref o26, .ref o28, .ref o30, .int v32, .ref o33, .ref o35, .ref o37, .int v39, .ref o40, .ref o42, .ref o44, .int v46, .ref o47])), (o6, .inl (cI, 12, .inl fw7))]) H := hP
        have hD : va_D A ([(o1, .inr (12, [.int v2, .ref o3, .int v5, .ref o6, .int v8, .ref o9, .ref o11, .int v13, .ref o14, .int v16, .ref o17, .int v19, .int v20, .int v21, .ref o22, .ref o24, .ref o26, .ref o28, .ref o30, .int v32, .ref o33, .ref o35, .ref o37, .int v39, .ref o40, .ref o42, .ref o44, .int v46, .ref o47])), (o6, .inl (cI, 12, .inl fw7))]) := hD
        refine lv_iload_n hx hb dX12_isFar_81 rfl (lv_at hl 4 rfl) ?_
        refine kc_i (D := (dC, dI)) (S := Unit) (wc := []) (wr := [(o1, .inr (12, [.int v2, .ref o3, .int v5, .ref o6, .int v8, .ref o9, .ref o11, .int v13, .ref o14, .int v16, .ref o17, .int v19, .int v20, .int v21, .ref o22, .ref o24, .ref o26, .ref o28, .ref o30, .int v32, .ref o33, .ref o35, .ref o37, .int v39, .ref o40, .ref o42, .ref o44, .int v46, .ref o47])), (o6, .inl (cI, 12, .inl fw7))]) (w1 := fun _ => []) (wn := fun _ => [(o1, .inr (12, [.int v2, .ref o3, .int v5, .ref o6, .int v8, .ref o9, .ref o11, .int v13, .ref o14, .int v16, .ref o17, .int v19, .int v20, .int v21, .ref o22, .ref o24, .ref o26, .ref o28, .ref o30, .int v32, .ref o33, .ref o35, .ref o37, .int v39, .ref o40, .ref o42, .ref o44, .int v46, .ref o47])), (o6, .inl (cI, 12, .inl fw7))]) (fun hPc hDc => va_runS (As := [.int x35, .int a3]) (rest := []) ⟨hx, hb, hml, hown, hts⟩ (kX12_has_1 l dC dI cI c2 cZ x35 a3 H.size (iv_w a3_h (by decide))) (va_cwS 2 hts gX12_isFar_X12_has rfl rfl rfl (by decide +kernel) ⟨Nat.le_of_ble_eq_true rfl, Nat.le_of_ble_eq_true rfl⟩) (pre_S hPc hK hDc hN) rfl rfl hl.1 rfl (lv_room (Nat.le_of_ble_eq_true rfl)) dX12_isFar_82 ⟨Nat.le_of_ble_eq_true rfl, Nat.le_of_ble_eq_true rfl⟩) hP hD hS hA [] [0, 1] [0, 1] rfl rfl (by decide +kernel) (by decide +kernel) (by decide +kernel) (by decide +kernel) (fun _ => rfl) (fun x36 _ H locs hq hP hD hS => ?_)
        obtain ⟨x36_h, e37⟩ := hq
        have hP : va_P (dC, dI) vwCl ([(o1, .inr (12, [.int v2, .ref o3, .int v5, .ref o6, .int v8, .ref o9, .ref o11, .int v13, .ref o14, .int v16, .ref o17, .int v19, .int v20, .int v21, .ref o22, .ref o24, .ref o26, .ref o28, .ref o30, .int v32, .ref o33, .ref o35, .ref o37, .int v39, .ref o40, .ref o42, .ref o44, .int v46, .ref o47])), (o6, .inl (cI, 12, .inl fw7))]) H := hP
        have hD : va_D A ([(o1, .inr (12, [.int v2, .ref o3, .int v5, .ref o6, .int v8, .ref o9, .ref o11, .int v13, .ref o14, .int v16, .ref o17, .int v19, .int v20, .int v21, .ref o22, .ref o24, .ref o26, .ref o28, .ref o30, .int v32, .ref o33, .ref o35, .ref o37, .int v39, .ref o40, .ref o42, .ref o44, .int v46, .ref o47])), (o6, .inl (cI, 12, .inl fw7))]) := hD
        refine lv_if_eq (tgt := 92) hx hb dX12_isFar_85 (by decide) (fun h38 => ?_) (fun h38 => ?_)
        ·
          have j39 : Iv 0 0 x36 := r_eq h38 ik_0
          have b40 : bt x35 (Int32.toNatClampNeg a3) = false := has_f e37 h38
          refine lv_iconst (v := 0) hx hb dX12_isFar_92 (by decide) ?_
          rw [hQ]
          exact W.zret (v := 0) (ty := .boolean) hx hb hr rfl (fun t ht hW => ⟨⟨0, (), rfl, (iv_w ik_0 (by decide)), by rw [ht]; exact hP, va_K.moved hW.alike hK, hD⟩, hS.F ht⟩) hS.2.2 dX12_isFar_93
        ·
          have j41 : Iv 1 1 x36 := r_nelo h38 x36_h ik_0 (by decide)
          have b42 : bt x35 (Int32.toNatClampNeg a3) = true := has_t e37 h38
          refine lv_iconst (v := 1) hx hb dX12_isFar_88 (by decide) ?_
          refine lv_goto (tgt := 93) hx hb dX12_isFar_89 (by decide) ?_
          rw [hQ]
          exact W.zret (v := 1) (ty := .boolean) hx hb hr rfl (fun t ht hW => ⟨⟨1, (), rfl, (iv_w ik_1 (by decide)), by rw [ht]; exact hP, va_K.moved hW.alike hK, hD⟩, hS.F ht⟩) hS.2.2 dX12_isFar_93
theorem iw_X12_far_X12 : ∀ w ∈ wsX120, w ∈ wsX12_far := fun _ h => List.mem_cons.mpr (Or.inr (List.mem_append.mpr (Or.inr h)))
set_option maxHeartbeats 4000000 in
set_option maxRecDepth 100000 in
theorem kX12_far_1 (l : Launch) (dC : Nat → ClassId) (dI : Nat → Nat → Nat) (cI c2 cZ : ClassId) (o1 : Nat) (o3 : Nat) (o6 : Nat) (o9 : Nat) (o11 : Nat) (o14 : Nat) (o17 : Nat) (o22 : Nat) (o24 : Nat) (o26 : Nat) (o28 : Nat) (o30 : Nat) (o33 : Nat) (o35 : Nat) (o37 : Nat) (o40 : Nat) (o42 : Nat) (o44 : Nat) (o47 : Nat) (v2 : Int32) (v5 : Int32) (fw7 : Nat → Int32) (v8 : Int32) (v13 : Int32) (v16 : Int32) (v19 : Int32) (v20 : Int32) (v21 : Int32) (v32 : Int32) (v39 : Int32) (v46 : Int32) (a1 : Int32) (sz : Nat) (v5_h : Iv 0 12 v5) (fw7_b : Bd 12 0 4095 fw7) (v8_h : Iv 0 8 v8) (v13_h : Iv 0 12 v13) (v16_h : Iv 0 12 v16) (v19_h : Iv (-9) 12 v19) (v32_h : Iv 0 99 v32) (v39_h : Iv 0 12 v39) (v46_h : Iv 0 12 v46) : Met l yX12_far wsX12_far ({ frames := 3, cells := 0, slots := 0, locals := 71 }) (va_Pc [.ref o1, .int a1] (wPre (dC, dI) [(cI, .int), (c2, .array .int), (cZ, .boolean)] ([(o1, .inr (12, [.int v2, .ref o3, .int v5, .ref o6, .int v8, .ref o9, .ref o11, .int v13, .ref o14, .int v16, .ref o17, .int v19, .int v20, .int v21, .ref o22, .ref o24, .ref o26, .ref o28, .ref o30, .int v32, .ref o33, .ref o35, .ref o37, .int v39, .ref o40, .ref o42, .ref o44, .int v46, .ref o47])), (o6, .inl (cI, 12, .inl fw7))]) sz)) (va_Qi (fun (r : Int32) (_ : Unit) => Iv (-9) 11 r) (fun _ t => wPost (dC, dI) [(cI, .int), (c2, .array .int), (cZ, .boolean)] (va_A ([(o1, .inr (12, [.int v2, .ref o3, .int v5, .ref o6, .int v8, .ref o9, .ref o11, .int v13, .ref o14, .int v16, .ref o17, .int v19, .int v20, .int v21, .ref o22, .ref o24, .ref o26, .ref o28, .ref o30, .int v32, .ref o33, .ref o35, .ref o37, .int v39, .ref o40, .ref o42, .ref o44, .int v46, .ref o47])), (o6, .inl (cI, 12, .inl fw7))]) sz) ([(o1, .inr (12, [.int v2, .ref o3, .int v5, .ref o6, .int v8, .ref o9, .ref o11, .int v13, .ref o14, .int v16, .ref o17, .int v19, .int v20, .int v21, .ref o22, .ref o24, .ref o26, .ref o28, .ref o30, .int v32, .ref o33, .ref o35, .ref o37, .int v39, .ref o40, .ref o42, .ref o44, .int v46, .ref o47])), (o6, .inl (cI, 12, .inl fw7))]) t) (va_A ([(o1, .inr (12, [.int v2, .ref o3, .int v5, .ref o6, .int v8, .ref o9, .ref o11, .int v13, .ref o14, .int v16, .ref o17, .int v19, .int v20, .int v21, .ref o22, .ref o24, .ref o26, .ref o28, .ref o30, .int v32, .ref o33, .ref o35, .ref o37, .int v39, .ref o40, .ref o42, .ref o44, .int v46, .ref o47])), (o6, .inl (cI, 12, .inl fw7))]) sz)) 0 0 (va_A ([(o1, .inr (12, [.int v2, .ref o3, .int v5, .ref o6, .int v8, .ref o9, .ref o11, .int v13, .ref o14, .int v16, .ref o17, .int v19, .int v20, .int v21, .ref o22, .ref o24, .ref o26, .ref o28, .ref o30, .int v32, .ref o33, .ref o35, .ref o37, .int v39, .ref o40, .ref o42, .ref o44, .int v46, .ref o47])), (o6, .inl (cI, 12, .inl fw7))]) sz) := by
  refine Met.ofW (cc := cX12_far) (maxL := 5) (ret := (some .int)) (by decide) rfl ?_
  intro p e s m args below meth c s₁ B hml hv
  obtain ⟨rfl, hsz, hP, hK, hD0, hN⟩ := hv
  have hx := B.exec
  have hb := B.bytes
  have hr := B.returns
  have hts := atoms_spec (ws := wsX12_far) B.pre
  have hown : s.vm.findClass RX12 = some m.cls := findClass_of_methodNamed B.named
  have hlocks := B.notSynchronized
  subst hsz
  have hD := hD0.self (sz := s.heap.size)
  generalize hAe : va_A ([(o1, .inr (12, [.int v2, .ref o3, .int v5, .ref o6, .int v8, .ref o9, .ref o11, .int v13, .ref o14, .int v16, .ref o17, .int v19, .int v20, .int v21, .ref o22, .ref o24, .ref o26, .ref o28, .ref o30, .int v32, .ref o33, .ref o35, .ref o37, .int v39, .ref o40, .ref o42, .ref o44, .int v46, .ref o47])), (o6, .inl (cI, 12, .inl fw7))]) s.heap.size = A at hD ⊢
  have hA : ∀ q : Nat, s.heap.size ≤ q → A q := fun q h => by rw [← hAe]; exact Or.inr h
  have hS : va_S A s.heap s.heap [] := va_S.rf
  have hP : va_P (dC, dI) vwCl ([(o1, .inr (12, [.int v2, .ref o3, .int v5, .ref o6, .int v8, .ref o9, .ref o11, .int v13, .ref o14, .int v16, .ref o17, .int v19, .int v20, .int v21, .ref o22, .ref o24, .ref o26, .ref o28, .ref o30, .int v32, .ref o33, .ref o35, .ref o37, .int v39, .ref o40, .ref o42, .ref o44, .int v46, .ref o47])), (o6, .inl (cI, 12, .inl fw7))]) s.heap := hP
  have hl := lv_entry ([.ref o1, .int a1]) (n := 5) (Nat.le_of_ble_eq_true rfl)
  rw [lg_entry_eq]
  generalize (lg_sl ([.ref o1, .int a1]) ++ List.replicate (5 - (lg_sl ([.ref o1, .int a1])).length) Slot.unset).toArray = ls at hl ⊢
  have hl : lv_has ls 5 [(0, .ref o1), (1, .int a1)] := hl
  refine gen_Q (fun Q hQ => ?_)
  refine lv_iconst (v := 0) hx hb dX12_far_0 (by decide) ?_
  refine lv_istore_n (lv' := [(2, .int 0), (0, .ref o1), (1, .int a1)]) hx hb dX12_far_1 rfl hl (by decide) rfl (fun ls hl => ?_)
  have L50 : ∀ (N : Nat) (x2593 : Int32) (H : Heap) (locs : List Loc) (ls : Array Slot), (12 - x2593.toInt).toNat < N → Iv 0 12 x2593 → va_P (dC, dI) vwCl ([(o1, .inr (12, [.int v2, .ref o3, .int v5, .ref o6, .int v8, .ref o9, .ref o11, .int v13, .ref o14, .int v16, .ref o17, .int v19, .int v20, .int v21, .ref o22, .ref o24, .ref o26, .ref o28, .ref o30, .int v32, .ref o33, .ref o35, .ref o37, .int v39, .ref o40, .ref o42, .ref o44, .int v46, .ref o47])), (o6, .inl (cI, 12, .inl fw7))]) H → va_D A ([(o1, .inr (12, [.int v2, .ref o3, .int v5, .ref o6, .int v8, .ref o9, .ref o11, .int v13, .ref o14, .int v16, .ref o17, .int v19, .int v20, .int v21, .ref o22, .ref o24, .ref o26, .ref o28, .ref o30, .int v32, .ref o33, .ref o35, .ref o37, .int v39, .ref o40, .ref o42, .ref o44, .int v46, .ref o47])), (o6, .inl (cI, 12, .inl fw7))]) → va_S A s.heap H locs → lv_has ls 5 [(2, .int x2593), (0, .ref o1), (1, .int a1)] → W p l e ({ frames := 3, cells := 0, slots := 0, locals := 71 }) s m ([.ref o1, .int a1] : List Value).toArray below meth c H locs 0 0 Q (F0 m 2 ls []) := by
    intro N
    induction N with
    | zero =>
      intro x2593 H locs ls hM
      exact absurd hM (Nat.not_lt_zero _)
    | succ N ih50 =>
      intro x2593 H locs ls hM50 x2593_h hP hD hS hl
      refine lv_iload_n hx hb dX12_far_2 rfl (lv_at hl 0 rfl) ?_
      refine lv_aload_n hx hb dX12_far_3 rfl (lv_at hl 1 rfl) ?_
      refine va_get (D := (dC, dI)) (ci := 12) (v := .int v5) (C := RX12) (T := TX12) (N := 29) hx hb hts iw_X12_far_X12 hown hK hP 0 rfl rfl 2 (by decide) (hts (.fieldLink RX12 73 "HolelessHouseModel" "n" "I") hm_X12_far_1) (fun _ h9 => h9) rfl dX12_far_4 ?_
      refine lv_icmp_ge (tgt := 95) hx hb dX12_far_7 (by decide) (fun h2594 => ?_) (fun h2594 => ?_)
      ·
        have qh2594 := le_i h2594
        refine lv_bipush (v := (-9)) hx hb dX12_far_95 (by decide) ?_
        rw [hQ]
        exact W.iret (v := (-9)) hx hb hr (fun t ht hW => ⟨⟨(-9), (), rfl, (iv_w ikm_9 (by decide)), by rw [ht]; exact hP, va_K.moved hW.alike hK, hD⟩, hS.F ht⟩) hS.2.2 dX12_far_97
      ·
        have qh2594 := nle_i h2594
        have j2595 : Iv 0 11 x2593 := r_ltl qh2594 x2593_h v5_h (by decide)
        have j2596 : Iv 1 12 v5 := r_ltr qh2594 x2593_h v5_h (by decide)
        refine lv_iload_n hx hb dX12_far_10 rfl (lv_at hl 0 rfl) ?_
        refine lv_iconst (v := 1) hx hb dX12_far_11 (by decide) ?_
        refine lv_iadd hx hb dX12_far_12 (lv_topi (fun x2597 x2597_e => ?_))
        have x2597_h : Iv 1 12 x2597 := iv_e x2597_e (iv_add j2595 ik_1 (by decide))
        refine lv_istore_n (lv' := [(3, .int x2597), (2, .int x2593), (0, .ref o1), (1, .int a1)]) hx hb dX12_far_13 rfl hl (by decide) rfl (fun ls hl => ?_)
        have L53 : ∀ (N : Nat) (x2701 : Int32) (H : Heap) (locs : List Loc) (ls : Array Slot), (12 - x2701.toInt).toNat < N → Iv 1 12 x2701 → va_P (dC, dI) vwCl ([(o1, .inr (12, [.int v2, .ref o3, .int v5, .ref o6, .int v8, .ref o9, .ref o11, .int v13, .ref o14, .int v16, .ref o17, .int v19, .int v20, .int v21, .ref o22, .ref o24, .ref o26, .ref o28, .ref o30, .int v32, .ref o33, .ref o35, .ref o37, .int v39, .ref o40, .ref o42, .ref o44, .int v46, .ref o47])), (o6, .inl (cI, 12, .inl fw7))]) H → va_D A ([(o1, .inr (12, [.int v2, .ref o3, .int v5, .ref o6, .int v8, .ref o9, .ref o11, .int v13, .ref o14, .int v16, .ref o17, .int v19, .int v20, .int v21, .ref o22, .ref o24, .ref o26, .ref o28, .ref o30, .int v32, .ref o33, .ref o35, .ref o37, .int v39, .ref o40, .ref o42, .ref o44, .int v46, .ref o47])), (o6, .inl (cI, 12, .inl fw7))]) → va_S A s.heap H locs → lv_has ls 5 [(3, .int x2701), (2, .int x2593), (0, .ref o1), (1, .int a1)] → W p l e ({ frames := 3, cells := 0, slots := 0, locals := 71 }) s m ([.ref o1, .int a1] : List Value).toArray below meth c H locs 0 0 Q (F0 m 14 ls []) := by
          intro N
          induction N with
          | zero =>
            intro x2701 H locs ls hM
            exact absurd hM (Nat.not_lt_zero _)
          | succ N ih53 =>
            intro x2701 H locs ls hM53 x2701_h hP hD hS hl
            refine lv_iload_n hx hb dX12_far_14 rfl (lv_at hl 0 rfl) ?_
            refine lv_aload_n hx hb dX12_far_15 rfl (lv_at hl 2 rfl) ?_
            refine va_get (D := (dC, dI)) (ci := 12) (v := .int v5) (C := RX12) (T := TX12) (N := 29) hx hb hts iw_X12_far_X12 hown hK hP 0 rfl rfl 2 (by decide) (hts (.fieldLink RX12 73 "HolelessHouseModel" "n" "I") hm_X12_far_1) (fun _ h9 => h9) rfl dX12_far_16 ?_
            refine lv_icmp_ge (tgt := 89) hx hb dX12_far_19 (by decide) (fun h2702 => ?_) (fun h2702 => ?_)
            ·
              have qh2702 := le_i h2702
              obtain ⟨x2703, x2703_e⟩ : ∃ z : Int32, z = x2593 + 1 := ⟨_, rfl⟩
              have x2703_h : Iv 1 12 x2703 := iv_e x2703_e (iv_add j2595 ik_1 (by decide))
              refine lv_iinc (v := x2703) (lv' := [(2, .int x2703), (3, .int x2701), (0, .ref o1), (1, .int a1)]) hx hb dX12_far_89 hl (k := 1) rfl (incN (by decide +kernel) x2703_e) (by decide) rfl (fun ls hl => ?_)
              refine lv_goto (tgt := 2) hx hb dX12_far_92 (by decide) ?_
              exact ih50 x2703 _ _ _ (ms_up x2703_e j2595 (by decide) hM50) (iv_w x2703_h (by decide)) hP hD hS (lv_sub hl [0, 2, 3] rfl)
            ·
              have qh2702 := nle_i h2702
              have j2704 : Iv 1 11 x2701 := r_ltl qh2702 x2701_h j2596 (by decide)
              have j2705 : Iv 2 12 v5 := r_ltr qh2702 x2701_h j2596 (by decide)
              refine lv_iload_n hx hb dX12_far_22 rfl (lv_at hl 0 rfl) ?_
              refine lv_iconst (v := 1) hx hb dX12_far_23 (by decide) ?_
              refine lv_iadd hx hb dX12_far_24 (lv_topi (fun x2706 x2706_e => ?_))
              have x2706_h : Iv 2 12 x2706 := iv_e x2706_e (iv_add j2704 ik_1 (by decide))
              refine lv_istore (lv' := [(4, .int x2706), (3, .int x2701), (2, .int x2593), (0, .ref o1), (1, .int a1)]) hx hb dX12_far_25 hl (by decide) rfl (fun ls hl => ?_)
              have L54 : ∀ (N : Nat) (x2737 : Int32) (H : Heap) (locs : List Loc) (ls : Array Slot), (12 - x2737.toInt).toNat < N → Iv 2 12 x2737 → va_P (dC, dI) vwCl ([(o1, .inr (12, [.int v2, .ref o3, .int v5, .ref o6, .int v8, .ref o9, .ref o11, .int v13, .ref o14, .int v16, .ref o17, .int v19, .int v20, .int v21, .ref o22, .ref o24, .ref o26, .ref o28, .ref o30, .int v32, .ref o33, .ref o35, .ref o37, .int v39, .ref o40, .ref o42, .ref o44, .int v46, .ref o47])), (o6, .inl (cI, 12, .inl fw7))]) H → va_D A ([(o1, .inr (12, [.int v2, .ref o3, .int v5, .ref o6, .int v8, .ref o9, .ref o11, .int v13, .ref o14, .int v16, .ref o17, .int v19, .int v20, .int v21, .ref o22, .ref o24, .ref o26, .ref o28, .ref o30, .int v32, .ref o33, .ref o35, .ref o37, .int v39, .ref o40, .ref o42, .ref o44, .int v46, .ref o47])), (o6, .inl (cI, 12, .inl fw7))]) → va_S A s.heap H locs → lv_has ls 5 [(4, .int x2737), (3, .int x2701), (2, .int x2593), (0, .ref o1), (1, .int a1)] → W p l e ({ frames := 3, cells := 0, slots := 0, locals := 71 }) s m ([.ref o1, .int a1] : List Value).toArray below meth c H locs 0 0 Q (F0 m 27 ls []) := by
                intro N
                induction N with
                | zero =>
                  intro x2737 H locs ls hM
                  exact absurd hM (Nat.not_lt_zero _)
                | succ N ih54 =>
                  intro x2737 H locs ls hM54 x2737_h hP hD hS hl
                  refine lv_iload hx hb dX12_far_27 (lv_at hl 0 rfl) ?_
                  refine lv_aload_n hx hb dX12_far_29 rfl (lv_at hl 3 rfl) ?_
                  refine va_get (D := (dC, dI)) (ci := 12) (v := .int v5) (C := RX12) (T := TX12) (N := 29) hx hb hts iw_X12_far_X12 hown hK hP 0 rfl rfl 2 (by decide) (hts (.fieldLink RX12 73 "HolelessHouseModel" "n" "I") hm_X12_far_1) (fun _ h9 => h9) rfl dX12_far_30 ?_
                  refine lv_icmp_ge (tgt := 83) hx hb dX12_far_33 (by decide) (fun h2738 => ?_) (fun h2738 => ?_)
                  ·
                    have qh2738 := le_i h2738
                    obtain ⟨x2739, x2739_e⟩ : ∃ z : Int32, z = x2701 + 1 := ⟨_, rfl⟩
                    have x2739_h : Iv 2 12 x2739 := iv_e x2739_e (iv_add j2704 ik_1 (by decide))
                    refine lv_iinc (v := x2739) (lv' := [(3, .int x2739), (4, .int x2737), (2, .int x2593), (0, .ref o1), (1, .int a1)]) hx hb dX12_far_83 hl (k := 1) rfl (incN (by decide +kernel) x2739_e) (by decide) rfl (fun ls hl => ?_)
                    refine lv_goto (tgt := 14) hx hb dX12_far_86 (by decide) ?_
                    exact ih53 x2739 _ _ _ (ms_up x2739_e j2704 (by decide) hM53) (iv_w x2739_h (by decide)) hP hD hS (lv_sub hl [0, 2, 3, 4] rfl)
                  ·
                    have qh2738 := nle_i h2738
                    have j2740 : Iv 2 11 x2737 := r_ltl qh2738 x2737_h j2705 (by decide)
                    have j2741 : Iv 3 12 v5 := r_ltr qh2738 x2737_h j2705 (by decide)
                    refine lv_aload_n hx hb dX12_far_36 rfl (lv_at hl 3 rfl) ?_
                    refine lv_iload_n hx hb dX12_far_37 rfl (lv_at hl 2 rfl) ?_
                    refine lv_iload_n hx hb dX12_far_38 rfl (lv_at hl 1 rfl) ?_
                    refine lv_iload hx hb dX12_far_39 (lv_at hl 0 rfl) ?_
                    refine kc_i (D := (dC, dI)) (S := Unit) (wc := [(o1, .inr (12, [.int v2, .ref o3, .int v5, .ref o6, .int v8, .ref o9, .ref o11, .int v13, .ref o14, .int v16, .ref o17, .int v19, .int v20, .int v21, .ref o22, .ref o24, .ref o26, .ref o28, .ref o30, .int v32, .ref o33, .ref o35, .ref o37, .int v39, .ref o40, .ref o42, .ref o44, .int v46, .ref o47])), (o6, .inl (cI, 12, .inl fw7))]) (wr := []) (w1 := fun _ => [(o1, .inr (12, [.int v2, .ref o3, .int v5, .ref o6, .int v8, .ref o9, .ref o11, .int v13, .ref o14, .int v16, .ref o17, .int v19, .int v20, .int v21, .ref o22, .ref o24, .ref o26, .ref o28, .ref o30, .int v32, .ref o33, .ref o35, .ref o37, .int v39, .ref o40, .ref o42, .ref o44, .int v46, .ref o47])), (o6, .inl (cI, 12, .inl fw7))]) (wn := fun _ => [(o1, .inr (12, [.int v2, .ref o3, .int v5, .ref o6, .int v8, .ref o9, .ref o11, .int v13, .ref o14, .int v16, .ref o17, .int v19, .int v20, .int v21, .ref o22, .ref o24, .ref o26, .ref o28, .ref o30, .int v32, .ref o33, .ref o35, .ref o37, .int v39, .ref o40, .ref o42, .ref o44, .int v46, .ref o47])), (o6, .inl (cI, 12, .inl fw7))]) (fun hPc hDc => va_runV (As := [.int x2593, .int x2701, .int x2737]) (rest := []) ⟨hx, hb, hml, hown, hts⟩ (kX12_isFar_1 l dC dI cI c2 cZ o1 o3 o6 o9 o11 o14 o17 o22 o24 o26 o28 o30 o33 o35 o37 o40 o42 o44 o47 v2 v5 fw7 v8 v13 v16 v19 v20 v21 v32 v39 v46 x2593 x2701 x2737 H.size (iv_w j2741 (by decide)) fw7_b v8_h v13_h v16_h v19_h v32_h v39_h v46_h j2595 (iv_w j2704 (by decide)) (iv_w j2740 (by decide))) (cwV 3 hts gX12_far_X12_isFar rfl rfl rfl (by decide +kernel) ⟨Nat.le_of_ble_eq_true rfl, Nat.le_of_ble_eq_true rfl⟩) (pre_V hPc hK hDc hN (ci := 12) (q0 := 0) rfl rfl) rfl rfl hl.1 rfl (lv_room (Nat.le_of_ble_eq_true rfl)) dX12_far_41 ⟨Nat.le_of_ble_eq_true rfl, Nat.le_of_ble_eq_true rfl⟩) hP hD hS hA [0, 1] [] [0, 1] rfl rfl (by decide +kernel) (by decide +kernel) (by decide +kernel) (by decide +kernel) (fun _ => rfl) (fun x2742 _ H locs hq hP hD hS => ?_)
                    have x2742_h := hq
                    have hP : va_P (dC, dI) vwCl ([(o1, .inr (12, [.int v2, .ref o3, .int v5, .ref o6, .int v8, .ref o9, .ref o11, .int v13, .ref o14, .int v16, .ref o17, .int v19, .int v20, .int v21, .ref o22, .ref o24, .ref o26, .ref o28, .ref o30, .int v32, .ref o33, .ref o35, .ref o37, .int v39, .ref o40, .ref o42, .ref o44, .int v46, .ref o47])), (o6, .inl (cI, 12, .inl fw7))]) H := hP
                    have hD : va_D A ([(o1, .inr (12, [.int v2, .ref o3, .int v5, .ref o6, .int v8, .ref o9, .ref o11, .int v13, .ref o14, .int v16, .ref o17, .int v19, .int v20, .int v21, .ref o22, .ref o24, .ref o26, .ref o28, .ref o30, .int v32, .ref o33, .ref o35, .ref o37, .int v39, .ref o40, .ref o42, .ref o44, .int v46, .ref o47])), (o6, .inl (cI, 12, .inl fw7))]) := hD
                    refine lv_if_eq (tgt := 77) hx hb dX12_far_44 (by decide) (fun h2743 => ?_) (fun h2743 => ?_)
                    ·
                      have j2744 : Iv 0 0 x2742 := r_eq h2743 ik_0
                      obtain ⟨x2745, x2745_e⟩ : ∃ z : Int32, z = x2737 + 1 := ⟨_, rfl⟩
                      have x2745_h : Iv 3 12 x2745 := iv_e x2745_e (iv_add j2740 ik_1 (by decide))
                      refine lv_iinc (v := x2745) (lv' := [(4, .int x2745), (3, .int x2701), (2, .int x2593), (0, .ref o1), (1, .int a1)]) hx hb dX12_far_77 hl (k := 0) rfl (incN (by decide +kernel) x2745_e) (by decide) rfl (fun ls hl => ?_)
                      refine lv_goto (tgt := 27) hx hb dX12_far_80 (by decide) ?_
                      exact ih54 x2745 _ _ _ (ms_up x2745_e j2740 (by decide) hM54) (iv_w x2745_h (by decide)) hP hD hS hl
                    ·
                      have j2746 : Iv 1 1 x2742 := r_nelo h2743 x2742_h ik_0 (by decide)
                      refine lv_iload_n hx hb dX12_far_47 rfl (lv_at hl 4 rfl) ?_
                      refine lv_if_ne (tgt := 55) hx hb dX12_far_48 (by decide) (fun h2747 => ?_) (fun h2747 => ?_)
                      ·
                        refine lv_iload_n hx hb dX12_far_55 rfl (lv_at hl 4 rfl) ?_
                        refine lv_iconst (v := 1) hx hb dX12_far_56 (by decide) ?_
                        refine lv_icmp_ne (tgt := 64) hx hb dX12_far_57 (by decide) (fun h2748 => ?_) (fun h2748 => ?_)
                        ·
                          refine lv_iload_n hx hb dX12_far_64 rfl (lv_at hl 4 rfl) ?_
                          refine lv_iconst (v := 2) hx hb dX12_far_65 (by decide) ?_
                          refine lv_icmp_ne (tgt := 74) hx hb dX12_far_66 (by decide) (fun h2749 => ?_) (fun h2749 => ?_)
                          ·
                            refine lv_bipush (v := (-9)) hx hb dX12_far_74 (by decide) ?_
                            rw [hQ]
                            exact W.iret (v := (-9)) hx hb hr (fun t ht hW => ⟨⟨(-9), (), rfl, (iv_w ikm_9 (by decide)), by rw [ht]; exact hP, va_K.moved hW.alike hK, hD⟩, hS.F ht⟩) hS.2.2 dX12_far_76
                          ·
                            have j2750 : Iv 2 2 a1 := r_eq h2749 ik_2
                            refine lv_iload hx hb dX12_far_69 (lv_at hl 0 rfl) ?_
                            refine lv_goto (tgt := 76) hx hb dX12_far_71 (by decide) ?_
                            rw [hQ]
                            exact W.iret (v := x2737) hx hb hr (fun t ht hW => ⟨⟨x2737, (), rfl, (iv_w j2740 (by decide)), by rw [ht]; exact hP, va_K.moved hW.alike hK, hD⟩, hS.F ht⟩) hS.2.2 dX12_far_76
                        ·
                          have j2751 : Iv 1 1 a1 := r_eq h2748 ik_1
                          refine lv_iload_n hx hb dX12_far_60 rfl (lv_at hl 1 rfl) ?_
                          refine lv_goto (tgt := 76) hx hb dX12_far_61 (by decide) ?_
                          rw [hQ]
                          exact W.iret (v := x2701) hx hb hr (fun t ht hW => ⟨⟨x2701, (), rfl, (iv_w j2704 (by decide)), by rw [ht]; exact hP, va_K.moved hW.alike hK, hD⟩, hS.F ht⟩) hS.2.2 dX12_far_76
                      ·
                        have j2752 : Iv 0 0 a1 := r_eq h2747 ik_0
                        refine lv_iload_n hx hb dX12_far_51 rfl (lv_at hl 2 rfl) ?_
                        refine lv_goto (tgt := 76) hx hb dX12_far_52 (by decide) ?_
                        rw [hQ]
                        exact W.iret (v := x2593) hx hb hr (fun t ht hW => ⟨⟨x2593, (), rfl, (iv_w j2595 (by decide)), by rw [ht]; exact hP, va_K.moved hW.alike hK, hD⟩, hS.F ht⟩) hS.2.2 dX12_far_76
              exact L54 _ x2706 _ _ _ (Nat.lt_succ_self _) x2706_h hP hD hS hl
        exact L53 _ x2597 _ _ _ (Nat.lt_succ_self _) x2597_h hP hD hS hl
  exact L50 _ 0 _ _ _ (Nat.lt_succ_self _) (iv_w ik_0 (by decide)) hP hD hS hl
set_option maxHeartbeats 4000000 in
set_option maxRecDepth 100000 in
theorem kX12_meets_2 (l : Launch) (dC : Nat → ClassId) (dI : Nat → Nat → Nat) (cI c2 cZ : ClassId) (o1 : Nat) (o3 : Nat) (o6 : Nat) (o9 : Nat) (o11 : Nat) (o14 : Nat) (o17 : Nat) (o22 : Nat) (o24 : Nat) (o26 : Nat) (o28 : Nat) (o30 : Nat) (o33 : Nat) (o35 : Nat) (o37 : Nat) (o40 : Nat) (o42 : Nat) (o44 : Nat) (o47 : Nat) (v2 : Int32) (fw4 : Nat → Int32) (v5 : Int32) (v8 : Int32) (v13 : Int32) (v16 : Int32) (v19 : Int32) (v20 : Int32) (v21 : Int32) (v32 : Int32) (v39 : Int32) (v46 : Int32) (a1 : Int32) (sz : Nat) (v5_h : Iv 0 12 v5) (v8_h : Iv 0 8 v8) (v13_h : Iv 0 12 v13) (v16_h : Iv 0 12 v16) (v19_h : Iv (-9) 12 v19) (v32_h : Iv 0 99 v32) (v39_h : Iv 0 12 v39) (v46_h : Iv 0 12 v46) (a1_h : Iv 4 4 a1) : Met l yX12_meets wsX12_meets ({ frames := 0, cells := 0, slots := 0, locals := 0 }) (va_Pc [.ref o1, .int a1] (wPre (dC, dI) [(cI, .int), (c2, .array .int), (cZ, .boolean)] ([(o1, .inr (12, [.int v2, .ref o3, .int v5, .ref o6, .int v8, .ref o9, .ref o11, .int v13, .ref o14, .int v16, .ref o17, .int v19, .int v20, .int v21, .ref o22, .ref o24, .ref o26, .ref o28, .ref o30, .int v32, .ref o33, .ref o35, .ref o37, .int v39, .ref o40, .ref o42, .ref o44, .int v46, .ref o47])), (o3, .inl (cI, 5, .inl fw4))]) sz)) (va_Qi (fun (r : Int32) (u : Int32 × (Nat → Int32)) => Iv (-3) (-3) r) (fun u t => wPost (dC, dI) [(cI, .int), (c2, .array .int), (cZ, .boolean)] (va_A ([(o1, .inr (12, [.int v2, .ref o3, .int v5, .ref o6, .int v8, .ref o9, .ref o11, .int v13, .ref o14, .int v16, .ref o17, .int v19, .int v20, .int v21, .ref o22, .ref o24, .ref o26, .ref o28, .ref o30, .int v32, .ref o33, .ref o35, .ref o37, .int v39, .ref o40, .ref o42, .ref o44, .int v46, .ref o47])), (o3, .inl (cI, 5, .inl fw4))]) sz) ([(o1, .inr (12, [.int u.1, .ref o3, .int v5, .ref o6, .int v8, .ref o9, .ref o11, .int v13, .ref o14, .int v16, .ref o17, .int v19, .int v20, .int v21, .ref o22, .ref o24, .ref o26, .ref o28, .ref o30, .int v32, .ref o33, .ref o35, .ref o37, .int v39, .ref o40, .ref o42, .ref o44, .int v46, .ref o47])), (o3, .inl (cI, 5, .inl u.2))]) t) (va_A ([(o1, .inr (12, [.int v2, .ref o3, .int v5, .ref o6, .int v8, .ref o9, .ref o11, .int v13, .ref o14, .int v16, .ref o17, .int v19, .int v20, .int v21, .ref o22, .ref o24, .ref o26, .ref o28, .ref o30, .int v32, .ref o33, .ref o35, .ref o37, .int v39, .ref o40, .ref o42, .ref o44, .int v46, .ref o47])), (o3, .inl (cI, 5, .inl fw4))]) sz)) 0 0 (va_A ([(o1, .inr (12, [.int v2, .ref o3, .int v5, .ref o6, .int v8, .ref o9, .ref o11, .int v13, .ref o14, .int v16, .ref o17, .int v19, .int v20, .int v21, .ref o22, .ref o24, .ref o26, .ref o28, .ref o30, .int v32, .ref o33, .ref o35, .ref o37, .int v39, .ref o40, .ref o42, .ref o44, .int v46, .ref o47])), (o3, .inl (cI, 5, .inl fw4))]) sz) := by
  refine Met.ofW (cc := cX12_meets) (maxL := 2) (ret := (some .int)) (by decide) rfl ?_
  intro p e s m args below meth c s₁ B hml hv
  obtain ⟨rfl, hsz, hP, hK, hD0, hN⟩ := hv
  have hx := B.exec
  have hb := B.bytes
  have hr := B.returns
  have hts := atoms_spec (ws := wsX12_meets) B.pre
  have hown : s.vm.findClass RX12 = some m.cls := findClass_of_methodNamed B.named
  have hlocks := B.notSynchronized
  subst hsz
  have hD := hD0.self (sz := s.heap.size)
  generalize hAe : va_A ([(o1, .inr (12, [.int v2, .ref o3, .int v5, .ref o6, .int v8, .ref o9, .ref o11, .int v13, .ref o14, .int v16, .ref o17, .int v19, .int v20, .int v21, .ref o22, .ref o24, .ref o26, .ref o28, .ref o30, .int v32, .ref o33, .ref o35, .ref o37, .int v39, .ref o40, .ref o42, .ref o44, .int v46, .ref o47])), (o3, .inl (cI, 5, .inl fw4))]) s.heap.size = A at hD ⊢
  have hA : ∀ q : Nat, s.heap.size ≤ q → A q := fun q h => by rw [← hAe]; exact Or.inr h
  have hS : va_S A s.heap s.heap [] := va_S.rf
  have hP : va_P (dC, dI) vwCl ([(o1, .inr (12, [.int v2, .ref o3, .int v5, .ref o6, .int v8, .ref o9, .ref o11, .int v13, .ref o14, .int v16, .ref o17, .int v19, .int v20, .int v21, .ref o22, .ref o24, .ref o26, .ref o28, .ref o30, .int v32, .ref o33, .ref o35, .ref o37, .int v39, .ref o40, .ref o42, .ref o44, .int v46, .ref o47])), (o3, .inl (cI, 5, .inl fw4))]) s.heap := hP
  have hl := lv_entry ([.ref o1, .int a1]) (n := 2) (Nat.le_of_ble_eq_true rfl)
  rw [lg_entry_eq]
  generalize (lg_sl ([.ref o1, .int a1]) ++ List.replicate (2 - (lg_sl ([.ref o1, .int a1])).length) Slot.unset).toArray = ls at hl ⊢
  have hl : lv_has ls 2 [(0, .ref o1), (1, .int a1)] := hl
  refine gen_Q (fun Q hQ => ?_)
  refine lv_aload_n hx hb dX12_meets_0 rfl (lv_at hl 0 rfl) ?_
  refine lv_iload_n hx hb dX12_meets_1 rfl (lv_at hl 1 rfl) ?_
  refine va_put (D := (dC, dI)) (ci := 12) (v := .int a1) (ty := .int) (C := RX12) (T := TX12) (N := 29) hx hb hts iw_X12_meets_X12 tyX12 tyX12_ok nmX12 hown hK hP hD hS 0 rfl rfl 0 (by decide) (hts (.fieldLink RX12 70 "HolelessHouseModel" "finding" "I") hm_X12_meets_1) (fun _ h9 => h9) rfl (by decide +kernel) rfl rfl (Nat.le_of_ble_eq_true rfl) dX12_meets_2 (fun H locs hP hD hS => ?_)
  have hP : va_P (dC, dI) vwCl ([(o1, .inr (12, [.int a1, .ref o3, .int v5, .ref o6, .int v8, .ref o9, .ref o11, .int v13, .ref o14, .int v16, .ref o17, .int v19, .int v20, .int v21, .ref o22, .ref o24, .ref o26, .ref o28, .ref o30, .int v32, .ref o33, .ref o35, .ref o37, .int v39, .ref o40, .ref o42, .ref o44, .int v46, .ref o47])), (o3, .inl (cI, 5, .inl fw4))]) H := hP
  have hD : va_D A ([(o1, .inr (12, [.int a1, .ref o3, .int v5, .ref o6, .int v8, .ref o9, .ref o11, .int v13, .ref o14, .int v16, .ref o17, .int v19, .int v20, .int v21, .ref o22, .ref o24, .ref o26, .ref o28, .ref o30, .int v32, .ref o33, .ref o35, .ref o37, .int v39, .ref o40, .ref o42, .ref o44, .int v46, .ref o47])), (o3, .inl (cI, 5, .inl fw4))]) := hD
  refine lv_aload_n hx hb dX12_meets_5 rfl (lv_at hl 0 rfl) ?_
  refine va_get (D := (dC, dI)) (ci := 12) (v := .ref o3) (C := RX12) (T := TX12) (N := 29) hx hb hts iw_X12_meets_X12 hown hK hP 0 rfl rfl 1 (by decide) (hts (.fieldLink RX12 7 "HolelessHouseModel" "findings" "[I") hm_X12_meets_2) (fun _ h9 => h9) rfl dX12_meets_6 ?_
  refine lv_iload_n hx hb dX12_meets_9 rfl (lv_at hl 1 rfl) ?_
  refine lv_dup2_11 hx hb dX12_meets_10 rfl rfl ?_
  refine va_iald hx hb hK hP 1 0 rfl rfl (vin_iv a1_h (by decide)) dX12_meets_11 (lv_topi (fun x1 x1_e => ?_))
  refine lv_iconst (v := 1) hx hb dX12_meets_12 (by decide) ?_
  refine lv_iadd hx hb dX12_meets_13 (lv_topi (fun x2 x2_e => ?_))
  refine k_iast hx hb hK hP hD hS 1 0 rfl rfl (vin_iv a1_h (by decide)) dX12_meets_14 (fun f3 H locs f3_e hP hD hS => ?_)
  have hP : va_P (dC, dI) vwCl ([(o1, .inr (12, [.int a1, .ref o3, .int v5, .ref o6, .int v8, .ref o9, .ref o11, .int v13, .ref o14, .int v16, .ref o17, .int v19, .int v20, .int v21, .ref o22, .ref o24, .ref o26, .ref o28, .ref o30, .int v32, .ref o33, .ref o35, .ref o37, .int v39, .ref o40, .ref o42, .ref o44, .int v46, .ref o47])), (o3, .inl (cI, 5, .inl f3))]) H := hP
  have hD : va_D A ([(o1, .inr (12, [.int a1, .ref o3, .int v5, .ref o6, .int v8, .ref o9, .ref o11, .int v13, .ref o14, .int v16, .ref o17, .int v19, .int v20, .int v21, .ref o22, .ref o24, .ref o26, .ref o28, .ref o30, .int v32, .ref o33, .ref o35, .ref o37, .int v39, .ref o40, .ref o42, .ref o44, .int v46, .ref o47])), (o3, .inl (cI, 5, .inl f3))]) := hD
  refine lv_bipush (v := (-3)) hx hb dX12_meets_15 (by decide) ?_
  rw [hQ]
  exact W.iret (v := (-3)) hx hb hr (fun t ht hW => ⟨⟨(-3), (a1, f3), rfl, ikm_3, by rw [ht]; exact hP, va_K.moved hW.alike hK, hD⟩, hS.F ht⟩) hS.2.2 dX12_meets_17
theorem iw_X12_columns_X12 : ∀ w ∈ wsX120, w ∈ wsX12_columns := fun _ h => List.mem_cons.mpr (Or.inr (List.mem_append.mpr (Or.inr h)))
set_option maxHeartbeats 4000000 in
set_option maxRecDepth 100000 in
theorem kX12_columns_1 (l : Launch) (dC : Nat → ClassId) (dI : Nat → Nat → Nat) (cI c2 cZ : ClassId) (o1 : Nat) (o3 : Nat) (o6 : Nat) (o9 : Nat) (o11 : Nat) (o14 : Nat) (o17 : Nat) (o22 : Nat) (o24 : Nat) (o26 : Nat) (o28 : Nat) (o30 : Nat) (o33 : Nat) (o35 : Nat) (o37 : Nat) (o40 : Nat) (o42 : Nat) (o44 : Nat) (o47 : Nat) (v2 : Int32) (fw4 : Nat → Int32) (v5 : Int32) (v8 : Int32) (fw10 : Nat → Int32) (v13 : Int32) (v16 : Int32) (v19 : Int32) (v20 : Int32) (v21 : Int32) (v32 : Int32) (v39 : Int32) (v46 : Int32) (a1 : Int32) (sz : Nat) (v5_h : Iv 0 12 v5) (v8_h : Iv 0 8 v8) (fw10_b : Bd 12 (-9) 255 fw10) (v13_h : Iv 0 12 v13) (v16_h : Iv 0 12 v16) (v19_h : Iv (-9) 12 v19) (v32_h : Iv 0 99 v32) (v39_h : Iv 0 12 v39) (v46_h : Iv 0 12 v46) : Met l yX12_columns wsX12_columns ({ frames := 1, cells := 0, slots := 0, locals := 21 }) (va_Pc [.ref o1, .int a1] (wPre (dC, dI) [(cI, .int), (c2, .array .int), (cZ, .boolean)] ([(o1, .inr (12, [.int v2, .ref o3, .int v5, .ref o6, .int v8, .ref o9, .ref o11, .int v13, .ref o14, .int v16, .ref o17, .int v19, .int v20, .int v21, .ref o22, .ref o24, .ref o26, .ref o28, .ref o30, .int v32, .ref o33, .ref o35, .ref o37, .int v39, .ref o40, .ref o42, .ref o44, .int v46, .ref o47])), (o9, .inl (cI, 12, .inl fw10)), (o3, .inl (cI, 5, .inl fw4))]) sz)) (va_Qi (fun (r : Int32) (u : Int32 × Int32 × (Nat → Int32) × (Nat → Int32)) => Iv (-3) 8 r ∧ Iv 0 8 u.2.1 ∧ Bd 12 (-9) 255 u.2.2.1) (fun u t => wPost (dC, dI) [(cI, .int), (c2, .array .int), (cZ, .boolean)] (va_A ([(o1, .inr (12, [.int v2, .ref o3, .int v5, .ref o6, .int v8, .ref o9, .ref o11, .int v13, .ref o14, .int v16, .ref o17, .int v19, .int v20, .int v21, .ref o22, .ref o24, .ref o26, .ref o28, .ref o30, .int v32, .ref o33, .ref o35, .ref o37, .int v39, .ref o40, .ref o42, .ref o44, .int v46, .ref o47])), (o9, .inl (cI, 12, .inl fw10)), (o3, .inl (cI, 5, .inl fw4))]) sz) ([(o1, .inr (12, [.int u.1, .ref o3, .int v5, .ref o6, .int u.2.1, .ref o9, .ref o11, .int v13, .ref o14, .int v16, .ref o17, .int v19, .int v20, .int v21, .ref o22, .ref o24, .ref o26, .ref o28, .ref o30, .int v32, .ref o33, .ref o35, .ref o37, .int v39, .ref o40, .ref o42, .ref o44, .int v46, .ref o47])), (o9, .inl (cI, 12, .inl u.2.2.1)), (o3, .inl (cI, 5, .inl u.2.2.2))]) t) (va_A ([(o1, .inr (12, [.int v2, .ref o3, .int v5, .ref o6, .int v8, .ref o9, .ref o11, .int v13, .ref o14, .int v16, .ref o17, .int v19, .int v20, .int v21, .ref o22, .ref o24, .ref o26, .ref o28, .ref o30, .int v32, .ref o33, .ref o35, .ref o37, .int v39, .ref o40, .ref o42, .ref o44, .int v46, .ref o47])), (o9, .inl (cI, 12, .inl fw10)), (o3, .inl (cI, 5, .inl fw4))]) sz)) 0 0 (va_A ([(o1, .inr (12, [.int v2, .ref o3, .int v5, .ref o6, .int v8, .ref o9, .ref o11, .int v13, .ref o14, .int v16, .ref o17, .int v19, .int v20, .int v21, .ref o22, .ref o24, .ref o26, .ref o28, .ref o30, .int v32, .ref o33, .ref o35, .ref o37, .int v39, .ref o40, .ref o42, .ref o44, .int v46, .ref o47])), (o9, .inl (cI, 12, .inl fw10)), (o3, .inl (cI, 5, .inl fw4))]) sz) := by
  refine Met.ofW (cc := cX12_columns) (maxL := 3) (ret := (some .int)) (by decide) rfl ?_
  intro p e s m args below meth c s₁ B hml hv
  obtain ⟨rfl, hsz, hP, hK, hD0, hN⟩ := hv
  have hx := B.exec
  have hb := B.bytes
  have hr := B.returns
  have hts := atoms_spec (ws := wsX12_columns) B.pre
  have hown : s.vm.findClass RX12 = some m.cls := findClass_of_methodNamed B.named
  have hlocks := B.notSynchronized
  subst hsz
  have hD := hD0.self (sz := s.heap.size)
  generalize hAe : va_A ([(o1, .inr (12, [.int v2, .ref o3, .int v5, .ref o6, .int v8, .ref o9, .ref o11, .int v13, .ref o14, .int v16, .ref o17, .int v19, .int v20, .int v21, .ref o22, .ref o24, .ref o26, .ref o28, .ref o30, .int v32, .ref o33, .ref o35, .ref o37, .int v39, .ref o40, .ref o42, .ref o44, .int v46, .ref o47])), (o9, .inl (cI, 12, .inl fw10)), (o3, .inl (cI, 5, .inl fw4))]) s.heap.size = A at hD ⊢
  have hA : ∀ q : Nat, s.heap.size ≤ q → A q := fun q h => by rw [← hAe]; exact Or.inr h
  have hS : va_S A s.heap s.heap [] := va_S.rf
  have hP : va_P (dC, dI) vwCl ([(o1, .inr (12, [.int v2, .ref o3, .int v5, .ref o6, .int v8, .ref o9, .ref o11, .int v13, .ref o14, .int v16, .ref o17, .int v19, .int v20, .int v21, .ref o22, .ref o24, .ref o26, .ref o28, .ref o30, .int v32, .ref o33, .ref o35, .ref o37, .int v39, .ref o40, .ref o42, .ref o44, .int v46, .ref o47])), (o9, .inl (cI, 12, .inl fw10)), (o3, .inl (cI, 5, .inl fw4))]) s.heap := hP
  have hl := lv_entry ([.ref o1, .int a1]) (n := 3) (Nat.le_of_ble_eq_true rfl)
  rw [lg_entry_eq]
  generalize (lg_sl ([.ref o1, .int a1]) ++ List.replicate (3 - (lg_sl ([.ref o1, .int a1])).length) Slot.unset).toArray = ls at hl ⊢
  have hl : lv_has ls 3 [(0, .ref o1), (1, .int a1)] := hl
  refine gen_Q (fun Q hQ => ?_)
  refine lv_iload_n hx hb dX12_columns_0 rfl (lv_at hl 1 rfl) ?_
  refine lv_bipush (v := 8) hx hb dX12_columns_1 (by decide) ?_
  refine lv_icmp_le (tgt := 8) hx hb dX12_columns_3 (by decide) (fun h1 => ?_) (fun h1 => ?_)
  ·
    have qh1 := le_i h1
    have j2 : Iv (-2147483648) 8 a1 := r_lel qh1 (iv_full a1) ik_8 (by decide)
    refine lv_iload_n hx hb dX12_columns_8 rfl (lv_at hl 1 rfl) ?_
    refine lv_if_ge (tgt := 18) hx hb dX12_columns_9 (by decide) (fun h3 => ?_) (fun h3 => ?_)
    ·
      have qh3 := le_i h3
      have j4 : Iv 0 8 a1 := r_ler qh3 ik_0 j2 (by decide)
      refine lv_aload_n hx hb dX12_columns_18 rfl (lv_at hl 0 rfl) ?_
      refine lv_iload_n hx hb dX12_columns_19 rfl (lv_at hl 1 rfl) ?_
      refine va_put (D := (dC, dI)) (ci := 12) (v := .int a1) (ty := .int) (C := RX12) (T := TX12) (N := 29) hx hb hts iw_X12_columns_X12 tyX12 tyX12_ok nmX12 hown hK hP hD hS 0 rfl rfl 4 (by decide) (hts (.fieldLink RX12 128 "HolelessHouseModel" "columns" "I") hm_X12_columns_1) (fun _ h9 => h9) rfl (by decide +kernel) rfl rfl (Nat.le_of_ble_eq_true rfl) dX12_columns_20 (fun H locs hP hD hS => ?_)
      have hP : va_P (dC, dI) vwCl ([(o1, .inr (12, [.int v2, .ref o3, .int v5, .ref o6, .int a1, .ref o9, .ref o11, .int v13, .ref o14, .int v16, .ref o17, .int v19, .int v20, .int v21, .ref o22, .ref o24, .ref o26, .ref o28, .ref o30, .int v32, .ref o33, .ref o35, .ref o37, .int v39, .ref o40, .ref o42, .ref o44, .int v46, .ref o47])), (o9, .inl (cI, 12, .inl fw10)), (o3, .inl (cI, 5, .inl fw4))]) H := hP
      have hD : va_D A ([(o1, .inr (12, [.int v2, .ref o3, .int v5, .ref o6, .int a1, .ref o9, .ref o11, .int v13, .ref o14, .int v16, .ref o17, .int v19, .int v20, .int v21, .ref o22, .ref o24, .ref o26, .ref o28, .ref o30, .int v32, .ref o33, .ref o35, .ref o37, .int v39, .ref o40, .ref o42, .ref o44, .int v46, .ref o47])), (o9, .inl (cI, 12, .inl fw10)), (o3, .inl (cI, 5, .inl fw4))]) := hD
      refine lv_iconst (v := 0) hx hb dX12_columns_23 (by decide) ?_
      refine lv_istore_n (lv' := [(2, .int 0), (0, .ref o1), (1, .int a1)]) hx hb dX12_columns_24 rfl hl (by decide) rfl (fun ls hl => ?_)
      have L1 : ∀ (N : Nat) (x37 : Int32) (f38 : Nat → Int32) (H : Heap) (locs : List Loc) (ls : Array Slot), (12 - x37.toInt).toNat < N → Iv 0 12 x37 → Bd 12 (-9) 255 f38 → va_P (dC, dI) vwCl ([(o1, .inr (12, [.int v2, .ref o3, .int v5, .ref o6, .int a1, .ref o9, .ref o11, .int v13, .ref o14, .int v16, .ref o17, .int v19, .int v20, .int v21, .ref o22, .ref o24, .ref o26, .ref o28, .ref o30, .int v32, .ref o33, .ref o35, .ref o37, .int v39, .ref o40, .ref o42, .ref o44, .int v46, .ref o47])), (o9, .inl (cI, 12, .inl f38)), (o3, .inl (cI, 5, .inl fw4))]) H → va_D A ([(o1, .inr (12, [.int v2, .ref o3, .int v5, .ref o6, .int a1, .ref o9, .ref o11, .int v13, .ref o14, .int v16, .ref o17, .int v19, .int v20, .int v21, .ref o22, .ref o24, .ref o26, .ref o28, .ref o30, .int v32, .ref o33, .ref o35, .ref o37, .int v39, .ref o40, .ref o42, .ref o44, .int v46, .ref o47])), (o9, .inl (cI, 12, .inl f38)), (o3, .inl (cI, 5, .inl fw4))]) → va_S A s.heap H locs → lv_has ls 3 [(2, .int x37), (0, .ref o1), (1, .int a1)] → W p l e ({ frames := 1, cells := 0, slots := 0, locals := 21 }) s m ([.ref o1, .int a1] : List Value).toArray below meth c H locs 0 0 Q (F0 m 25 ls []) := by
        intro N
        induction N with
        | zero =>
          intro x37 f38 H locs ls hM
          exact absurd hM (Nat.not_lt_zero _)
        | succ N ih1 =>
          intro x37 f38 H locs ls hM1 x37_h f38_b hP hD hS hl
          refine lv_iload_n hx hb dX12_columns_25 rfl (lv_at hl 0 rfl) ?_
          refine lv_bipush (v := 12) hx hb dX12_columns_26 (by decide) ?_
          refine lv_icmp_ge (tgt := 45) hx hb dX12_columns_28 (by decide) (fun h39 => ?_) (fun h39 => ?_)
          ·
            have qh39 := le_i h39
            have j40 : Iv 12 12 x37 := r_ler qh39 ik_12 x37_h (by decide)
            refine lv_iload_n hx hb dX12_columns_45 rfl (lv_at hl 2 rfl) ?_
            rw [hQ]
            exact W.iret (v := a1) hx hb hr (fun t ht hW => ⟨⟨a1, (v2, a1, f38, fw4), rfl, ⟨(iv_w j4 (by decide)), j4, f38_b⟩, by rw [ht]; exact hP, va_K.moved hW.alike hK, hD⟩, hS.F ht⟩) hS.2.2 dX12_columns_46
          ·
            have qh39 := nle_i h39
            have j41 : Iv 0 11 x37 := r_ltl qh39 x37_h ik_12 (by decide)
            refine lv_aload_n hx hb dX12_columns_31 rfl (lv_at hl 1 rfl) ?_
            refine va_get (D := (dC, dI)) (ci := 12) (v := .ref o9) (C := RX12) (T := TX12) (N := 29) hx hb hts iw_X12_columns_X12 hown hK hP 0 rfl rfl 5 (by decide) (hts (.fieldLink RX12 16 "HolelessHouseModel" "rows" "[I") hm_X12_columns_2) (fun _ h9 => h9) rfl dX12_columns_32 ?_
            refine lv_iload_n hx hb dX12_columns_35 rfl (lv_at hl 0 rfl) ?_
            refine lv_bipush (v := (-9)) hx hb dX12_columns_36 (by decide) ?_
            refine k_iast hx hb hK hP hD hS 1 0 rfl rfl (vin_iv j41 (by decide)) dX12_columns_38 (fun f42 H locs f42_e hP hD hS => ?_)
            have f42_b : Bd 12 (-9) 255 f42 := bd_upd f42_e f38_b ikm_9 (by decide)
            have hP : va_P (dC, dI) vwCl ([(o1, .inr (12, [.int v2, .ref o3, .int v5, .ref o6, .int a1, .ref o9, .ref o11, .int v13, .ref o14, .int v16, .ref o17, .int v19, .int v20, .int v21, .ref o22, .ref o24, .ref o26, .ref o28, .ref o30, .int v32, .ref o33, .ref o35, .ref o37, .int v39, .ref o40, .ref o42, .ref o44, .int v46, .ref o47])), (o9, .inl (cI, 12, .inl f42)), (o3, .inl (cI, 5, .inl fw4))]) H := hP
            have hD : va_D A ([(o1, .inr (12, [.int v2, .ref o3, .int v5, .ref o6, .int a1, .ref o9, .ref o11, .int v13, .ref o14, .int v16, .ref o17, .int v19, .int v20, .int v21, .ref o22, .ref o24, .ref o26, .ref o28, .ref o30, .int v32, .ref o33, .ref o35, .ref o37, .int v39, .ref o40, .ref o42, .ref o44, .int v46, .ref o47])), (o9, .inl (cI, 12, .inl f42)), (o3, .inl (cI, 5, .inl fw4))]) := hD
            obtain ⟨x43, x43_e⟩ : ∃ z : Int32, z = x37 + 1 := ⟨_, rfl⟩
            have x43_h : Iv 1 12 x43 := iv_e x43_e (iv_add j41 ik_1 (by decide))
            refine lv_iinc (v := x43) (lv' := [(2, .int x43), (0, .ref o1), (1, .int a1)]) hx hb dX12_columns_39 hl (k := 0) rfl (incN (by decide +kernel) x43_e) (by decide) rfl (fun ls hl => ?_)
            refine lv_goto (tgt := 25) hx hb dX12_columns_42 (by decide) ?_
            exact ih1 x43 f42 _ _ _ (ms_up x43_e j41 (by decide) hM1) (iv_w x43_h (by decide)) f42_b hP hD hS hl
      exact L1 _ 0 fw10 _ _ _ (Nat.lt_succ_self _) (iv_w ik_0 (by decide)) fw10_b hP hD hS hl
    ·
      have qh3 := nle_i h3
      have j44 : Iv (-2147483648) (-1) a1 := r_ltl qh3 j2 ik_0 (by decide)
      refine lv_aload_n hx hb dX12_columns_12 rfl (lv_at hl 0 rfl) ?_
      refine lv_iconst (v := 4) hx hb dX12_columns_13 (by decide) ?_
      refine kc_i (D := (dC, dI)) (S := Int32 × (Nat → Int32)) (wc := [(o1, .inr (12, [.int v2, .ref o3, .int v5, .ref o6, .int v8, .ref o9, .ref o11, .int v13, .ref o14, .int v16, .ref o17, .int v19, .int v20, .int v21, .ref o22, .ref o24, .ref o26, .ref o28, .ref o30, .int v32, .ref o33, .ref o35, .ref o37, .int v39, .ref o40, .ref o42, .ref o44, .int v46, .ref o47])), (o3, .inl (cI, 5, .inl fw4))]) (wr := [(o9, .inl (cI, 12, .inl fw10))]) (w1 := fun u => [(o1, .inr (12, [.int u.1, .ref o3, .int v5, .ref o6, .int v8, .ref o9, .ref o11, .int v13, .ref o14, .int v16, .ref o17, .int v19, .int v20, .int v21, .ref o22, .ref o24, .ref o26, .ref o28, .ref o30, .int v32, .ref o33, .ref o35, .ref o37, .int v39, .ref o40, .ref o42, .ref o44, .int v46, .ref o47])), (o3, .inl (cI, 5, .inl u.2))]) (wn := fun u => [(o1, .inr (12, [.int u.1, .ref o3, .int v5, .ref o6, .int v8, .ref o9, .ref o11, .int v13, .ref o14, .int v16, .ref o17, .int v19, .int v20, .int v21, .ref o22, .ref o24, .ref o26, .ref o28, .ref o30, .int v32, .ref o33, .ref o35, .ref o37, .int v39, .ref o40, .ref o42, .ref o44, .int v46, .ref o47])), (o9, .inl (cI, 12, .inl fw10)), (o3, .inl (cI, 5, .inl u.2))]) (fun hPc hDc => va_runV (As := [.int 4]) (rest := []) ⟨hx, hb, hml, hown, hts⟩ (kX12_meets_2 l dC dI cI c2 cZ o1 o3 o6 o9 o11 o14 o17 o22 o24 o26 o28 o30 o33 o35 o37 o40 o42 o44 o47 v2 fw4 v5 v8 v13 v16 v19 v20 v21 v32 v39 v46 4 s.heap.size v5_h v8_h v13_h v16_h v19_h v32_h v39_h v46_h ik_4) (cwV 1 hts gX12_columns_X12_meets rfl rfl rfl (by decide +kernel) ⟨Nat.le_of_ble_eq_true rfl, Nat.le_of_ble_eq_true rfl⟩) (pre_V hPc hK hDc hN (ci := 12) (q0 := 0) rfl rfl) rfl rfl hl.1 rfl (lv_room (Nat.le_of_ble_eq_true rfl)) dX12_columns_14 ⟨Nat.le_of_ble_eq_true rfl, Nat.le_of_ble_eq_true rfl⟩) hP hD hS hA [0, 2] [1] [1, 0, 2] rfl rfl (by decide +kernel) (by decide +kernel) (by decide +kernel) (by decide +kernel) (fun _ => rfl) (fun x47 u H locs hq hP hD hS => ?_)
      obtain ⟨y45, f46⟩ := u
      have x47_h := hq
      have x47_h : Iv (-3) (-3) x47 := x47_h
      have hP : va_P (dC, dI) vwCl ([(o1, .inr (12, [.int y45, .ref o3, .int v5, .ref o6, .int v8, .ref o9, .ref o11, .int v13, .ref o14, .int v16, .ref o17, .int v19, .int v20, .int v21, .ref o22, .ref o24, .ref o26, .ref o28, .ref o30, .int v32, .ref o33, .ref o35, .ref o37, .int v39, .ref o40, .ref o42, .ref o44, .int v46, .ref o47])), (o9, .inl (cI, 12, .inl fw10)), (o3, .inl (cI, 5, .inl f46))]) H := hP
      have hD : va_D A ([(o1, .inr (12, [.int y45, .ref o3, .int v5, .ref o6, .int v8, .ref o9, .ref o11, .int v13, .ref o14, .int v16, .ref o17, .int v19, .int v20, .int v21, .ref o22, .ref o24, .ref o26, .ref o28, .ref o30, .int v32, .ref o33, .ref o35, .ref o37, .int v39, .ref o40, .ref o42, .ref o44, .int v46, .ref o47])), (o9, .inl (cI, 12, .inl fw10)), (o3, .inl (cI, 5, .inl f46))]) := hD
      rw [hQ]
      exact W.iret (v := x47) hx hb hr (fun t ht hW => ⟨⟨x47, (y45, v8, fw10, f46), rfl, ⟨(iv_w x47_h (by decide)), v8_h, fw10_b⟩, by rw [ht]; exact hP, va_K.moved hW.alike hK, hD⟩, hS.F ht⟩) hS.2.2 dX12_columns_17
  ·
    have qh1 := nle_i h1
    have j48 : Iv 9 2147483647 a1 := r_ltr qh1 ik_8 (iv_full a1) (by decide)
    refine lv_iconst (v := (-1)) hx hb dX12_columns_6 (by decide) ?_
    rw [hQ]
    exact W.iret (v := (-1)) hx hb hr (fun t ht hW => ⟨⟨(-1), (v2, v8, fw10, fw4), rfl, ⟨(iv_w ikm_1 (by decide)), v8_h, fw10_b⟩, by rw [ht]; exact hP, va_K.moved hW.alike hK, hD⟩, hS.F ht⟩) hS.2.2 dX12_columns_7
set_option maxHeartbeats 4000000 in
set_option maxRecDepth 100000 in
theorem kX12_in_8 (l : Launch) (dC : Nat → ClassId) (dI : Nat → Nat → Nat) (cI c2 cZ : ClassId) (a0 : Int32) (a1 : Int32) (a2 : Int32) (sz : Nat) (a1_h : Iv 0 0 a1) (a2_h : Iv 0 255 a2) : Met l yX12_in wsX12_in ({ frames := 0, cells := 0, slots := 0, locals := 0 }) (va_Pc [.int a0, .int a1, .int a2] (wPre (dC, dI) [(cI, .int), (c2, .array .int), (cZ, .boolean)] ([]) sz)) (va_Qi (fun (r : Int32) (_ : Unit) => Iv 0 1 r ∧ (¬ r = 0 → Iv 0 255 a0) ∧ (¬ r = 0 → Int32.toInt a1 ≤ Int32.toInt a0 ∧ Int32.toInt a0 ≤ Int32.toInt a2)) (fun _ t => wPost (dC, dI) [(cI, .int), (c2, .array .int), (cZ, .boolean)] (va_A ([]) sz) ([]) t) (va_A ([]) sz)) 0 0 (va_A ([]) sz) := by
  refine Met.ofW (cc := cX12_in) (maxL := 3) (ret := (some .boolean)) (by decide) rfl ?_
  intro p e s m args below meth c s₁ B hml hv
  obtain ⟨rfl, hsz, hP, hK, hD0, hN⟩ := hv
  have hx := B.exec
  have hb := B.bytes
  have hr := B.returns
  have hts := atoms_spec (ws := wsX12_in) B.pre
  have hown : s.vm.findClass RX12 = some m.cls := findClass_of_methodNamed B.named
  have hlocks := B.notSynchronized
  subst hsz
  have hD := hD0.self (sz := s.heap.size)
  generalize hAe : va_A ([]) s.heap.size = A at hD ⊢
  have hA : ∀ q : Nat, s.heap.size ≤ q → A q := fun q h => by rw [← hAe]; exact Or.inr h
  have hS : va_S A s.heap s.heap [] := va_S.rf
  have hP : va_P (dC, dI) vwCl ([]) s.heap := hP
  have hl := lv_entry ([.int a0, .int a1, .int a2]) (n := 3) (Nat.le_of_ble_eq_true rfl)
  rw [lg_entry_eq]
  generalize (lg_sl ([.int a0, .int a1, .int a2]) ++ List.replicate (3 - (lg_sl ([.int a0, .int a1, .int a2])).length) Slot.unset).toArray = ls at hl ⊢
  have hl : lv_has ls 3 [(0, .int a0), (1, .int a1), (2, .int a2)] := hl
  refine gen_Q (fun Q hQ => ?_)
  refine lv_iload_n hx hb dX12_in_0 rfl (lv_at hl 0 rfl) ?_
  refine lv_iload_n hx hb dX12_in_1 rfl (lv_at hl 1 rfl) ?_
  refine lv_icmp_lt (tgt := 14) hx hb dX12_in_2 (by decide) (fun h1 => ?_) (fun h1 => ?_)
  ·
    have qh1 := lt_i h1
    have j2 : Iv (-2147483648) (-1) a0 := r_ltl qh1 (iv_full a0) a1_h (by decide)
    refine lv_iconst (v := 0) hx hb dX12_in_14 (by decide) ?_
    rw [hQ]
    exact W.zret (v := 0) (ty := .boolean) hx hb hr rfl (fun t ht hW => ⟨⟨0, (), rfl, ⟨(iv_w ik_0 (by decide)), (fun h8 => absurd rfl h8), (fun h8 => absurd rfl h8)⟩, by rw [ht]; exact hP, va_K.moved hW.alike hK, hD⟩, hS.F ht⟩) hS.2.2 dX12_in_15
  ·
    have qh1 := nlt_i h1
    have j3 : Iv 0 2147483647 a0 := r_ler qh1 a1_h (iv_full a0) (by decide)
    refine lv_iload_n hx hb dX12_in_5 rfl (lv_at hl 0 rfl) ?_
    refine lv_iload_n hx hb dX12_in_6 rfl (lv_at hl 2 rfl) ?_
    refine lv_icmp_gt (tgt := 14) hx hb dX12_in_7 (by decide) (fun h4 => ?_) (fun h4 => ?_)
    ·
      have qh4 := lt_i h4
      have j5 : Iv 1 2147483647 a0 := r_ltr qh4 a2_h j3 (by decide)
      refine lv_iconst (v := 0) hx hb dX12_in_14 (by decide) ?_
      rw [hQ]
      exact W.zret (v := 0) (ty := .boolean) hx hb hr rfl (fun t ht hW => ⟨⟨0, (), rfl, ⟨(iv_w ik_0 (by decide)), (fun h8 => absurd rfl h8), (fun h8 => absurd rfl h8)⟩, by rw [ht]; exact hP, va_K.moved hW.alike hK, hD⟩, hS.F ht⟩) hS.2.2 dX12_in_15
    ·
      have qh4 := nlt_i h4
      have j6 : Iv 0 255 a0 := r_lel qh4 j3 a2_h (by decide)
      refine lv_iconst (v := 1) hx hb dX12_in_10 (by decide) ?_
      refine lv_goto (tgt := 15) hx hb dX12_in_11 (by decide) ?_
      rw [hQ]
      exact W.zret (v := 1) (ty := .boolean) hx hb hr rfl (fun t ht hW => ⟨⟨1, (), rfl, ⟨(iv_w ik_1 (by decide)), (fun _ => j6), (fun _ => ⟨qh1, qh4⟩)⟩, by rw [ht]; exact hP, va_K.moved hW.alike hK, hD⟩, hS.F ht⟩) hS.2.2 dX12_in_15
