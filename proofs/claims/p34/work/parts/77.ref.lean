theorem hm_X12_least_1 : (.fieldLink RX12 42 "HolelessHouseModel" "least" "[I" : Cond) ∈ wsX12_least := List.mem_of_getElem? (i := 1) rfl
theorem hm_X12_least_2 : (.fieldLink RX12 73 "HolelessHouseModel" "n" "I" : Cond) ∈ wsX12_least := List.mem_of_getElem? (i := 2) rfl
theorem hm_X12_order_1 : (.fieldLink RX12 28 "HolelessHouseModel" "ordered" "I" : Cond) ∈ wsX12_order := List.mem_of_getElem? (i := 1) rfl
theorem hm_X12_order_2 : (.fieldLink RX12 25 "HolelessHouseModel" "order" "[I" : Cond) ∈ wsX12_order := List.mem_of_getElem? (i := 2) rfl
theorem hm_X12_about_1 : (.fieldLink RX12 28 "HolelessHouseModel" "ordered" "I" : Cond) ∈ wsX12_about := List.mem_of_getElem? (i := 1) rfl
theorem hm_X12_about_2 : (.fieldLink RX12 134 "HolelessHouseModel" "orderFill" "I" : Cond) ∈ wsX12_about := List.mem_of_getElem? (i := 2) rfl
theorem hm_X12_about_3 : (.fieldLink RX12 137 "HolelessHouseModel" "orderWidth" "I" : Cond) ∈ wsX12_about := List.mem_of_getElem? (i := 3) rfl
theorem hm_X12_fill_1 : (.fieldLink RX12 28 "HolelessHouseModel" "ordered" "I" : Cond) ∈ wsX12_fill := List.mem_of_getElem? (i := 1) rfl
theorem hm_X12_fill_2 : (.fieldLink RX12 73 "HolelessHouseModel" "n" "I" : Cond) ∈ wsX12_fill := List.mem_of_getElem? (i := 2) rfl
theorem hm_X12_fill_5 : (.fieldLink RX12 134 "HolelessHouseModel" "orderFill" "I" : Cond) ∈ wsX12_fill := List.mem_of_getElem? (i := 5) rfl
theorem hm_X12_fill_3 : (.fieldLink RX12 13 "HolelessHouseModel" "near" "[I" : Cond) ∈ wsX12_fill := List.mem_of_getElem? (i := 3) rfl
theorem hm_X12_fill_4 : (.fieldLink RX12 35 "HolelessHouseModel" "joins" "[I" : Cond) ∈ wsX12_fill := List.mem_of_getElem? (i := 4) rfl
theorem hm_X12_isGreat_1 : (.fieldLink RX12 73 "HolelessHouseModel" "n" "I" : Cond) ∈ wsX12_isGreat := List.mem_of_getElem? (i := 1) rfl
theorem hm_X12_isGreat_2 : (.fieldLink RX12 13 "HolelessHouseModel" "near" "[I" : Cond) ∈ wsX12_isGreat := List.mem_of_getElem? (i := 2) rfl
theorem iw_X12_least_X12 : ∀ w ∈ wsX120, w ∈ wsX12_least := fun _ h => List.mem_cons.mpr (Or.inr (List.mem_append.mpr (Or.inr h)))
set_option maxHeartbeats 4000000 in
set_option maxRecDepth 100000 in
theorem kX12_least_1 (l : Launch) (dC : Nat → ClassId) (dI : Nat → Nat → Nat) (cI c2 cZ : ClassId) (o1 : Nat) (o3 : Nat) (o6 : Nat) (o9 : Nat) (o11 : Nat) (o14 : Nat) (o17 : Nat) (o22 : Nat) (o24 : Nat) (o26 : Nat) (o28 : Nat) (o30 : Nat) (o33 : Nat) (o35 : Nat) (o37 : Nat) (o40 : Nat) (o42 : Nat) (o44 : Nat) (o47 : Nat) (v2 : Int32) (v5 : Int32) (fw7 : Nat → Int32) (v8 : Int32) (v13 : Int32) (v16 : Int32) (fw18 : Nat → Int32) (v19 : Int32) (v20 : Int32) (v21 : Int32) (fw23 : Nat → Int32) (fw25 : Nat → Int32) (fw27 : Nat → Int32) (fw29 : Nat → Int32) (v32 : Int32) (v39 : Int32) (v46 : Int32) (a1 : Int32) (sz : Nat) (v5_h : Iv 0 12 v5) (fw7_b : Bd 12 0 4095 fw7) (v8_h : Iv 0 8 v8) (v13_h : Iv 0 12 v13) (v16_h : Iv 0 12 v16) (fw18_b : Bd 12 0 11 fw18) (v19_h : Iv (-9) 12 v19) (fw23_b : Bd 12 0 4095 fw23) (fw25_b : Bd 12 0 4095 fw25) (fw27_b : Bd 49152 0 4095 fw27) (v32_h : Iv 0 99 v32) (v39_h : Iv 0 12 v39) (v46_h : Iv 0 12 v46) : Met l yX12_least wsX12_least ({ frames := 3, cells := 0, slots := 0, locals := 73 }) (va_Pc [.ref o1, .int a1] (wPre (dC, dI) [(cI, .int), (c2, .array .int), (cZ, .boolean)] ([(o1, .inr (12, [.int v2, .ref o3, .int v5, .ref o6, .int v8, .ref o9, .ref o11, .int v13, .ref o14, .int v16, .ref o17, .int v19, .int v20, .int v21, .ref o22, .ref o24, .ref o26, .ref o28, .ref o30, .int v32, .ref o33, .ref o35, .ref o37, .int v39, .ref o40, .ref o42, .ref o44, .int v46, .ref o47])), (o6, .inl (cI, 12, .inl fw7)), (o26, .inl (cI, 49152, .inl fw27)), (o28, .inl (cI, 4096, .inl fw29)), (o22, .inl (cI, 12, .inl fw23)), (o24, .inl (cI, 12, .inl fw25)), (o17, .inl (cI, 12, .inl fw18))]) sz)) (va_Qi (fun (r : Int32) (u : Int32 × Int32 × Int32 × (Nat → Int32) × (Nat → Int32) × (Nat → Int32) × (Nat → Int32) × (Nat → Int32)) => Iv (-9) 12 u.1 ∧ Bd 49152 0 4095 u.2.2.2.1 ∧ Bd 12 0 4095 u.2.2.2.2.2.1 ∧ Bd 12 0 4095 u.2.2.2.2.2.2.1 ∧ Bd 12 0 11 u.2.2.2.2.2.2.2) (fun u t => wPost (dC, dI) [(cI, .int), (c2, .array .int), (cZ, .boolean)] (va_A ([(o1, .inr (12, [.int v2, .ref o3, .int v5, .ref o6, .int v8, .ref o9, .ref o11, .int v13, .ref o14, .int v16, .ref o17, .int v19, .int v20, .int v21, .ref o22, .ref o24, .ref o26, .ref o28, .ref o30, .int v32, .ref o33, .ref o35, .ref o37, .int v39, .ref o40, .ref o42, .ref o44, .int v46, .ref o47])), (o6, .inl (cI, 12, .inl fw7)), (o26, .inl (cI, 49152, .inl fw27)), (o28, .inl (cI, 4096, .inl fw29)), (o22, .inl (cI, 12, .inl fw23)), (o24, .inl (cI, 12, .inl fw25)), (o17, .inl (cI, 12, .inl fw18))]) sz) ([(o1, .inr (12, [.int v2, .ref o3, .int v5, .ref o6, .int v8, .ref o9, .ref o11, .int v13, .ref o14, .int v16, .ref o17, .int u.1, .int u.2.1, .int u.2.2.1, .ref o22, .ref o24, .ref o26, .ref o28, .ref o30, .int v32, .ref o33, .ref o35, .ref o37, .int v39, .ref o40, .ref o42, .ref o44, .int v46, .ref o47])), (o6, .inl (cI, 12, .inl fw7)), (o26, .inl (cI, 49152, .inl u.2.2.2.1)), (o28, .inl (cI, 4096, .inl u.2.2.2.2.1)), (o22, .inl (cI, 12, .inl u.2.2.2.2.2.1)), (o24, .inl (cI, 12, .inl u.2.2.2.2.2.2.1)), (o17, .inl (cI, 12, .inl u.2.2.2.2.2.2.2))]) t) (va_A ([(o1, .inr (12, [.int v2, .ref o3, .int v5, .ref o6, .int v8, .ref o9, .ref o11, .int v13, .ref o14, .int v16, .ref o17, .int v19, .int v20, .int v21, .ref o22, .ref o24, .ref o26, .ref o28, .ref o30, .int v32, .ref o33, .ref o35, .ref o37, .int v39, .ref o40, .ref o42, .ref o44, .int v46, .ref o47])), (o6, .inl (cI, 12, .inl fw7)), (o26, .inl (cI, 49152, .inl fw27)), (o28, .inl (cI, 4096, .inl fw29)), (o22, .inl (cI, 12, .inl fw23)), (o24, .inl (cI, 12, .inl fw25)), (o17, .inl (cI, 12, .inl fw18))]) sz)) 0 0 (va_A ([(o1, .inr (12, [.int v2, .ref o3, .int v5, .ref o6, .int v8, .ref o9, .ref o11, .int v13, .ref o14, .int v16, .ref o17, .int v19, .int v20, .int v21, .ref o22, .ref o24, .ref o26, .ref o28, .ref o30, .int v32, .ref o33, .ref o35, .ref o37, .int v39, .ref o40, .ref o42, .ref o44, .int v46, .ref o47])), (o6, .inl (cI, 12, .inl fw7)), (o26, .inl (cI, 49152, .inl fw27)), (o28, .inl (cI, 4096, .inl fw29)), (o22, .inl (cI, 12, .inl fw23)), (o24, .inl (cI, 12, .inl fw25)), (o17, .inl (cI, 12, .inl fw18))]) sz) := by
  refine Met.ofW (cc := cX12_least) (maxL := 5) (ret := (some .int)) (by decide) rfl ?_
  intro p e s m args below meth c s₁ B hml hv
  obtain ⟨rfl, hsz, hP, hK, hD0, hN⟩ := hv
  have hx := B.exec
  have hb := B.bytes
  have hr := B.returns
  have hts := atoms_spec (ws := wsX12_least) B.pre
  have hown : s.vm.findClass RX12 = some m.cls := findClass_of_methodNamed B.named
  have hlocks := B.notSynchronized
  subst hsz
  have hD := hD0.self (sz := s.heap.size)
  generalize hAe : va_A ([(o1, .inr (12, [.int v2, .ref o3, .int v5, .ref o6, .int v8, .ref o9, .ref o11, .int v13, .ref o14, .int v16, .ref o17, .int v19, .int v20, .int v21, .ref o22, .ref o24, .ref o26, .ref o28, .ref o30, .int v32, .ref o33, .ref o35, .ref o37, .int v39, .ref o40, .ref o42, .ref o44, .int v46, .ref o47])), (o6, .inl (cI, 12, .inl fw7)), (o26, .inl (cI, 49152, .inl fw27)), (o28, .inl (cI, 4096, .inl fw29)), (o22, .inl (cI, 12, .inl fw23)), (o24, .inl (cI, 12, .inl fw25)), (o17, .inl (cI, 12, .inl fw18))]) s.heap.size = A at hD ⊢
  have hA : ∀ q : Nat, s.heap.size ≤ q → A q := fun q h => by rw [← hAe]; exact Or.inr h
  have hS : va_S A s.heap s.heap [] := va_S.rf
  have hP : va_P (dC, dI) vwCl ([(o1, .inr (12, [.int v2, .ref o3, .int v5, .ref o6, .int v8, .ref o9, .ref o11, .int v13, .ref o14, .int v16, .ref o17, .int v19, .int v20, .int v21, .ref o22, .ref o24, .ref o26, .ref o28, .ref o30, .int v32, .ref o33, .ref o35, .ref o37, .int v39, .ref o40, .ref o42, .ref o44, .int v46, .ref o47])), (o6, .inl (cI, 12, .inl fw7)), (o26, .inl (cI, 49152, .inl fw27)), (o28, .inl (cI, 4096, .inl fw29)), (o22, .inl (cI, 12, .inl fw23)), (o24, .inl (cI, 12, .inl fw25)), (o17, .inl (cI, 12, .inl fw18))]) s.heap := hP
  have hl := lv_entry ([.ref o1, .int a1]) (n := 5) (Nat.le_of_ble_eq_true rfl)
  rw [lg_entry_eq]
  generalize (lg_sl ([.ref o1, .int a1]) ++ List.replicate (5 - (lg_sl ([.ref o1, .int a1])).length) Slot.unset).toArray = ls at hl ⊢
  have hl : lv_has ls 5 [(0, .ref o1), (1, .int a1)] := hl
  refine gen_Q (fun Q hQ => ?_)
  refine lv_iload_n hx hb dX12_least_0 rfl (lv_at hl 1 rfl) ?_
  refine lv_iconst (v := 0) hx hb dX12_least_1 (by decide) ?_
  refine lv_iconst (v := 1) hx hb dX12_least_2 (by decide) ?_
  refine kc_i (D := (dC, dI)) (S := Unit) (wc := []) (wr := [(o1, .inr (12, [.int v2, .ref o3, .int v5, .ref o6, .int v8, .ref o9, .ref o11, .int v13, .ref o14, .int v16, .ref o17, .int v19, .int v20, .int v21, .ref o22, .ref o24, .ref o26, .ref o28, .ref o30, .int v32, .ref o33, .ref o35, .ref o37, .int v39, .ref o40, .ref o42, .ref o44, .int v46, .ref o47])), (o6, .inl (cI, 12, .inl fw7)), (o26, .inl (cI, 49152, .inl fw27)), (o28, .inl (cI, 4096, .inl fw29)), (o22, .inl (cI, 12, .inl fw23)), (o24, .inl (cI, 12, .inl fw25)), (o17, .inl (cI, 12, .inl fw18))]) (w1 := fun _ => []) (wn := fun _ => [(o1, .inr (12, [.int v2, .ref o3, .int v5, .ref o6, .int v8, .ref o9, .ref o11, .int v13, .ref o14, .int v16, .ref o17, .int v19, .int v20, .int v21, .ref o22, .ref o24, .ref o26, .ref o28, .ref o30, .int v32, .ref o33, .ref o35, .ref o37, .int v39, .ref o40, .ref o42, .ref o44, .int v46, .ref o47])), (o6, .inl (cI, 12, .inl fw7)), (o26, .inl (cI, 49152, .inl fw27)), (o28, .inl (cI, 4096, .inl fw29)), (o22, .inl (cI, 12, .inl fw23)), (o24, .inl (cI, 12, .inl fw25)), (o17, .inl (cI, 12, .inl fw18))]) (fun hPc hDc => va_runS (As := [.int a1, .int 0, .int 1]) (rest := []) ⟨hx, hb, hml, hown, hts⟩ (kX12_in_5 l dC dI cI c2 cZ a1 0 1 s.heap.size ik_0 ik_1) (va_cwS 3 hts gX12_least_X12_in rfl rfl rfl (by decide +kernel) ⟨Nat.le_of_ble_eq_true rfl, Nat.le_of_ble_eq_true rfl⟩) (pre_S hPc hK hDc hN) rfl rfl hl.1 rfl (lv_room (Nat.le_of_ble_eq_true rfl)) dX12_least_3 ⟨Nat.le_of_ble_eq_true rfl, Nat.le_of_ble_eq_true rfl⟩) hP hD hS hA [] [0, 1, 2, 3, 4, 5, 6] [0, 1, 2, 3, 4, 5, 6] rfl rfl (by decide +kernel) (by decide +kernel) (by decide +kernel) (by decide +kernel) (fun _ => rfl) (fun x1 _ H locs hq hP hD hS => ?_)
  obtain ⟨x1_h, i2, e3⟩ := hq
  have hP : va_P (dC, dI) vwCl ([(o1, .inr (12, [.int v2, .ref o3, .int v5, .ref o6, .int v8, .ref o9, .ref o11, .int v13, .ref o14, .int v16, .ref o17, .int v19, .int v20, .int v21, .ref o22, .ref o24, .ref o26, .ref o28, .ref o30, .int v32, .ref o33, .ref o35, .ref o37, .int v39, .ref o40, .ref o42, .ref o44, .int v46, .ref o47])), (o6, .inl (cI, 12, .inl fw7)), (o26, .inl (cI, 49152, .inl fw27)), (o28, .inl (cI, 4096, .inl fw29)), (o22, .inl (cI, 12, .inl fw23)), (o24, .inl (cI, 12, .inl fw25)), (o17, .inl (cI, 12, .inl fw18))]) H := hP
  have hD : va_D A ([(o1, .inr (12, [.int v2, .ref o3, .int v5, .ref o6, .int v8, .ref o9, .ref o11, .int v13, .ref o14, .int v16, .ref o17, .int v19, .int v20, .int v21, .ref o22, .ref o24, .ref o26, .ref o28, .ref o30, .int v32, .ref o33, .ref o35, .ref o37, .int v39, .ref o40, .ref o42, .ref o44, .int v46, .ref o47])), (o6, .inl (cI, 12, .inl fw7)), (o26, .inl (cI, 49152, .inl fw27)), (o28, .inl (cI, 4096, .inl fw29)), (o22, .inl (cI, 12, .inl fw23)), (o24, .inl (cI, 12, .inl fw25)), (o17, .inl (cI, 12, .inl fw18))]) := hD
  refine lv_if_ne (tgt := 11) hx hb dX12_least_6 (by decide) (fun h4 => ?_) (fun h4 => ?_)
  ·
    have j5 : Iv 1 1 x1 := r_nelo h4 x1_h ik_0 (by decide)
    have j6 : Iv 0 1 a1 := i2 h4
    refine lv_aload_n hx hb dX12_least_11 rfl (lv_at hl 0 rfl) ?_
    refine kc_v (D := (dC, dI)) (S := (Nat → Int32)) (wc := [(o1, .inr (12, [.int v2, .ref o3, .int v5, .ref o6, .int v8, .ref o9, .ref o11, .int v13, .ref o14, .int v16, .ref o17, .int v19, .int v20, .int v21, .ref o22, .ref o24, .ref o26, .ref o28, .ref o30, .int v32, .ref o33, .ref o35, .ref o37, .int v39, .ref o40, .ref o42, .ref o44, .int v46, .ref o47])), (o6, .inl (cI, 12, .inl fw7)), (o26, .inl (cI, 49152, .inl fw27))]) (wr := [(o28, .inl (cI, 4096, .inl fw29)), (o22, .inl (cI, 12, .inl fw23)), (o24, .inl (cI, 12, .inl fw25)), (o17, .inl (cI, 12, .inl fw18))]) (w1 := fun u => [(o1, .inr (12, [.int v2, .ref o3, .int v5, .ref o6, .int v8, .ref o9, .ref o11, .int v13, .ref o14, .int v16, .ref o17, .int v19, .int v20, .int v21, .ref o22, .ref o24, .ref o26, .ref o28, .ref o30, .int v32, .ref o33, .ref o35, .ref o37, .int v39, .ref o40, .ref o42, .ref o44, .int v46, .ref o47])), (o6, .inl (cI, 12, .inl fw7)), (o26, .inl (cI, 49152, .inl u))]) (wn := fun u => [(o1, .inr (12, [.int v2, .ref o3, .int v5, .ref o6, .int v8, .ref o9, .ref o11, .int v13, .ref o14, .int v16, .ref o17, .int v19, .int v20, .int v21, .ref o22, .ref o24, .ref o26, .ref o28, .ref o30, .int v32, .ref o33, .ref o35, .ref o37, .int v39, .ref o40, .ref o42, .ref o44, .int v46, .ref o47])), (o6, .inl (cI, 12, .inl fw7)), (o26, .inl (cI, 49152, .inl u)), (o28, .inl (cI, 4096, .inl fw29)), (o22, .inl (cI, 12, .inl fw23)), (o24, .inl (cI, 12, .inl fw25)), (o17, .inl (cI, 12, .inl fw18))]) (fun hPc hDc => va_runV (As := []) (rest := []) ⟨hx, hb, hml, hown, hts⟩ (kX12_setThen_1 l dC dI cI c2 cZ o1 o3 o6 o9 o11 o14 o17 o22 o24 o26 o28 o30 o33 o35 o37 o40 o42 o44 o47 v2 v5 fw7 v8 v13 v16 v19 v20 v21 fw27 v32 v39 v46 H.size v5_h fw7_b v8_h v13_h v16_h v19_h fw27_b v32_h v39_h v46_h) (cwV 0 hts gX12_least_X12_setThen rfl rfl rfl (by decide +kernel) ⟨Nat.le_of_ble_eq_true rfl, Nat.le_of_ble_eq_true rfl⟩) (pre_V hPc hK hDc hN (ci := 12) (q0 := 0) rfl rfl) rfl rfl hl.1 rfl (lv_room (Nat.le_of_ble_eq_true rfl)) dX12_least_12 ⟨Nat.le_of_ble_eq_true rfl, Nat.le_of_ble_eq_true rfl⟩) hP hD hS hA [0, 1, 2] [3, 4, 5, 6] [4, 5, 6, 0, 1, 2, 3] rfl rfl (by decide +kernel) (by decide +kernel) (by decide +kernel) (by decide +kernel) (fun _ => rfl) (fun f7 H locs hq hP hD hS => ?_)
    have f7_b := hq
    have hP : va_P (dC, dI) vwCl ([(o1, .inr (12, [.int v2, .ref o3, .int v5, .ref o6, .int v8, .ref o9, .ref o11, .int v13, .ref o14, .int v16, .ref o17, .int v19, .int v20, .int v21, .ref o22, .ref o24, .ref o26, .ref o28, .ref o30, .int v32, .ref o33, .ref o35, .ref o37, .int v39, .ref o40, .ref o42, .ref o44, .int v46, .ref o47])), (o6, .inl (cI, 12, .inl fw7)), (o26, .inl (cI, 49152, .inl f7)), (o28, .inl (cI, 4096, .inl fw29)), (o22, .inl (cI, 12, .inl fw23)), (o24, .inl (cI, 12, .inl fw25)), (o17, .inl (cI, 12, .inl fw18))]) H := hP
    have hD : va_D A ([(o1, .inr (12, [.int v2, .ref o3, .int v5, .ref o6, .int v8, .ref o9, .ref o11, .int v13, .ref o14, .int v16, .ref o17, .int v19, .int v20, .int v21, .ref o22, .ref o24, .ref o26, .ref o28, .ref o30, .int v32, .ref o33, .ref o35, .ref o37, .int v39, .ref o40, .ref o42, .ref o44, .int v46, .ref o47])), (o6, .inl (cI, 12, .inl fw7)), (o26, .inl (cI, 49152, .inl f7)), (o28, .inl (cI, 4096, .inl fw29)), (o22, .inl (cI, 12, .inl fw23)), (o24, .inl (cI, 12, .inl fw25)), (o17, .inl (cI, 12, .inl fw18))]) := hD
    refine lv_aload_n hx hb dX12_least_15 rfl (lv_at hl 0 rfl) ?_
    refine va_get (D := (dC, dI)) (ci := 12) (v := .ref o28) (C := RX12) (T := TX12) (N := 29) hx hb hts iw_X12_least_X12 hown hK hP 0 rfl rfl 17 (by decide) (hts (.fieldLink RX12 42 "HolelessHouseModel" "least" "[I") hm_X12_least_1) (fun _ h9 => h9) rfl dX12_least_16 ?_
    refine lv_aload_n hx hb dX12_least_19 rfl (lv_at hl 0 rfl) ?_
    refine kc_i (D := (dC, dI)) (S := Unit) (wc := [(o1, .inr (12, [.int v2, .ref o3, .int v5, .ref o6, .int v8, .ref o9, .ref o11, .int v13, .ref o14, .int v16, .ref o17, .int v19, .int v20, .int v21, .ref o22, .ref o24, .ref o26, .ref o28, .ref o30, .int v32, .ref o33, .ref o35, .ref o37, .int v39, .ref o40, .ref o42, .ref o44, .int v46, .ref o47]))]) (wr := [(o6, .inl (cI, 12, .inl fw7)), (o26, .inl (cI, 49152, .inl f7)), (o28, .inl (cI, 4096, .inl fw29)), (o22, .inl (cI, 12, .inl fw23)), (o24, .inl (cI, 12, .inl fw25)), (o17, .inl (cI, 12, .inl fw18))]) (w1 := fun _ => [(o1, .inr (12, [.int v2, .ref o3, .int v5, .ref o6, .int v8, .ref o9, .ref o11, .int v13, .ref o14, .int v16, .ref o17, .int v19, .int v20, .int v21, .ref o22, .ref o24, .ref o26, .ref o28, .ref o30, .int v32, .ref o33, .ref o35, .ref o37, .int v39, .ref o40, .ref o42, .ref o44, .int v46, .ref o47]))]) (wn := fun _ => [(o1, .inr (12, [.int v2, .ref o3, .int v5, .ref o6, .int v8, .ref o9, .ref o11, .int v13, .ref o14, .int v16, .ref o17, .int v19, .int v20, .int v21, .ref o22, .ref o24, .ref o26, .ref o28, .ref o30, .int v32, .ref o33, .ref o35, .ref o37, .int v39, .ref o40, .ref o42, .ref o44, .int v46, .ref o47])), (o6, .inl (cI, 12, .inl fw7)), (o26, .inl (cI, 49152, .inl f7)), (o28, .inl (cI, 4096, .inl fw29)), (o22, .inl (cI, 12, .inl fw23)), (o24, .inl (cI, 12, .inl fw25)), (o17, .inl (cI, 12, .inl fw18))]) (fun hPc hDc => va_runV (As := []) (rest := [.ref o28]) ⟨hx, hb, hml, hown, hts⟩ (kX12_all_1 l dC dI cI c2 cZ o1 o3 o6 o9 o11 o14 o17 o22 o24 o26 o28 o30 o33 o35 o37 o40 o42 o44 o47 v2 v5 v8 v13 v16 v19 v20 v21 v32 v39 v46 H.size v5_h v8_h v13_h v16_h v19_h v32_h v39_h v46_h) (cwV 0 hts gX12_least_X12_all rfl rfl rfl (by decide +kernel) ⟨Nat.le_of_ble_eq_true rfl, Nat.le_of_ble_eq_true rfl⟩) (pre_V hPc hK hDc hN (ci := 12) (q0 := 0) rfl rfl) rfl rfl hl.1 rfl (lv_room (Nat.le_of_ble_eq_true rfl)) dX12_least_20 ⟨Nat.le_of_ble_eq_true rfl, Nat.le_of_ble_eq_true rfl⟩) hP hD hS hA [0] [1, 2, 3, 4, 5, 6] [6, 0, 1, 2, 3, 4, 5] rfl rfl (by decide +kernel) (by decide +kernel) (by decide +kernel) (by decide +kernel) (fun _ => rfl) (fun x8 _ H locs hq hP hD hS => ?_)
    obtain ⟨x8_h, e9⟩ := hq
    have hP : va_P (dC, dI) vwCl ([(o1, .inr (12, [.int v2, .ref o3, .int v5, .ref o6, .int v8, .ref o9, .ref o11, .int v13, .ref o14, .int v16, .ref o17, .int v19, .int v20, .int v21, .ref o22, .ref o24, .ref o26, .ref o28, .ref o30, .int v32, .ref o33, .ref o35, .ref o37, .int v39, .ref o40, .ref o42, .ref o44, .int v46, .ref o47])), (o6, .inl (cI, 12, .inl fw7)), (o26, .inl (cI, 49152, .inl f7)), (o28, .inl (cI, 4096, .inl fw29)), (o22, .inl (cI, 12, .inl fw23)), (o24, .inl (cI, 12, .inl fw25)), (o17, .inl (cI, 12, .inl fw18))]) H := hP
    have hD : va_D A ([(o1, .inr (12, [.int v2, .ref o3, .int v5, .ref o6, .int v8, .ref o9, .ref o11, .int v13, .ref o14, .int v16, .ref o17, .int v19, .int v20, .int v21, .ref o22, .ref o24, .ref o26, .ref o28, .ref o30, .int v32, .ref o33, .ref o35, .ref o37, .int v39, .ref o40, .ref o42, .ref o44, .int v46, .ref o47])), (o6, .inl (cI, 12, .inl fw7)), (o26, .inl (cI, 49152, .inl f7)), (o28, .inl (cI, 4096, .inl fw29)), (o22, .inl (cI, 12, .inl fw23)), (o24, .inl (cI, 12, .inl fw25)), (o17, .inl (cI, 12, .inl fw18))]) := hD
    refine lv_iconst (v := 0) hx hb dX12_least_23 (by decide) ?_
    refine k_iast hx hb hK hP hD hS 3 0 rfl rfl (vin_iv x8_h (by decide)) dX12_least_24 (fun f10 H locs f10_e hP hD hS => ?_)
    have hP : va_P (dC, dI) vwCl ([(o1, .inr (12, [.int v2, .ref o3, .int v5, .ref o6, .int v8, .ref o9, .ref o11, .int v13, .ref o14, .int v16, .ref o17, .int v19, .int v20, .int v21, .ref o22, .ref o24, .ref o26, .ref o28, .ref o30, .int v32, .ref o33, .ref o35, .ref o37, .int v39, .ref o40, .ref o42, .ref o44, .int v46, .ref o47])), (o6, .inl (cI, 12, .inl fw7)), (o26, .inl (cI, 49152, .inl f7)), (o28, .inl (cI, 4096, .inl f10)), (o22, .inl (cI, 12, .inl fw23)), (o24, .inl (cI, 12, .inl fw25)), (o17, .inl (cI, 12, .inl fw18))]) H := hP
    have hD : va_D A ([(o1, .inr (12, [.int v2, .ref o3, .int v5, .ref o6, .int v8, .ref o9, .ref o11, .int v13, .ref o14, .int v16, .ref o17, .int v19, .int v20, .int v21, .ref o22, .ref o24, .ref o26, .ref o28, .ref o30, .int v32, .ref o33, .ref o35, .ref o37, .int v39, .ref o40, .ref o42, .ref o44, .int v46, .ref o47])), (o6, .inl (cI, 12, .inl fw7)), (o26, .inl (cI, 49152, .inl f7)), (o28, .inl (cI, 4096, .inl f10)), (o22, .inl (cI, 12, .inl fw23)), (o24, .inl (cI, 12, .inl fw25)), (o17, .inl (cI, 12, .inl fw18))]) := hD
    refine lv_aload_n hx hb dX12_least_25 rfl (lv_at hl 0 rfl) ?_
    refine kc_i (D := (dC, dI)) (S := Unit) (wc := [(o1, .inr (12, [.int v2, .ref o3, .int v5, .ref o6, .int v8, .ref o9, .ref o11, .int v13, .ref o14, .int v16, .ref o17, .int v19, .int v20, .int v21, .ref o22, .ref o24, .ref o26, .ref o28, .ref o30, .int v32, .ref o33, .ref o35, .ref o37, .int v39, .ref o40, .ref o42, .ref o44, .int v46, .ref o47]))]) (wr := [(o6, .inl (cI, 12, .inl fw7)), (o26, .inl (cI, 49152, .inl f7)), (o28, .inl (cI, 4096, .inl f10)), (o22, .inl (cI, 12, .inl fw23)), (o24, .inl (cI, 12, .inl fw25)), (o17, .inl (cI, 12, .inl fw18))]) (w1 := fun _ => [(o1, .inr (12, [.int v2, .ref o3, .int v5, .ref o6, .int v8, .ref o9, .ref o11, .int v13, .ref o14, .int v16, .ref o17, .int v19, .int v20, .int v21, .ref o22, .ref o24, .ref o26, .ref o28, .ref o30, .int v32, .ref o33, .ref o35, .ref o37, .int v39, .ref o40, .ref o42, .ref o44, .int v46, .ref o47]))]) (wn := fun _ => [(o1, .inr (12, [.int v2, .ref o3, .int v5, .ref o6, .int v8, .ref o9, .ref o11, .int v13, .ref o14, .int v16, .ref o17, .int v19, .int v20, .int v21, .ref o22, .ref o24, .ref o26, .ref o28, .ref o30, .int v32, .ref o33, .ref o35, .ref o37, .int v39, .ref o40, .ref o42, .ref o44, .int v46, .ref o47])), (o6, .inl (cI, 12, .inl fw7)), (o26, .inl (cI, 49152, .inl f7)), (o28, .inl (cI, 4096, .inl f10)), (o22, .inl (cI, 12, .inl fw23)), (o24, .inl (cI, 12, .inl fw25)), (o17, .inl (cI, 12, .inl fw18))]) (fun hPc hDc => va_runV (As := []) (rest := []) ⟨hx, hb, hml, hown, hts⟩ (kX12_all_1 l dC dI cI c2 cZ o1 o3 o6 o9 o11 o14 o17 o22 o24 o26 o28 o30 o33 o35 o37 o40 o42 o44 o47 v2 v5 v8 v13 v16 v19 v20 v21 v32 v39 v46 H.size v5_h v8_h v13_h v16_h v19_h v32_h v39_h v46_h) (cwV 0 hts gX12_least_X12_all rfl rfl rfl (by decide +kernel) ⟨Nat.le_of_ble_eq_true rfl, Nat.le_of_ble_eq_true rfl⟩) (pre_V hPc hK hDc hN (ci := 12) (q0 := 0) rfl rfl) rfl rfl hl.1 rfl (lv_room (Nat.le_of_ble_eq_true rfl)) dX12_least_26 ⟨Nat.le_of_ble_eq_true rfl, Nat.le_of_ble_eq_true rfl⟩) hP hD hS hA [0] [1, 2, 3, 4, 5, 6] [6, 0, 1, 2, 3, 4, 5] rfl rfl (by decide +kernel) (by decide +kernel) (by decide +kernel) (by decide +kernel) (fun _ => rfl) (fun x11 _ H locs hq hP hD hS => ?_)
    obtain ⟨x11_h, e12⟩ := hq
    have hP : va_P (dC, dI) vwCl ([(o1, .inr (12, [.int v2, .ref o3, .int v5, .ref o6, .int v8, .ref o9, .ref o11, .int v13, .ref o14, .int v16, .ref o17, .int v19, .int v20, .int v21, .ref o22, .ref o24, .ref o26, .ref o28, .ref o30, .int v32, .ref o33, .ref o35, .ref o37, .int v39, .ref o40, .ref o42, .ref o44, .int v46, .ref o47])), (o6, .inl (cI, 12, .inl fw7)), (o26, .inl (cI, 49152, .inl f7)), (o28, .inl (cI, 4096, .inl f10)), (o22, .inl (cI, 12, .inl fw23)), (o24, .inl (cI, 12, .inl fw25)), (o17, .inl (cI, 12, .inl fw18))]) H := hP
    have hD : va_D A ([(o1, .inr (12, [.int v2, .ref o3, .int v5, .ref o6, .int v8, .ref o9, .ref o11, .int v13, .ref o14, .int v16, .ref o17, .int v19, .int v20, .int v21, .ref o22, .ref o24, .ref o26, .ref o28, .ref o30, .int v32, .ref o33, .ref o35, .ref o37, .int v39, .ref o40, .ref o42, .ref o44, .int v46, .ref o47])), (o6, .inl (cI, 12, .inl fw7)), (o26, .inl (cI, 49152, .inl f7)), (o28, .inl (cI, 4096, .inl f10)), (o22, .inl (cI, 12, .inl fw23)), (o24, .inl (cI, 12, .inl fw25)), (o17, .inl (cI, 12, .inl fw18))]) := hD
    refine lv_iconst (v := 1) hx hb dX12_least_29 (by decide) ?_
    refine lv_isub hx hb dX12_least_30 (lv_topi (fun x13 x13_e => ?_))
    have x13_h : Iv (-1) 4094 x13 := iv_e x13_e (iv_sub x11_h ik_1 (by decide))
    refine lv_istore_n (lv' := [(2, .int x13), (0, .ref o1), (1, .int a1)]) hx hb dX12_least_31 rfl hl (by decide) rfl (fun ls hl => ?_)
    have L3 : ∀ (N : Nat) (x468 : Int32) (f469 : Nat → Int32) (H : Heap) (locs : List Loc) (ls : Array Slot), (x468.toInt - (-1)).toNat < N → Iv (-1) 4094 x468 → (DPx f7 f469 (Int32.toNatClampNeg v5) a1 (Int32.toInt x468)) → (Int32.toInt x468 < Int32.toInt x11) → va_P (dC, dI) vwCl ([(o1, .inr (12, [.int v2, .ref o3, .int v5, .ref o6, .int v8, .ref o9, .ref o11, .int v13, .ref o14, .int v16, .ref o17, .int v19, .int v20, .int v21, .ref o22, .ref o24, .ref o26, .ref o28, .ref o30, .int v32, .ref o33, .ref o35, .ref o37, .int v39, .ref o40, .ref o42, .ref o44, .int v46, .ref o47])), (o6, .inl (cI, 12, .inl fw7)), (o26, .inl (cI, 49152, .inl f7)), (o28, .inl (cI, 4096, .inl f469)), (o22, .inl (cI, 12, .inl fw23)), (o24, .inl (cI, 12, .inl fw25)), (o17, .inl (cI, 12, .inl fw18))]) H → va_D A ([(o1, .inr (12, [.int v2, .ref o3, .int v5, .ref o6, .int v8, .ref o9, .ref o11, .int v13, .ref o14, .int v16, .ref o17, .int v19, .int v20, .int v21, .ref o22, .ref o24, .ref o26, .ref o28, .ref o30, .int v32, .ref o33, .ref o35, .ref o37, .int v39, .ref o40, .ref o42, .ref o44, .int v46, .ref o47])), (o6, .inl (cI, 12, .inl fw7)), (o26, .inl (cI, 49152, .inl f7)), (o28, .inl (cI, 4096, .inl f469)), (o22, .inl (cI, 12, .inl fw23)), (o24, .inl (cI, 12, .inl fw25)), (o17, .inl (cI, 12, .inl fw18))]) → va_S A s.heap H locs → lv_has ls 5 [(2, .int x468), (0, .ref o1), (1, .int a1)] → W p l e ({ frames := 3, cells := 0, slots := 0, locals := 73 }) s m ([.ref o1, .int a1] : List Value).toArray below meth c H locs 0 0 Q (F0 m 32 ls []) := by
      intro N
      induction N with
      | zero =>
        intro x468 f469 H locs ls hM
        exact absurd hM (Nat.not_lt_zero _)
      | succ N ih3 =>
        intro x468 f469 H locs ls hM3 x468_h iv3_0 iv3_1 hP hD hS hl
        refine lv_iload_n hx hb dX12_least_32 rfl (lv_at hl 0 rfl) ?_
        refine lv_if_lt (tgt := 112) hx hb dX12_least_33 (by decide) (fun h470 => ?_) (fun h470 => ?_)
        ·
          have qh470 := lt_i h470
          have j471 : Iv (-1) (-1) x468 := r_ltl qh470 x468_h ik_0 (by decide)
          have e472 : Int32.toInt x468 < 0 := by have a0 := (show _ ≤ _ ∧ _ ≤ _ from j471); omega
          refine lv_aload_n hx hb dX12_least_112 rfl (lv_at hl 1 rfl) ?_
          refine va_get (D := (dC, dI)) (ci := 12) (v := .ref o28) (C := RX12) (T := TX12) (N := 29) hx hb hts iw_X12_least_X12 hown hK hP 0 rfl rfl 17 (by decide) (hts (.fieldLink RX12 42 "HolelessHouseModel" "least" "[I") hm_X12_least_1) (fun _ h9 => h9) rfl dX12_least_113 ?_
          refine lv_iconst (v := 0) hx hb dX12_least_116 (by decide) ?_
          refine va_iald hx hb hK hP 3 0 rfl rfl (vin_iv ik_0 (by decide)) dX12_least_117 (lv_topi (fun x473 x473_e => ?_))
          refine lv_istore_n (lv' := [(2, .int x473), (0, .ref o1), (1, .int a1)]) hx hb dX12_least_118 rfl hl (by decide) rfl (fun ls hl => ?_)
          refine lv_aload_n hx hb dX12_least_119 rfl (lv_at hl 1 rfl) ?_
          refine kc_v (D := (dC, dI)) (S := Int32 × Int32 × Int32 × (Nat → Int32) × (Nat → Int32)) (wc := [(o1, .inr (12, [.int v2, .ref o3, .int v5, .ref o6, .int v8, .ref o9, .ref o11, .int v13, .ref o14, .int v16, .ref o17, .int v19, .int v20, .int v21, .ref o22, .ref o24, .ref o26, .ref o28, .ref o30, .int v32, .ref o33, .ref o35, .ref o37, .int v39, .ref o40, .ref o42, .ref o44, .int v46, .ref o47])), (o6, .inl (cI, 12, .inl fw7)), (o22, .inl (cI, 12, .inl fw23)), (o24, .inl (cI, 12, .inl fw25))]) (wr := [(o26, .inl (cI, 49152, .inl f7)), (o28, .inl (cI, 4096, .inl f469)), (o17, .inl (cI, 12, .inl fw18))]) (w1 := fun u => [(o1, .inr (12, [.int v2, .ref o3, .int v5, .ref o6, .int v8, .ref o9, .ref o11, .int v13, .ref o14, .int v16, .ref o17, .int u.1, .int u.2.1, .int u.2.2.1, .ref o22, .ref o24, .ref o26, .ref o28, .ref o30, .int v32, .ref o33, .ref o35, .ref o37, .int v39, .ref o40, .ref o42, .ref o44, .int v46, .ref o47])), (o6, .inl (cI, 12, .inl fw7)), (o22, .inl (cI, 12, .inl u.2.2.2.1)), (o24, .inl (cI, 12, .inl u.2.2.2.2))]) (wn := fun u => [(o1, .inr (12, [.int v2, .ref o3, .int v5, .ref o6, .int v8, .ref o9, .ref o11, .int v13, .ref o14, .int v16, .ref o17, .int u.1, .int u.2.1, .int u.2.2.1, .ref o22, .ref o24, .ref o26, .ref o28, .ref o30, .int v32, .ref o33, .ref o35, .ref o37, .int v39, .ref o40, .ref o42, .ref o44, .int v46, .ref o47])), (o6, .inl (cI, 12, .inl fw7)), (o26, .inl (cI, 49152, .inl f7)), (o28, .inl (cI, 4096, .inl f469)), (o22, .inl (cI, 12, .inl u.2.2.2.1)), (o24, .inl (cI, 12, .inl u.2.2.2.2)), (o17, .inl (cI, 12, .inl fw18))]) (fun hPc hDc => va_runV (As := []) (rest := []) ⟨hx, hb, hml, hown, hts⟩ (kX12_beginOrder_1 l dC dI cI c2 cZ o1 o3 o6 o9 o11 o14 o17 o22 o24 o26 o28 o30 o33 o35 o37 o40 o42 o44 o47 v2 v5 fw7 v8 v13 v16 v19 v20 v21 fw23 fw25 v32 v39 v46 H.size v5_h fw7_b v8_h v13_h v16_h v19_h fw23_b fw25_b v32_h v39_h v46_h) (cwV 0 hts gX12_least_X12_beginOrder rfl rfl rfl (by decide +kernel) ⟨Nat.le_of_ble_eq_true rfl, Nat.le_of_ble_eq_true rfl⟩) (pre_V hPc hK hDc hN (ci := 12) (q0 := 0) rfl rfl) rfl rfl hl.1 rfl (lv_room (Nat.le_of_ble_eq_true rfl)) dX12_least_120 ⟨Nat.le_of_ble_eq_true rfl, Nat.le_of_ble_eq_true rfl⟩) hP hD hS hA [0, 1, 4, 5] [2, 3, 6] [3, 4, 0, 1, 5, 6, 2] rfl rfl (by decide +kernel) (by decide +kernel) (by decide +kernel) (by decide +kernel) (fun _ => rfl) (fun u H locs hq hP hD hS => ?_)
          obtain ⟨y474, y475, y476, f477, f478⟩ := u
          obtain ⟨y474_h, f477_b, f478_b⟩ := hq
          have y474_h : Iv 0 0 y474 := y474_h
          have f477_b : Bd 12 0 4095 f477 := f477_b
          have f478_b : Bd 12 0 4095 f478 := f478_b
          have hP : va_P (dC, dI) vwCl ([(o1, .inr (12, [.int v2, .ref o3, .int v5, .ref o6, .int v8, .ref o9, .ref o11, .int v13, .ref o14, .int v16, .ref o17, .int y474, .int y475, .int y476, .ref o22, .ref o24, .ref o26, .ref o28, .ref o30, .int v32, .ref o33, .ref o35, .ref o37, .int v39, .ref o40, .ref o42, .ref o44, .int v46, .ref o47])), (o6, .inl (cI, 12, .inl fw7)), (o26, .inl (cI, 49152, .inl f7)), (o28, .inl (cI, 4096, .inl f469)), (o22, .inl (cI, 12, .inl f477)), (o24, .inl (cI, 12, .inl f478)), (o17, .inl (cI, 12, .inl fw18))]) H := hP
          have hD : va_D A ([(o1, .inr (12, [.int v2, .ref o3, .int v5, .ref o6, .int v8, .ref o9, .ref o11, .int v13, .ref o14, .int v16, .ref o17, .int y474, .int y475, .int y476, .ref o22, .ref o24, .ref o26, .ref o28, .ref o30, .int v32, .ref o33, .ref o35, .ref o37, .int v39, .ref o40, .ref o42, .ref o44, .int v46, .ref o47])), (o6, .inl (cI, 12, .inl fw7)), (o26, .inl (cI, 49152, .inl f7)), (o28, .inl (cI, 4096, .inl f469)), (o22, .inl (cI, 12, .inl f477)), (o24, .inl (cI, 12, .inl f478)), (o17, .inl (cI, 12, .inl fw18))]) := hD
          refine lv_iconst (v := 0) hx hb dX12_least_123 (by decide) ?_
          refine lv_istore_n (lv' := [(3, .int 0), (2, .int x473), (0, .ref o1), (1, .int a1)]) hx hb dX12_least_124 rfl hl (by decide) rfl (fun ls hl => ?_)
          have L6 : ∀ (N : Nat) (x635 : Int32) (x636 : Int32) (f637 : Nat → Int32) (f638 : Nat → Int32) (f639 : Nat → Int32) (x640 : Int32) (x641 : Int32) (H : Heap) (locs : List Loc) (ls : Array Slot), (4095 - Int32.toInt x636).toNat < N → Iv 0 12 x635 → Iv 0 4095 x636 → Bd 12 0 11 f637 → Bd 12 0 4095 f638 → Bd 12 0 4095 f639 → (bel (Int32.toNatClampNeg v5) x636) → (Int32.toInt x635 = (ct x636 12 : Int)) → (¬ a1 = 0 → Int32.toInt (f469 (Int32.toNatClampNeg x636)) ≤ Int32.toInt x473) → va_P (dC, dI) vwCl ([(o1, .inr (12, [.int v2, .ref o3, .int v5, .ref o6, .int v8, .ref o9, .ref o11, .int v13, .ref o14, .int v16, .ref o17, .int x635, .int x640, .int x641, .ref o22, .ref o24, .ref o26, .ref o28, .ref o30, .int v32, .ref o33, .ref o35, .ref o37, .int v39, .ref o40, .ref o42, .ref o44, .int v46, .ref o47])), (o6, .inl (cI, 12, .inl fw7)), (o26, .inl (cI, 49152, .inl f7)), (o28, .inl (cI, 4096, .inl f469)), (o22, .inl (cI, 12, .inl f638)), (o24, .inl (cI, 12, .inl f639)), (o17, .inl (cI, 12, .inl f637))]) H → va_D A ([(o1, .inr (12, [.int v2, .ref o3, .int v5, .ref o6, .int v8, .ref o9, .ref o11, .int v13, .ref o14, .int v16, .ref o17, .int x635, .int x640, .int x641, .ref o22, .ref o24, .ref o26, .ref o28, .ref o30, .int v32, .ref o33, .ref o35, .ref o37, .int v39, .ref o40, .ref o42, .ref o44, .int v46, .ref o47])), (o6, .inl (cI, 12, .inl fw7)), (o26, .inl (cI, 49152, .inl f7)), (o28, .inl (cI, 4096, .inl f469)), (o22, .inl (cI, 12, .inl f638)), (o24, .inl (cI, 12, .inl f639)), (o17, .inl (cI, 12, .inl f637))]) → va_S A s.heap H locs → lv_has ls 5 [(3, .int x636), (2, .int x473), (0, .ref o1), (1, .int a1)] → W p l e ({ frames := 3, cells := 0, slots := 0, locals := 73 }) s m ([.ref o1, .int a1] : List Value).toArray below meth c H locs 0 0 Q (F0 m 125 ls []) := by
            intro N
            induction N with
            | zero =>
              intro x635 x636 f637 f638 f639 x640 x641 H locs ls hM
              exact absurd hM (Nat.not_lt_zero _)
            | succ N ih6 =>
              intro x635 x636 f637 f638 f639 x640 x641 H locs ls hM6 x635_h x636_h f637_b f638_b f639_b iv6_0 iv6_1 iv6_2 hP hD hS hl
              refine lv_iload_n hx hb dX12_least_125 rfl (lv_at hl 0 rfl) ?_
              refine lv_aload_n hx hb dX12_least_126 rfl (lv_at hl 2 rfl) ?_
              refine kc_i (D := (dC, dI)) (S := Unit) (wc := [(o1, .inr (12, [.int v2, .ref o3, .int v5, .ref o6, .int v8, .ref o9, .ref o11, .int v13, .ref o14, .int v16, .ref o17, .int x635, .int x640, .int x641, .ref o22, .ref o24, .ref o26, .ref o28, .ref o30, .int v32, .ref o33, .ref o35, .ref o37, .int v39, .ref o40, .ref o42, .ref o44, .int v46, .ref o47]))]) (wr := [(o6, .inl (cI, 12, .inl fw7)), (o26, .inl (cI, 49152, .inl f7)), (o28, .inl (cI, 4096, .inl f469)), (o22, .inl (cI, 12, .inl f638)), (o24, .inl (cI, 12, .inl f639)), (o17, .inl (cI, 12, .inl f637))]) (w1 := fun _ => [(o1, .inr (12, [.int v2, .ref o3, .int v5, .ref o6, .int v8, .ref o9, .ref o11, .int v13, .ref o14, .int v16, .ref o17, .int x635, .int x640, .int x641, .ref o22, .ref o24, .ref o26, .ref o28, .ref o30, .int v32, .ref o33, .ref o35, .ref o37, .int v39, .ref o40, .ref o42, .ref o44, .int v46, .ref o47]))]) (wn := fun _ => [(o1, .inr (12, [.int v2, .ref o3, .int v5, .ref o6, .int v8, .ref o9, .ref o11, .int v13, .ref o14, .int v16, .ref o17, .int x635, .int x640, .int x641, .ref o22, .ref o24, .ref o26, .ref o28, .ref o30, .int v32, .ref o33, .ref o35, .ref o37, .int v39, .ref o40, .ref o42, .ref o44, .int v46, .ref o47])), (o6, .inl (cI, 12, .inl fw7)), (o26, .inl (cI, 49152, .inl f7)), (o28, .inl (cI, 4096, .inl f469)), (o22, .inl (cI, 12, .inl f638)), (o24, .inl (cI, 12, .inl f639)), (o17, .inl (cI, 12, .inl f637))]) (fun hPc hDc => va_runV (As := []) (rest := [.int x636]) ⟨hx, hb, hml, hown, hts⟩ (kX12_all_1 l dC dI cI c2 cZ o1 o3 o6 o9 o11 o14 o17 o22 o24 o26 o28 o30 o33 o35 o37 o40 o42 o44 o47 v2 v5 v8 v13 v16 x635 x640 x641 v32 v39 v46 H.size v5_h v8_h v13_h v16_h (iv_w x635_h (by decide)) v32_h v39_h v46_h) (cwV 0 hts gX12_least_X12_all rfl rfl rfl (by decide +kernel) ⟨Nat.le_of_ble_eq_true rfl, Nat.le_of_ble_eq_true rfl⟩) (pre_V hPc hK hDc hN (ci := 12) (q0 := 0) rfl rfl) rfl rfl hl.1 rfl (lv_room (Nat.le_of_ble_eq_true rfl)) dX12_least_127 ⟨Nat.le_of_ble_eq_true rfl, Nat.le_of_ble_eq_true rfl⟩) hP hD hS hA [0] [1, 2, 3, 4, 5, 6] [6, 0, 1, 2, 3, 4, 5] rfl rfl (by decide +kernel) (by decide +kernel) (by decide +kernel) (by decide +kernel) (fun _ => rfl) (fun x642 _ H locs hq hP hD hS => ?_)
              obtain ⟨x642_h, e643⟩ := hq
              have hP : va_P (dC, dI) vwCl ([(o1, .inr (12, [.int v2, .ref o3, .int v5, .ref o6, .int v8, .ref o9, .ref o11, .int v13, .ref o14, .int v16, .ref o17, .int x635, .int x640, .int x641, .ref o22, .ref o24, .ref o26, .ref o28, .ref o30, .int v32, .ref o33, .ref o35, .ref o37, .int v39, .ref o40, .ref o42, .ref o44, .int v46, .ref o47])), (o6, .inl (cI, 12, .inl fw7)), (o26, .inl (cI, 49152, .inl f7)), (o28, .inl (cI, 4096, .inl f469)), (o22, .inl (cI, 12, .inl f638)), (o24, .inl (cI, 12, .inl f639)), (o17, .inl (cI, 12, .inl f637))]) H := hP
              have hD : va_D A ([(o1, .inr (12, [.int v2, .ref o3, .int v5, .ref o6, .int v8, .ref o9, .ref o11, .int v13, .ref o14, .int v16, .ref o17, .int x635, .int x640, .int x641, .ref o22, .ref o24, .ref o26, .ref o28, .ref o30, .int v32, .ref o33, .ref o35, .ref o37, .int v39, .ref o40, .ref o42, .ref o44, .int v46, .ref o47])), (o6, .inl (cI, 12, .inl fw7)), (o26, .inl (cI, 49152, .inl f7)), (o28, .inl (cI, 4096, .inl f469)), (o22, .inl (cI, 12, .inl f638)), (o24, .inl (cI, 12, .inl f639)), (o17, .inl (cI, 12, .inl f637))]) := hD
              refine lv_icmp_eq (tgt := 203) hx hb dX12_least_130 (by decide) (fun h644 => ?_) (fun h644 => ?_)
              ·
                refine lv_iload_n hx hb dX12_least_203 rfl (lv_at hl 1 rfl) ?_
                rw [hQ]
                exact W.iret (v := x473) hx hb hr (fun t ht hW => ⟨⟨x473, (x635, x640, x641, f7, f469, f638, f639, f637), rfl, ⟨(iv_w x635_h (by decide)), f7_b, f638_b, f639_b, f637_b⟩, by rw [ht]; exact hP, va_K.moved hW.alike hK, hD⟩, hS.F ht⟩) hS.2.2 dX12_least_204
              ·
                refine lv_iconst (v := 0) hx hb dX12_least_133 (by decide) ?_
                refine lv_istore (lv' := [(4, .int 0), (3, .int x636), (2, .int x473), (0, .ref o1), (1, .int a1)]) hx hb dX12_least_134 hl (by decide) rfl (fun ls hl => ?_)
                have L7 : ∀ (N : Nat) (x670 : Int32) (H : Heap) (locs : List Loc) (ls : Array Slot), (12 - Int32.toInt x670).toNat < N → Iv 0 11 x670 → (GW f7 f469 (Int32.toNatClampNeg v5) a1 x636 x473 (Int32.toNatClampNeg x670)) → va_P (dC, dI) vwCl ([(o1, .inr (12, [.int v2, .ref o3, .int v5, .ref o6, .int v8, .ref o9, .ref o11, .int v13, .ref o14, .int v16, .ref o17, .int x635, .int x640, .int x641, .ref o22, .ref o24, .ref o26, .ref o28, .ref o30, .int v32, .ref o33, .ref o35, .ref o37, .int v39, .ref o40, .ref o42, .ref o44, .int v46, .ref o47])), (o6, .inl (cI, 12, .inl fw7)), (o26, .inl (cI, 49152, .inl f7)), (o28, .inl (cI, 4096, .inl f469)), (o22, .inl (cI, 12, .inl f638)), (o24, .inl (cI, 12, .inl f639)), (o17, .inl (cI, 12, .inl f637))]) H → va_D A ([(o1, .inr (12, [.int v2, .ref o3, .int v5, .ref o6, .int v8, .ref o9, .ref o11, .int v13, .ref o14, .int v16, .ref o17, .int x635, .int x640, .int x641, .ref o22, .ref o24, .ref o26, .ref o28, .ref o30, .int v32, .ref o33, .ref o35, .ref o37, .int v39, .ref o40, .ref o42, .ref o44, .int v46, .ref o47])), (o6, .inl (cI, 12, .inl fw7)), (o26, .inl (cI, 49152, .inl f7)), (o28, .inl (cI, 4096, .inl f469)), (o22, .inl (cI, 12, .inl f638)), (o24, .inl (cI, 12, .inl f639)), (o17, .inl (cI, 12, .inl f637))]) → va_S A s.heap H locs → lv_has ls 5 [(4, .int x670), (3, .int x636), (2, .int x473), (0, .ref o1), (1, .int a1)] → W p l e ({ frames := 3, cells := 0, slots := 0, locals := 73 }) s m ([.ref o1, .int a1] : List Value).toArray below meth c H locs 0 0 Q (F0 m 136 ls []) := by
                  intro N
                  induction N with
                  | zero =>
                    intro x670 H locs ls hM
                    exact absurd hM (Nat.not_lt_zero _)
                  | succ N ih7 =>
                    intro x670 H locs ls hM7 x670_h iv7_0 hP hD hS hl
                    refine lv_iload_n hx hb dX12_least_136 rfl (lv_at hl 1 rfl) ?_
                    refine lv_iload hx hb dX12_least_137 (lv_at hl 0 rfl) ?_
                    refine kc_i (D := (dC, dI)) (S := Unit) (wc := []) (wr := [(o1, .inr (12, [.int v2, .ref o3, .int v5, .ref o6, .int v8, .ref o9, .ref o11, .int v13, .ref o14, .int v16, .ref o17, .int x635, .int x640, .int x641, .ref o22, .ref o24, .ref o26, .ref o28, .ref o30, .int v32, .ref o33, .ref o35, .ref o37, .int v39, .ref o40, .ref o42, .ref o44, .int v46, .ref o47])), (o6, .inl (cI, 12, .inl fw7)), (o26, .inl (cI, 49152, .inl f7)), (o28, .inl (cI, 4096, .inl f469)), (o22, .inl (cI, 12, .inl f638)), (o24, .inl (cI, 12, .inl f639)), (o17, .inl (cI, 12, .inl f637))]) (w1 := fun _ => []) (wn := fun _ => [(o1, .inr (12, [.int v2, .ref o3, .int v5, .ref o6, .int v8, .ref o9, .ref o11, .int v13, .ref o14, .int v16, .ref o17, .int x635, .int x640, .int x641, .ref o22, .ref o24, .ref o26, .ref o28, .ref o30, .int v32, .ref o33, .ref o35, .ref o37, .int v39, .ref o40, .ref o42, .ref o44, .int v46, .ref o47])), (o6, .inl (cI, 12, .inl fw7)), (o26, .inl (cI, 49152, .inl f7)), (o28, .inl (cI, 4096, .inl f469)), (o22, .inl (cI, 12, .inl f638)), (o24, .inl (cI, 12, .inl f639)), (o17, .inl (cI, 12, .inl f637))]) (fun hPc hDc => va_runS (As := [.int x636, .int x670]) (rest := []) ⟨hx, hb, hml, hown, hts⟩ (kX12_has_1 l dC dI cI c2 cZ x636 x670 H.size (iv_w x670_h (by decide))) (va_cwS 2 hts gX12_least_X12_has rfl rfl rfl (by decide +kernel) ⟨Nat.le_of_ble_eq_true rfl, Nat.le_of_ble_eq_true rfl⟩) (pre_S hPc hK hDc hN) rfl rfl hl.1 rfl (lv_room (Nat.le_of_ble_eq_true rfl)) dX12_least_139 ⟨Nat.le_of_ble_eq_true rfl, Nat.le_of_ble_eq_true rfl⟩) hP hD hS hA [] [0, 1, 2, 3, 4, 5, 6] [0, 1, 2, 3, 4, 5, 6] rfl rfl (by decide +kernel) (by decide +kernel) (by decide +kernel) (by decide +kernel) (fun _ => rfl) (fun x671 _ H locs hq hP hD hS => ?_)
                    obtain ⟨x671_h, e672⟩ := hq
                    have hP : va_P (dC, dI) vwCl ([(o1, .inr (12, [.int v2, .ref o3, .int v5, .ref o6, .int v8, .ref o9, .ref o11, .int v13, .ref o14, .int v16, .ref o17, .int x635, .int x640, .int x641, .ref o22, .ref o24, .ref o26, .ref o28, .ref o30, .int v32, .ref o33, .ref o35, .ref o37, .int v39, .ref o40, .ref o42, .ref o44, .int v46, .ref o47])), (o6, .inl (cI, 12, .inl fw7)), (o26, .inl (cI, 49152, .inl f7)), (o28, .inl (cI, 4096, .inl f469)), (o22, .inl (cI, 12, .inl f638)), (o24, .inl (cI, 12, .inl f639)), (o17, .inl (cI, 12, .inl f637))]) H := hP
                    have hD : va_D A ([(o1, .inr (12, [.int v2, .ref o3, .int v5, .ref o6, .int v8, .ref o9, .ref o11, .int v13, .ref o14, .int v16, .ref o17, .int x635, .int x640, .int x641, .ref o22, .ref o24, .ref o26, .ref o28, .ref o30, .int v32, .ref o33, .ref o35, .ref o37, .int v39, .ref o40, .ref o42, .ref o44, .int v46, .ref o47])), (o6, .inl (cI, 12, .inl fw7)), (o26, .inl (cI, 49152, .inl f7)), (o28, .inl (cI, 4096, .inl f469)), (o22, .inl (cI, 12, .inl f638)), (o24, .inl (cI, 12, .inl f639)), (o17, .inl (cI, 12, .inl f637))]) := hD
                    refine lv_if_ne (tgt := 181) hx hb dX12_least_142 (by decide) (fun h673 => ?_) (fun h673 => ?_)
                    ·
                      have j674 : Iv 1 1 x671 := r_nelo h673 x671_h ik_0 (by decide)
                      have b675 : bt x636 (Int32.toNatClampNeg x670) = true := has_t e672 h673
                      obtain ⟨x676, x676_e⟩ : ∃ z : Int32, z = x670 + 1 := ⟨_, rfl⟩
                      have x676_h : Iv 1 12 x676 := iv_e x676_e (iv_add x670_h ik_1 (by decide))
                      refine lv_iinc (v := x676) (lv' := [(4, .int x676), (3, .int x636), (2, .int x473), (0, .ref o1), (1, .int a1)]) hx hb dX12_least_181 hl (k := 0) rfl (incN (by decide +kernel) x676_e) (by decide) rfl (fun ls hl => ?_)
                      refine lv_goto (tgt := 136) hx hb dX12_least_184 (by decide) ?_
                      exact ih7 x676 _ _ _ (by have a0 := tia x676_e x670_h ik_1 (by decide); have a1 := (show _ ≤ _ ∧ _ ≤ _ from x670_h); have a2 := hM7; omega) (GW_iv (GW_h iv7_0 (iv_w (c := 0) (d := 4095) x670_h (by decide)) x676_e b675) (cl_b v5_h (by decide)) x676_h (by decide)) (GW_h iv7_0 (iv_w (c := 0) (d := 4095) x670_h (by decide)) x676_e b675) hP hD hS hl
                    ·
                      have j677 : Iv 0 0 x671 := r_eq h673 ik_0
                      have b678 : bt x636 (Int32.toNatClampNeg x670) = false := has_f e672 h673
                      refine lv_iload_n hx hb dX12_least_145 rfl (lv_at hl 4 rfl) ?_
                      refine lv_if_ne (tgt := 169) hx hb dX12_least_146 (by decide) (fun h679 => ?_) (fun h679 => ?_)
                      ·
                        have j680 : Iv 1 1 a1 := r_nelo h679 j6 ik_0 (by decide)
                        refine lv_aload_n hx hb dX12_least_169 rfl (lv_at hl 3 rfl) ?_
                        refine lv_iconst (v := 1) hx hb dX12_least_170 (by decide) ?_
                        refine lv_iload_n hx hb dX12_least_171 rfl (lv_at hl 1 rfl) ?_
                        refine lv_iload hx hb dX12_least_172 (lv_at hl 0 rfl) ?_
                        refine kc_i (D := (dC, dI)) (S := Unit) (wc := [(o1, .inr (12, [.int v2, .ref o3, .int v5, .ref o6, .int v8, .ref o9, .ref o11, .int v13, .ref o14, .int v16, .ref o17, .int x635, .int x640, .int x641, .ref o22, .ref o24, .ref o26, .ref o28, .ref o30, .int v32, .ref o33, .ref o35, .ref o37, .int v39, .ref o40, .ref o42, .ref o44, .int v46, .ref o47])), (o26, .inl (cI, 49152, .inl f7)), (o28, .inl (cI, 4096, .inl f469))]) (wr := [(o6, .inl (cI, 12, .inl fw7)), (o22, .inl (cI, 12, .inl f638)), (o24, .inl (cI, 12, .inl f639)), (o17, .inl (cI, 12, .inl f637))]) (w1 := fun _ => [(o1, .inr (12, [.int v2, .ref o3, .int v5, .ref o6, .int v8, .ref o9, .ref o11, .int v13, .ref o14, .int v16, .ref o17, .int x635, .int x640, .int x641, .ref o22, .ref o24, .ref o26, .ref o28, .ref o30, .int v32, .ref o33, .ref o35, .ref o37, .int v39, .ref o40, .ref o42, .ref o44, .int v46, .ref o47])), (o26, .inl (cI, 49152, .inl f7)), (o28, .inl (cI, 4096, .inl f469))]) (wn := fun _ => [(o1, .inr (12, [.int v2, .ref o3, .int v5, .ref o6, .int v8, .ref o9, .ref o11, .int v13, .ref o14, .int v16, .ref o17, .int x635, .int x640, .int x641, .ref o22, .ref o24, .ref o26, .ref o28, .ref o30, .int v32, .ref o33, .ref o35, .ref o37, .int v39, .ref o40, .ref o42, .ref o44, .int v46, .ref o47])), (o6, .inl (cI, 12, .inl fw7)), (o26, .inl (cI, 49152, .inl f7)), (o28, .inl (cI, 4096, .inl f469)), (o22, .inl (cI, 12, .inl f638)), (o24, .inl (cI, 12, .inl f639)), (o17, .inl (cI, 12, .inl f637))]) (fun hPc hDc => va_runV (As := [.int 1, .int x636, .int x670]) (rest := []) ⟨hx, hb, hml, hown, hts⟩ (kX12_withLater_1 l dC dI cI c2 cZ o1 o3 o6 o9 o11 o14 o17 o22 o24 o26 o28 o30 o33 o35 o37 o40 o42 o44 o47 v2 v5 v8 v13 v16 x635 x640 x641 f7 f469 v32 v39 v46 1 x636 x670 H.size v5_h v8_h v13_h v16_h (iv_w x635_h (by decide)) f7_b v32_h v39_h v46_h (iv_w ik_1 (by decide)) x636_h x670_h) (cwV 3 hts gX12_least_X12_withLater rfl rfl rfl (by decide +kernel) ⟨Nat.le_of_ble_eq_true rfl, Nat.le_of_ble_eq_true rfl⟩) (pre_V hPc hK hDc hN (ci := 12) (q0 := 0) rfl rfl) rfl rfl hl.1 rfl (lv_room (Nat.le_of_ble_eq_true rfl)) dX12_least_174 ⟨Nat.le_of_ble_eq_true rfl, Nat.le_of_ble_eq_true rfl⟩) hP hD hS hA [0, 2, 3] [1, 4, 5, 6] [4, 0, 5, 6, 1, 2, 3] rfl rfl (by decide +kernel) (by decide +kernel) (by decide +kernel) (by decide +kernel) (fun _ => rfl) (fun x681 _ H locs hq hP hD hS => ?_)
                        obtain ⟨e682, e683⟩ := hq
                        have hP : va_P (dC, dI) vwCl ([(o1, .inr (12, [.int v2, .ref o3, .int v5, .ref o6, .int v8, .ref o9, .ref o11, .int v13, .ref o14, .int v16, .ref o17, .int x635, .int x640, .int x641, .ref o22, .ref o24, .ref o26, .ref o28, .ref o30, .int v32, .ref o33, .ref o35, .ref o37, .int v39, .ref o40, .ref o42, .ref o44, .int v46, .ref o47])), (o6, .inl (cI, 12, .inl fw7)), (o26, .inl (cI, 49152, .inl f7)), (o28, .inl (cI, 4096, .inl f469)), (o22, .inl (cI, 12, .inl f638)), (o24, .inl (cI, 12, .inl f639)), (o17, .inl (cI, 12, .inl f637))]) H := hP
                        have hD : va_D A ([(o1, .inr (12, [.int v2, .ref o3, .int v5, .ref o6, .int v8, .ref o9, .ref o11, .int v13, .ref o14, .int v16, .ref o17, .int x635, .int x640, .int x641, .ref o22, .ref o24, .ref o26, .ref o28, .ref o30, .int v32, .ref o33, .ref o35, .ref o37, .int v39, .ref o40, .ref o42, .ref o44, .int v46, .ref o47])), (o6, .inl (cI, 12, .inl fw7)), (o26, .inl (cI, 49152, .inl f7)), (o28, .inl (cI, 4096, .inl f469)), (o22, .inl (cI, 12, .inl f638)), (o24, .inl (cI, 12, .inl f639)), (o17, .inl (cI, 12, .inl f637))]) := hD
                        refine lv_iload_n hx hb dX12_least_177 rfl (lv_at hl 2 rfl) ?_
                        refine lv_icmp_le (tgt := 187) hx hb dX12_least_178 (by decide) (fun h684 => ?_) (fun h684 => ?_)
                        ·
                          have qh684 := le_i h684
                          refine lv_aload_n hx hb dX12_least_187 rfl (lv_at hl 3 rfl) ?_
                          refine lv_iload hx hb dX12_least_188 (lv_at hl 0 rfl) ?_
                          have j685 : Iv 0 11 x635 := ct_11 iv6_1 x670_h b678 x635_h
                          refine kc_v (D := (dC, dI)) (S := Int32 × Int32 × Int32 × (Nat → Int32) × (Nat → Int32) × (Nat → Int32)) (wc := [(o1, .inr (12, [.int v2, .ref o3, .int v5, .ref o6, .int v8, .ref o9, .ref o11, .int v13, .ref o14, .int v16, .ref o17, .int x635, .int x640, .int x641, .ref o22, .ref o24, .ref o26, .ref o28, .ref o30, .int v32, .ref o33, .ref o35, .ref o37, .int v39, .ref o40, .ref o42, .ref o44, .int v46, .ref o47])), (o22, .inl (cI, 12, .inl f638)), (o24, .inl (cI, 12, .inl f639)), (o17, .inl (cI, 12, .inl f637))]) (wr := [(o6, .inl (cI, 12, .inl fw7)), (o26, .inl (cI, 49152, .inl f7)), (o28, .inl (cI, 4096, .inl f469))]) (w1 := fun u => [(o1, .inr (12, [.int v2, .ref o3, .int v5, .ref o6, .int v8, .ref o9, .ref o11, .int v13, .ref o14, .int v16, .ref o17, .int u.1, .int u.2.1, .int u.2.2.1, .ref o22, .ref o24, .ref o26, .ref o28, .ref o30, .int v32, .ref o33, .ref o35, .ref o37, .int v39, .ref o40, .ref o42, .ref o44, .int v46, .ref o47])), (o22, .inl (cI, 12, .inl u.2.2.2.1)), (o24, .inl (cI, 12, .inl u.2.2.2.2.1)), (o17, .inl (cI, 12, .inl u.2.2.2.2.2))]) (wn := fun u => [(o1, .inr (12, [.int v2, .ref o3, .int v5, .ref o6, .int v8, .ref o9, .ref o11, .int v13, .ref o14, .int v16, .ref o17, .int u.1, .int u.2.1, .int u.2.2.1, .ref o22, .ref o24, .ref o26, .ref o28, .ref o30, .int v32, .ref o33, .ref o35, .ref o37, .int v39, .ref o40, .ref o42, .ref o44, .int v46, .ref o47])), (o6, .inl (cI, 12, .inl fw7)), (o26, .inl (cI, 49152, .inl f7)), (o28, .inl (cI, 4096, .inl f469)), (o22, .inl (cI, 12, .inl u.2.2.2.1)), (o24, .inl (cI, 12, .inl u.2.2.2.2.1)), (o17, .inl (cI, 12, .inl u.2.2.2.2.2))]) (fun hPc hDc => va_runV (As := [.int x670]) (rest := []) ⟨hx, hb, hml, hown, hts⟩ (kX12_go_1 l dC dI cI c2 cZ o1 o3 o6 o9 o11 o14 o17 o22 o24 o26 o28 o30 o33 o35 o37 o40 o42 o44 o47 v2 v5 v8 v13 v16 f637 x635 x640 x641 f638 f639 v32 v39 v46 x670 H.size v5_h v8_h v13_h v16_h f637_b j685 f638_b f639_b v32_h v39_h v46_h x670_h) (cwV 1 hts gX12_least_X12_go rfl rfl rfl (by decide +kernel) ⟨Nat.le_of_ble_eq_true rfl, Nat.le_of_ble_eq_true rfl⟩) (pre_V hPc hK hDc hN (ci := 12) (q0 := 0) rfl rfl) rfl rfl hl.1 rfl (lv_room (Nat.le_of_ble_eq_true rfl)) dX12_least_190 ⟨Nat.le_of_ble_eq_true rfl, Nat.le_of_ble_eq_true rfl⟩) hP hD hS hA [0, 4, 5, 6] [1, 2, 3] [3, 0, 1, 2, 4, 5, 6] rfl rfl (by decide +kernel) (by decide +kernel) (by decide +kernel) (by decide +kernel) (fun _ => rfl) (fun u H locs hq hP hD hS => ?_)
                          obtain ⟨y686, y687, y688, f689, f690, f691⟩ := u
                          obtain ⟨y686_h, f689_b, f690_b, f691_b, e692⟩ := hq
                          have y686_h : Iv 1 12 y686 := y686_h
                          have f689_b : Bd 12 0 4095 f689 := f689_b
                          have f690_b : Bd 12 0 4095 f690 := f690_b
                          have f691_b : Bd 12 0 11 f691 := f691_b
                          have e692 : Int32.toInt y686 = Int32.toInt x635 + 1 := e692
                          have hP : va_P (dC, dI) vwCl ([(o1, .inr (12, [.int v2, .ref o3, .int v5, .ref o6, .int v8, .ref o9, .ref o11, .int v13, .ref o14, .int v16, .ref o17, .int y686, .int y687, .int y688, .ref o22, .ref o24, .ref o26, .ref o28, .ref o30, .int v32, .ref o33, .ref o35, .ref o37, .int v39, .ref o40, .ref o42, .ref o44, .int v46, .ref o47])), (o6, .inl (cI, 12, .inl fw7)), (o26, .inl (cI, 49152, .inl f7)), (o28, .inl (cI, 4096, .inl f469)), (o22, .inl (cI, 12, .inl f689)), (o24, .inl (cI, 12, .inl f690)), (o17, .inl (cI, 12, .inl f691))]) H := hP
                          have hD : va_D A ([(o1, .inr (12, [.int v2, .ref o3, .int v5, .ref o6, .int v8, .ref o9, .ref o11, .int v13, .ref o14, .int v16, .ref o17, .int y686, .int y687, .int y688, .ref o22, .ref o24, .ref o26, .ref o28, .ref o30, .int v32, .ref o33, .ref o35, .ref o37, .int v39, .ref o40, .ref o42, .ref o44, .int v46, .ref o47])), (o6, .inl (cI, 12, .inl fw7)), (o26, .inl (cI, 49152, .inl f7)), (o28, .inl (cI, 4096, .inl f469)), (o22, .inl (cI, 12, .inl f689)), (o24, .inl (cI, 12, .inl f690)), (o17, .inl (cI, 12, .inl f691))]) := hD
                          refine lv_iload_n hx hb dX12_least_193 rfl (lv_at hl 1 rfl) ?_
                          refine lv_iconst (v := 1) hx hb dX12_least_194 (by decide) ?_
                          refine lv_iload hx hb dX12_least_195 (lv_at hl 0 rfl) ?_
                          refine lv_ishl hx hb dX12_least_197 (lv_topi (fun x693 x693_e => ?_))
                          have x693_h : Iv 1 2048 x693 := iv_e x693_e (iv_shl1 x670_h (by decide))
                          refine lv_ior hx hb dX12_least_198 (lv_topi (fun x694 x694_e => ?_))
                          have x694_h : Iv 0 4095 x694 := iv_e x694_e (iv_or 12 x636_h x693_h (by decide))
                          refine lv_istore_n (lv' := [(3, .int x694), (4, .int x670), (2, .int x473), (0, .ref o1), (1, .int a1)]) hx hb dX12_least_199 rfl hl (by decide) rfl (fun ls hl => ?_)
                          refine lv_goto (tgt := 125) hx hb dX12_least_200 (by decide) ?_
                          exact ih6 y686 x694 f691 f689 f690 y687 y688 _ _ _ (by have a0 := set_gt x636_h x694_h x670_h (by decide) x693_e x694_e b678; have a1 := (show _ ≤ _ ∧ _ ≤ _ from x694_h); have a2 := hM6; omega) (iv_w y686_h (by decide)) x694_h f691_b f689_b f690_b (bel_set iv6_0 x670_h (by decide) (GW_lt iv7_0) x693_e x694_e) (by have a0 := iv6_1; have a1 := e692; have a2 := ct_set1 (x := 0) x670_h x693_e x694_e b678; omega) (fun _ => with_1le (by rw [← e682]; exact qh684) x693_e x694_e) hP hD hS (lv_sub hl [0, 2, 3, 4] rfl)
                        ·
                          have qh684 := nle_i h684
                          have j695 : Iv (-2147483648) 2147483646 x473 := r_ltl qh684 (iv_full x473) (iv_full x681) (by decide)
                          have j696 : Iv (-2147483647) 2147483647 x681 := r_ltr qh684 (iv_full x473) (iv_full x681) (by decide)
                          obtain ⟨x697, x697_e⟩ : ∃ z : Int32, z = x670 + 1 := ⟨_, rfl⟩
                          have x697_h : Iv 1 12 x697 := iv_e x697_e (iv_add x670_h ik_1 (by decide))
                          refine lv_iinc (v := x697) (lv' := [(4, .int x697), (3, .int x636), (2, .int x473), (0, .ref o1), (1, .int a1)]) hx hb dX12_least_181 hl (k := 0) rfl (incN (by decide +kernel) x697_e) (by decide) rfl (fun ls hl => ?_)
                          refine lv_goto (tgt := 136) hx hb dX12_least_184 (by decide) ?_
                          exact ih7 x697 _ _ _ (by have a0 := tia x697_e x670_h ik_1 (by decide); have a1 := (show _ ≤ _ ∧ _ ≤ _ from x670_h); have a2 := hM7; omega) (GW_iv (GW_b iv7_0 (iv_w (c := 0) (d := 4095) x670_h (by decide)) x697_e h679 e682 qh684) (cl_b v5_h (by decide)) x697_h (by decide)) (GW_b iv7_0 (iv_w (c := 0) (d := 4095) x670_h (by decide)) x697_e h679 e682 qh684) hP hD hS hl
                      ·
                        have j698 : Iv 0 0 a1 := r_eq h679 ik_0
                        refine lv_aload_n hx hb dX12_least_149 rfl (lv_at hl 3 rfl) ?_
                        refine lv_iconst (v := 0) hx hb dX12_least_150 (by decide) ?_
                        refine lv_iload_n hx hb dX12_least_151 rfl (lv_at hl 1 rfl) ?_
                        refine lv_iload hx hb dX12_least_152 (lv_at hl 0 rfl) ?_
                        refine kc_i (D := (dC, dI)) (S := Unit) (wc := [(o1, .inr (12, [.int v2, .ref o3, .int v5, .ref o6, .int v8, .ref o9, .ref o11, .int v13, .ref o14, .int v16, .ref o17, .int x635, .int x640, .int x641, .ref o22, .ref o24, .ref o26, .ref o28, .ref o30, .int v32, .ref o33, .ref o35, .ref o37, .int v39, .ref o40, .ref o42, .ref o44, .int v46, .ref o47])), (o26, .inl (cI, 49152, .inl f7)), (o28, .inl (cI, 4096, .inl f469))]) (wr := [(o6, .inl (cI, 12, .inl fw7)), (o22, .inl (cI, 12, .inl f638)), (o24, .inl (cI, 12, .inl f639)), (o17, .inl (cI, 12, .inl f637))]) (w1 := fun _ => [(o1, .inr (12, [.int v2, .ref o3, .int v5, .ref o6, .int v8, .ref o9, .ref o11, .int v13, .ref o14, .int v16, .ref o17, .int x635, .int x640, .int x641, .ref o22, .ref o24, .ref o26, .ref o28, .ref o30, .int v32, .ref o33, .ref o35, .ref o37, .int v39, .ref o40, .ref o42, .ref o44, .int v46, .ref o47])), (o26, .inl (cI, 49152, .inl f7)), (o28, .inl (cI, 4096, .inl f469))]) (wn := fun _ => [(o1, .inr (12, [.int v2, .ref o3, .int v5, .ref o6, .int v8, .ref o9, .ref o11, .int v13, .ref o14, .int v16, .ref o17, .int x635, .int x640, .int x641, .ref o22, .ref o24, .ref o26, .ref o28, .ref o30, .int v32, .ref o33, .ref o35, .ref o37, .int v39, .ref o40, .ref o42, .ref o44, .int v46, .ref o47])), (o6, .inl (cI, 12, .inl fw7)), (o26, .inl (cI, 49152, .inl f7)), (o28, .inl (cI, 4096, .inl f469)), (o22, .inl (cI, 12, .inl f638)), (o24, .inl (cI, 12, .inl f639)), (o17, .inl (cI, 12, .inl f637))]) (fun hPc hDc => va_runV (As := [.int 0, .int x636, .int x670]) (rest := []) ⟨hx, hb, hml, hown, hts⟩ (kX12_withLater_1 l dC dI cI c2 cZ o1 o3 o6 o9 o11 o14 o17 o22 o24 o26 o28 o30 o33 o35 o37 o40 o42 o44 o47 v2 v5 v8 v13 v16 x635 x640 x641 f7 f469 v32 v39 v46 0 x636 x670 H.size v5_h v8_h v13_h v16_h (iv_w x635_h (by decide)) f7_b v32_h v39_h v46_h (iv_w ik_0 (by decide)) x636_h x670_h) (cwV 3 hts gX12_least_X12_withLater rfl rfl rfl (by decide +kernel) ⟨Nat.le_of_ble_eq_true rfl, Nat.le_of_ble_eq_true rfl⟩) (pre_V hPc hK hDc hN (ci := 12) (q0 := 0) rfl rfl) rfl rfl hl.1 rfl (lv_room (Nat.le_of_ble_eq_true rfl)) dX12_least_154 ⟨Nat.le_of_ble_eq_true rfl, Nat.le_of_ble_eq_true rfl⟩) hP hD hS hA [0, 2, 3] [1, 4, 5, 6] [4, 0, 5, 6, 1, 2, 3] rfl rfl (by decide +kernel) (by decide +kernel) (by decide +kernel) (by decide +kernel) (fun _ => rfl) (fun x699 _ H locs hq hP hD hS => ?_)
                        obtain ⟨e700, e701⟩ := hq
                        have hP : va_P (dC, dI) vwCl ([(o1, .inr (12, [.int v2, .ref o3, .int v5, .ref o6, .int v8, .ref o9, .ref o11, .int v13, .ref o14, .int v16, .ref o17, .int x635, .int x640, .int x641, .ref o22, .ref o24, .ref o26, .ref o28, .ref o30, .int v32, .ref o33, .ref o35, .ref o37, .int v39, .ref o40, .ref o42, .ref o44, .int v46, .ref o47])), (o6, .inl (cI, 12, .inl fw7)), (o26, .inl (cI, 49152, .inl f7)), (o28, .inl (cI, 4096, .inl f469)), (o22, .inl (cI, 12, .inl f638)), (o24, .inl (cI, 12, .inl f639)), (o17, .inl (cI, 12, .inl f637))]) H := hP
                        have hD : va_D A ([(o1, .inr (12, [.int v2, .ref o3, .int v5, .ref o6, .int v8, .ref o9, .ref o11, .int v13, .ref o14, .int v16, .ref o17, .int x635, .int x640, .int x641, .ref o22, .ref o24, .ref o26, .ref o28, .ref o30, .int v32, .ref o33, .ref o35, .ref o37, .int v39, .ref o40, .ref o42, .ref o44, .int v46, .ref o47])), (o6, .inl (cI, 12, .inl fw7)), (o26, .inl (cI, 49152, .inl f7)), (o28, .inl (cI, 4096, .inl f469)), (o22, .inl (cI, 12, .inl f638)), (o24, .inl (cI, 12, .inl f639)), (o17, .inl (cI, 12, .inl f637))]) := hD
                        refine lv_aload_n hx hb dX12_least_157 rfl (lv_at hl 3 rfl) ?_
                        refine va_get (D := (dC, dI)) (ci := 12) (v := .ref o28) (C := RX12) (T := TX12) (N := 29) hx hb hts iw_X12_least_X12 hown hK hP 0 rfl rfl 17 (by decide) (hts (.fieldLink RX12 42 "HolelessHouseModel" "least" "[I") hm_X12_least_1) (fun _ h9 => h9) rfl dX12_least_158 ?_
                        refine lv_iload_n hx hb dX12_least_161 rfl (lv_at hl 1 rfl) ?_
                        refine va_iald hx hb hK hP 3 0 rfl rfl (vin_iv x636_h (by decide)) dX12_least_162 (lv_topi (fun x702 x702_e => ?_))
                        refine lv_icmp_eq (tgt := 187) hx hb dX12_least_163 (by decide) (fun h703 => ?_) (fun h703 => ?_)
                        ·
                          refine lv_aload_n hx hb dX12_least_187 rfl (lv_at hl 3 rfl) ?_
                          refine lv_iload hx hb dX12_least_188 (lv_at hl 0 rfl) ?_
                          have j704 : Iv 0 11 x635 := ct_11 iv6_1 x670_h b678 x635_h
                          refine kc_v (D := (dC, dI)) (S := Int32 × Int32 × Int32 × (Nat → Int32) × (Nat → Int32) × (Nat → Int32)) (wc := [(o1, .inr (12, [.int v2, .ref o3, .int v5, .ref o6, .int v8, .ref o9, .ref o11, .int v13, .ref o14, .int v16, .ref o17, .int x635, .int x640, .int x641, .ref o22, .ref o24, .ref o26, .ref o28, .ref o30, .int v32, .ref o33, .ref o35, .ref o37, .int v39, .ref o40, .ref o42, .ref o44, .int v46, .ref o47])), (o22, .inl (cI, 12, .inl f638)), (o24, .inl (cI, 12, .inl f639)), (o17, .inl (cI, 12, .inl f637))]) (wr := [(o6, .inl (cI, 12, .inl fw7)), (o26, .inl (cI, 49152, .inl f7)), (o28, .inl (cI, 4096, .inl f469))]) (w1 := fun u => [(o1, .inr (12, [.int v2, .ref o3, .int v5, .ref o6, .int v8, .ref o9, .ref o11, .int v13, .ref o14, .int v16, .ref o17, .int u.1, .int u.2.1, .int u.2.2.1, .ref o22, .ref o24, .ref o26, .ref o28, .ref o30, .int v32, .ref o33, .ref o35, .ref o37, .int v39, .ref o40, .ref o42, .ref o44, .int v46, .ref o47])), (o22, .inl (cI, 12, .inl u.2.2.2.1)), (o24, .inl (cI, 12, .inl u.2.2.2.2.1)), (o17, .inl (cI, 12, .inl u.2.2.2.2.2))]) (wn := fun u => [(o1, .inr (12, [.int v2, .ref o3, .int v5, .ref o6, .int v8, .ref o9, .ref o11, .int v13, .ref o14, .int v16, .ref o17, .int u.1, .int u.2.1, .int u.2.2.1, .ref o22, .ref o24, .ref o26, .ref o28, .ref o30, .int v32, .ref o33, .ref o35, .ref o37, .int v39, .ref o40, .ref o42, .ref o44, .int v46, .ref o47])), (o6, .inl (cI, 12, .inl fw7)), (o26, .inl (cI, 49152, .inl f7)), (o28, .inl (cI, 4096, .inl f469)), (o22, .inl (cI, 12, .inl u.2.2.2.1)), (o24, .inl (cI, 12, .inl u.2.2.2.2.1)), (o17, .inl (cI, 12, .inl u.2.2.2.2.2))]) (fun hPc hDc => va_runV (As := [.int x670]) (rest := []) ⟨hx, hb, hml, hown, hts⟩ (kX12_go_1 l dC dI cI c2 cZ o1 o3 o6 o9 o11 o14 o17 o22 o24 o26 o28 o30 o33 o35 o37 o40 o42 o44 o47 v2 v5 v8 v13 v16 f637 x635 x640 x641 f638 f639 v32 v39 v46 x670 H.size v5_h v8_h v13_h v16_h f637_b j704 f638_b f639_b v32_h v39_h v46_h x670_h) (cwV 1 hts gX12_least_X12_go rfl rfl rfl (by decide +kernel) ⟨Nat.le_of_ble_eq_true rfl, Nat.le_of_ble_eq_true rfl⟩) (pre_V hPc hK hDc hN (ci := 12) (q0 := 0) rfl rfl) rfl rfl hl.1 rfl (lv_room (Nat.le_of_ble_eq_true rfl)) dX12_least_190 ⟨Nat.le_of_ble_eq_true rfl, Nat.le_of_ble_eq_true rfl⟩) hP hD hS hA [0, 4, 5, 6] [1, 2, 3] [3, 0, 1, 2, 4, 5, 6] rfl rfl (by decide +kernel) (by decide +kernel) (by decide +kernel) (by decide +kernel) (fun _ => rfl) (fun u H locs hq hP hD hS => ?_)
                          obtain ⟨y705, y706, y707, f708, f709, f710⟩ := u
                          obtain ⟨y705_h, f708_b, f709_b, f710_b, e711⟩ := hq
                          have y705_h : Iv 1 12 y705 := y705_h
                          have f708_b : Bd 12 0 4095 f708 := f708_b
                          have f709_b : Bd 12 0 4095 f709 := f709_b
                          have f710_b : Bd 12 0 11 f710 := f710_b
                          have e711 : Int32.toInt y705 = Int32.toInt x635 + 1 := e711
                          have hP : va_P (dC, dI) vwCl ([(o1, .inr (12, [.int v2, .ref o3, .int v5, .ref o6, .int v8, .ref o9, .ref o11, .int v13, .ref o14, .int v16, .ref o17, .int y705, .int y706, .int y707, .ref o22, .ref o24, .ref o26, .ref o28, .ref o30, .int v32, .ref o33, .ref o35, .ref o37, .int v39, .ref o40, .ref o42, .ref o44, .int v46, .ref o47])), (o6, .inl (cI, 12, .inl fw7)), (o26, .inl (cI, 49152, .inl f7)), (o28, .inl (cI, 4096, .inl f469)), (o22, .inl (cI, 12, .inl f708)), (o24, .inl (cI, 12, .inl f709)), (o17, .inl (cI, 12, .inl f710))]) H := hP
                          have hD : va_D A ([(o1, .inr (12, [.int v2, .ref o3, .int v5, .ref o6, .int v8, .ref o9, .ref o11, .int v13, .ref o14, .int v16, .ref o17, .int y705, .int y706, .int y707, .ref o22, .ref o24, .ref o26, .ref o28, .ref o30, .int v32, .ref o33, .ref o35, .ref o37, .int v39, .ref o40, .ref o42, .ref o44, .int v46, .ref o47])), (o6, .inl (cI, 12, .inl fw7)), (o26, .inl (cI, 49152, .inl f7)), (o28, .inl (cI, 4096, .inl f469)), (o22, .inl (cI, 12, .inl f708)), (o24, .inl (cI, 12, .inl f709)), (o17, .inl (cI, 12, .inl f710))]) := hD
                          refine lv_iload_n hx hb dX12_least_193 rfl (lv_at hl 1 rfl) ?_
                          refine lv_iconst (v := 1) hx hb dX12_least_194 (by decide) ?_
                          refine lv_iload hx hb dX12_least_195 (lv_at hl 0 rfl) ?_
                          refine lv_ishl hx hb dX12_least_197 (lv_topi (fun x712 x712_e => ?_))
                          have x712_h : Iv 1 2048 x712 := iv_e x712_e (iv_shl1 x670_h (by decide))
                          refine lv_ior hx hb dX12_least_198 (lv_topi (fun x713 x713_e => ?_))
                          have x713_h : Iv 0 4095 x713 := iv_e x713_e (iv_or 12 x636_h x712_h (by decide))
                          refine lv_istore_n (lv' := [(3, .int x713), (4, .int x670), (2, .int x473), (0, .ref o1), (1, .int a1)]) hx hb dX12_least_199 rfl hl (by decide) rfl (fun ls hl => ?_)
                          refine lv_goto (tgt := 125) hx hb dX12_least_200 (by decide) ?_
                          exact ih6 y705 x713 f710 f708 f709 y706 y707 _ _ _ (by have a0 := set_gt x636_h x713_h x670_h (by decide) x712_e x713_e b678; have a1 := (show _ ≤ _ ∧ _ ≤ _ from x713_h); have a2 := hM6; omega) (iv_w y705_h (by decide)) x713_h f710_b f708_b f709_b (bel_set iv6_0 x670_h (by decide) (GW_lt iv7_0) x712_e x713_e) (by have a0 := iv6_1; have a1 := e711; have a2 := ct_set1 (x := 0) x670_h x712_e x713_e b678; omega) (fun h8 => absurd h679 h8) hP hD hS (lv_sub hl [0, 2, 3, 4] rfl)
                        ·
                          refine lv_goto (tgt := 181) hx hb dX12_least_166 (by decide) ?_
                          obtain ⟨x714, x714_e⟩ : ∃ z : Int32, z = x670 + 1 := ⟨_, rfl⟩
                          have x714_h : Iv 1 12 x714 := iv_e x714_e (iv_add x670_h ik_1 (by decide))
                          refine lv_iinc (v := x714) (lv' := [(4, .int x714), (3, .int x636), (2, .int x473), (0, .ref o1), (1, .int a1)]) hx hb dX12_least_181 hl (k := 0) rfl (incN (by decide +kernel) x714_e) (by decide) rfl (fun ls hl => ?_)
                          refine lv_goto (tgt := 136) hx hb dX12_least_184 (by decide) ?_
                          exact ih7 x714 _ _ _ (by have a0 := tia x714_e x670_h ik_1 (by decide); have a1 := (show _ ≤ _ ∧ _ ≤ _ from x670_h); have a2 := hM7; omega) (GW_iv (GW_a iv7_0 (iv_w (c := 0) (d := 4095) x670_h (by decide)) x714_e h679 e700 x702_e h703) (cl_b v5_h (by decide)) x714_h (by decide)) (GW_a iv7_0 (iv_w (c := 0) (d := 4095) x670_h (by decide)) x714_e h679 e700 x702_e h703) hP hD hS hl
                exact L7 _ 0 _ _ _ (Nat.lt_succ_self _) (iv_w ik_0 (by decide)) (GW_0 iv3_0 e472 x636_h iv6_0 e643 h644 j6 iv6_2) hP hD hS hl
          exact L6 _ y474 0 fw18 f477 f478 y475 y476 _ _ _ (Nat.lt_succ_self _) (iv_w y474_h (by decide)) (iv_w ik_0 (by decide)) fw18_b f477_b f478_b (bel_0 _) (by rw [ct_0]; have a0 := (show _ ≤ _ ∧ _ ≤ _ from y474_h); omega) (fun _ => Int.le_of_eq (congrArg Int32.toInt x473_e.symm)) hP hD hS hl
        ·
          have qh470 := nlt_i h470
          have j715 : Iv 0 4094 x468 := r_ler qh470 ik_0 x468_h (by decide)
          refine lv_aload_n hx hb dX12_least_36 rfl (lv_at hl 1 rfl) ?_
          refine va_get (D := (dC, dI)) (ci := 12) (v := .ref o28) (C := RX12) (T := TX12) (N := 29) hx hb hts iw_X12_least_X12 hown hK hP 0 rfl rfl 17 (by decide) (hts (.fieldLink RX12 42 "HolelessHouseModel" "least" "[I") hm_X12_least_1) (fun _ h9 => h9) rfl dX12_least_37 ?_
          refine lv_iload_n hx hb dX12_least_40 rfl (lv_at hl 0 rfl) ?_
          refine lv_sipush (v := 1000) hx hb dX12_least_41 (by decide) ?_
          refine k_iast hx hb hK hP hD hS 3 0 rfl rfl (vin_iv j715 (by decide)) dX12_least_44 (fun f716 H locs f716_e hP hD hS => ?_)
          have hP : va_P (dC, dI) vwCl ([(o1, .inr (12, [.int v2, .ref o3, .int v5, .ref o6, .int v8, .ref o9, .ref o11, .int v13, .ref o14, .int v16, .ref o17, .int v19, .int v20, .int v21, .ref o22, .ref o24, .ref o26, .ref o28, .ref o30, .int v32, .ref o33, .ref o35, .ref o37, .int v39, .ref o40, .ref o42, .ref o44, .int v46, .ref o47])), (o6, .inl (cI, 12, .inl fw7)), (o26, .inl (cI, 49152, .inl f7)), (o28, .inl (cI, 4096, .inl f716)), (o22, .inl (cI, 12, .inl fw23)), (o24, .inl (cI, 12, .inl fw25)), (o17, .inl (cI, 12, .inl fw18))]) H := hP
          have hD : va_D A ([(o1, .inr (12, [.int v2, .ref o3, .int v5, .ref o6, .int v8, .ref o9, .ref o11, .int v13, .ref o14, .int v16, .ref o17, .int v19, .int v20, .int v21, .ref o22, .ref o24, .ref o26, .ref o28, .ref o30, .int v32, .ref o33, .ref o35, .ref o37, .int v39, .ref o40, .ref o42, .ref o44, .int v46, .ref o47])), (o6, .inl (cI, 12, .inl fw7)), (o26, .inl (cI, 49152, .inl f7)), (o28, .inl (cI, 4096, .inl f716)), (o22, .inl (cI, 12, .inl fw23)), (o24, .inl (cI, 12, .inl fw25)), (o17, .inl (cI, 12, .inl fw18))]) := hD
          refine lv_iconst (v := 0) hx hb dX12_least_45 (by decide) ?_
          refine lv_istore_n (lv' := [(3, .int 0), (2, .int x468), (0, .ref o1), (1, .int a1)]) hx hb dX12_least_46 rfl hl (by decide) rfl (fun ls hl => ?_)
          have L8 : ∀ (N : Nat) (x912 : Int32) (f913 : Nat → Int32) (H : Heap) (locs : List Loc) (ls : Array Slot), (12 - x912.toInt).toNat < N → Iv 0 12 x912 → (DPx f7 f913 (Int32.toNatClampNeg v5) a1 (Int32.toInt x468)) → (LM f7 f913 (Int32.toNatClampNeg v5) a1 x468 (Int32.toNatClampNeg x912)) → (0 ≤ Int32.toInt x912 ∧ Int32.toInt x912 ≤ Int32.toInt v5) → va_P (dC, dI) vwCl ([(o1, .inr (12, [.int v2, .ref o3, .int v5, .ref o6, .int v8, .ref o9, .ref o11, .int v13, .ref o14, .int v16, .ref o17, .int v19, .int v20, .int v21, .ref o22, .ref o24, .ref o26, .ref o28, .ref o30, .int v32, .ref o33, .ref o35, .ref o37, .int v39, .ref o40, .ref o42, .ref o44, .int v46, .ref o47])), (o6, .inl (cI, 12, .inl fw7)), (o26, .inl (cI, 49152, .inl f7)), (o28, .inl (cI, 4096, .inl f913)), (o22, .inl (cI, 12, .inl fw23)), (o24, .inl (cI, 12, .inl fw25)), (o17, .inl (cI, 12, .inl fw18))]) H → va_D A ([(o1, .inr (12, [.int v2, .ref o3, .int v5, .ref o6, .int v8, .ref o9, .ref o11, .int v13, .ref o14, .int v16, .ref o17, .int v19, .int v20, .int v21, .ref o22, .ref o24, .ref o26, .ref o28, .ref o30, .int v32, .ref o33, .ref o35, .ref o37, .int v39, .ref o40, .ref o42, .ref o44, .int v46, .ref o47])), (o6, .inl (cI, 12, .inl fw7)), (o26, .inl (cI, 49152, .inl f7)), (o28, .inl (cI, 4096, .inl f913)), (o22, .inl (cI, 12, .inl fw23)), (o24, .inl (cI, 12, .inl fw25)), (o17, .inl (cI, 12, .inl fw18))]) → va_S A s.heap H locs → lv_has ls 5 [(3, .int x912), (2, .int x468), (0, .ref o1), (1, .int a1)] → W p l e ({ frames := 3, cells := 0, slots := 0, locals := 73 }) s m ([.ref o1, .int a1] : List Value).toArray below meth c H locs 0 0 Q (F0 m 47 ls []) := by
            intro N
            induction N with
            | zero =>
              intro x912 f913 H locs ls hM
              exact absurd hM (Nat.not_lt_zero _)
            | succ N ih8 =>
              intro x912 f913 H locs ls hM8 x912_h iv8_0 iv8_1 iv8_2 hP hD hS hl
              refine lv_iload_n hx hb dX12_least_47 rfl (lv_at hl 0 rfl) ?_
              refine lv_aload_n hx hb dX12_least_48 rfl (lv_at hl 2 rfl) ?_
              refine va_get (D := (dC, dI)) (ci := 12) (v := .int v5) (C := RX12) (T := TX12) (N := 29) hx hb hts iw_X12_least_X12 hown hK hP 0 rfl rfl 2 (by decide) (hts (.fieldLink RX12 73 "HolelessHouseModel" "n" "I") hm_X12_least_2) (fun _ h9 => h9) rfl dX12_least_49 ?_
              refine lv_icmp_ge (tgt := 106) hx hb dX12_least_52 (by decide) (fun h914 => ?_) (fun h914 => ?_)
              ·
                have qh914 := le_i h914
                obtain ⟨x915, x915_e⟩ : ∃ z : Int32, z = x468 + (-1) := ⟨_, rfl⟩
                have x915_h : Iv (-1) 4093 x915 := iv_e x915_e (iv_add j715 ikm_1 (by decide))
                refine lv_iinc (v := x915) (lv' := [(2, .int x915), (3, .int x912), (0, .ref o1), (1, .int a1)]) hx hb dX12_least_106 hl (k := 1) rfl (incN (by decide +kernel) x915_e) (by decide) rfl (fun ls hl => ?_)
                refine lv_goto (tgt := 32) hx hb dX12_least_109 (by decide) ?_
                exact ih3 x915 f913 _ _ _ (ms_dn x915_e j715 (by decide) hM3) (iv_w x915_h (by decide)) (DP_s iv8_0 iv8_1 e12 (iv_w (c := 0) (d := 4095) j715 (by decide)) iv3_1 qh914 iv8_2.2 (by have a0 := tia x915_e j715 ikm_1 (by decide); omega)) (by have a0 := tia x915_e j715 ikm_1 (by decide); have a1 := iv3_1; omega) hP hD hS (lv_sub hl [0, 2, 3] rfl)
              ·
                have qh914 := nle_i h914
                have j916 : Iv 0 11 x912 := r_ltl qh914 x912_h v5_h (by decide)
                have j917 : Iv 1 12 v5 := r_ltr qh914 x912_h v5_h (by decide)
                refine lv_iload_n hx hb dX12_least_55 rfl (lv_at hl 1 rfl) ?_
                refine lv_iload_n hx hb dX12_least_56 rfl (lv_at hl 0 rfl) ?_
                refine kc_i (D := (dC, dI)) (S := Unit) (wc := []) (wr := [(o1, .inr (12, [.int v2, .ref o3, .int v5, .ref o6, .int v8, .ref o9, .ref o11, .int v13, .ref o14, .int v16, .ref o17, .int v19, .int v20, .int v21, .ref o22, .ref o24, .ref o26, .ref o28, .ref o30, .int v32, .ref o33, .ref o35, .ref o37, .int v39, .ref o40, .ref o42, .ref o44, .int v46, .ref o47])), (o6, .inl (cI, 12, .inl fw7)), (o26, .inl (cI, 49152, .inl f7)), (o28, .inl (cI, 4096, .inl f913)), (o22, .inl (cI, 12, .inl fw23)), (o24, .inl (cI, 12, .inl fw25)), (o17, .inl (cI, 12, .inl fw18))]) (w1 := fun _ => []) (wn := fun _ => [(o1, .inr (12, [.int v2, .ref o3, .int v5, .ref o6, .int v8, .ref o9, .ref o11, .int v13, .ref o14, .int v16, .ref o17, .int v19, .int v20, .int v21, .ref o22, .ref o24, .ref o26, .ref o28, .ref o30, .int v32, .ref o33, .ref o35, .ref o37, .int v39, .ref o40, .ref o42, .ref o44, .int v46, .ref o47])), (o6, .inl (cI, 12, .inl fw7)), (o26, .inl (cI, 49152, .inl f7)), (o28, .inl (cI, 4096, .inl f913)), (o22, .inl (cI, 12, .inl fw23)), (o24, .inl (cI, 12, .inl fw25)), (o17, .inl (cI, 12, .inl fw18))]) (fun hPc hDc => va_runS (As := [.int x468, .int x912]) (rest := []) ⟨hx, hb, hml, hown, hts⟩ (kX12_has_1 l dC dI cI c2 cZ x468 x912 H.size (iv_w j916 (by decide))) (va_cwS 2 hts gX12_least_X12_has rfl rfl rfl (by decide +kernel) ⟨Nat.le_of_ble_eq_true rfl, Nat.le_of_ble_eq_true rfl⟩) (pre_S hPc hK hDc hN) rfl rfl hl.1 rfl (lv_room (Nat.le_of_ble_eq_true rfl)) dX12_least_57 ⟨Nat.le_of_ble_eq_true rfl, Nat.le_of_ble_eq_true rfl⟩) hP hD hS hA [] [0, 1, 2, 3, 4, 5, 6] [0, 1, 2, 3, 4, 5, 6] rfl rfl (by decide +kernel) (by decide +kernel) (by decide +kernel) (by decide +kernel) (fun _ => rfl) (fun x918 _ H locs hq hP hD hS => ?_)
                obtain ⟨x918_h, e919⟩ := hq
                have hP : va_P (dC, dI) vwCl ([(o1, .inr (12, [.int v2, .ref o3, .int v5, .ref o6, .int v8, .ref o9, .ref o11, .int v13, .ref o14, .int v16, .ref o17, .int v19, .int v20, .int v21, .ref o22, .ref o24, .ref o26, .ref o28, .ref o30, .int v32, .ref o33, .ref o35, .ref o37, .int v39, .ref o40, .ref o42, .ref o44, .int v46, .ref o47])), (o6, .inl (cI, 12, .inl fw7)), (o26, .inl (cI, 49152, .inl f7)), (o28, .inl (cI, 4096, .inl f913)), (o22, .inl (cI, 12, .inl fw23)), (o24, .inl (cI, 12, .inl fw25)), (o17, .inl (cI, 12, .inl fw18))]) H := hP
                have hD : va_D A ([(o1, .inr (12, [.int v2, .ref o3, .int v5, .ref o6, .int v8, .ref o9, .ref o11, .int v13, .ref o14, .int v16, .ref o17, .int v19, .int v20, .int v21, .ref o22, .ref o24, .ref o26, .ref o28, .ref o30, .int v32, .ref o33, .ref o35, .ref o37, .int v39, .ref o40, .ref o42, .ref o44, .int v46, .ref o47])), (o6, .inl (cI, 12, .inl fw7)), (o26, .inl (cI, 49152, .inl f7)), (o28, .inl (cI, 4096, .inl f913)), (o22, .inl (cI, 12, .inl fw23)), (o24, .inl (cI, 12, .inl fw25)), (o17, .inl (cI, 12, .inl fw18))]) := hD
                refine lv_if_ne (tgt := 100) hx hb dX12_least_60 (by decide) (fun h920 => ?_) (fun h920 => ?_)
                ·
                  have j921 : Iv 1 1 x918 := r_nelo h920 x918_h ik_0 (by decide)
                  have b922 : bt x468 (Int32.toNatClampNeg x912) = true := has_t e919 h920
                  obtain ⟨x923, x923_e⟩ : ∃ z : Int32, z = x912 + 1 := ⟨_, rfl⟩
                  have x923_h : Iv 1 12 x923 := iv_e x923_e (iv_add j916 ik_1 (by decide))
                  refine lv_iinc (v := x923) (lv' := [(3, .int x923), (2, .int x468), (0, .ref o1), (1, .int a1)]) hx hb dX12_least_100 hl (k := 0) rfl (incN (by decide +kernel) x923_e) (by decide) rfl (fun ls hl => ?_)
                  refine lv_goto (tgt := 47) hx hb dX12_least_103 (by decide) ?_
                  exact ih8 x923 f913 _ _ _ (ms_up x923_e j916 (by decide) hM8) (iv_w x923_h (by decide)) iv8_0 (LM_t iv8_1 (iv_w (c := 0) (d := 4095) j916 (by decide)) x923_e b922) (by have a0 := tia x923_e j916 ik_1 (by decide); have a1 := qh914; have a2 := iv8_2; exact ⟨by omega, by omega⟩) hP hD hS hl
                ·
                  have j924 : Iv 0 0 x918 := r_eq h920 ik_0
                  have b925 : bt x468 (Int32.toNatClampNeg x912) = false := has_f e919 h920
                  refine lv_aload_n hx hb dX12_least_63 rfl (lv_at hl 2 rfl) ?_
                  refine lv_iload_n hx hb dX12_least_64 rfl (lv_at hl 3 rfl) ?_
                  refine lv_iload_n hx hb dX12_least_65 rfl (lv_at hl 1 rfl) ?_
                  refine lv_iload_n hx hb dX12_least_66 rfl (lv_at hl 0 rfl) ?_
                  refine kc_i (D := (dC, dI)) (S := Unit) (wc := [(o1, .inr (12, [.int v2, .ref o3, .int v5, .ref o6, .int v8, .ref o9, .ref o11, .int v13, .ref o14, .int v16, .ref o17, .int v19, .int v20, .int v21, .ref o22, .ref o24, .ref o26, .ref o28, .ref o30, .int v32, .ref o33, .ref o35, .ref o37, .int v39, .ref o40, .ref o42, .ref o44, .int v46, .ref o47])), (o26, .inl (cI, 49152, .inl f7)), (o28, .inl (cI, 4096, .inl f913))]) (wr := [(o6, .inl (cI, 12, .inl fw7)), (o22, .inl (cI, 12, .inl fw23)), (o24, .inl (cI, 12, .inl fw25)), (o17, .inl (cI, 12, .inl fw18))]) (w1 := fun _ => [(o1, .inr (12, [.int v2, .ref o3, .int v5, .ref o6, .int v8, .ref o9, .ref o11, .int v13, .ref o14, .int v16, .ref o17, .int v19, .int v20, .int v21, .ref o22, .ref o24, .ref o26, .ref o28, .ref o30, .int v32, .ref o33, .ref o35, .ref o37, .int v39, .ref o40, .ref o42, .ref o44, .int v46, .ref o47])), (o26, .inl (cI, 49152, .inl f7)), (o28, .inl (cI, 4096, .inl f913))]) (wn := fun _ => [(o1, .inr (12, [.int v2, .ref o3, .int v5, .ref o6, .int v8, .ref o9, .ref o11, .int v13, .ref o14, .int v16, .ref o17, .int v19, .int v20, .int v21, .ref o22, .ref o24, .ref o26, .ref o28, .ref o30, .int v32, .ref o33, .ref o35, .ref o37, .int v39, .ref o40, .ref o42, .ref o44, .int v46, .ref o47])), (o6, .inl (cI, 12, .inl fw7)), (o26, .inl (cI, 49152, .inl f7)), (o28, .inl (cI, 4096, .inl f913)), (o22, .inl (cI, 12, .inl fw23)), (o24, .inl (cI, 12, .inl fw25)), (o17, .inl (cI, 12, .inl fw18))]) (fun hPc hDc => va_runV (As := [.int a1, .int x468, .int x912]) (rest := []) ⟨hx, hb, hml, hown, hts⟩ (kX12_withLater_1 l dC dI cI c2 cZ o1 o3 o6 o9 o11 o14 o17 o22 o24 o26 o28 o30 o33 o35 o37 o40 o42 o44 o47 v2 v5 v8 v13 v16 v19 v20 v21 f7 f913 v32 v39 v46 a1 x468 x912 H.size (iv_w j917 (by decide)) v8_h v13_h v16_h v19_h f7_b v32_h v39_h v46_h j6 (iv_w j715 (by decide)) j916) (cwV 3 hts gX12_least_X12_withLater rfl rfl rfl (by decide +kernel) ⟨Nat.le_of_ble_eq_true rfl, Nat.le_of_ble_eq_true rfl⟩) (pre_V hPc hK hDc hN (ci := 12) (q0 := 0) rfl rfl) rfl rfl hl.1 rfl (lv_room (Nat.le_of_ble_eq_true rfl)) dX12_least_67 ⟨Nat.le_of_ble_eq_true rfl, Nat.le_of_ble_eq_true rfl⟩) hP hD hS hA [0, 2, 3] [1, 4, 5, 6] [4, 0, 5, 6, 1, 2, 3] rfl rfl (by decide +kernel) (by decide +kernel) (by decide +kernel) (by decide +kernel) (fun _ => rfl) (fun x926 _ H locs hq hP hD hS => ?_)
                  obtain ⟨e927, e928⟩ := hq
                  have hP : va_P (dC, dI) vwCl ([(o1, .inr (12, [.int v2, .ref o3, .int v5, .ref o6, .int v8, .ref o9, .ref o11, .int v13, .ref o14, .int v16, .ref o17, .int v19, .int v20, .int v21, .ref o22, .ref o24, .ref o26, .ref o28, .ref o30, .int v32, .ref o33, .ref o35, .ref o37, .int v39, .ref o40, .ref o42, .ref o44, .int v46, .ref o47])), (o6, .inl (cI, 12, .inl fw7)), (o26, .inl (cI, 49152, .inl f7)), (o28, .inl (cI, 4096, .inl f913)), (o22, .inl (cI, 12, .inl fw23)), (o24, .inl (cI, 12, .inl fw25)), (o17, .inl (cI, 12, .inl fw18))]) H := hP
                  have hD : va_D A ([(o1, .inr (12, [.int v2, .ref o3, .int v5, .ref o6, .int v8, .ref o9, .ref o11, .int v13, .ref o14, .int v16, .ref o17, .int v19, .int v20, .int v21, .ref o22, .ref o24, .ref o26, .ref o28, .ref o30, .int v32, .ref o33, .ref o35, .ref o37, .int v39, .ref o40, .ref o42, .ref o44, .int v46, .ref o47])), (o6, .inl (cI, 12, .inl fw7)), (o26, .inl (cI, 49152, .inl f7)), (o28, .inl (cI, 4096, .inl f913)), (o22, .inl (cI, 12, .inl fw23)), (o24, .inl (cI, 12, .inl fw25)), (o17, .inl (cI, 12, .inl fw18))]) := hD
                  refine lv_istore (lv' := [(4, .int x926), (3, .int x912), (2, .int x468), (0, .ref o1), (1, .int a1)]) hx hb dX12_least_70 hl (by decide) rfl (fun ls hl => ?_)
                  refine lv_aload_n hx hb dX12_least_72 rfl (lv_at hl 3 rfl) ?_
                  refine va_get (D := (dC, dI)) (ci := 12) (v := .ref o28) (C := RX12) (T := TX12) (N := 29) hx hb hts iw_X12_least_X12 hown hK hP 0 rfl rfl 17 (by decide) (hts (.fieldLink RX12 42 "HolelessHouseModel" "least" "[I") hm_X12_least_1) (fun _ h9 => h9) rfl dX12_least_73 ?_
                  refine lv_iload_n hx hb dX12_least_76 rfl (lv_at hl 2 rfl) ?_
                  refine lv_iload hx hb dX12_least_77 (lv_at hl 0 rfl) ?_
                  refine lv_aload_n hx hb dX12_least_79 rfl (lv_at hl 3 rfl) ?_
                  refine va_get (D := (dC, dI)) (ci := 12) (v := .ref o28) (C := RX12) (T := TX12) (N := 29) hx hb hts iw_X12_least_X12 hown hK hP 0 rfl rfl 17 (by decide) (hts (.fieldLink RX12 42 "HolelessHouseModel" "least" "[I") hm_X12_least_1) (fun _ h9 => h9) rfl dX12_least_80 ?_
                  refine lv_iload_n hx hb dX12_least_83 rfl (lv_at hl 2 rfl) ?_
                  refine va_iald hx hb hK hP 3 0 rfl rfl (vin_iv j715 (by decide)) dX12_least_84 (lv_topi (fun x929 x929_e => ?_))
                  refine lv_icmp_ge (tgt := 93) hx hb dX12_least_85 (by decide) (fun h930 => ?_) (fun h930 => ?_)
                  ·
                    have qh930 := le_i h930
                    refine lv_aload_n hx hb dX12_least_93 rfl (lv_at hl 3 rfl) ?_
                    refine va_get (D := (dC, dI)) (ci := 12) (v := .ref o28) (C := RX12) (T := TX12) (N := 29) hx hb hts iw_X12_least_X12 hown hK hP 0 rfl rfl 17 (by decide) (hts (.fieldLink RX12 42 "HolelessHouseModel" "least" "[I") hm_X12_least_1) (fun _ h9 => h9) rfl dX12_least_94 ?_
                    refine lv_iload_n hx hb dX12_least_97 rfl (lv_at hl 2 rfl) ?_
                    refine va_iald hx hb hK hP 3 0 rfl rfl (vin_iv j715 (by decide)) dX12_least_98 (lv_topi (fun x931 x931_e => ?_))
                    refine k_iast hx hb hK hP hD hS 3 0 rfl rfl (vin_iv j715 (by decide)) dX12_least_99 (fun f932 H locs f932_e hP hD hS => ?_)
                    have hP : va_P (dC, dI) vwCl ([(o1, .inr (12, [.int v2, .ref o3, .int v5, .ref o6, .int v8, .ref o9, .ref o11, .int v13, .ref o14, .int v16, .ref o17, .int v19, .int v20, .int v21, .ref o22, .ref o24, .ref o26, .ref o28, .ref o30, .int v32, .ref o33, .ref o35, .ref o37, .int v39, .ref o40, .ref o42, .ref o44, .int v46, .ref o47])), (o6, .inl (cI, 12, .inl fw7)), (o26, .inl (cI, 49152, .inl f7)), (o28, .inl (cI, 4096, .inl f932)), (o22, .inl (cI, 12, .inl fw23)), (o24, .inl (cI, 12, .inl fw25)), (o17, .inl (cI, 12, .inl fw18))]) H := hP
                    have hD : va_D A ([(o1, .inr (12, [.int v2, .ref o3, .int v5, .ref o6, .int v8, .ref o9, .ref o11, .int v13, .ref o14, .int v16, .ref o17, .int v19, .int v20, .int v21, .ref o22, .ref o24, .ref o26, .ref o28, .ref o30, .int v32, .ref o33, .ref o35, .ref o37, .int v39, .ref o40, .ref o42, .ref o44, .int v46, .ref o47])), (o6, .inl (cI, 12, .inl fw7)), (o26, .inl (cI, 49152, .inl f7)), (o28, .inl (cI, 4096, .inl f932)), (o22, .inl (cI, 12, .inl fw23)), (o24, .inl (cI, 12, .inl fw25)), (o17, .inl (cI, 12, .inl fw18))]) := hD
                    obtain ⟨x933, x933_e⟩ : ∃ z : Int32, z = x912 + 1 := ⟨_, rfl⟩
                    have x933_h : Iv 1 12 x933 := iv_e x933_e (iv_add j916 ik_1 (by decide))
                    refine lv_iinc (v := x933) (lv' := [(3, .int x933), (4, .int x926), (2, .int x468), (0, .ref o1), (1, .int a1)]) hx hb dX12_least_100 hl (k := 1) rfl (incN (by decide +kernel) x933_e) (by decide) rfl (fun ls hl => ?_)
                    refine lv_goto (tgt := 47) hx hb dX12_least_103 (by decide) ?_
                    exact ih8 x933 f932 _ _ _ (ms_up x933_e j916 (by decide) hM8) (iv_w x933_h (by decide)) (DP_upd iv8_0 (cl_b (iv_w (c := 0) (d := 12) j917 (by decide)) (by decide)) (iv_w (c := 0) (d := 4095) j715 (by decide)) (Int.le_refl _) f932_e) (LM_f iv8_1 iv8_0 (cl_b (iv_w (c := 0) (d := 12) j917 (by decide)) (by decide)) (iv_w (c := 0) (d := 4095) j715 (by decide)) (bel_le e12 (iv_w (c := 0) (d := 4095) j715 (by decide)) (Int.le_of_lt iv3_1)) j916 (cl_in qh914 j916) b925 e927 e928 x933_e x929_e (Or.inr ⟨x931_e.trans x929_e.symm, qh930⟩) f932_e) (by have a0 := tia x933_e j916 ik_1 (by decide); have a1 := qh914; have a2 := iv8_2; exact ⟨by omega, by omega⟩) hP hD hS (lv_sub hl [0, 2, 3, 4] rfl)
                  ·
                    have qh930 := nle_i h930
                    have j934 : Iv (-2147483648) 2147483646 x926 := r_ltl qh930 (iv_full x926) (iv_full x929) (by decide)
                    have j935 : Iv (-2147483647) 2147483647 x929 := r_ltr qh930 (iv_full x926) (iv_full x929) (by decide)
                    refine lv_iload hx hb dX12_least_88 (lv_at hl 0 rfl) ?_
                    refine lv_goto (tgt := 99) hx hb dX12_least_90 (by decide) ?_
                    refine k_iast hx hb hK hP hD hS 3 0 rfl rfl (vin_iv j715 (by decide)) dX12_least_99 (fun f936 H locs f936_e hP hD hS => ?_)
                    have hP : va_P (dC, dI) vwCl ([(o1, .inr (12, [.int v2, .ref o3, .int v5, .ref o6, .int v8, .ref o9, .ref o11, .int v13, .ref o14, .int v16, .ref o17, .int v19, .int v20, .int v21, .ref o22, .ref o24, .ref o26, .ref o28, .ref o30, .int v32, .ref o33, .ref o35, .ref o37, .int v39, .ref o40, .ref o42, .ref o44, .int v46, .ref o47])), (o6, .inl (cI, 12, .inl fw7)), (o26, .inl (cI, 49152, .inl f7)), (o28, .inl (cI, 4096, .inl f936)), (o22, .inl (cI, 12, .inl fw23)), (o24, .inl (cI, 12, .inl fw25)), (o17, .inl (cI, 12, .inl fw18))]) H := hP
                    have hD : va_D A ([(o1, .inr (12, [.int v2, .ref o3, .int v5, .ref o6, .int v8, .ref o9, .ref o11, .int v13, .ref o14, .int v16, .ref o17, .int v19, .int v20, .int v21, .ref o22, .ref o24, .ref o26, .ref o28, .ref o30, .int v32, .ref o33, .ref o35, .ref o37, .int v39, .ref o40, .ref o42, .ref o44, .int v46, .ref o47])), (o6, .inl (cI, 12, .inl fw7)), (o26, .inl (cI, 49152, .inl f7)), (o28, .inl (cI, 4096, .inl f936)), (o22, .inl (cI, 12, .inl fw23)), (o24, .inl (cI, 12, .inl fw25)), (o17, .inl (cI, 12, .inl fw18))]) := hD
                    obtain ⟨x937, x937_e⟩ : ∃ z : Int32, z = x912 + 1 := ⟨_, rfl⟩
                    have x937_h : Iv 1 12 x937 := iv_e x937_e (iv_add j916 ik_1 (by decide))
                    refine lv_iinc (v := x937) (lv' := [(3, .int x937), (4, .int x926), (2, .int x468), (0, .ref o1), (1, .int a1)]) hx hb dX12_least_100 hl (k := 1) rfl (incN (by decide +kernel) x937_e) (by decide) rfl (fun ls hl => ?_)
                    refine lv_goto (tgt := 47) hx hb dX12_least_103 (by decide) ?_
                    exact ih8 x937 f936 _ _ _ (ms_up x937_e j916 (by decide) hM8) (iv_w x937_h (by decide)) (DP_upd iv8_0 (cl_b (iv_w (c := 0) (d := 12) j917 (by decide)) (by decide)) (iv_w (c := 0) (d := 4095) j715 (by decide)) (Int.le_refl _) f936_e) (LM_f iv8_1 iv8_0 (cl_b (iv_w (c := 0) (d := 12) j917 (by decide)) (by decide)) (iv_w (c := 0) (d := 4095) j715 (by decide)) (bel_le e12 (iv_w (c := 0) (d := 4095) j715 (by decide)) (Int.le_of_lt iv3_1)) j916 (cl_in qh914 j916) b925 e927 e928 x937_e x929_e (Or.inl ⟨rfl, qh930⟩) f936_e) (by have a0 := tia x937_e j916 ik_1 (by decide); have a1 := qh914; have a2 := iv8_2; exact ⟨by omega, by omega⟩) hP hD hS (lv_sub hl [0, 2, 3, 4] rfl)
          exact L8 _ 0 f716 _ _ _ (Nat.lt_succ_self _) (iv_w ik_0 (by decide)) (DP_upd iv3_0 (cl_b v5_h (by decide)) (iv_w (c := 0) (d := 4095) j715 (by decide)) (Int.le_refl _) f716_e) (LM_0 f716_e) (by have a0 := (show Int32.toInt 0 = 0 by decide +kernel); have a1 := (show _ ≤ _ ∧ _ ≤ _ from v5_h); exact ⟨by omega, by omega⟩) hP hD hS hl
    exact L3 _ x13 f10 _ _ _ (Nat.lt_succ_self _) x13_h (DP_0 e9 e12 f10_e (by have a0 := (congrArg Int32.toInt x13_e).trans (ti_subc x11_h ik_1 (by decide)); have a1 := (show Int32.toInt 1 = 1 by decide +kernel); omega)) (by have a0 := (congrArg Int32.toInt x13_e).trans (ti_subc x11_h ik_1 (by decide)); have a1 := (show Int32.toInt 1 = 1 by decide +kernel); omega) hP hD hS hl
  ·
    have j938 : Iv 0 0 x1 := r_eq h4 ik_0
    refine lv_iconst (v := (-1)) hx hb dX12_least_9 (by decide) ?_
    rw [hQ]
    exact W.iret (v := (-1)) hx hb hr (fun t ht hW => ⟨⟨(-1), (v19, v20, v21, fw27, fw29, fw23, fw25, fw18), rfl, ⟨v19_h, fw27_b, fw23_b, fw25_b, fw18_b⟩, by rw [ht]; exact hP, va_K.moved hW.alike hK, hD⟩, hS.F ht⟩) hS.2.2 dX12_least_10
set_option maxHeartbeats 4000000 in
set_option maxRecDepth 100000 in
theorem kX12_in_6 (l : Launch) (dC : Nat → ClassId) (dI : Nat → Nat → Nat) (cI c2 cZ : ClassId) (a0 : Int32) (a1 : Int32) (a2 : Int32) (sz : Nat) (a1_h : Iv 0 0 a1) (a2_h : Iv (-2147483648) 11 a2) : Met l yX12_in wsX12_in ({ frames := 0, cells := 0, slots := 0, locals := 0 }) (va_Pc [.int a0, .int a1, .int a2] (wPre (dC, dI) [(cI, .int), (c2, .array .int), (cZ, .boolean)] ([]) sz)) (va_Qi (fun (r : Int32) (_ : Unit) => Iv 0 1 r ∧ (¬ r = 0 → Iv 0 11 a0) ∧ (¬ r = 0 → Iv 0 11 a2) ∧ (¬ r = 0 → Int32.toInt a1 ≤ Int32.toInt a0 ∧ Int32.toInt a0 ≤ Int32.toInt a2)) (fun _ t => wPost (dC, dI) [(cI, .int), (c2, .array .int), (cZ, .boolean)] (va_A ([]) sz) ([]) t) (va_A ([]) sz)) 0 0 (va_A ([]) sz) := by
  refine Met.ofW (cc := cX12_in) (maxL := 3) (ret := (some .boolean)) (by decide) rfl ?_
  intro p e s m args below meth c s₁ B hml hv
  obtain ⟨rfl, hsz, hP, hK, hD0, hN⟩ := hv
  have hx := B.exec
  have hb := B.bytes
  have hr := B.returns
  have hts := atoms_spec (ws := wsX12_in) B.pre
  have hown : s.vm.findClass RX12 = some m.cls := findClass_of_methodNamed B.named
  have hlocks := B.notSynchronized
  subst hsz
  have hD := hD0.self (sz := s.heap.size)
  generalize hAe : va_A ([]) s.heap.size = A at hD ⊢
  have hA : ∀ q : Nat, s.heap.size ≤ q → A q := fun q h => by rw [← hAe]; exact Or.inr h
  have hS : va_S A s.heap s.heap [] := va_S.rf
  have hP : va_P (dC, dI) vwCl ([]) s.heap := hP
  have hl := lv_entry ([.int a0, .int a1, .int a2]) (n := 3) (Nat.le_of_ble_eq_true rfl)
  rw [lg_entry_eq]
  generalize (lg_sl ([.int a0, .int a1, .int a2]) ++ List.replicate (3 - (lg_sl ([.int a0, .int a1, .int a2])).length) Slot.unset).toArray = ls at hl ⊢
  have hl : lv_has ls 3 [(0, .int a0), (1, .int a1), (2, .int a2)] := hl
  refine gen_Q (fun Q hQ => ?_)
  refine lv_iload_n hx hb dX12_in_0 rfl (lv_at hl 0 rfl) ?_
  refine lv_iload_n hx hb dX12_in_1 rfl (lv_at hl 1 rfl) ?_
  refine lv_icmp_lt (tgt := 14) hx hb dX12_in_2 (by decide) (fun h1 => ?_) (fun h1 => ?_)
  ·
    have qh1 := lt_i h1
    have j2 : Iv (-2147483648) (-1) a0 := r_ltl qh1 (iv_full a0) a1_h (by decide)
    refine lv_iconst (v := 0) hx hb dX12_in_14 (by decide) ?_
    rw [hQ]
    exact W.zret (v := 0) (ty := .boolean) hx hb hr rfl (fun t ht hW => ⟨⟨0, (), rfl, ⟨(iv_w ik_0 (by decide)), (fun h8 => absurd rfl h8), (fun h8 => absurd rfl h8), (fun h8 => absurd rfl h8)⟩, by rw [ht]; exact hP, va_K.moved hW.alike hK, hD⟩, hS.F ht⟩) hS.2.2 dX12_in_15
  ·
    have qh1 := nlt_i h1
    have j3 : Iv 0 2147483647 a0 := r_ler qh1 a1_h (iv_full a0) (by decide)
    refine lv_iload_n hx hb dX12_in_5 rfl (lv_at hl 0 rfl) ?_
    refine lv_iload_n hx hb dX12_in_6 rfl (lv_at hl 2 rfl) ?_
    refine lv_icmp_gt (tgt := 14) hx hb dX12_in_7 (by decide) (fun h4 => ?_) (fun h4 => ?_)
    ·
      have qh4 := lt_i h4
      refine lv_iconst (v := 0) hx hb dX12_in_14 (by decide) ?_
      rw [hQ]
      exact W.zret (v := 0) (ty := .boolean) hx hb hr rfl (fun t ht hW => ⟨⟨0, (), rfl, ⟨(iv_w ik_0 (by decide)), (fun h8 => absurd rfl h8), (fun h8 => absurd rfl h8), (fun h8 => absurd rfl h8)⟩, by rw [ht]; exact hP, va_K.moved hW.alike hK, hD⟩, hS.F ht⟩) hS.2.2 dX12_in_15
    ·
      have qh4 := nlt_i h4
      have j5 : Iv 0 11 a0 := r_lel qh4 j3 a2_h (by decide)
      have j6 : Iv 0 11 a2 := r_ler qh4 j3 a2_h (by decide)
      refine lv_iconst (v := 1) hx hb dX12_in_10 (by decide) ?_
      refine lv_goto (tgt := 15) hx hb dX12_in_11 (by decide) ?_
      rw [hQ]
      exact W.zret (v := 1) (ty := .boolean) hx hb hr rfl (fun t ht hW => ⟨⟨1, (), rfl, ⟨(iv_w ik_1 (by decide)), (fun _ => j5), (fun _ => j6), (fun _ => ⟨qh1, qh4⟩)⟩, by rw [ht]; exact hP, va_K.moved hW.alike hK, hD⟩, hS.F ht⟩) hS.2.2 dX12_in_15
theorem iw_X12_order_X12 : ∀ w ∈ wsX120, w ∈ wsX12_order := fun _ h => List.mem_cons.mpr (Or.inr (List.mem_append.mpr (Or.inr h)))
set_option maxHeartbeats 4000000 in
set_option maxRecDepth 100000 in
theorem kX12_order_1 (l : Launch) (dC : Nat → ClassId) (dI : Nat → Nat → Nat) (cI c2 cZ : ClassId) (o1 : Nat) (o3 : Nat) (o6 : Nat) (o9 : Nat) (o11 : Nat) (o14 : Nat) (o17 : Nat) (o22 : Nat) (o24 : Nat) (o26 : Nat) (o28 : Nat) (o30 : Nat) (o33 : Nat) (o35 : Nat) (o37 : Nat) (o40 : Nat) (o42 : Nat) (o44 : Nat) (o47 : Nat) (v2 : Int32) (v5 : Int32) (v8 : Int32) (v13 : Int32) (v16 : Int32) (fw18 : Nat → Int32) (v19 : Int32) (v20 : Int32) (v21 : Int32) (v32 : Int32) (v39 : Int32) (v46 : Int32) (a1 : Int32) (sz : Nat) (v5_h : Iv 0 12 v5) (v8_h : Iv 0 8 v8) (v13_h : Iv 0 12 v13) (v16_h : Iv 0 12 v16) (fw18_b : Bd 12 0 11 fw18) (v19_h : Iv (-9) 12 v19) (v32_h : Iv 0 99 v32) (v39_h : Iv 0 12 v39) (v46_h : Iv 0 12 v46) : Met l yX12_order wsX12_order ({ frames := 1, cells := 0, slots := 0, locals := 22 }) (va_Pc [.ref o1, .int a1] (wPre (dC, dI) [(cI, .int), (c2, .array .int), (cZ, .boolean)] ([(o1, .inr (12, [.int v2, .ref o3, .int v5, .ref o6, .int v8, .ref o9, .ref o11, .int v13, .ref o14, .int v16, .ref o17, .int v19, .int v20, .int v21, .ref o22, .ref o24, .ref o26, .ref o28, .ref o30, .int v32, .ref o33, .ref o35, .ref o37, .int v39, .ref o40, .ref o42, .ref o44, .int v46, .ref o47])), (o17, .inl (cI, 12, .inl fw18))]) sz)) (va_Qi (fun (r : Int32) (_ : Unit) => Iv (-9) 11 r) (fun _ t => wPost (dC, dI) [(cI, .int), (c2, .array .int), (cZ, .boolean)] (va_A ([(o1, .inr (12, [.int v2, .ref o3, .int v5, .ref o6, .int v8, .ref o9, .ref o11, .int v13, .ref o14, .int v16, .ref o17, .int v19, .int v20, .int v21, .ref o22, .ref o24, .ref o26, .ref o28, .ref o30, .int v32, .ref o33, .ref o35, .ref o37, .int v39, .ref o40, .ref o42, .ref o44, .int v46, .ref o47])), (o17, .inl (cI, 12, .inl fw18))]) sz) ([(o1, .inr (12, [.int v2, .ref o3, .int v5, .ref o6, .int v8, .ref o9, .ref o11, .int v13, .ref o14, .int v16, .ref o17, .int v19, .int v20, .int v21, .ref o22, .ref o24, .ref o26, .ref o28, .ref o30, .int v32, .ref o33, .ref o35, .ref o37, .int v39, .ref o40, .ref o42, .ref o44, .int v46, .ref o47])), (o17, .inl (cI, 12, .inl fw18))]) t) (va_A ([(o1, .inr (12, [.int v2, .ref o3, .int v5, .ref o6, .int v8, .ref o9, .ref o11, .int v13, .ref o14, .int v16, .ref o17, .int v19, .int v20, .int v21, .ref o22, .ref o24, .ref o26, .ref o28, .ref o30, .int v32, .ref o33, .ref o35, .ref o37, .int v39, .ref o40, .ref o42, .ref o44, .int v46, .ref o47])), (o17, .inl (cI, 12, .inl fw18))]) sz)) 0 0 (va_A ([(o1, .inr (12, [.int v2, .ref o3, .int v5, .ref o6, .int v8, .ref o9, .ref o11, .int v13, .ref o14, .int v16, .ref o17, .int v19, .int v20, .int v21, .ref o22, .ref o24, .ref o26, .ref o28, .ref o30, .int v32, .ref o33, .ref o35, .ref o37, .int v39, .ref o40, .ref o42, .ref o44, .int v46, .ref o47])), (o17, .inl (cI, 12, .inl fw18))]) sz) := by
  refine Met.ofW (cc := cX12_order) (maxL := 2) (ret := (some .int)) (by decide) rfl ?_
  intro p e s m args below meth c s₁ B hml hv
  obtain ⟨rfl, hsz, hP, hK, hD0, hN⟩ := hv
  have hx := B.exec
  have hb := B.bytes
  have hr := B.returns
  have hts := atoms_spec (ws := wsX12_order) B.pre
  have hown : s.vm.findClass RX12 = some m.cls := findClass_of_methodNamed B.named
  have hlocks := B.notSynchronized
  subst hsz
  have hD := hD0.self (sz := s.heap.size)
  generalize hAe : va_A ([(o1, .inr (12, [.int v2, .ref o3, .int v5, .ref o6, .int v8, .ref o9, .ref o11, .int v13, .ref o14, .int v16, .ref o17, .int v19, .int v20, .int v21, .ref o22, .ref o24, .ref o26, .ref o28, .ref o30, .int v32, .ref o33, .ref o35, .ref o37, .int v39, .ref o40, .ref o42, .ref o44, .int v46, .ref o47])), (o17, .inl (cI, 12, .inl fw18))]) s.heap.size = A at hD ⊢
  have hA : ∀ q : Nat, s.heap.size ≤ q → A q := fun q h => by rw [← hAe]; exact Or.inr h
  have hS : va_S A s.heap s.heap [] := va_S.rf
  have hP : va_P (dC, dI) vwCl ([(o1, .inr (12, [.int v2, .ref o3, .int v5, .ref o6, .int v8, .ref o9, .ref o11, .int v13, .ref o14, .int v16, .ref o17, .int v19, .int v20, .int v21, .ref o22, .ref o24, .ref o26, .ref o28, .ref o30, .int v32, .ref o33, .ref o35, .ref o37, .int v39, .ref o40, .ref o42, .ref o44, .int v46, .ref o47])), (o17, .inl (cI, 12, .inl fw18))]) s.heap := hP
  have hl := lv_entry ([.ref o1, .int a1]) (n := 2) (Nat.le_of_ble_eq_true rfl)
  rw [lg_entry_eq]
  generalize (lg_sl ([.ref o1, .int a1]) ++ List.replicate (2 - (lg_sl ([.ref o1, .int a1])).length) Slot.unset).toArray = ls at hl ⊢
  have hl : lv_has ls 2 [(0, .ref o1), (1, .int a1)] := hl
  refine gen_Q (fun Q hQ => ?_)
  refine lv_iload_n hx hb dX12_order_0 rfl (lv_at hl 1 rfl) ?_
  refine lv_iconst (v := 0) hx hb dX12_order_1 (by decide) ?_
  refine lv_aload_n hx hb dX12_order_2 rfl (lv_at hl 0 rfl) ?_
  refine va_get (D := (dC, dI)) (ci := 12) (v := .int v19) (C := RX12) (T := TX12) (N := 29) hx hb hts iw_X12_order_X12 hown hK hP 0 rfl rfl 11 (by decide) (hts (.fieldLink RX12 28 "HolelessHouseModel" "ordered" "I") hm_X12_order_1) (fun _ h9 => h9) rfl dX12_order_3 ?_
  refine lv_iconst (v := 1) hx hb dX12_order_6 (by decide) ?_
  refine lv_isub hx hb dX12_order_7 (lv_topi (fun x1 x1_e => ?_))
  have x1_h : Iv (-10) 11 x1 := iv_e x1_e (iv_sub v19_h ik_1 (by decide))
  refine kc_i (D := (dC, dI)) (S := Unit) (wc := []) (wr := [(o1, .inr (12, [.int v2, .ref o3, .int v5, .ref o6, .int v8, .ref o9, .ref o11, .int v13, .ref o14, .int v16, .ref o17, .int v19, .int v20, .int v21, .ref o22, .ref o24, .ref o26, .ref o28, .ref o30, .int v32, .ref o33, .ref o35, .ref o37, .int v39, .ref o40, .ref o42, .ref o44, .int v46, .ref o47])), (o17, .inl (cI, 12, .inl fw18))]) (w1 := fun _ => []) (wn := fun _ => [(o1, .inr (12, [.int v2, .ref o3, .int v5, .ref o6, .int v8, .ref o9, .ref o11, .int v13, .ref o14, .int v16, .ref o17, .int v19, .int v20, .int v21, .ref o22, .ref o24, .ref o26, .ref o28, .ref o30, .int v32, .ref o33, .ref o35, .ref o37, .int v39, .ref o40, .ref o42, .ref o44, .int v46, .ref o47])), (o17, .inl (cI, 12, .inl fw18))]) (fun hPc hDc => va_runS (As := [.int a1, .int 0, .int x1]) (rest := []) ⟨hx, hb, hml, hown, hts⟩ (kX12_in_6 l dC dI cI c2 cZ a1 0 x1 s.heap.size ik_0 (iv_w x1_h (by decide))) (va_cwS 3 hts gX12_order_X12_in rfl rfl rfl (by decide +kernel) ⟨Nat.le_of_ble_eq_true rfl, Nat.le_of_ble_eq_true rfl⟩) (pre_S hPc hK hDc hN) rfl rfl hl.1 rfl (lv_room (Nat.le_of_ble_eq_true rfl)) dX12_order_8 ⟨Nat.le_of_ble_eq_true rfl, Nat.le_of_ble_eq_true rfl⟩) hP hD hS hA [] [0, 1] [0, 1] rfl rfl (by decide +kernel) (by decide +kernel) (by decide +kernel) (by decide +kernel) (fun _ => rfl) (fun x2 _ H locs hq hP hD hS => ?_)
  obtain ⟨x2_h, i3, i4, e5⟩ := hq
  have hP : va_P (dC, dI) vwCl ([(o1, .inr (12, [.int v2, .ref o3, .int v5, .ref o6, .int v8, .ref o9, .ref o11, .int v13, .ref o14, .int v16, .ref o17, .int v19, .int v20, .int v21, .ref o22, .ref o24, .ref o26, .ref o28, .ref o30, .int v32, .ref o33, .ref o35, .ref o37, .int v39, .ref o40, .ref o42, .ref o44, .int v46, .ref o47])), (o17, .inl (cI, 12, .inl fw18))]) H := hP
  have hD : va_D A ([(o1, .inr (12, [.int v2, .ref o3, .int v5, .ref o6, .int v8, .ref o9, .ref o11, .int v13, .ref o14, .int v16, .ref o17, .int v19, .int v20, .int v21, .ref o22, .ref o24, .ref o26, .ref o28, .ref o30, .int v32, .ref o33, .ref o35, .ref o37, .int v39, .ref o40, .ref o42, .ref o44, .int v46, .ref o47])), (o17, .inl (cI, 12, .inl fw18))]) := hD
  refine lv_if_eq (tgt := 23) hx hb dX12_order_11 (by decide) (fun h6 => ?_) (fun h6 => ?_)
  ·
    have j7 : Iv 0 0 x2 := r_eq h6 ik_0
    refine lv_bipush (v := (-9)) hx hb dX12_order_23 (by decide) ?_
    rw [hQ]
    exact W.iret (v := (-9)) hx hb hr (fun t ht hW => ⟨⟨(-9), (), rfl, (iv_w ikm_9 (by decide)), by rw [ht]; exact hP, va_K.moved hW.alike hK, hD⟩, hS.F ht⟩) hS.2.2 dX12_order_25
  ·
    have j8 : Iv 1 1 x2 := r_nelo h6 x2_h ik_0 (by decide)
    have j9 : Iv 0 11 a1 := i3 h6
    have j10 : Iv 0 11 x1 := i4 h6
    have j11 : Iv 1 12 v19 := ivb_sub x1_e v19_h ik_1 j10 (by decide)
    refine lv_aload_n hx hb dX12_order_14 rfl (lv_at hl 0 rfl) ?_
    refine va_get (D := (dC, dI)) (ci := 12) (v := .ref o17) (C := RX12) (T := TX12) (N := 29) hx hb hts iw_X12_order_X12 hown hK hP 0 rfl rfl 10 (by decide) (hts (.fieldLink RX12 25 "HolelessHouseModel" "order" "[I") hm_X12_order_2) (fun _ h9 => h9) rfl dX12_order_15 ?_
    refine lv_iload_n hx hb dX12_order_18 rfl (lv_at hl 1 rfl) ?_
    refine va_iald hx hb hK hP 1 0 rfl rfl (vin_iv j9 (by decide)) dX12_order_19 (lv_topi (fun x12 x12_e => ?_))
    have x12_h : Iv 0 11 x12 := iv_e x12_e (bd_at fw18_b (vin_iv j9 (by decide)))
    refine lv_goto (tgt := 25) hx hb dX12_order_20 (by decide) ?_
    rw [hQ]
    exact W.iret (v := x12) hx hb hr (fun t ht hW => ⟨⟨x12, (), rfl, (iv_w x12_h (by decide)), by rw [ht]; exact hP, va_K.moved hW.alike hK, hD⟩, hS.F ht⟩) hS.2.2 dX12_order_25
theorem iw_X12_about_X12 : ∀ w ∈ wsX120, w ∈ wsX12_about := fun _ h => List.mem_cons.mpr (Or.inr (List.mem_append.mpr (Or.inr h)))
set_option maxHeartbeats 4000000 in
set_option maxRecDepth 100000 in
theorem kX12_about_1 (l : Launch) (dC : Nat → ClassId) (dI : Nat → Nat → Nat) (cI c2 cZ : ClassId) (o1 : Nat) (o3 : Nat) (o6 : Nat) (o9 : Nat) (o11 : Nat) (o14 : Nat) (o17 : Nat) (o22 : Nat) (o24 : Nat) (o26 : Nat) (o28 : Nat) (o30 : Nat) (o33 : Nat) (o35 : Nat) (o37 : Nat) (o40 : Nat) (o42 : Nat) (o44 : Nat) (o47 : Nat) (v2 : Int32) (v5 : Int32) (v8 : Int32) (v13 : Int32) (v16 : Int32) (v19 : Int32) (v20 : Int32) (v21 : Int32) (v32 : Int32) (v39 : Int32) (v46 : Int32) (a1 : Int32) (sz : Nat) (v5_h : Iv 0 12 v5) (v8_h : Iv 0 8 v8) (v13_h : Iv 0 12 v13) (v16_h : Iv 0 12 v16) (v19_h : Iv (-9) 12 v19) (v32_h : Iv 0 99 v32) (v39_h : Iv 0 12 v39) (v46_h : Iv 0 12 v46) : Met l yX12_about wsX12_about ({ frames := 1, cells := 0, slots := 0, locals := 22 }) (va_Pc [.ref o1, .int a1] (wPre (dC, dI) [(cI, .int), (c2, .array .int), (cZ, .boolean)] ([(o1, .inr (12, [.int v2, .ref o3, .int v5, .ref o6, .int v8, .ref o9, .ref o11, .int v13, .ref o14, .int v16, .ref o17, .int v19, .int v20, .int v21, .ref o22, .ref o24, .ref o26, .ref o28, .ref o30, .int v32, .ref o33, .ref o35, .ref o37, .int v39, .ref o40, .ref o42, .ref o44, .int v46, .ref o47]))]) sz)) (va_Qi (fun (r : Int32) (_ : Unit) => True) (fun _ t => wPost (dC, dI) [(cI, .int), (c2, .array .int), (cZ, .boolean)] (va_A ([(o1, .inr (12, [.int v2, .ref o3, .int v5, .ref o6, .int v8, .ref o9, .ref o11, .int v13, .ref o14, .int v16, .ref o17, .int v19, .int v20, .int v21, .ref o22, .ref o24, .ref o26, .ref o28, .ref o30, .int v32, .ref o33, .ref o35, .ref o37, .int v39, .ref o40, .ref o42, .ref o44, .int v46, .ref o47]))]) sz) ([(o1, .inr (12, [.int v2, .ref o3, .int v5, .ref o6, .int v8, .ref o9, .ref o11, .int v13, .ref o14, .int v16, .ref o17, .int v19, .int v20, .int v21, .ref o22, .ref o24, .ref o26, .ref o28, .ref o30, .int v32, .ref o33, .ref o35, .ref o37, .int v39, .ref o40, .ref o42, .ref o44, .int v46, .ref o47]))]) t) (va_A ([(o1, .inr (12, [.int v2, .ref o3, .int v5, .ref o6, .int v8, .ref o9, .ref o11, .int v13, .ref o14, .int v16, .ref o17, .int v19, .int v20, .int v21, .ref o22, .ref o24, .ref o26, .ref o28, .ref o30, .int v32, .ref o33, .ref o35, .ref o37, .int v39, .ref o40, .ref o42, .ref o44, .int v46, .ref o47]))]) sz)) 0 0 (va_A ([(o1, .inr (12, [.int v2, .ref o3, .int v5, .ref o6, .int v8, .ref o9, .ref o11, .int v13, .ref o14, .int v16, .ref o17, .int v19, .int v20, .int v21, .ref o22, .ref o24, .ref o26, .ref o28, .ref o30, .int v32, .ref o33, .ref o35, .ref o37, .int v39, .ref o40, .ref o42, .ref o44, .int v46, .ref o47]))]) sz) := by
  refine Met.ofW (cc := cX12_about) (maxL := 2) (ret := (some .int)) (by decide) rfl ?_
  intro p e s m args below meth c s₁ B hml hv
  obtain ⟨rfl, hsz, hP, hK, hD0, hN⟩ := hv
  have hx := B.exec
  have hb := B.bytes
  have hr := B.returns
  have hts := atoms_spec (ws := wsX12_about) B.pre
  have hown : s.vm.findClass RX12 = some m.cls := findClass_of_methodNamed B.named
  have hlocks := B.notSynchronized
  subst hsz
  have hD := hD0.self (sz := s.heap.size)
  generalize hAe : va_A ([(o1, .inr (12, [.int v2, .ref o3, .int v5, .ref o6, .int v8, .ref o9, .ref o11, .int v13, .ref o14, .int v16, .ref o17, .int v19, .int v20, .int v21, .ref o22, .ref o24, .ref o26, .ref o28, .ref o30, .int v32, .ref o33, .ref o35, .ref o37, .int v39, .ref o40, .ref o42, .ref o44, .int v46, .ref o47]))]) s.heap.size = A at hD ⊢
  have hA : ∀ q : Nat, s.heap.size ≤ q → A q := fun q h => by rw [← hAe]; exact Or.inr h
  have hS : va_S A s.heap s.heap [] := va_S.rf
  have hP : va_P (dC, dI) vwCl ([(o1, .inr (12, [.int v2, .ref o3, .int v5, .ref o6, .int v8, .ref o9, .ref o11, .int v13, .ref o14, .int v16, .ref o17, .int v19, .int v20, .int v21, .ref o22, .ref o24, .ref o26, .ref o28, .ref o30, .int v32, .ref o33, .ref o35, .ref o37, .int v39, .ref o40, .ref o42, .ref o44, .int v46, .ref o47]))]) s.heap := hP
  have hl := lv_entry ([.ref o1, .int a1]) (n := 2) (Nat.le_of_ble_eq_true rfl)
  rw [lg_entry_eq]
  generalize (lg_sl ([.ref o1, .int a1]) ++ List.replicate (2 - (lg_sl ([.ref o1, .int a1])).length) Slot.unset).toArray = ls at hl ⊢
  have hl : lv_has ls 2 [(0, .ref o1), (1, .int a1)] := hl
  refine gen_Q (fun Q hQ => ?_)
  refine lv_iload_n hx hb dX12_about_0 rfl (lv_at hl 1 rfl) ?_
  refine lv_iconst (v := 0) hx hb dX12_about_1 (by decide) ?_
  refine lv_iconst (v := 2) hx hb dX12_about_2 (by decide) ?_
  refine kc_i (D := (dC, dI)) (S := Unit) (wc := []) (wr := [(o1, .inr (12, [.int v2, .ref o3, .int v5, .ref o6, .int v8, .ref o9, .ref o11, .int v13, .ref o14, .int v16, .ref o17, .int v19, .int v20, .int v21, .ref o22, .ref o24, .ref o26, .ref o28, .ref o30, .int v32, .ref o33, .ref o35, .ref o37, .int v39, .ref o40, .ref o42, .ref o44, .int v46, .ref o47]))]) (w1 := fun _ => []) (wn := fun _ => [(o1, .inr (12, [.int v2, .ref o3, .int v5, .ref o6, .int v8, .ref o9, .ref o11, .int v13, .ref o14, .int v16, .ref o17, .int v19, .int v20, .int v21, .ref o22, .ref o24, .ref o26, .ref o28, .ref o30, .int v32, .ref o33, .ref o35, .ref o37, .int v39, .ref o40, .ref o42, .ref o44, .int v46, .ref o47]))]) (fun hPc hDc => va_runS (As := [.int a1, .int 0, .int 2]) (rest := []) ⟨hx, hb, hml, hown, hts⟩ (kX12_in_4 l dC dI cI c2 cZ a1 0 2 s.heap.size ik_0 ik_2) (va_cwS 3 hts gX12_about_X12_in rfl rfl rfl (by decide +kernel) ⟨Nat.le_of_ble_eq_true rfl, Nat.le_of_ble_eq_true rfl⟩) (pre_S hPc hK hDc hN) rfl rfl hl.1 rfl (lv_room (Nat.le_of_ble_eq_true rfl)) dX12_about_3 ⟨Nat.le_of_ble_eq_true rfl, Nat.le_of_ble_eq_true rfl⟩) hP hD hS hA [] [0] [0] rfl rfl (by decide +kernel) (by decide +kernel) (by decide +kernel) (by decide +kernel) (fun _ => rfl) (fun x1 _ H locs hq hP hD hS => ?_)
  obtain ⟨x1_h, i2, e3⟩ := hq
  have hP : va_P (dC, dI) vwCl ([(o1, .inr (12, [.int v2, .ref o3, .int v5, .ref o6, .int v8, .ref o9, .ref o11, .int v13, .ref o14, .int v16, .ref o17, .int v19, .int v20, .int v21, .ref o22, .ref o24, .ref o26, .ref o28, .ref o30, .int v32, .ref o33, .ref o35, .ref o37, .int v39, .ref o40, .ref o42, .ref o44, .int v46, .ref o47]))]) H := hP
  have hD : va_D A ([(o1, .inr (12, [.int v2, .ref o3, .int v5, .ref o6, .int v8, .ref o9, .ref o11, .int v13, .ref o14, .int v16, .ref o17, .int v19, .int v20, .int v21, .ref o22, .ref o24, .ref o26, .ref o28, .ref o30, .int v32, .ref o33, .ref o35, .ref o37, .int v39, .ref o40, .ref o42, .ref o44, .int v46, .ref o47]))]) := hD
  refine lv_if_ne (tgt := 11) hx hb dX12_about_6 (by decide) (fun h4 => ?_) (fun h4 => ?_)
  ·
    have j5 : Iv 1 1 x1 := r_nelo h4 x1_h ik_0 (by decide)
    have j6 : Iv 0 2 a1 := i2 h4
    refine lv_aload_n hx hb dX12_about_11 rfl (lv_at hl 0 rfl) ?_
    refine va_get (D := (dC, dI)) (ci := 12) (v := .int v19) (C := RX12) (T := TX12) (N := 29) hx hb hts iw_X12_about_X12 hown hK hP 0 rfl rfl 11 (by decide) (hts (.fieldLink RX12 28 "HolelessHouseModel" "ordered" "I") hm_X12_about_1) (fun _ h9 => h9) rfl dX12_about_12 ?_
    refine lv_if_ge (tgt := 21) hx hb dX12_about_15 (by decide) (fun h7 => ?_) (fun h7 => ?_)
    ·
      have qh7 := le_i h7
      have j8 : Iv 0 12 v19 := r_ler qh7 ik_0 v19_h (by decide)
      refine lv_iload_n hx hb dX12_about_21 rfl (lv_at hl 1 rfl) ?_
      refine lv_if_ne (tgt := 32) hx hb dX12_about_22 (by decide) (fun h9 => ?_) (fun h9 => ?_)
      ·
        have j10 : Iv 1 2 a1 := r_nelo h9 j6 ik_0 (by decide)
        refine lv_iload_n hx hb dX12_about_32 rfl (lv_at hl 1 rfl) ?_
        refine lv_iconst (v := 1) hx hb dX12_about_33 (by decide) ?_
        refine lv_icmp_ne (tgt := 44) hx hb dX12_about_34 (by decide) (fun h11 => ?_) (fun h11 => ?_)
        ·
          have j12 : Iv 2 2 a1 := r_nelo h11 j10 ik_1 (by decide)
          refine lv_aload_n hx hb dX12_about_44 rfl (lv_at hl 0 rfl) ?_
          refine va_get (D := (dC, dI)) (ci := 12) (v := .int v20) (C := RX12) (T := TX12) (N := 29) hx hb hts iw_X12_about_X12 hown hK hP 0 rfl rfl 12 (by decide) (hts (.fieldLink RX12 134 "HolelessHouseModel" "orderFill" "I") hm_X12_about_2) (fun _ h9 => h9) rfl dX12_about_45 ?_
          refine lv_if_ne (tgt := 55) hx hb dX12_about_48 (by decide) (fun h13 => ?_) (fun h13 => ?_)
          ·
            refine lv_iconst (v := 0) hx hb dX12_about_55 (by decide) ?_
            rw [hQ]
            exact W.iret (v := 0) hx hb hr (fun t ht hW => ⟨⟨0, (), rfl, trivial, by rw [ht]; exact hP, va_K.moved hW.alike hK, hD⟩, hS.F ht⟩) hS.2.2 dX12_about_56
          ·
            have j14 : Iv 0 0 v20 := r_eq h13 ik_0
            refine lv_iconst (v := 1) hx hb dX12_about_51 (by decide) ?_
            refine lv_goto (tgt := 56) hx hb dX12_about_52 (by decide) ?_
            rw [hQ]
            exact W.iret (v := 1) hx hb hr (fun t ht hW => ⟨⟨1, (), rfl, trivial, by rw [ht]; exact hP, va_K.moved hW.alike hK, hD⟩, hS.F ht⟩) hS.2.2 dX12_about_56
        ·
          have j15 : Iv 1 1 a1 := r_eq h11 ik_1
          refine lv_aload_n hx hb dX12_about_37 rfl (lv_at hl 0 rfl) ?_
          refine va_get (D := (dC, dI)) (ci := 12) (v := .int v21) (C := RX12) (T := TX12) (N := 29) hx hb hts iw_X12_about_X12 hown hK hP 0 rfl rfl 13 (by decide) (hts (.fieldLink RX12 137 "HolelessHouseModel" "orderWidth" "I") hm_X12_about_3) (fun _ h9 => h9) rfl dX12_about_38 ?_
          refine lv_goto (tgt := 56) hx hb dX12_about_41 (by decide) ?_
          rw [hQ]
          exact W.iret (v := v21) hx hb hr (fun t ht hW => ⟨⟨v21, (), rfl, trivial, by rw [ht]; exact hP, va_K.moved hW.alike hK, hD⟩, hS.F ht⟩) hS.2.2 dX12_about_56
      ·
        have j16 : Iv 0 0 a1 := r_eq h9 ik_0
        refine lv_aload_n hx hb dX12_about_25 rfl (lv_at hl 0 rfl) ?_
        refine va_get (D := (dC, dI)) (ci := 12) (v := .int v20) (C := RX12) (T := TX12) (N := 29) hx hb hts iw_X12_about_X12 hown hK hP 0 rfl rfl 12 (by decide) (hts (.fieldLink RX12 134 "HolelessHouseModel" "orderFill" "I") hm_X12_about_2) (fun _ h9 => h9) rfl dX12_about_26 ?_
        refine lv_goto (tgt := 56) hx hb dX12_about_29 (by decide) ?_
        rw [hQ]
        exact W.iret (v := v20) hx hb hr (fun t ht hW => ⟨⟨v20, (), rfl, trivial, by rw [ht]; exact hP, va_K.moved hW.alike hK, hD⟩, hS.F ht⟩) hS.2.2 dX12_about_56
    ·
      have qh7 := nle_i h7
      have j17 : Iv (-9) (-1) v19 := r_ltl qh7 v19_h ik_0 (by decide)
      refine lv_bipush (v := (-9)) hx hb dX12_about_18 (by decide) ?_
      rw [hQ]
      exact W.iret (v := (-9)) hx hb hr (fun t ht hW => ⟨⟨(-9), (), rfl, trivial, by rw [ht]; exact hP, va_K.moved hW.alike hK, hD⟩, hS.F ht⟩) hS.2.2 dX12_about_20
  ·
    have j18 : Iv 0 0 x1 := r_eq h4 ik_0
    refine lv_iconst (v := (-1)) hx hb dX12_about_9 (by decide) ?_
    rw [hQ]
    exact W.iret (v := (-1)) hx hb hr (fun t ht hW => ⟨⟨(-1), (), rfl, trivial, by rw [ht]; exact hP, va_K.moved hW.alike hK, hD⟩, hS.F ht⟩) hS.2.2 dX12_about_10
theorem iw_X12_fill_X12 : ∀ w ∈ wsX120, w ∈ wsX12_fill := fun _ h => List.mem_cons.mpr (Or.inr (List.mem_append.mpr (Or.inr h)))
set_option maxHeartbeats 4000000 in
set_option maxRecDepth 100000 in
theorem kX12_fill_1 (l : Launch) (dC : Nat → ClassId) (dI : Nat → Nat → Nat) (cI c2 cZ : ClassId) (o1 : Nat) (o3 : Nat) (o6 : Nat) (o9 : Nat) (o11 : Nat) (o14 : Nat) (o17 : Nat) (o22 : Nat) (o24 : Nat) (o26 : Nat) (o28 : Nat) (o30 : Nat) (o33 : Nat) (o35 : Nat) (o37 : Nat) (o40 : Nat) (o42 : Nat) (o44 : Nat) (o47 : Nat) (v2 : Int32) (v5 : Int32) (fw7 : Nat → Int32) (v8 : Int32) (v13 : Int32) (v16 : Int32) (v19 : Int32) (v20 : Int32) (v21 : Int32) (fw25 : Nat → Int32) (v32 : Int32) (v39 : Int32) (v46 : Int32) (sz : Nat) (v5_h : Iv 0 12 v5) (fw7_b : Bd 12 0 4095 fw7) (v8_h : Iv 0 8 v8) (v13_h : Iv 0 12 v13) (v16_h : Iv 0 12 v16) (v19_h : Iv (-9) 12 v19) (fw25_b : Bd 12 0 4095 fw25) (v32_h : Iv 0 99 v32) (v39_h : Iv 0 12 v39) (v46_h : Iv 0 12 v46) : Met l yX12_fill wsX12_fill ({ frames := 1, cells := 0, slots := 0, locals := 20 }) (va_Pc [.ref o1] (wPre (dC, dI) [(cI, .int), (c2, .array .int), (cZ, .boolean)] ([(o1, .inr (12, [.int v2, .ref o3, .int v5, .ref o6, .int v8, .ref o9, .ref o11, .int v13, .ref o14, .int v16, .ref o17, .int v19, .int v20, .int v21, .ref o22, .ref o24, .ref o26, .ref o28, .ref o30, .int v32, .ref o33, .ref o35, .ref o37, .int v39, .ref o40, .ref o42, .ref o44, .int v46, .ref o47])), (o6, .inl (cI, 12, .inl fw7)), (o24, .inl (cI, 12, .inl fw25))]) sz)) (va_Qi (fun (r : Int32) (u : Int32 × (Nat → Int32)) => Iv (-9) (-1) u.1 ∧ Bd 12 0 4095 u.2) (fun u t => wPost (dC, dI) [(cI, .int), (c2, .array .int), (cZ, .boolean)] (va_A ([(o1, .inr (12, [.int v2, .ref o3, .int v5, .ref o6, .int v8, .ref o9, .ref o11, .int v13, .ref o14, .int v16, .ref o17, .int v19, .int v20, .int v21, .ref o22, .ref o24, .ref o26, .ref o28, .ref o30, .int v32, .ref o33, .ref o35, .ref o37, .int v39, .ref o40, .ref o42, .ref o44, .int v46, .ref o47])), (o6, .inl (cI, 12, .inl fw7)), (o24, .inl (cI, 12, .inl fw25))]) sz) ([(o1, .inr (12, [.int v2, .ref o3, .int v5, .ref o6, .int v8, .ref o9, .ref o11, .int v13, .ref o14, .int v16, .ref o17, .int u.1, .int v20, .int v21, .ref o22, .ref o24, .ref o26, .ref o28, .ref o30, .int v32, .ref o33, .ref o35, .ref o37, .int v39, .ref o40, .ref o42, .ref o44, .int v46, .ref o47])), (o6, .inl (cI, 12, .inl u.2)), (o24, .inl (cI, 12, .inl fw25))]) t) (va_A ([(o1, .inr (12, [.int v2, .ref o3, .int v5, .ref o6, .int v8, .ref o9, .ref o11, .int v13, .ref o14, .int v16, .ref o17, .int v19, .int v20, .int v21, .ref o22, .ref o24, .ref o26, .ref o28, .ref o30, .int v32, .ref o33, .ref o35, .ref o37, .int v39, .ref o40, .ref o42, .ref o44, .int v46, .ref o47])), (o6, .inl (cI, 12, .inl fw7)), (o24, .inl (cI, 12, .inl fw25))]) sz)) 0 0 (va_A ([(o1, .inr (12, [.int v2, .ref o3, .int v5, .ref o6, .int v8, .ref o9, .ref o11, .int v13, .ref o14, .int v16, .ref o17, .int v19, .int v20, .int v21, .ref o22, .ref o24, .ref o26, .ref o28, .ref o30, .int v32, .ref o33, .ref o35, .ref o37, .int v39, .ref o40, .ref o42, .ref o44, .int v46, .ref o47])), (o6, .inl (cI, 12, .inl fw7)), (o24, .inl (cI, 12, .inl fw25))]) sz) := by
  refine Met.ofW (cc := cX12_fill) (maxL := 2) (ret := (some .int)) (by decide) rfl ?_
  intro p e s m args below meth c s₁ B hml hv
  obtain ⟨rfl, hsz, hP, hK, hD0, hN⟩ := hv
  have hx := B.exec
  have hb := B.bytes
  have hr := B.returns
  have hts := atoms_spec (ws := wsX12_fill) B.pre
  have hown : s.vm.findClass RX12 = some m.cls := findClass_of_methodNamed B.named
  have hlocks := B.notSynchronized
  subst hsz
  have hD := hD0.self (sz := s.heap.size)
  generalize hAe : va_A ([(o1, .inr (12, [.int v2, .ref o3, .int v5, .ref o6, .int v8, .ref o9, .ref o11, .int v13, .ref o14, .int v16, .ref o17, .int v19, .int v20, .int v21, .ref o22, .ref o24, .ref o26, .ref o28, .ref o30, .int v32, .ref o33, .ref o35, .ref o37, .int v39, .ref o40, .ref o42, .ref o44, .int v46, .ref o47])), (o6, .inl (cI, 12, .inl fw7)), (o24, .inl (cI, 12, .inl fw25))]) s.heap.size = A at hD ⊢
  have hA : ∀ q : Nat, s.heap.size ≤ q → A q := fun q h => by rw [← hAe]; exact Or.inr h
  have hS : va_S A s.heap s.heap [] := va_S.rf
  have hP : va_P (dC, dI) vwCl ([(o1, .inr (12, [.int v2, .ref o3, .int v5, .ref o6, .int v8, .ref o9, .ref o11, .int v13, .ref o14, .int v16, .ref o17, .int v19, .int v20, .int v21, .ref o22, .ref o24, .ref o26, .ref o28, .ref o30, .int v32, .ref o33, .ref o35, .ref o37, .int v39, .ref o40, .ref o42, .ref o44, .int v46, .ref o47])), (o6, .inl (cI, 12, .inl fw7)), (o24, .inl (cI, 12, .inl fw25))]) s.heap := hP
  have hl := lv_entry ([.ref o1]) (n := 2) (Nat.le_of_ble_eq_true rfl)
  rw [lg_entry_eq]
  generalize (lg_sl ([.ref o1]) ++ List.replicate (2 - (lg_sl ([.ref o1])).length) Slot.unset).toArray = ls at hl ⊢
  have hl : lv_has ls 2 [(0, .ref o1)] := hl
  refine gen_Q (fun Q hQ => ?_)
  refine lv_aload_n hx hb dX12_fill_0 rfl (lv_at hl 0 rfl) ?_
  refine va_get (D := (dC, dI)) (ci := 12) (v := .int v19) (C := RX12) (T := TX12) (N := 29) hx hb hts iw_X12_fill_X12 hown hK hP 0 rfl rfl 11 (by decide) (hts (.fieldLink RX12 28 "HolelessHouseModel" "ordered" "I") hm_X12_fill_1) (fun _ h9 => h9) rfl dX12_fill_1 ?_
  refine lv_if_ge (tgt := 10) hx hb dX12_fill_4 (by decide) (fun h1 => ?_) (fun h1 => ?_)
  ·
    have qh1 := le_i h1
    have j2 : Iv 0 12 v19 := r_ler qh1 ik_0 v19_h (by decide)
    refine lv_iconst (v := 0) hx hb dX12_fill_10 (by decide) ?_
    refine lv_istore_n (lv' := [(1, .int 0), (0, .ref o1)]) hx hb dX12_fill_11 rfl hl (by decide) rfl (fun ls hl => ?_)
    have L1 : ∀ (N : Nat) (x80 : Int32) (f81 : Nat → Int32) (H : Heap) (locs : List Loc) (ls : Array Slot), (12 - x80.toInt).toNat < N → Iv 0 12 x80 → Bd 12 0 4095 f81 → va_P (dC, dI) vwCl ([(o1, .inr (12, [.int v2, .ref o3, .int v5, .ref o6, .int v8, .ref o9, .ref o11, .int v13, .ref o14, .int v16, .ref o17, .int v19, .int v20, .int v21, .ref o22, .ref o24, .ref o26, .ref o28, .ref o30, .int v32, .ref o33, .ref o35, .ref o37, .int v39, .ref o40, .ref o42, .ref o44, .int v46, .ref o47])), (o6, .inl (cI, 12, .inl f81)), (o24, .inl (cI, 12, .inl fw25))]) H → va_D A ([(o1, .inr (12, [.int v2, .ref o3, .int v5, .ref o6, .int v8, .ref o9, .ref o11, .int v13, .ref o14, .int v16, .ref o17, .int v19, .int v20, .int v21, .ref o22, .ref o24, .ref o26, .ref o28, .ref o30, .int v32, .ref o33, .ref o35, .ref o37, .int v39, .ref o40, .ref o42, .ref o44, .int v46, .ref o47])), (o6, .inl (cI, 12, .inl f81)), (o24, .inl (cI, 12, .inl fw25))]) → va_S A s.heap H locs → lv_has ls 2 [(1, .int x80), (0, .ref o1)] → W p l e ({ frames := 1, cells := 0, slots := 0, locals := 20 }) s m ([.ref o1] : List Value).toArray below meth c H locs 0 0 Q (F0 m 12 ls []) := by
      intro N
      induction N with
      | zero =>
        intro x80 f81 H locs ls hM
        exact absurd hM (Nat.not_lt_zero _)
      | succ N ih1 =>
        intro x80 f81 H locs ls hM1 x80_h f81_b hP hD hS hl
        refine lv_iload_n hx hb dX12_fill_12 rfl (lv_at hl 0 rfl) ?_
        refine lv_aload_n hx hb dX12_fill_13 rfl (lv_at hl 1 rfl) ?_
        refine va_get (D := (dC, dI)) (ci := 12) (v := .int v5) (C := RX12) (T := TX12) (N := 29) hx hb hts iw_X12_fill_X12 hown hK hP 0 rfl rfl 2 (by decide) (hts (.fieldLink RX12 73 "HolelessHouseModel" "n" "I") hm_X12_fill_2) (fun _ h9 => h9) rfl dX12_fill_14 ?_
        refine lv_icmp_ge (tgt := 41) hx hb dX12_fill_17 (by decide) (fun h82 => ?_) (fun h82 => ?_)
        ·
          have qh82 := le_i h82
          refine lv_aload_n hx hb dX12_fill_41 rfl (lv_at hl 1 rfl) ?_
          refine va_get (D := (dC, dI)) (ci := 12) (v := .int v20) (C := RX12) (T := TX12) (N := 29) hx hb hts iw_X12_fill_X12 hown hK hP 0 rfl rfl 12 (by decide) (hts (.fieldLink RX12 134 "HolelessHouseModel" "orderFill" "I") hm_X12_fill_5) (fun _ h9 => h9) rfl dX12_fill_42 ?_
          refine lv_istore_n (lv' := [(1, .int v20), (0, .ref o1)]) hx hb dX12_fill_45 rfl hl (by decide) rfl (fun ls hl => ?_)
          refine lv_aload_n hx hb dX12_fill_46 rfl (lv_at hl 1 rfl) ?_
          refine kc_v (D := (dC, dI)) (S := Int32) (wc := [(o1, .inr (12, [.int v2, .ref o3, .int v5, .ref o6, .int v8, .ref o9, .ref o11, .int v13, .ref o14, .int v16, .ref o17, .int v19, .int v20, .int v21, .ref o22, .ref o24, .ref o26, .ref o28, .ref o30, .int v32, .ref o33, .ref o35, .ref o37, .int v39, .ref o40, .ref o42, .ref o44, .int v46, .ref o47]))]) (wr := [(o6, .inl (cI, 12, .inl f81)), (o24, .inl (cI, 12, .inl fw25))]) (w1 := fun u => [(o1, .inr (12, [.int v2, .ref o3, .int v5, .ref o6, .int v8, .ref o9, .ref o11, .int v13, .ref o14, .int v16, .ref o17, .int u, .int v20, .int v21, .ref o22, .ref o24, .ref o26, .ref o28, .ref o30, .int v32, .ref o33, .ref o35, .ref o37, .int v39, .ref o40, .ref o42, .ref o44, .int v46, .ref o47]))]) (wn := fun u => [(o1, .inr (12, [.int v2, .ref o3, .int v5, .ref o6, .int v8, .ref o9, .ref o11, .int v13, .ref o14, .int v16, .ref o17, .int u, .int v20, .int v21, .ref o22, .ref o24, .ref o26, .ref o28, .ref o30, .int v32, .ref o33, .ref o35, .ref o37, .int v39, .ref o40, .ref o42, .ref o44, .int v46, .ref o47])), (o6, .inl (cI, 12, .inl f81)), (o24, .inl (cI, 12, .inl fw25))]) (fun hPc hDc => va_runV (As := []) (rest := []) ⟨hx, hb, hml, hown, hts⟩ (kX12_changed_1 l dC dI cI c2 cZ o1 o3 o6 o9 o11 o14 o17 o22 o24 o26 o28 o30 o33 o35 o37 o40 o42 o44 o47 v2 v5 v8 v13 v16 v19 v20 v21 v32 v39 v46 H.size v5_h v8_h v13_h v16_h (iv_w j2 (by decide)) v32_h v39_h v46_h) (cwV 0 hts gX12_fill_X12_changed rfl rfl rfl (by decide +kernel) ⟨Nat.le_of_ble_eq_true rfl, Nat.le_of_ble_eq_true rfl⟩) (pre_V hPc hK hDc hN (ci := 12) (q0 := 0) rfl rfl) rfl rfl hl.1 rfl (lv_room (Nat.le_of_ble_eq_true rfl)) dX12_fill_47 ⟨Nat.le_of_ble_eq_true rfl, Nat.le_of_ble_eq_true rfl⟩) hP hD hS hA [0] [1, 2] [2, 0, 1] rfl rfl (by decide +kernel) (by decide +kernel) (by decide +kernel) (by decide +kernel) (fun _ => rfl) (fun y83 H locs hq hP hD hS => ?_)
          have y83_h := hq
          have hP : va_P (dC, dI) vwCl ([(o1, .inr (12, [.int v2, .ref o3, .int v5, .ref o6, .int v8, .ref o9, .ref o11, .int v13, .ref o14, .int v16, .ref o17, .int y83, .int v20, .int v21, .ref o22, .ref o24, .ref o26, .ref o28, .ref o30, .int v32, .ref o33, .ref o35, .ref o37, .int v39, .ref o40, .ref o42, .ref o44, .int v46, .ref o47])), (o6, .inl (cI, 12, .inl f81)), (o24, .inl (cI, 12, .inl fw25))]) H := hP
          have hD : va_D A ([(o1, .inr (12, [.int v2, .ref o3, .int v5, .ref o6, .int v8, .ref o9, .ref o11, .int v13, .ref o14, .int v16, .ref o17, .int y83, .int v20, .int v21, .ref o22, .ref o24, .ref o26, .ref o28, .ref o30, .int v32, .ref o33, .ref o35, .ref o37, .int v39, .ref o40, .ref o42, .ref o44, .int v46, .ref o47])), (o6, .inl (cI, 12, .inl f81)), (o24, .inl (cI, 12, .inl fw25))]) := hD
          refine lv_iload_n hx hb dX12_fill_50 rfl (lv_at hl 0 rfl) ?_
          rw [hQ]
          exact W.iret (v := v20) hx hb hr (fun t ht hW => ⟨⟨v20, (y83, f81), rfl, ⟨(iv_w y83_h (by decide)), f81_b⟩, by rw [ht]; exact hP, va_K.moved hW.alike hK, hD⟩, hS.F ht⟩) hS.2.2 dX12_fill_51
        ·
          have qh82 := nle_i h82
          have j84 : Iv 0 11 x80 := r_ltl qh82 x80_h v5_h (by decide)
          have j85 : Iv 1 12 v5 := r_ltr qh82 x80_h v5_h (by decide)
          refine lv_aload_n hx hb dX12_fill_20 rfl (lv_at hl 1 rfl) ?_
          refine va_get (D := (dC, dI)) (ci := 12) (v := .ref o6) (C := RX12) (T := TX12) (N := 29) hx hb hts iw_X12_fill_X12 hown hK hP 0 rfl rfl 3 (by decide) (hts (.fieldLink RX12 13 "HolelessHouseModel" "near" "[I") hm_X12_fill_3) (fun _ h9 => h9) rfl dX12_fill_21 ?_
          refine lv_iload_n hx hb dX12_fill_24 rfl (lv_at hl 0 rfl) ?_
          refine lv_dup2_11 hx hb dX12_fill_25 rfl rfl ?_
          refine va_iald hx hb hK hP 1 0 rfl rfl (vin_iv j84 (by decide)) dX12_fill_26 (lv_topi (fun x86 x86_e => ?_))
          have x86_h : Iv 0 4095 x86 := iv_e x86_e (bd_at f81_b (vin_iv j84 (by decide)))
          refine lv_aload_n hx hb dX12_fill_27 rfl (lv_at hl 1 rfl) ?_
          refine va_get (D := (dC, dI)) (ci := 12) (v := .ref o24) (C := RX12) (T := TX12) (N := 29) hx hb hts iw_X12_fill_X12 hown hK hP 0 rfl rfl 15 (by decide) (hts (.fieldLink RX12 35 "HolelessHouseModel" "joins" "[I") hm_X12_fill_4) (fun _ h9 => h9) rfl dX12_fill_28 ?_
          refine lv_iload_n hx hb dX12_fill_31 rfl (lv_at hl 0 rfl) ?_
          refine va_iald hx hb hK hP 2 0 rfl rfl (vin_iv j84 (by decide)) dX12_fill_32 (lv_topi (fun x87 x87_e => ?_))
          have x87_h : Iv 0 4095 x87 := iv_e x87_e (bd_at fw25_b (vin_iv j84 (by decide)))
          refine lv_ior hx hb dX12_fill_33 (lv_topi (fun x88 x88_e => ?_))
          have x88_h : Iv 0 4095 x88 := iv_e x88_e (iv_or 12 x86_h x87_h (by decide))
          refine k_iast hx hb hK hP hD hS 1 0 rfl rfl (vin_iv j84 (by decide)) dX12_fill_34 (fun f89 H locs f89_e hP hD hS => ?_)
          have f89_b : Bd 12 0 4095 f89 := bd_upd f89_e f81_b x88_h (by decide)
          have hP : va_P (dC, dI) vwCl ([(o1, .inr (12, [.int v2, .ref o3, .int v5, .ref o6, .int v8, .ref o9, .ref o11, .int v13, .ref o14, .int v16, .ref o17, .int v19, .int v20, .int v21, .ref o22, .ref o24, .ref o26, .ref o28, .ref o30, .int v32, .ref o33, .ref o35, .ref o37, .int v39, .ref o40, .ref o42, .ref o44, .int v46, .ref o47])), (o6, .inl (cI, 12, .inl f89)), (o24, .inl (cI, 12, .inl fw25))]) H := hP
          have hD : va_D A ([(o1, .inr (12, [.int v2, .ref o3, .int v5, .ref o6, .int v8, .ref o9, .ref o11, .int v13, .ref o14, .int v16, .ref o17, .int v19, .int v20, .int v21, .ref o22, .ref o24, .ref o26, .ref o28, .ref o30, .int v32, .ref o33, .ref o35, .ref o37, .int v39, .ref o40, .ref o42, .ref o44, .int v46, .ref o47])), (o6, .inl (cI, 12, .inl f89)), (o24, .inl (cI, 12, .inl fw25))]) := hD
          obtain ⟨x90, x90_e⟩ : ∃ z : Int32, z = x80 + 1 := ⟨_, rfl⟩
          have x90_h : Iv 1 12 x90 := iv_e x90_e (iv_add j84 ik_1 (by decide))
          refine lv_iinc (v := x90) (lv' := [(1, .int x90), (0, .ref o1)]) hx hb dX12_fill_35 hl (k := 0) rfl (incN (by decide +kernel) x90_e) (by decide) rfl (fun ls hl => ?_)
          refine lv_goto (tgt := 12) hx hb dX12_fill_38 (by decide) ?_
          exact ih1 x90 f89 _ _ _ (ms_up x90_e j84 (by decide) hM1) (iv_w x90_h (by decide)) f89_b hP hD hS hl
    exact L1 _ 0 fw7 _ _ _ (Nat.lt_succ_self _) (iv_w ik_0 (by decide)) fw7_b hP hD hS hl
  ·
    have qh1 := nle_i h1
    have j91 : Iv (-9) (-1) v19 := r_ltl qh1 v19_h ik_0 (by decide)
    refine lv_bipush (v := (-9)) hx hb dX12_fill_7 (by decide) ?_
    rw [hQ]
    exact W.iret (v := (-9)) hx hb hr (fun t ht hW => ⟨⟨(-9), (v19, fw7), rfl, ⟨j91, fw7_b⟩, by rw [ht]; exact hP, va_K.moved hW.alike hK, hD⟩, hS.F ht⟩) hS.2.2 dX12_fill_9
theorem iw_X12_isGreat_X12 : ∀ w ∈ wsX120, w ∈ wsX12_isGreat := fun _ h => List.mem_cons.mpr (Or.inr (List.mem_append.mpr (Or.inr h)))
set_option maxHeartbeats 4000000 in
set_option maxRecDepth 100000 in
theorem kX12_isGreat_1 (l : Launch) (dC : Nat → ClassId) (dI : Nat → Nat → Nat) (cI c2 cZ : ClassId) (o1 : Nat) (o3 : Nat) (o6 : Nat) (o9 : Nat) (o11 : Nat) (o14 : Nat) (o17 : Nat) (o22 : Nat) (o24 : Nat) (o26 : Nat) (o28 : Nat) (o30 : Nat) (o33 : Nat) (o35 : Nat) (o37 : Nat) (o40 : Nat) (o42 : Nat) (o44 : Nat) (o47 : Nat) (v2 : Int32) (v5 : Int32) (fw7 : Nat → Int32) (v8 : Int32) (v13 : Int32) (v16 : Int32) (v19 : Int32) (v20 : Int32) (v21 : Int32) (v32 : Int32) (v39 : Int32) (v46 : Int32) (a1 : Int32) (sz : Nat) (v5_h : Iv 0 12 v5) (fw7_b : Bd 12 0 4095 fw7) (v8_h : Iv 0 8 v8) (v13_h : Iv 0 12 v13) (v16_h : Iv 0 12 v16) (v19_h : Iv (-9) 12 v19) (v32_h : Iv 0 99 v32) (v39_h : Iv 0 12 v39) (v46_h : Iv 0 12 v46) (a1_h : Iv 0 4095 a1) : Met l yX12_isGreat wsX12_isGreat ({ frames := 2, cells := 0, slots := 0, locals := 44 }) (va_Pc [.ref o1, .int a1] (wPre (dC, dI) [(cI, .int), (c2, .array .int), (cZ, .boolean)] ([(o1, .inr (12, [.int v2, .ref o3, .int v5, .ref o6, .int v8, .ref o9, .ref o11, .int v13, .ref o14, .int v16, .ref o17, .int v19, .int v20, .int v21, .ref o22, .ref o24, .ref o26, .ref o28, .ref o30, .int v32, .ref o33, .ref o35, .ref o37, .int v39, .ref o40, .ref o42, .ref o44, .int v46, .ref o47])), (o6, .inl (cI, 12, .inl fw7))]) sz)) (va_Qi (fun (r : Int32) (_ : Unit) => Iv 0 1 r ∧ (¬ r = 0 → Iv 1 4095 a1) ∧ (¬ r = 0 → gI fw7 (Int32.toNatClampNeg v5) a1)) (fun _ t => wPost (dC, dI) [(cI, .int), (c2, .array .int), (cZ, .boolean)] (va_A ([(o1, .inr (12, [.int v2, .ref o3, .int v5, .ref o6, .int v8, .ref o9, .ref o11, .int v13, .ref o14, .int v16, .ref o17, .int v19, .int v20, .int v21, .ref o22, .ref o24, .ref o26, .ref o28, .ref o30, .int v32, .ref o33, .ref o35, .ref o37, .int v39, .ref o40, .ref o42, .ref o44, .int v46, .ref o47])), (o6, .inl (cI, 12, .inl fw7))]) sz) ([(o1, .inr (12, [.int v2, .ref o3, .int v5, .ref o6, .int v8, .ref o9, .ref o11, .int v13, .ref o14, .int v16, .ref o17, .int v19, .int v20, .int v21, .ref o22, .ref o24, .ref o26, .ref o28, .ref o30, .int v32, .ref o33, .ref o35, .ref o37, .int v39, .ref o40, .ref o42, .ref o44, .int v46, .ref o47])), (o6, .inl (cI, 12, .inl fw7))]) t) (va_A ([(o1, .inr (12, [.int v2, .ref o3, .int v5, .ref o6, .int v8, .ref o9, .ref o11, .int v13, .ref o14, .int v16, .ref o17, .int v19, .int v20, .int v21, .ref o22, .ref o24, .ref o26, .ref o28, .ref o30, .int v32, .ref o33, .ref o35, .ref o37, .int v39, .ref o40, .ref o42, .ref o44, .int v46, .ref o47])), (o6, .inl (cI, 12, .inl fw7))]) sz)) 0 0 (va_A ([(o1, .inr (12, [.int v2, .ref o3, .int v5, .ref o6, .int v8, .ref o9, .ref o11, .int v13, .ref o14, .int v16, .ref o17, .int v19, .int v20, .int v21, .ref o22, .ref o24, .ref o26, .ref o28, .ref o30, .int v32, .ref o33, .ref o35, .ref o37, .int v39, .ref o40, .ref o42, .ref o44, .int v46, .ref o47])), (o6, .inl (cI, 12, .inl fw7))]) sz) := by
  refine Met.ofW (cc := cX12_isGreat) (maxL := 4) (ret := (some .boolean)) (by decide) rfl ?_
  intro p e s m args below meth c s₁ B hml hv
  obtain ⟨rfl, hsz, hP, hK, hD0, hN⟩ := hv
  have hx := B.exec
  have hb := B.bytes
  have hr := B.returns
  have hts := atoms_spec (ws := wsX12_isGreat) B.pre
  have hown : s.vm.findClass RX12 = some m.cls := findClass_of_methodNamed B.named
  have hlocks := B.notSynchronized
  subst hsz
  have hD := hD0.self (sz := s.heap.size)
  generalize hAe : va_A ([(o1, .inr (12, [.int v2, .ref o3, .int v5, .ref o6, .int v8, .ref o9, .ref o11, .int v13, .ref o14, .int v16, .ref o17, .int v19, .int v20, .int v21, .ref o22, .ref o24, .ref o26, .ref o28, .ref o30, .int v32, .ref o33, .ref o35, .ref o37, .int v39, .ref o40, .ref o42, .ref o44, .int v46, .ref o47])), (o6, .inl (cI, 12, .inl fw7))]) s.heap.size = A at hD ⊢
  have hA : ∀ q : Nat, s.heap.size ≤ q → A q := fun q h => by rw [← hAe]; exact Or.inr h
  have hS : va_S A s.heap s.heap [] := va_S.rf
  have hP : va_P (dC, dI) vwCl ([(o1, .inr (12, [.int v2, .ref o3, .int v5, .ref o6, .int v8, .ref o9, .ref o11, .int v13, .ref o14, .int v16, .ref o17, .int v19, .int v20, .int v21, .ref o22, .ref o24, .ref o26, .ref o28, .ref o30, .int v32, .ref o33, .ref o35, .ref o37, .int v39, .ref o40, .ref o42, .ref o44, .int v46, .ref o47])), (o6, .inl (cI, 12, .inl fw7))]) s.heap := hP
  have hl := lv_entry ([.ref o1, .int a1]) (n := 4) (Nat.le_of_ble_eq_true rfl)
  rw [lg_entry_eq]
  generalize (lg_sl ([.ref o1, .int a1]) ++ List.replicate (4 - (lg_sl ([.ref o1, .int a1])).length) Slot.unset).toArray = ls at hl ⊢
  have hl : lv_has ls 4 [(0, .ref o1), (1, .int a1)] := hl
  refine gen_Q (fun Q hQ => ?_)
  refine lv_iload_n hx hb dX12_isGreat_0 rfl (lv_at hl 1 rfl) ?_
  refine lv_if_eq (tgt := 16) hx hb dX12_isGreat_1 (by decide) (fun h1 => ?_) (fun h1 => ?_)
  ·
    have j2 : Iv 0 0 a1 := r_eq h1 ik_0
    refine lv_iconst (v := 0) hx hb dX12_isGreat_16 (by decide) ?_
    refine lv_istore_n (lv' := [(2, .int 0), (0, .ref o1), (1, .int a1)]) hx hb dX12_isGreat_17 rfl hl (by decide) rfl (fun ls hl => ?_)
    refine lv_iconst (v := 0) hx hb dX12_isGreat_18 (by decide) ?_
    refine lv_istore_n (lv' := [(3, .int 0), (2, .int 0), (0, .ref o1), (1, .int a1)]) hx hb dX12_isGreat_19 rfl hl (by decide) rfl (fun ls hl => ?_)
    have L1 : ∀ (N : Nat) (x41 : Int32) (H : Heap) (locs : List Loc) (ls : Array Slot), (12 - x41.toInt).toNat < N → Iv 0 12 x41 → (¬ 0 = 0 → (¬ a1 = 0 ∧ cq fw7 (Int32.toNatClampNeg v5) a1 ∧ md fw7 (Int32.toNatClampNeg x41) a1)) → va_P (dC, dI) vwCl ([(o1, .inr (12, [.int v2, .ref o3, .int v5, .ref o6, .int v8, .ref o9, .ref o11, .int v13, .ref o14, .int v16, .ref o17, .int v19, .int v20, .int v21, .ref o22, .ref o24, .ref o26, .ref o28, .ref o30, .int v32, .ref o33, .ref o35, .ref o37, .int v39, .ref o40, .ref o42, .ref o44, .int v46, .ref o47])), (o6, .inl (cI, 12, .inl fw7))]) H → va_D A ([(o1, .inr (12, [.int v2, .ref o3, .int v5, .ref o6, .int v8, .ref o9, .ref o11, .int v13, .ref o14, .int v16, .ref o17, .int v19, .int v20, .int v21, .ref o22, .ref o24, .ref o26, .ref o28, .ref o30, .int v32, .ref o33, .ref o35, .ref o37, .int v39, .ref o40, .ref o42, .ref o44, .int v46, .ref o47])), (o6, .inl (cI, 12, .inl fw7))]) → va_S A s.heap H locs → lv_has ls 4 [(3, .int x41), (2, .int 0), (0, .ref o1), (1, .int a1)] → W p l e ({ frames := 2, cells := 0, slots := 0, locals := 44 }) s m ([.ref o1, .int a1] : List Value).toArray below meth c H locs 0 0 Q (F0 m 20 ls []) := by
      intro N
      induction N with
      | zero =>
        intro x41 H locs ls hM
        exact absurd hM (Nat.not_lt_zero _)
      | succ N ih1 =>
        intro x41 H locs ls hM1 x41_h iv1_0 hP hD hS hl
        refine lv_iload_n hx hb dX12_isGreat_20 rfl (lv_at hl 0 rfl) ?_
        refine lv_aload_n hx hb dX12_isGreat_21 rfl (lv_at hl 2 rfl) ?_
        refine va_get (D := (dC, dI)) (ci := 12) (v := .int v5) (C := RX12) (T := TX12) (N := 29) hx hb hts iw_X12_isGreat_X12 hown hK hP 0 rfl rfl 2 (by decide) (hts (.fieldLink RX12 73 "HolelessHouseModel" "n" "I") hm_X12_isGreat_1) (fun _ h9 => h9) rfl dX12_isGreat_22 ?_
        refine lv_icmp_ge (tgt := 65) hx hb dX12_isGreat_25 (by decide) (fun h42 => ?_) (fun h42 => ?_)
        ·
          have qh42 := le_i h42
          refine lv_iload_n hx hb dX12_isGreat_65 rfl (lv_at hl 1 rfl) ?_
          rw [hQ]
          exact W.zret (v := 0) (ty := .boolean) hx hb hr rfl (fun t ht hW => ⟨⟨0, (), rfl, ⟨(iv_w ik_0 (by decide)), (fun h8 => absurd rfl h8), (fun h8 => absurd rfl h8)⟩, by rw [ht]; exact hP, va_K.moved hW.alike hK, hD⟩, hS.F ht⟩) hS.2.2 dX12_isGreat_66
        ·
          have qh42 := nle_i h42
          have j43 : Iv 0 11 x41 := r_ltl qh42 x41_h v5_h (by decide)
          have j44 : Iv 1 12 v5 := r_ltr qh42 x41_h v5_h (by decide)
          refine lv_iload_n hx hb dX12_isGreat_28 rfl (lv_at hl 1 rfl) ?_
          refine lv_if_eq (tgt := 57) hx hb dX12_isGreat_29 (by decide) (fun _ => ?_) (fun h9 => absurd (by decide +kernel) h9)
          refine lv_iconst (v := 0) hx hb dX12_isGreat_57 (by decide) ?_
          refine lv_istore_n (lv' := [(2, .int 0), (3, .int x41), (0, .ref o1), (1, .int a1)]) hx hb dX12_isGreat_58 rfl hl (by decide) rfl (fun ls hl => ?_)
          obtain ⟨x45, x45_e⟩ : ∃ z : Int32, z = x41 + 1 := ⟨_, rfl⟩
          have x45_h : Iv 1 12 x45 := iv_e x45_e (iv_add j43 ik_1 (by decide))
          refine lv_iinc (v := x45) (lv' := [(3, .int x45), (2, .int 0), (0, .ref o1), (1, .int a1)]) hx hb dX12_isGreat_59 hl (k := 1) rfl (incN (by decide +kernel) x45_e) (by decide) rfl (fun ls hl => ?_)
          refine lv_goto (tgt := 20) hx hb dX12_isGreat_62 (by decide) ?_
          exact ih1 x45 _ _ _ (ms_up x45_e j43 (by decide) hM1) (iv_w x45_h (by decide)) (fun h8 => absurd rfl h8) hP hD hS hl
    exact L1 _ 0 _ _ _ (Nat.lt_succ_self _) (iv_w ik_0 (by decide)) (fun h8 => absurd rfl h8) hP hD hS hl
  ·
    have j46 : Iv 1 4095 a1 := r_nelo h1 a1_h ik_0 (by decide)
    refine lv_aload_n hx hb dX12_isGreat_4 rfl (lv_at hl 0 rfl) ?_
    refine lv_iload_n hx hb dX12_isGreat_5 rfl (lv_at hl 1 rfl) ?_
    refine kc_i (D := (dC, dI)) (S := Unit) (wc := [(o1, .inr (12, [.int v2, .ref o3, .int v5, .ref o6, .int v8, .ref o9, .ref o11, .int v13, .ref o14, .int v16, .ref o17, .int v19, .int v20, .int v21, .ref o22, .ref o24, .ref o26, .ref o28, .ref o30, .int v32, .ref o33, .ref o35, .ref o37, .int v39, .ref o40, .ref o42, .ref o44, .int v46, .ref o47])), (o6, .inl (cI, 12, .inl fw7))]) (wr := []) (w1 := fun _ => [(o1, .inr (12, [.int v2, .ref o3, .int v5, .ref o6, .int v8, .ref o9, .ref o11, .int v13, .ref o14, .int v16, .ref o17, .int v19, .int v20, .int v21, .ref o22, .ref o24, .ref o26, .ref o28, .ref o30, .int v32, .ref o33, .ref o35, .ref o37, .int v39, .ref o40, .ref o42, .ref o44, .int v46, .ref o47])), (o6, .inl (cI, 12, .inl fw7))]) (wn := fun _ => [(o1, .inr (12, [.int v2, .ref o3, .int v5, .ref o6, .int v8, .ref o9, .ref o11, .int v13, .ref o14, .int v16, .ref o17, .int v19, .int v20, .int v21, .ref o22, .ref o24, .ref o26, .ref o28, .ref o30, .int v32, .ref o33, .ref o35, .ref o37, .int v39, .ref o40, .ref o42, .ref o44, .int v46, .ref o47])), (o6, .inl (cI, 12, .inl fw7))]) (fun hPc hDc => va_runV (As := [.int a1]) (rest := []) ⟨hx, hb, hml, hown, hts⟩ (kX12_isClique_1 l dC dI cI c2 cZ o1 o3 o6 o9 o11 o14 o17 o22 o24 o26 o28 o30 o33 o35 o37 o40 o42 o44 o47 v2 v5 fw7 v8 v13 v16 v19 v20 v21 v32 v39 v46 a1 s.heap.size v5_h fw7_b v8_h v13_h v16_h v19_h v32_h v39_h v46_h) (cwV 1 hts gX12_isGreat_X12_isClique rfl rfl rfl (by decide +kernel) ⟨Nat.le_of_ble_eq_true rfl, Nat.le_of_ble_eq_true rfl⟩) (pre_V hPc hK hDc hN (ci := 12) (q0 := 0) rfl rfl) rfl rfl hl.1 rfl (lv_room (Nat.le_of_ble_eq_true rfl)) dX12_isGreat_6 ⟨Nat.le_of_ble_eq_true rfl, Nat.le_of_ble_eq_true rfl⟩) hP hD hS hA [0, 1] [] [0, 1] rfl rfl (by decide +kernel) (by decide +kernel) (by decide +kernel) (by decide +kernel) (fun _ => rfl) (fun x47 _ H locs hq hP hD hS => ?_)
    obtain ⟨x47_h, e48⟩ := hq
    have hP : va_P (dC, dI) vwCl ([(o1, .inr (12, [.int v2, .ref o3, .int v5, .ref o6, .int v8, .ref o9, .ref o11, .int v13, .ref o14, .int v16, .ref o17, .int v19, .int v20, .int v21, .ref o22, .ref o24, .ref o26, .ref o28, .ref o30, .int v32, .ref o33, .ref o35, .ref o37, .int v39, .ref o40, .ref o42, .ref o44, .int v46, .ref o47])), (o6, .inl (cI, 12, .inl fw7))]) H := hP
    have hD : va_D A ([(o1, .inr (12, [.int v2, .ref o3, .int v5, .ref o6, .int v8, .ref o9, .ref o11, .int v13, .ref o14, .int v16, .ref o17, .int v19, .int v20, .int v21, .ref o22, .ref o24, .ref o26, .ref o28, .ref o30, .int v32, .ref o33, .ref o35, .ref o37, .int v39, .ref o40, .ref o42, .ref o44, .int v46, .ref o47])), (o6, .inl (cI, 12, .inl fw7))]) := hD
    refine lv_if_eq (tgt := 16) hx hb dX12_isGreat_9 (by decide) (fun h49 => ?_) (fun h49 => ?_)
    ·
      have j50 : Iv 0 0 x47 := r_eq h49 ik_0
      refine lv_iconst (v := 0) hx hb dX12_isGreat_16 (by decide) ?_
      refine lv_istore_n (lv' := [(2, .int 0), (0, .ref o1), (1, .int a1)]) hx hb dX12_isGreat_17 rfl hl (by decide) rfl (fun ls hl => ?_)
      refine lv_iconst (v := 0) hx hb dX12_isGreat_18 (by decide) ?_
      refine lv_istore_n (lv' := [(3, .int 0), (2, .int 0), (0, .ref o1), (1, .int a1)]) hx hb dX12_isGreat_19 rfl hl (by decide) rfl (fun ls hl => ?_)
      have L2 : ∀ (N : Nat) (x89 : Int32) (H : Heap) (locs : List Loc) (ls : Array Slot), (12 - x89.toInt).toNat < N → Iv 0 12 x89 → (¬ 0 = 0 → (¬ a1 = 0 ∧ cq fw7 (Int32.toNatClampNeg v5) a1 ∧ md fw7 (Int32.toNatClampNeg x89) a1)) → va_P (dC, dI) vwCl ([(o1, .inr (12, [.int v2, .ref o3, .int v5, .ref o6, .int v8, .ref o9, .ref o11, .int v13, .ref o14, .int v16, .ref o17, .int v19, .int v20, .int v21, .ref o22, .ref o24, .ref o26, .ref o28, .ref o30, .int v32, .ref o33, .ref o35, .ref o37, .int v39, .ref o40, .ref o42, .ref o44, .int v46, .ref o47])), (o6, .inl (cI, 12, .inl fw7))]) H → va_D A ([(o1, .inr (12, [.int v2, .ref o3, .int v5, .ref o6, .int v8, .ref o9, .ref o11, .int v13, .ref o14, .int v16, .ref o17, .int v19, .int v20, .int v21, .ref o22, .ref o24, .ref o26, .ref o28, .ref o30, .int v32, .ref o33, .ref o35, .ref o37, .int v39, .ref o40, .ref o42, .ref o44, .int v46, .ref o47])), (o6, .inl (cI, 12, .inl fw7))]) → va_S A s.heap H locs → lv_has ls 4 [(3, .int x89), (2, .int 0), (0, .ref o1), (1, .int a1)] → W p l e ({ frames := 2, cells := 0, slots := 0, locals := 44 }) s m ([.ref o1, .int a1] : List Value).toArray below meth c H locs 0 0 Q (F0 m 20 ls []) := by
        intro N
        induction N with
        | zero =>
          intro x89 H locs ls hM
          exact absurd hM (Nat.not_lt_zero _)
        | succ N ih2 =>
          intro x89 H locs ls hM2 x89_h iv2_0 hP hD hS hl
          refine lv_iload_n hx hb dX12_isGreat_20 rfl (lv_at hl 0 rfl) ?_
          refine lv_aload_n hx hb dX12_isGreat_21 rfl (lv_at hl 2 rfl) ?_
          refine va_get (D := (dC, dI)) (ci := 12) (v := .int v5) (C := RX12) (T := TX12) (N := 29) hx hb hts iw_X12_isGreat_X12 hown hK hP 0 rfl rfl 2 (by decide) (hts (.fieldLink RX12 73 "HolelessHouseModel" "n" "I") hm_X12_isGreat_1) (fun _ h9 => h9) rfl dX12_isGreat_22 ?_
          refine lv_icmp_ge (tgt := 65) hx hb dX12_isGreat_25 (by decide) (fun h90 => ?_) (fun h90 => ?_)
          ·
            have qh90 := le_i h90
            refine lv_iload_n hx hb dX12_isGreat_65 rfl (lv_at hl 1 rfl) ?_
            rw [hQ]
            exact W.zret (v := 0) (ty := .boolean) hx hb hr rfl (fun t ht hW => ⟨⟨0, (), rfl, ⟨(iv_w ik_0 (by decide)), (fun h8 => absurd rfl h8), (fun h8 => absurd rfl h8)⟩, by rw [ht]; exact hP, va_K.moved hW.alike hK, hD⟩, hS.F ht⟩) hS.2.2 dX12_isGreat_66
          ·
            have qh90 := nle_i h90
            have j91 : Iv 0 11 x89 := r_ltl qh90 x89_h v5_h (by decide)
            have j92 : Iv 1 12 v5 := r_ltr qh90 x89_h v5_h (by decide)
            refine lv_iload_n hx hb dX12_isGreat_28 rfl (lv_at hl 1 rfl) ?_
            refine lv_if_eq (tgt := 57) hx hb dX12_isGreat_29 (by decide) (fun _ => ?_) (fun h9 => absurd (by decide +kernel) h9)
            refine lv_iconst (v := 0) hx hb dX12_isGreat_57 (by decide) ?_
            refine lv_istore_n (lv' := [(2, .int 0), (3, .int x89), (0, .ref o1), (1, .int a1)]) hx hb dX12_isGreat_58 rfl hl (by decide) rfl (fun ls hl => ?_)
            obtain ⟨x93, x93_e⟩ : ∃ z : Int32, z = x89 + 1 := ⟨_, rfl⟩
            have x93_h : Iv 1 12 x93 := iv_e x93_e (iv_add j91 ik_1 (by decide))
            refine lv_iinc (v := x93) (lv' := [(3, .int x93), (2, .int 0), (0, .ref o1), (1, .int a1)]) hx hb dX12_isGreat_59 hl (k := 1) rfl (incN (by decide +kernel) x93_e) (by decide) rfl (fun ls hl => ?_)
            refine lv_goto (tgt := 20) hx hb dX12_isGreat_62 (by decide) ?_
            exact ih2 x93 _ _ _ (ms_up x93_e j91 (by decide) hM2) (iv_w x93_h (by decide)) (fun h8 => absurd rfl h8) hP hD hS hl
      exact L2 _ 0 _ _ _ (Nat.lt_succ_self _) (iv_w ik_0 (by decide)) (fun h8 => absurd rfl h8) hP hD hS hl
    ·
      have j94 : Iv 1 1 x47 := r_nelo h49 x47_h ik_0 (by decide)
      refine lv_iconst (v := 1) hx hb dX12_isGreat_12 (by decide) ?_
      refine lv_goto (tgt := 17) hx hb dX12_isGreat_13 (by decide) ?_
      refine lv_istore_n (lv' := [(2, .int 1), (0, .ref o1), (1, .int a1)]) hx hb dX12_isGreat_17 rfl hl (by decide) rfl (fun ls hl => ?_)
      refine lv_iconst (v := 0) hx hb dX12_isGreat_18 (by decide) ?_
      refine lv_istore_n (lv' := [(3, .int 0), (2, .int 1), (0, .ref o1), (1, .int a1)]) hx hb dX12_isGreat_19 rfl hl (by decide) rfl (fun ls hl => ?_)
      have L3 : ∀ (N : Nat) (x286 : Int32) (x287 : Int32) (H : Heap) (locs : List Loc) (ls : Array Slot), (12 - x286.toInt).toNat < N → Iv 0 12 x286 → Iv 0 1 x287 → (¬ x287 = 0 → (¬ a1 = 0 ∧ cq fw7 (Int32.toNatClampNeg v5) a1 ∧ md fw7 (Int32.toNatClampNeg x286) a1)) → va_P (dC, dI) vwCl ([(o1, .inr (12, [.int v2, .ref o3, .int v5, .ref o6, .int v8, .ref o9, .ref o11, .int v13, .ref o14, .int v16, .ref o17, .int v19, .int v20, .int v21, .ref o22, .ref o24, .ref o26, .ref o28, .ref o30, .int v32, .ref o33, .ref o35, .ref o37, .int v39, .ref o40, .ref o42, .ref o44, .int v46, .ref o47])), (o6, .inl (cI, 12, .inl fw7))]) H → va_D A ([(o1, .inr (12, [.int v2, .ref o3, .int v5, .ref o6, .int v8, .ref o9, .ref o11, .int v13, .ref o14, .int v16, .ref o17, .int v19, .int v20, .int v21, .ref o22, .ref o24, .ref o26, .ref o28, .ref o30, .int v32, .ref o33, .ref o35, .ref o37, .int v39, .ref o40, .ref o42, .ref o44, .int v46, .ref o47])), (o6, .inl (cI, 12, .inl fw7))]) → va_S A s.heap H locs → lv_has ls 4 [(3, .int x286), (2, .int x287), (0, .ref o1), (1, .int a1)] → W p l e ({ frames := 2, cells := 0, slots := 0, locals := 44 }) s m ([.ref o1, .int a1] : List Value).toArray below meth c H locs 0 0 Q (F0 m 20 ls []) := by
        intro N
        induction N with
        | zero =>
          intro x286 x287 H locs ls hM
          exact absurd hM (Nat.not_lt_zero _)
        | succ N ih3 =>
          intro x286 x287 H locs ls hM3 x286_h x287_h iv3_0 hP hD hS hl
          refine lv_iload_n hx hb dX12_isGreat_20 rfl (lv_at hl 0 rfl) ?_
          refine lv_aload_n hx hb dX12_isGreat_21 rfl (lv_at hl 2 rfl) ?_
          refine va_get (D := (dC, dI)) (ci := 12) (v := .int v5) (C := RX12) (T := TX12) (N := 29) hx hb hts iw_X12_isGreat_X12 hown hK hP 0 rfl rfl 2 (by decide) (hts (.fieldLink RX12 73 "HolelessHouseModel" "n" "I") hm_X12_isGreat_1) (fun _ h9 => h9) rfl dX12_isGreat_22 ?_
          refine lv_icmp_ge (tgt := 65) hx hb dX12_isGreat_25 (by decide) (fun h288 => ?_) (fun h288 => ?_)
          ·
            have qh288 := le_i h288
            refine lv_iload_n hx hb dX12_isGreat_65 rfl (lv_at hl 1 rfl) ?_
            rw [hQ]
            exact W.zret (v := x287) (ty := .boolean) hx hb hr (nar_z x287_h) (fun t ht hW => ⟨⟨x287, (), rfl, ⟨x287_h, (fun _ => j46), (fun h8 => ⟨(iv3_0 h8).1, (iv3_0 h8).2.1, md_le (iv3_0 h8).2.2 (cl_le qh288 v5_h)⟩)⟩, by rw [ht]; exact hP, va_K.moved hW.alike hK, hD⟩, hS.F ht⟩) hS.2.2 dX12_isGreat_66
          ·
            have qh288 := nle_i h288
            have j289 : Iv 0 11 x286 := r_ltl qh288 x286_h v5_h (by decide)
            have j290 : Iv 1 12 v5 := r_ltr qh288 x286_h v5_h (by decide)
            refine lv_iload_n hx hb dX12_isGreat_28 rfl (lv_at hl 1 rfl) ?_
            refine lv_if_eq (tgt := 57) hx hb dX12_isGreat_29 (by decide) (fun h291 => ?_) (fun h291 => ?_)
            ·
              have j292 : Iv 0 0 x287 := r_eq h291 ik_0
              refine lv_iconst (v := 0) hx hb dX12_isGreat_57 (by decide) ?_
              refine lv_istore_n (lv' := [(2, .int 0), (3, .int x286), (0, .ref o1), (1, .int a1)]) hx hb dX12_isGreat_58 rfl hl (by decide) rfl (fun ls hl => ?_)
              obtain ⟨x293, x293_e⟩ : ∃ z : Int32, z = x286 + 1 := ⟨_, rfl⟩
              have x293_h : Iv 1 12 x293 := iv_e x293_e (iv_add j289 ik_1 (by decide))
              refine lv_iinc (v := x293) (lv' := [(3, .int x293), (2, .int 0), (0, .ref o1), (1, .int a1)]) hx hb dX12_isGreat_59 hl (k := 1) rfl (incN (by decide +kernel) x293_e) (by decide) rfl (fun ls hl => ?_)
              refine lv_goto (tgt := 20) hx hb dX12_isGreat_62 (by decide) ?_
              exact ih3 x293 0 _ _ _ (ms_up x293_e j289 (by decide) hM3) (iv_w x293_h (by decide)) (iv_w ik_0 (by decide)) (fun h8 => absurd rfl h8) hP hD hS hl
            ·
              have j294 : Iv 1 1 x287 := r_nelo h291 x287_h ik_0 (by decide)
              refine lv_iload_n hx hb dX12_isGreat_32 rfl (lv_at hl 3 rfl) ?_
              refine lv_iload_n hx hb dX12_isGreat_33 rfl (lv_at hl 0 rfl) ?_
              refine kc_i (D := (dC, dI)) (S := Unit) (wc := []) (wr := [(o1, .inr (12, [.int v2, .ref o3, .int v5, .ref o6, .int v8, .ref o9, .ref o11, .int v13, .ref o14, .int v16, .ref o17, .int v19, .int v20, .int v21, .ref o22, .ref o24, .ref o26, .ref o28, .ref o30, .int v32, .ref o33, .ref o35, .ref o37, .int v39, .ref o40, .ref o42, .ref o44, .int v46, .ref o47])), (o6, .inl (cI, 12, .inl fw7))]) (w1 := fun _ => []) (wn := fun _ => [(o1, .inr (12, [.int v2, .ref o3, .int v5, .ref o6, .int v8, .ref o9, .ref o11, .int v13, .ref o14, .int v16, .ref o17, .int v19, .int v20, .int v21, .ref o22, .ref o24, .ref o26, .ref o28, .ref o30, .int v32, .ref o33, .ref o35, .ref o37, .int v39, .ref o40, .ref o42, .ref o44, .int v46, .ref o47])), (o6, .inl (cI, 12, .inl fw7))]) (fun hPc hDc => va_runS (As := [.int a1, .int x286]) (rest := []) ⟨hx, hb, hml, hown, hts⟩ (kX12_has_1 l dC dI cI c2 cZ a1 x286 H.size (iv_w j289 (by decide))) (va_cwS 2 hts gX12_isGreat_X12_has rfl rfl rfl (by decide +kernel) ⟨Nat.le_of_ble_eq_true rfl, Nat.le_of_ble_eq_true rfl⟩) (pre_S hPc hK hDc hN) rfl rfl hl.1 rfl (lv_room (Nat.le_of_ble_eq_true rfl)) dX12_isGreat_34 ⟨Nat.le_of_ble_eq_true rfl, Nat.le_of_ble_eq_true rfl⟩) hP hD hS hA [] [0, 1] [0, 1] rfl rfl (by decide +kernel) (by decide +kernel) (by decide +kernel) (by decide +kernel) (fun _ => rfl) (fun x295 _ H locs hq hP hD hS => ?_)
              obtain ⟨x295_h, e296⟩ := hq
              have hP : va_P (dC, dI) vwCl ([(o1, .inr (12, [.int v2, .ref o3, .int v5, .ref o6, .int v8, .ref o9, .ref o11, .int v13, .ref o14, .int v16, .ref o17, .int v19, .int v20, .int v21, .ref o22, .ref o24, .ref o26, .ref o28, .ref o30, .int v32, .ref o33, .ref o35, .ref o37, .int v39, .ref o40, .ref o42, .ref o44, .int v46, .ref o47])), (o6, .inl (cI, 12, .inl fw7))]) H := hP
              have hD : va_D A ([(o1, .inr (12, [.int v2, .ref o3, .int v5, .ref o6, .int v8, .ref o9, .ref o11, .int v13, .ref o14, .int v16, .ref o17, .int v19, .int v20, .int v21, .ref o22, .ref o24, .ref o26, .ref o28, .ref o30, .int v32, .ref o33, .ref o35, .ref o37, .int v39, .ref o40, .ref o42, .ref o44, .int v46, .ref o47])), (o6, .inl (cI, 12, .inl fw7))]) := hD
              refine lv_if_ne (tgt := 53) hx hb dX12_isGreat_37 (by decide) (fun h297 => ?_) (fun h297 => ?_)
              ·
                have j298 : Iv 1 1 x295 := r_nelo h297 x295_h ik_0 (by decide)
                have b299 : bt a1 (Int32.toNatClampNeg x286) = true := has_t e296 h297
                refine lv_iconst (v := 1) hx hb dX12_isGreat_53 (by decide) ?_
                refine lv_goto (tgt := 58) hx hb dX12_isGreat_54 (by decide) ?_
                refine lv_istore_n (lv' := [(2, .int 1), (3, .int x286), (0, .ref o1), (1, .int a1)]) hx hb dX12_isGreat_58 rfl hl (by decide) rfl (fun ls hl => ?_)
                obtain ⟨x300, x300_e⟩ : ∃ z : Int32, z = x286 + 1 := ⟨_, rfl⟩
                have x300_h : Iv 1 12 x300 := iv_e x300_e (iv_add j289 ik_1 (by decide))
                refine lv_iinc (v := x300) (lv' := [(3, .int x300), (2, .int 1), (0, .ref o1), (1, .int a1)]) hx hb dX12_isGreat_59 hl (k := 1) rfl (incN (by decide +kernel) x300_e) (by decide) rfl (fun ls hl => ?_)
                refine lv_goto (tgt := 20) hx hb dX12_isGreat_62 (by decide) ?_
                exact ih3 x300 1 _ _ _ (ms_up x300_e j289 (by decide) hM3) (iv_w x300_h (by decide)) (iv_w ik_1 (by decide)) (fun _ => ⟨(iv3_0 h291).1, (iv3_0 h291).2.1, md_t (iv3_0 h291).2.2 (iv_w (c := 0) (d := 4095) j289 (by decide)) x300_e b299⟩) hP hD hS hl
              ·
                have j301 : Iv 0 0 x295 := r_eq h297 ik_0
                have b302 : bt a1 (Int32.toNatClampNeg x286) = false := has_f e296 h297
                refine lv_iload_n hx hb dX12_isGreat_40 rfl (lv_at hl 3 rfl) ?_
                refine lv_aload_n hx hb dX12_isGreat_41 rfl (lv_at hl 2 rfl) ?_
                refine va_get (D := (dC, dI)) (ci := 12) (v := .ref o6) (C := RX12) (T := TX12) (N := 29) hx hb hts iw_X12_isGreat_X12 hown hK hP 0 rfl rfl 3 (by decide) (hts (.fieldLink RX12 13 "HolelessHouseModel" "near" "[I") hm_X12_isGreat_2) (fun _ h9 => h9) rfl dX12_isGreat_42 ?_
                refine lv_iload_n hx hb dX12_isGreat_45 rfl (lv_at hl 0 rfl) ?_
                refine va_iald hx hb hK hP 1 0 rfl rfl (vin_iv j289 (by decide)) dX12_isGreat_46 (lv_topi (fun x303 x303_e => ?_))
                have x303_h : Iv 0 4095 x303 := iv_e x303_e (bd_at fw7_b (vin_iv j289 (by decide)))
                refine lv_iconst (v := (-1)) hx hb dX12_isGreat_47 (by decide) ?_
                refine lv_ixor hx hb dX12_isGreat_48 (lv_topi (fun x304 x304_e => ?_))
                refine lv_iand hx hb dX12_isGreat_49 (lv_topi (fun x305 x305_e => ?_))
                have x305_h : Iv 0 4095 x305 := iv_e x305_e (iv_andL _ j46 (by decide))
                refine lv_if_eq (tgt := 57) hx hb dX12_isGreat_50 (by decide) (fun h306 => ?_) (fun h306 => ?_)
                ·
                  have j307 : Iv 0 0 x305 := r_eq h306 ik_0
                  refine lv_iconst (v := 0) hx hb dX12_isGreat_57 (by decide) ?_
                  refine lv_istore_n (lv' := [(2, .int 0), (3, .int x286), (0, .ref o1), (1, .int a1)]) hx hb dX12_isGreat_58 rfl hl (by decide) rfl (fun ls hl => ?_)
                  obtain ⟨x308, x308_e⟩ : ∃ z : Int32, z = x286 + 1 := ⟨_, rfl⟩
                  have x308_h : Iv 1 12 x308 := iv_e x308_e (iv_add j289 ik_1 (by decide))
                  refine lv_iinc (v := x308) (lv' := [(3, .int x308), (2, .int 0), (0, .ref o1), (1, .int a1)]) hx hb dX12_isGreat_59 hl (k := 1) rfl (incN (by decide +kernel) x308_e) (by decide) rfl (fun ls hl => ?_)
                  refine lv_goto (tgt := 20) hx hb dX12_isGreat_62 (by decide) ?_
                  exact ih3 x308 0 _ _ _ (ms_up x308_e j289 (by decide) hM3) (iv_w x308_h (by decide)) (iv_w ik_0 (by decide)) (fun h8 => absurd rfl h8) hP hD hS hl
                ·
                  have j309 : Iv 1 4095 x305 := r_nelo h306 x305_h ik_0 (by decide)
                  refine lv_iconst (v := 1) hx hb dX12_isGreat_53 (by decide) ?_
                  refine lv_goto (tgt := 58) hx hb dX12_isGreat_54 (by decide) ?_
                  refine lv_istore_n (lv' := [(2, .int 1), (3, .int x286), (0, .ref o1), (1, .int a1)]) hx hb dX12_isGreat_58 rfl hl (by decide) rfl (fun ls hl => ?_)
                  obtain ⟨x310, x310_e⟩ : ∃ z : Int32, z = x286 + 1 := ⟨_, rfl⟩
                  have x310_h : Iv 1 12 x310 := iv_e x310_e (iv_add j289 ik_1 (by decide))
                  refine lv_iinc (v := x310) (lv' := [(3, .int x310), (2, .int 1), (0, .ref o1), (1, .int a1)]) hx hb dX12_isGreat_59 hl (k := 1) rfl (incN (by decide +kernel) x310_e) (by decide) rfl (fun ls hl => ?_)
                  refine lv_goto (tgt := 20) hx hb dX12_isGreat_62 (by decide) ?_
                  exact ih3 x310 1 _ _ _ (ms_up x310_e j289 (by decide) hM3) (iv_w x310_h (by decide)) (iv_w ik_1 (by decide)) (fun _ => ⟨(iv3_0 h291).1, (iv3_0 h291).2.1, md_n (iv3_0 h291).2.2 (iv_w (c := 0) (d := 4095) j289 (by decide)) x310_e x303_e x304_e x305_e h306⟩) hP hD hS hl
      exact L3 _ 0 1 _ _ _ (Nat.lt_succ_self _) (iv_w ik_0 (by decide)) (iv_w ik_1 (by decide)) (fun _ => ⟨h1, e48 h49, md_0⟩) hP hD hS hl
