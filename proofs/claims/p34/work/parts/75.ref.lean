theorem hm_X12_hole_1 : (.fieldLink RX12 122 "HolelessHouseModel" "ringSize" "I" : Cond) ∈ wsX12_hole := List.mem_of_getElem? (i := 1) rfl
theorem hm_X12_hole_2 : (.fieldLink RX12 19 "HolelessHouseModel" "ring" "[I" : Cond) ∈ wsX12_hole := List.mem_of_getElem? (i := 2) rfl
theorem hm_X12_fromTable_1 : (.fieldLink RX12 128 "HolelessHouseModel" "columns" "I" : Cond) ∈ wsX12_fromTable := List.mem_of_getElem? (i := 1) rfl
theorem hm_X12_fromTable_2 : (.fieldLink RX12 73 "HolelessHouseModel" "n" "I" : Cond) ∈ wsX12_fromTable := List.mem_of_getElem? (i := 2) rfl
theorem hm_X12_fromTable_5 : (.fieldLink RX12 80 "HolelessHouseModel" "drafted" "I" : Cond) ∈ wsX12_fromTable := List.mem_of_getElem? (i := 5) rfl
theorem hm_X12_fromTable_4 : (.fieldLink RX12 16 "HolelessHouseModel" "rows" "[I" : Cond) ∈ wsX12_fromTable := List.mem_of_getElem? (i := 4) rfl
theorem hm_X12_fromTable_3 : (.fieldLink RX12 13 "HolelessHouseModel" "near" "[I" : Cond) ∈ wsX12_fromTable := List.mem_of_getElem? (i := 3) rfl
theorem hm_X12_pairs_1 : (.fieldLink RX12 73 "HolelessHouseModel" "n" "I" : Cond) ∈ wsX12_pairs := List.mem_of_getElem? (i := 1) rfl
theorem hm_X12_pairs_2 : (.fieldLink RX12 13 "HolelessHouseModel" "near" "[I" : Cond) ∈ wsX12_pairs := List.mem_of_getElem? (i := 2) rfl
theorem hm_X12_turn_1 : (.fieldLink RX12 73 "HolelessHouseModel" "n" "I" : Cond) ∈ wsX12_turn := List.mem_of_getElem? (i := 1) rfl
theorem hm_X12_turn_2 : (.fieldLink RX12 13 "HolelessHouseModel" "near" "[I" : Cond) ∈ wsX12_turn := List.mem_of_getElem? (i := 2) rfl
theorem hm_X12_draft_1 : (.fieldLink RX12 80 "HolelessHouseModel" "drafted" "I" : Cond) ∈ wsX12_draft := List.mem_of_getElem? (i := 1) rfl
theorem hm_X12_draft_2 : (.fieldLink RX12 22 "HolelessHouseModel" "draft" "[I" : Cond) ∈ wsX12_draft := List.mem_of_getElem? (i := 2) rfl
theorem hm_X12_beginOrder_1 : (.fieldLink RX12 28 "HolelessHouseModel" "ordered" "I" : Cond) ∈ wsX12_beginOrder := List.mem_of_getElem? (i := 1) rfl
theorem hm_X12_beginOrder_2 : (.fieldLink RX12 134 "HolelessHouseModel" "orderFill" "I" : Cond) ∈ wsX12_beginOrder := List.mem_of_getElem? (i := 2) rfl
theorem hm_X12_beginOrder_3 : (.fieldLink RX12 137 "HolelessHouseModel" "orderWidth" "I" : Cond) ∈ wsX12_beginOrder := List.mem_of_getElem? (i := 3) rfl
theorem hm_X12_beginOrder_4 : (.fieldLink RX12 32 "HolelessHouseModel" "left" "[I" : Cond) ∈ wsX12_beginOrder := List.mem_of_getElem? (i := 4) rfl
theorem hm_X12_beginOrder_5 : (.fieldLink RX12 13 "HolelessHouseModel" "near" "[I" : Cond) ∈ wsX12_beginOrder := List.mem_of_getElem? (i := 5) rfl
theorem hm_X12_beginOrder_6 : (.fieldLink RX12 35 "HolelessHouseModel" "joins" "[I" : Cond) ∈ wsX12_beginOrder := List.mem_of_getElem? (i := 6) rfl
theorem hm_X12_fillOf_1 : (.fieldLink RX12 73 "HolelessHouseModel" "n" "I" : Cond) ∈ wsX12_fillOf := List.mem_of_getElem? (i := 1) rfl
theorem hm_X12_fillOf_2 : (.fieldLink RX12 32 "HolelessHouseModel" "left" "[I" : Cond) ∈ wsX12_fillOf := List.mem_of_getElem? (i := 2) rfl
theorem hm_X12_go_1 : (.fieldLink RX12 134 "HolelessHouseModel" "orderFill" "I" : Cond) ∈ wsX12_go := List.mem_of_getElem? (i := 1) rfl
theorem hm_X12_go_2 : (.fieldLink RX12 32 "HolelessHouseModel" "left" "[I" : Cond) ∈ wsX12_go := List.mem_of_getElem? (i := 2) rfl
theorem hm_X12_go_3 : (.fieldLink RX12 137 "HolelessHouseModel" "orderWidth" "I" : Cond) ∈ wsX12_go := List.mem_of_getElem? (i := 3) rfl
theorem hm_X12_go_4 : (.fieldLink RX12 73 "HolelessHouseModel" "n" "I" : Cond) ∈ wsX12_go := List.mem_of_getElem? (i := 4) rfl
theorem hm_X12_go_6 : (.fieldLink RX12 25 "HolelessHouseModel" "order" "[I" : Cond) ∈ wsX12_go := List.mem_of_getElem? (i := 6) rfl
theorem hm_X12_go_7 : (.fieldLink RX12 28 "HolelessHouseModel" "ordered" "I" : Cond) ∈ wsX12_go := List.mem_of_getElem? (i := 7) rfl
theorem hm_X12_go_5 : (.fieldLink RX12 35 "HolelessHouseModel" "joins" "[I" : Cond) ∈ wsX12_go := List.mem_of_getElem? (i := 5) rfl
theorem iw_X12_hole_X12 : ∀ w ∈ wsX120, w ∈ wsX12_hole := fun _ h => List.mem_cons.mpr (Or.inr (List.mem_append.mpr (Or.inr h)))
set_option maxHeartbeats 4000000 in
set_option maxRecDepth 100000 in
theorem kX12_hole_1 (l : Launch) (dC : Nat → ClassId) (dI : Nat → Nat → Nat) (cI c2 cZ : ClassId) (o1 : Nat) (o3 : Nat) (o6 : Nat) (o9 : Nat) (o11 : Nat) (o14 : Nat) (o17 : Nat) (o22 : Nat) (o24 : Nat) (o26 : Nat) (o28 : Nat) (o30 : Nat) (o33 : Nat) (o35 : Nat) (o37 : Nat) (o40 : Nat) (o42 : Nat) (o44 : Nat) (o47 : Nat) (v2 : Int32) (v5 : Int32) (fw7 : Nat → Int32) (v8 : Int32) (fw12 : Nat → Int32) (v13 : Int32) (v16 : Int32) (v19 : Int32) (v20 : Int32) (v21 : Int32) (v32 : Int32) (v39 : Int32) (v46 : Int32) (a1 : Int32) (sz : Nat) (v5_h : Iv 0 12 v5) (fw7_b : Bd 12 0 4095 fw7) (v8_h : Iv 0 8 v8) (fw12_b : Bd 12 0 11 fw12) (v13_h : Iv 0 12 v13) (v16_h : Iv 0 12 v16) (v19_h : Iv (-9) 12 v19) (v32_h : Iv 0 99 v32) (v39_h : Iv 0 12 v39) (v46_h : Iv 0 12 v46) : Met l yX12_hole wsX12_hole ({ frames := 13, cells := 0, slots := 0, locals := 340 }) (va_Pc [.ref o1, .int a1] (wPre (dC, dI) [(cI, .int), (c2, .array .int), (cZ, .boolean)] ([(o1, .inr (12, [.int v2, .ref o3, .int v5, .ref o6, .int v8, .ref o9, .ref o11, .int v13, .ref o14, .int v16, .ref o17, .int v19, .int v20, .int v21, .ref o22, .ref o24, .ref o26, .ref o28, .ref o30, .int v32, .ref o33, .ref o35, .ref o37, .int v39, .ref o40, .ref o42, .ref o44, .int v46, .ref o47])), (o11, .inl (cI, 12, .inl fw12)), (o6, .inl (cI, 12, .inl fw7))]) sz)) (va_Qi (fun (r : Int32) (u : Int32 × (Nat → Int32)) => Iv (-9) 11 r ∧ Iv 0 12 u.1 ∧ Bd 12 0 11 u.2) (fun u t => wPost (dC, dI) [(cI, .int), (c2, .array .int), (cZ, .boolean)] (va_A ([(o1, .inr (12, [.int v2, .ref o3, .int v5, .ref o6, .int v8, .ref o9, .ref o11, .int v13, .ref o14, .int v16, .ref o17, .int v19, .int v20, .int v21, .ref o22, .ref o24, .ref o26, .ref o28, .ref o30, .int v32, .ref o33, .ref o35, .ref o37, .int v39, .ref o40, .ref o42, .ref o44, .int v46, .ref o47])), (o11, .inl (cI, 12, .inl fw12)), (o6, .inl (cI, 12, .inl fw7))]) sz) ([(o1, .inr (12, [.int v2, .ref o3, .int v5, .ref o6, .int v8, .ref o9, .ref o11, .int u.1, .ref o14, .int v16, .ref o17, .int v19, .int v20, .int v21, .ref o22, .ref o24, .ref o26, .ref o28, .ref o30, .int v32, .ref o33, .ref o35, .ref o37, .int v39, .ref o40, .ref o42, .ref o44, .int v46, .ref o47])), (o11, .inl (cI, 12, .inl u.2)), (o6, .inl (cI, 12, .inl fw7))]) t) (va_A ([(o1, .inr (12, [.int v2, .ref o3, .int v5, .ref o6, .int v8, .ref o9, .ref o11, .int v13, .ref o14, .int v16, .ref o17, .int v19, .int v20, .int v21, .ref o22, .ref o24, .ref o26, .ref o28, .ref o30, .int v32, .ref o33, .ref o35, .ref o37, .int v39, .ref o40, .ref o42, .ref o44, .int v46, .ref o47])), (o11, .inl (cI, 12, .inl fw12)), (o6, .inl (cI, 12, .inl fw7))]) sz)) 0 0 (va_A ([(o1, .inr (12, [.int v2, .ref o3, .int v5, .ref o6, .int v8, .ref o9, .ref o11, .int v13, .ref o14, .int v16, .ref o17, .int v19, .int v20, .int v21, .ref o22, .ref o24, .ref o26, .ref o28, .ref o30, .int v32, .ref o33, .ref o35, .ref o37, .int v39, .ref o40, .ref o42, .ref o44, .int v46, .ref o47])), (o11, .inl (cI, 12, .inl fw12)), (o6, .inl (cI, 12, .inl fw7))]) sz) := by
  refine Met.ofW (cc := cX12_hole) (maxL := 2) (ret := (some .int)) (by decide) rfl ?_
  intro p e s m args below meth c s₁ B hml hv
  obtain ⟨rfl, hsz, hP, hK, hD0, hN⟩ := hv
  have hx := B.exec
  have hb := B.bytes
  have hr := B.returns
  have hts := atoms_spec (ws := wsX12_hole) B.pre
  have hown : s.vm.findClass RX12 = some m.cls := findClass_of_methodNamed B.named
  have hlocks := B.notSynchronized
  subst hsz
  have hD := hD0.self (sz := s.heap.size)
  generalize hAe : va_A ([(o1, .inr (12, [.int v2, .ref o3, .int v5, .ref o6, .int v8, .ref o9, .ref o11, .int v13, .ref o14, .int v16, .ref o17, .int v19, .int v20, .int v21, .ref o22, .ref o24, .ref o26, .ref o28, .ref o30, .int v32, .ref o33, .ref o35, .ref o37, .int v39, .ref o40, .ref o42, .ref o44, .int v46, .ref o47])), (o11, .inl (cI, 12, .inl fw12)), (o6, .inl (cI, 12, .inl fw7))]) s.heap.size = A at hD ⊢
  have hA : ∀ q : Nat, s.heap.size ≤ q → A q := fun q h => by rw [← hAe]; exact Or.inr h
  have hS : va_S A s.heap s.heap [] := va_S.rf
  have hP : va_P (dC, dI) vwCl ([(o1, .inr (12, [.int v2, .ref o3, .int v5, .ref o6, .int v8, .ref o9, .ref o11, .int v13, .ref o14, .int v16, .ref o17, .int v19, .int v20, .int v21, .ref o22, .ref o24, .ref o26, .ref o28, .ref o30, .int v32, .ref o33, .ref o35, .ref o37, .int v39, .ref o40, .ref o42, .ref o44, .int v46, .ref o47])), (o11, .inl (cI, 12, .inl fw12)), (o6, .inl (cI, 12, .inl fw7))]) s.heap := hP
  have hl := lv_entry ([.ref o1, .int a1]) (n := 2) (Nat.le_of_ble_eq_true rfl)
  rw [lg_entry_eq]
  generalize (lg_sl ([.ref o1, .int a1]) ++ List.replicate (2 - (lg_sl ([.ref o1, .int a1])).length) Slot.unset).toArray = ls at hl ⊢
  have hl : lv_has ls 2 [(0, .ref o1), (1, .int a1)] := hl
  refine gen_Q (fun Q hQ => ?_)
  refine lv_aload_n hx hb dX12_hole_0 rfl (lv_at hl 0 rfl) ?_
  refine kc_v (D := (dC, dI)) (S := Int32 × (Nat → Int32)) (wc := [(o1, .inr (12, [.int v2, .ref o3, .int v5, .ref o6, .int v8, .ref o9, .ref o11, .int v13, .ref o14, .int v16, .ref o17, .int v19, .int v20, .int v21, .ref o22, .ref o24, .ref o26, .ref o28, .ref o30, .int v32, .ref o33, .ref o35, .ref o37, .int v39, .ref o40, .ref o42, .ref o44, .int v46, .ref o47])), (o11, .inl (cI, 12, .inl fw12)), (o6, .inl (cI, 12, .inl fw7))]) (wr := []) (w1 := fun u => [(o1, .inr (12, [.int v2, .ref o3, .int v5, .ref o6, .int v8, .ref o9, .ref o11, .int u.1, .ref o14, .int v16, .ref o17, .int v19, .int v20, .int v21, .ref o22, .ref o24, .ref o26, .ref o28, .ref o30, .int v32, .ref o33, .ref o35, .ref o37, .int v39, .ref o40, .ref o42, .ref o44, .int v46, .ref o47])), (o11, .inl (cI, 12, .inl u.2)), (o6, .inl (cI, 12, .inl fw7))]) (wn := fun u => [(o1, .inr (12, [.int v2, .ref o3, .int v5, .ref o6, .int v8, .ref o9, .ref o11, .int u.1, .ref o14, .int v16, .ref o17, .int v19, .int v20, .int v21, .ref o22, .ref o24, .ref o26, .ref o28, .ref o30, .int v32, .ref o33, .ref o35, .ref o37, .int v39, .ref o40, .ref o42, .ref o44, .int v46, .ref o47])), (o11, .inl (cI, 12, .inl u.2)), (o6, .inl (cI, 12, .inl fw7))]) (fun hPc hDc => va_runV (As := []) (rest := []) ⟨hx, hb, hml, hown, hts⟩ (kX12_findHole_1 l dC dI cI c2 cZ o1 o3 o6 o9 o11 o14 o17 o22 o24 o26 o28 o30 o33 o35 o37 o40 o42 o44 o47 v2 v5 fw7 v8 fw12 v13 v16 v19 v20 v21 v32 v39 v46 s.heap.size v5_h fw7_b v8_h fw12_b v13_h v16_h v19_h v32_h v39_h v46_h) (cwV 0 hts gX12_hole_X12_findHole rfl rfl rfl (by decide +kernel) ⟨Nat.le_of_ble_eq_true rfl, Nat.le_of_ble_eq_true rfl⟩) (pre_V hPc hK hDc hN (ci := 12) (q0 := 0) rfl rfl) rfl rfl hl.1 rfl (lv_room (Nat.le_of_ble_eq_true rfl)) dX12_hole_1 ⟨Nat.le_of_ble_eq_true rfl, Nat.le_of_ble_eq_true rfl⟩) hP hD hS hA [0, 1, 2] [] [0, 1, 2] rfl rfl (by decide +kernel) (by decide +kernel) (by decide +kernel) (by decide +kernel) (fun _ => rfl) (fun u H locs hq hP hD hS => ?_)
  obtain ⟨y1, f2⟩ := u
  obtain ⟨y1_h, f2_b⟩ := hq
  have y1_h : Iv 0 12 y1 := y1_h
  have f2_b : Bd 12 0 11 f2 := f2_b
  have hP : va_P (dC, dI) vwCl ([(o1, .inr (12, [.int v2, .ref o3, .int v5, .ref o6, .int v8, .ref o9, .ref o11, .int y1, .ref o14, .int v16, .ref o17, .int v19, .int v20, .int v21, .ref o22, .ref o24, .ref o26, .ref o28, .ref o30, .int v32, .ref o33, .ref o35, .ref o37, .int v39, .ref o40, .ref o42, .ref o44, .int v46, .ref o47])), (o11, .inl (cI, 12, .inl f2)), (o6, .inl (cI, 12, .inl fw7))]) H := hP
  have hD : va_D A ([(o1, .inr (12, [.int v2, .ref o3, .int v5, .ref o6, .int v8, .ref o9, .ref o11, .int y1, .ref o14, .int v16, .ref o17, .int v19, .int v20, .int v21, .ref o22, .ref o24, .ref o26, .ref o28, .ref o30, .int v32, .ref o33, .ref o35, .ref o37, .int v39, .ref o40, .ref o42, .ref o44, .int v46, .ref o47])), (o11, .inl (cI, 12, .inl f2)), (o6, .inl (cI, 12, .inl fw7))]) := hD
  refine lv_iload_n hx hb dX12_hole_4 rfl (lv_at hl 1 rfl) ?_
  refine lv_iconst (v := 0) hx hb dX12_hole_5 (by decide) ?_
  refine lv_aload_n hx hb dX12_hole_6 rfl (lv_at hl 0 rfl) ?_
  refine va_get (D := (dC, dI)) (ci := 12) (v := .int y1) (C := RX12) (T := TX12) (N := 29) hx hb hts iw_X12_hole_X12 hown hK hP 0 rfl rfl 7 (by decide) (hts (.fieldLink RX12 122 "HolelessHouseModel" "ringSize" "I") hm_X12_hole_1) (fun _ h9 => h9) rfl dX12_hole_7 ?_
  refine lv_iconst (v := 1) hx hb dX12_hole_10 (by decide) ?_
  refine lv_isub hx hb dX12_hole_11 (lv_topi (fun x3 x3_e => ?_))
  have x3_h : Iv (-1) 11 x3 := iv_e x3_e (iv_sub y1_h ik_1 (by decide))
  refine kc_i (D := (dC, dI)) (S := Unit) (wc := []) (wr := [(o1, .inr (12, [.int v2, .ref o3, .int v5, .ref o6, .int v8, .ref o9, .ref o11, .int y1, .ref o14, .int v16, .ref o17, .int v19, .int v20, .int v21, .ref o22, .ref o24, .ref o26, .ref o28, .ref o30, .int v32, .ref o33, .ref o35, .ref o37, .int v39, .ref o40, .ref o42, .ref o44, .int v46, .ref o47])), (o11, .inl (cI, 12, .inl f2)), (o6, .inl (cI, 12, .inl fw7))]) (w1 := fun _ => []) (wn := fun _ => [(o1, .inr (12, [.int v2, .ref o3, .int v5, .ref o6, .int v8, .ref o9, .ref o11, .int y1, .ref o14, .int v16, .ref o17, .int v19, .int v20, .int v21, .ref o22, .ref o24, .ref o26, .ref o28, .ref o30, .int v32, .ref o33, .ref o35, .ref o37, .int v39, .ref o40, .ref o42, .ref o44, .int v46, .ref o47])), (o11, .inl (cI, 12, .inl f2)), (o6, .inl (cI, 12, .inl fw7))]) (fun hPc hDc => va_runS (As := [.int a1, .int 0, .int x3]) (rest := []) ⟨hx, hb, hml, hown, hts⟩ (kX12_in_2 l dC dI cI c2 cZ a1 0 x3 H.size ik_0 x3_h) (va_cwS 3 hts gX12_hole_X12_in rfl rfl rfl (by decide +kernel) ⟨Nat.le_of_ble_eq_true rfl, Nat.le_of_ble_eq_true rfl⟩) (pre_S hPc hK hDc hN) rfl rfl hl.1 rfl (lv_room (Nat.le_of_ble_eq_true rfl)) dX12_hole_12 ⟨Nat.le_of_ble_eq_true rfl, Nat.le_of_ble_eq_true rfl⟩) hP hD hS hA [] [0, 1, 2] [0, 1, 2] rfl rfl (by decide +kernel) (by decide +kernel) (by decide +kernel) (by decide +kernel) (fun _ => rfl) (fun x4 _ H locs hq hP hD hS => ?_)
  obtain ⟨x4_h, i5, i6, e7⟩ := hq
  have hP : va_P (dC, dI) vwCl ([(o1, .inr (12, [.int v2, .ref o3, .int v5, .ref o6, .int v8, .ref o9, .ref o11, .int y1, .ref o14, .int v16, .ref o17, .int v19, .int v20, .int v21, .ref o22, .ref o24, .ref o26, .ref o28, .ref o30, .int v32, .ref o33, .ref o35, .ref o37, .int v39, .ref o40, .ref o42, .ref o44, .int v46, .ref o47])), (o11, .inl (cI, 12, .inl f2)), (o6, .inl (cI, 12, .inl fw7))]) H := hP
  have hD : va_D A ([(o1, .inr (12, [.int v2, .ref o3, .int v5, .ref o6, .int v8, .ref o9, .ref o11, .int y1, .ref o14, .int v16, .ref o17, .int v19, .int v20, .int v21, .ref o22, .ref o24, .ref o26, .ref o28, .ref o30, .int v32, .ref o33, .ref o35, .ref o37, .int v39, .ref o40, .ref o42, .ref o44, .int v46, .ref o47])), (o11, .inl (cI, 12, .inl f2)), (o6, .inl (cI, 12, .inl fw7))]) := hD
  refine lv_if_eq (tgt := 27) hx hb dX12_hole_15 (by decide) (fun h8 => ?_) (fun h8 => ?_)
  ·
    have j9 : Iv 0 0 x4 := r_eq h8 ik_0
    refine lv_bipush (v := (-9)) hx hb dX12_hole_27 (by decide) ?_
    rw [hQ]
    exact W.iret (v := (-9)) hx hb hr (fun t ht hW => ⟨⟨(-9), (y1, f2), rfl, ⟨(iv_w ikm_9 (by decide)), y1_h, f2_b⟩, by rw [ht]; exact hP, va_K.moved hW.alike hK, hD⟩, hS.F ht⟩) hS.2.2 dX12_hole_29
  ·
    have j10 : Iv 1 1 x4 := r_nelo h8 x4_h ik_0 (by decide)
    have j11 : Iv 0 11 a1 := i5 h8
    have j12 : Iv 0 11 x3 := i6 h8
    have j13 : Iv 1 12 y1 := ivb_sub x3_e y1_h ik_1 j12 (by decide)
    refine lv_aload_n hx hb dX12_hole_18 rfl (lv_at hl 0 rfl) ?_
    refine va_get (D := (dC, dI)) (ci := 12) (v := .ref o11) (C := RX12) (T := TX12) (N := 29) hx hb hts iw_X12_hole_X12 hown hK hP 0 rfl rfl 6 (by decide) (hts (.fieldLink RX12 19 "HolelessHouseModel" "ring" "[I") hm_X12_hole_2) (fun _ h9 => h9) rfl dX12_hole_19 ?_
    refine lv_iload_n hx hb dX12_hole_22 rfl (lv_at hl 1 rfl) ?_
    refine va_iald hx hb hK hP 1 0 rfl rfl (vin_iv j11 (by decide)) dX12_hole_23 (lv_topi (fun x14 x14_e => ?_))
    have x14_h : Iv 0 11 x14 := iv_e x14_e (bd_at f2_b (vin_iv j11 (by decide)))
    refine lv_goto (tgt := 29) hx hb dX12_hole_24 (by decide) ?_
    rw [hQ]
    exact W.iret (v := x14) hx hb hr (fun t ht hW => ⟨⟨x14, (y1, f2), rfl, ⟨(iv_w x14_h (by decide)), (iv_w j13 (by decide)), f2_b⟩, by rw [ht]; exact hP, va_K.moved hW.alike hK, hD⟩, hS.F ht⟩) hS.2.2 dX12_hole_29
theorem iw_X12_fromTable_X12 : ∀ w ∈ wsX120, w ∈ wsX12_fromTable := fun _ h => List.mem_cons.mpr (Or.inr (List.mem_append.mpr (Or.inr h)))
set_option maxHeartbeats 4000000 in
set_option maxRecDepth 100000 in
theorem kX12_fromTable_1 (l : Launch) (dC : Nat → ClassId) (dI : Nat → Nat → Nat) (cI c2 cZ : ClassId) (o1 : Nat) (o3 : Nat) (o6 : Nat) (o9 : Nat) (o11 : Nat) (o14 : Nat) (o17 : Nat) (o22 : Nat) (o24 : Nat) (o26 : Nat) (o28 : Nat) (o30 : Nat) (o33 : Nat) (o35 : Nat) (o37 : Nat) (o40 : Nat) (o42 : Nat) (o44 : Nat) (o47 : Nat) (v2 : Int32) (v5 : Int32) (fw7 : Nat → Int32) (v8 : Int32) (fw10 : Nat → Int32) (v13 : Int32) (v16 : Int32) (v19 : Int32) (v20 : Int32) (v21 : Int32) (v32 : Int32) (v39 : Int32) (v46 : Int32) (sz : Nat) (v5_h : Iv 0 12 v5) (fw7_b : Bd 12 0 4095 fw7) (v8_h : Iv 0 8 v8) (fw10_b : Bd 12 (-9) 255 fw10) (v13_h : Iv 0 12 v13) (v16_h : Iv 0 12 v16) (v19_h : Iv (-9) 12 v19) (v32_h : Iv 0 99 v32) (v39_h : Iv 0 12 v39) (v46_h : Iv 0 12 v46) : Met l yX12_fromTable wsX12_fromTable ({ frames := 1, cells := 0, slots := 0, locals := 22 }) (va_Pc [.ref o1] (wPre (dC, dI) [(cI, .int), (c2, .array .int), (cZ, .boolean)] ([(o1, .inr (12, [.int v2, .ref o3, .int v5, .ref o6, .int v8, .ref o9, .ref o11, .int v13, .ref o14, .int v16, .ref o17, .int v19, .int v20, .int v21, .ref o22, .ref o24, .ref o26, .ref o28, .ref o30, .int v32, .ref o33, .ref o35, .ref o37, .int v39, .ref o40, .ref o42, .ref o44, .int v46, .ref o47])), (o6, .inl (cI, 12, .inl fw7)), (o9, .inl (cI, 12, .inl fw10))]) sz)) (va_Qi (fun (r : Int32) (u : Int32 × Int32 × Int32 × (Nat → Int32)) => Iv 0 8 r ∧ Iv 0 12 u.1 ∧ Iv 0 0 u.2.1 ∧ Iv (-9) (-9) u.2.2.1 ∧ Bd 12 0 4095 u.2.2.2) (fun u t => wPost (dC, dI) [(cI, .int), (c2, .array .int), (cZ, .boolean)] (va_A ([(o1, .inr (12, [.int v2, .ref o3, .int v5, .ref o6, .int v8, .ref o9, .ref o11, .int v13, .ref o14, .int v16, .ref o17, .int v19, .int v20, .int v21, .ref o22, .ref o24, .ref o26, .ref o28, .ref o30, .int v32, .ref o33, .ref o35, .ref o37, .int v39, .ref o40, .ref o42, .ref o44, .int v46, .ref o47])), (o6, .inl (cI, 12, .inl fw7)), (o9, .inl (cI, 12, .inl fw10))]) sz) ([(o1, .inr (12, [.int v2, .ref o3, .int u.1, .ref o6, .int v8, .ref o9, .ref o11, .int v13, .ref o14, .int u.2.1, .ref o17, .int u.2.2.1, .int v20, .int v21, .ref o22, .ref o24, .ref o26, .ref o28, .ref o30, .int v32, .ref o33, .ref o35, .ref o37, .int v39, .ref o40, .ref o42, .ref o44, .int v46, .ref o47])), (o6, .inl (cI, 12, .inl u.2.2.2)), (o9, .inl (cI, 12, .inl fw10))]) t) (va_A ([(o1, .inr (12, [.int v2, .ref o3, .int v5, .ref o6, .int v8, .ref o9, .ref o11, .int v13, .ref o14, .int v16, .ref o17, .int v19, .int v20, .int v21, .ref o22, .ref o24, .ref o26, .ref o28, .ref o30, .int v32, .ref o33, .ref o35, .ref o37, .int v39, .ref o40, .ref o42, .ref o44, .int v46, .ref o47])), (o6, .inl (cI, 12, .inl fw7)), (o9, .inl (cI, 12, .inl fw10))]) sz)) 0 0 (va_A ([(o1, .inr (12, [.int v2, .ref o3, .int v5, .ref o6, .int v8, .ref o9, .ref o11, .int v13, .ref o14, .int v16, .ref o17, .int v19, .int v20, .int v21, .ref o22, .ref o24, .ref o26, .ref o28, .ref o30, .int v32, .ref o33, .ref o35, .ref o37, .int v39, .ref o40, .ref o42, .ref o44, .int v46, .ref o47])), (o6, .inl (cI, 12, .inl fw7)), (o9, .inl (cI, 12, .inl fw10))]) sz) := by
  refine Met.ofW (cc := cX12_fromTable) (maxL := 4) (ret := (some .int)) (by decide) rfl ?_
  intro p e s m args below meth c s₁ B hml hv
  obtain ⟨rfl, hsz, hP, hK, hD0, hN⟩ := hv
  have hx := B.exec
  have hb := B.bytes
  have hr := B.returns
  have hts := atoms_spec (ws := wsX12_fromTable) B.pre
  have hown : s.vm.findClass RX12 = some m.cls := findClass_of_methodNamed B.named
  have hlocks := B.notSynchronized
  subst hsz
  have hD := hD0.self (sz := s.heap.size)
  generalize hAe : va_A ([(o1, .inr (12, [.int v2, .ref o3, .int v5, .ref o6, .int v8, .ref o9, .ref o11, .int v13, .ref o14, .int v16, .ref o17, .int v19, .int v20, .int v21, .ref o22, .ref o24, .ref o26, .ref o28, .ref o30, .int v32, .ref o33, .ref o35, .ref o37, .int v39, .ref o40, .ref o42, .ref o44, .int v46, .ref o47])), (o6, .inl (cI, 12, .inl fw7)), (o9, .inl (cI, 12, .inl fw10))]) s.heap.size = A at hD ⊢
  have hA : ∀ q : Nat, s.heap.size ≤ q → A q := fun q h => by rw [← hAe]; exact Or.inr h
  have hS : va_S A s.heap s.heap [] := va_S.rf
  have hP : va_P (dC, dI) vwCl ([(o1, .inr (12, [.int v2, .ref o3, .int v5, .ref o6, .int v8, .ref o9, .ref o11, .int v13, .ref o14, .int v16, .ref o17, .int v19, .int v20, .int v21, .ref o22, .ref o24, .ref o26, .ref o28, .ref o30, .int v32, .ref o33, .ref o35, .ref o37, .int v39, .ref o40, .ref o42, .ref o44, .int v46, .ref o47])), (o6, .inl (cI, 12, .inl fw7)), (o9, .inl (cI, 12, .inl fw10))]) s.heap := hP
  have hl := lv_entry ([.ref o1]) (n := 4) (Nat.le_of_ble_eq_true rfl)
  rw [lg_entry_eq]
  generalize (lg_sl ([.ref o1]) ++ List.replicate (4 - (lg_sl ([.ref o1])).length) Slot.unset).toArray = ls at hl ⊢
  have hl : lv_has ls 4 [(0, .ref o1)] := hl
  refine gen_Q (fun Q hQ => ?_)
  refine lv_aload_n hx hb dX12_fromTable_0 rfl (lv_at hl 0 rfl) ?_
  refine lv_aload_n hx hb dX12_fromTable_1 rfl (lv_at hl 0 rfl) ?_
  refine va_get (D := (dC, dI)) (ci := 12) (v := .int v8) (C := RX12) (T := TX12) (N := 29) hx hb hts iw_X12_fromTable_X12 hown hK hP 0 rfl rfl 4 (by decide) (hts (.fieldLink RX12 128 "HolelessHouseModel" "columns" "I") hm_X12_fromTable_1) (fun _ h9 => h9) rfl dX12_fromTable_2 ?_
  refine va_put (D := (dC, dI)) (ci := 12) (v := .int v8) (ty := .int) (C := RX12) (T := TX12) (N := 29) hx hb hts iw_X12_fromTable_X12 tyX12 tyX12_ok nmX12 hown hK hP hD hS 0 rfl rfl 2 (by decide) (hts (.fieldLink RX12 73 "HolelessHouseModel" "n" "I") hm_X12_fromTable_2) (fun _ h9 => h9) rfl (by decide +kernel) rfl rfl (Nat.le_of_ble_eq_true rfl) dX12_fromTable_5 (fun H locs hP hD hS => ?_)
  have hP : va_P (dC, dI) vwCl ([(o1, .inr (12, [.int v2, .ref o3, .int v8, .ref o6, .int v8, .ref o9, .ref o11, .int v13, .ref o14, .int v16, .ref o17, .int v19, .int v20, .int v21, .ref o22, .ref o24, .ref o26, .ref o28, .ref o30, .int v32, .ref o33, .ref o35, .ref o37, .int v39, .ref o40, .ref o42, .ref o44, .int v46, .ref o47])), (o6, .inl (cI, 12, .inl fw7)), (o9, .inl (cI, 12, .inl fw10))]) H := hP
  have hD : va_D A ([(o1, .inr (12, [.int v2, .ref o3, .int v8, .ref o6, .int v8, .ref o9, .ref o11, .int v13, .ref o14, .int v16, .ref o17, .int v19, .int v20, .int v21, .ref o22, .ref o24, .ref o26, .ref o28, .ref o30, .int v32, .ref o33, .ref o35, .ref o37, .int v39, .ref o40, .ref o42, .ref o44, .int v46, .ref o47])), (o6, .inl (cI, 12, .inl fw7)), (o9, .inl (cI, 12, .inl fw10))]) := hD
  refine lv_iconst (v := 0) hx hb dX12_fromTable_8 (by decide) ?_
  refine lv_istore_n (lv' := [(1, .int 0), (0, .ref o1)]) hx hb dX12_fromTable_9 rfl hl (by decide) rfl (fun ls hl => ?_)
  have L1 : ∀ (N : Nat) (x33 : Int32) (f34 : Nat → Int32) (H : Heap) (locs : List Loc) (ls : Array Slot), (12 - x33.toInt).toNat < N → Iv 0 12 x33 → Bd 12 0 4095 f34 → va_P (dC, dI) vwCl ([(o1, .inr (12, [.int v2, .ref o3, .int v8, .ref o6, .int v8, .ref o9, .ref o11, .int v13, .ref o14, .int v16, .ref o17, .int v19, .int v20, .int v21, .ref o22, .ref o24, .ref o26, .ref o28, .ref o30, .int v32, .ref o33, .ref o35, .ref o37, .int v39, .ref o40, .ref o42, .ref o44, .int v46, .ref o47])), (o6, .inl (cI, 12, .inl f34)), (o9, .inl (cI, 12, .inl fw10))]) H → va_D A ([(o1, .inr (12, [.int v2, .ref o3, .int v8, .ref o6, .int v8, .ref o9, .ref o11, .int v13, .ref o14, .int v16, .ref o17, .int v19, .int v20, .int v21, .ref o22, .ref o24, .ref o26, .ref o28, .ref o30, .int v32, .ref o33, .ref o35, .ref o37, .int v39, .ref o40, .ref o42, .ref o44, .int v46, .ref o47])), (o6, .inl (cI, 12, .inl f34)), (o9, .inl (cI, 12, .inl fw10))]) → va_S A s.heap H locs → lv_has ls 4 [(1, .int x33), (0, .ref o1)] → W p l e ({ frames := 1, cells := 0, slots := 0, locals := 22 }) s m ([.ref o1] : List Value).toArray below meth c H locs 0 0 Q (F0 m 10 ls []) := by
    intro N
    induction N with
    | zero =>
      intro x33 f34 H locs ls hM
      exact absurd hM (Nat.not_lt_zero _)
    | succ N ih1 =>
      intro x33 f34 H locs ls hM1 x33_h f34_b hP hD hS hl
      refine lv_iload_n hx hb dX12_fromTable_10 rfl (lv_at hl 0 rfl) ?_
      refine lv_bipush (v := 12) hx hb dX12_fromTable_11 (by decide) ?_
      refine lv_icmp_ge (tgt := 29) hx hb dX12_fromTable_13 (by decide) (fun h35 => ?_) (fun h35 => ?_)
      ·
        have qh35 := le_i h35
        have j36 : Iv 12 12 x33 := r_ler qh35 ik_12 x33_h (by decide)
        refine lv_iconst (v := 0) hx hb dX12_fromTable_29 (by decide) ?_
        refine lv_istore_n (lv' := [(1, .int 0), (0, .ref o1)]) hx hb dX12_fromTable_30 rfl hl (by decide) rfl (fun ls hl => ?_)
        have L58 : ∀ (N : Nat) (x7757 : Int32) (f7758 : Nat → Int32) (H : Heap) (locs : List Loc) (ls : Array Slot), (12 - x7757.toInt).toNat < N → Iv 0 12 x7757 → Bd 12 0 4095 f7758 → va_P (dC, dI) vwCl ([(o1, .inr (12, [.int v2, .ref o3, .int v8, .ref o6, .int v8, .ref o9, .ref o11, .int v13, .ref o14, .int v16, .ref o17, .int v19, .int v20, .int v21, .ref o22, .ref o24, .ref o26, .ref o28, .ref o30, .int v32, .ref o33, .ref o35, .ref o37, .int v39, .ref o40, .ref o42, .ref o44, .int v46, .ref o47])), (o6, .inl (cI, 12, .inl f7758)), (o9, .inl (cI, 12, .inl fw10))]) H → va_D A ([(o1, .inr (12, [.int v2, .ref o3, .int v8, .ref o6, .int v8, .ref o9, .ref o11, .int v13, .ref o14, .int v16, .ref o17, .int v19, .int v20, .int v21, .ref o22, .ref o24, .ref o26, .ref o28, .ref o30, .int v32, .ref o33, .ref o35, .ref o37, .int v39, .ref o40, .ref o42, .ref o44, .int v46, .ref o47])), (o6, .inl (cI, 12, .inl f7758)), (o9, .inl (cI, 12, .inl fw10))]) → va_S A s.heap H locs → lv_has ls 4 [(1, .int x7757), (0, .ref o1)] → W p l e ({ frames := 1, cells := 0, slots := 0, locals := 22 }) s m ([.ref o1] : List Value).toArray below meth c H locs 0 0 Q (F0 m 31 ls []) := by
          intro N
          induction N with
          | zero =>
            intro x7757 f7758 H locs ls hM
            exact absurd hM (Nat.not_lt_zero _)
          | succ N ih58 =>
            intro x7757 f7758 H locs ls hM58 x7757_h f7758_b hP hD hS hl
            refine lv_iload_n hx hb dX12_fromTable_31 rfl (lv_at hl 0 rfl) ?_
            refine lv_bipush (v := 12) hx hb dX12_fromTable_32 (by decide) ?_
            refine lv_icmp_ge (tgt := 113) hx hb dX12_fromTable_34 (by decide) (fun h7759 => ?_) (fun h7759 => ?_)
            ·
              have qh7759 := le_i h7759
              have j7760 : Iv 12 12 x7757 := r_ler qh7759 ik_12 x7757_h (by decide)
              refine lv_aload_n hx hb dX12_fromTable_113 rfl (lv_at hl 1 rfl) ?_
              refine lv_iconst (v := 0) hx hb dX12_fromTable_114 (by decide) ?_
              refine va_put (D := (dC, dI)) (ci := 12) (v := .int 0) (ty := .int) (C := RX12) (T := TX12) (N := 29) hx hb hts iw_X12_fromTable_X12 tyX12 tyX12_ok nmX12 hown hK hP hD hS 0 rfl rfl 9 (by decide) (hts (.fieldLink RX12 80 "HolelessHouseModel" "drafted" "I") hm_X12_fromTable_5) (fun _ h9 => h9) rfl (by decide +kernel) rfl rfl (Nat.le_of_ble_eq_true rfl) dX12_fromTable_115 (fun H locs hP hD hS => ?_)
              have hP : va_P (dC, dI) vwCl ([(o1, .inr (12, [.int v2, .ref o3, .int v8, .ref o6, .int v8, .ref o9, .ref o11, .int v13, .ref o14, .int 0, .ref o17, .int v19, .int v20, .int v21, .ref o22, .ref o24, .ref o26, .ref o28, .ref o30, .int v32, .ref o33, .ref o35, .ref o37, .int v39, .ref o40, .ref o42, .ref o44, .int v46, .ref o47])), (o6, .inl (cI, 12, .inl f7758)), (o9, .inl (cI, 12, .inl fw10))]) H := hP
              have hD : va_D A ([(o1, .inr (12, [.int v2, .ref o3, .int v8, .ref o6, .int v8, .ref o9, .ref o11, .int v13, .ref o14, .int 0, .ref o17, .int v19, .int v20, .int v21, .ref o22, .ref o24, .ref o26, .ref o28, .ref o30, .int v32, .ref o33, .ref o35, .ref o37, .int v39, .ref o40, .ref o42, .ref o44, .int v46, .ref o47])), (o6, .inl (cI, 12, .inl f7758)), (o9, .inl (cI, 12, .inl fw10))]) := hD
              refine lv_aload_n hx hb dX12_fromTable_118 rfl (lv_at hl 1 rfl) ?_
              refine kc_v (D := (dC, dI)) (S := Int32) (wc := [(o1, .inr (12, [.int v2, .ref o3, .int v8, .ref o6, .int v8, .ref o9, .ref o11, .int v13, .ref o14, .int 0, .ref o17, .int v19, .int v20, .int v21, .ref o22, .ref o24, .ref o26, .ref o28, .ref o30, .int v32, .ref o33, .ref o35, .ref o37, .int v39, .ref o40, .ref o42, .ref o44, .int v46, .ref o47]))]) (wr := [(o6, .inl (cI, 12, .inl f7758)), (o9, .inl (cI, 12, .inl fw10))]) (w1 := fun u => [(o1, .inr (12, [.int v2, .ref o3, .int v8, .ref o6, .int v8, .ref o9, .ref o11, .int v13, .ref o14, .int 0, .ref o17, .int u, .int v20, .int v21, .ref o22, .ref o24, .ref o26, .ref o28, .ref o30, .int v32, .ref o33, .ref o35, .ref o37, .int v39, .ref o40, .ref o42, .ref o44, .int v46, .ref o47]))]) (wn := fun u => [(o1, .inr (12, [.int v2, .ref o3, .int v8, .ref o6, .int v8, .ref o9, .ref o11, .int v13, .ref o14, .int 0, .ref o17, .int u, .int v20, .int v21, .ref o22, .ref o24, .ref o26, .ref o28, .ref o30, .int v32, .ref o33, .ref o35, .ref o37, .int v39, .ref o40, .ref o42, .ref o44, .int v46, .ref o47])), (o6, .inl (cI, 12, .inl f7758)), (o9, .inl (cI, 12, .inl fw10))]) (fun hPc hDc => va_runV (As := []) (rest := []) ⟨hx, hb, hml, hown, hts⟩ (kX12_changed_1 l dC dI cI c2 cZ o1 o3 o6 o9 o11 o14 o17 o22 o24 o26 o28 o30 o33 o35 o37 o40 o42 o44 o47 v2 v8 v8 v13 0 v19 v20 v21 v32 v39 v46 H.size (iv_w v8_h (by decide)) v8_h v13_h (iv_w ik_0 (by decide)) v19_h v32_h v39_h v46_h) (cwV 0 hts gX12_fromTable_X12_changed rfl rfl rfl (by decide +kernel) ⟨Nat.le_of_ble_eq_true rfl, Nat.le_of_ble_eq_true rfl⟩) (pre_V hPc hK hDc hN (ci := 12) (q0 := 0) rfl rfl) rfl rfl hl.1 rfl (lv_room (Nat.le_of_ble_eq_true rfl)) dX12_fromTable_119 ⟨Nat.le_of_ble_eq_true rfl, Nat.le_of_ble_eq_true rfl⟩) hP hD hS hA [0] [1, 2] [2, 0, 1] rfl rfl (by decide +kernel) (by decide +kernel) (by decide +kernel) (by decide +kernel) (fun _ => rfl) (fun y7761 H locs hq hP hD hS => ?_)
              have y7761_h := hq
              have hP : va_P (dC, dI) vwCl ([(o1, .inr (12, [.int v2, .ref o3, .int v8, .ref o6, .int v8, .ref o9, .ref o11, .int v13, .ref o14, .int 0, .ref o17, .int y7761, .int v20, .int v21, .ref o22, .ref o24, .ref o26, .ref o28, .ref o30, .int v32, .ref o33, .ref o35, .ref o37, .int v39, .ref o40, .ref o42, .ref o44, .int v46, .ref o47])), (o6, .inl (cI, 12, .inl f7758)), (o9, .inl (cI, 12, .inl fw10))]) H := hP
              have hD : va_D A ([(o1, .inr (12, [.int v2, .ref o3, .int v8, .ref o6, .int v8, .ref o9, .ref o11, .int v13, .ref o14, .int 0, .ref o17, .int y7761, .int v20, .int v21, .ref o22, .ref o24, .ref o26, .ref o28, .ref o30, .int v32, .ref o33, .ref o35, .ref o37, .int v39, .ref o40, .ref o42, .ref o44, .int v46, .ref o47])), (o6, .inl (cI, 12, .inl f7758)), (o9, .inl (cI, 12, .inl fw10))]) := hD
              refine lv_aload_n hx hb dX12_fromTable_122 rfl (lv_at hl 1 rfl) ?_
              refine va_get (D := (dC, dI)) (ci := 12) (v := .int v8) (C := RX12) (T := TX12) (N := 29) hx hb hts iw_X12_fromTable_X12 hown hK hP 0 rfl rfl 2 (by decide) (hts (.fieldLink RX12 73 "HolelessHouseModel" "n" "I") hm_X12_fromTable_2) (fun _ h9 => h9) rfl dX12_fromTable_123 ?_
              rw [hQ]
              exact W.iret (v := v8) hx hb hr (fun t ht hW => ⟨⟨v8, (v8, 0, y7761, f7758), rfl, ⟨v8_h, (iv_w v8_h (by decide)), ik_0, y7761_h, f7758_b⟩, by rw [ht]; exact hP, va_K.moved hW.alike hK, hD⟩, hS.F ht⟩) hS.2.2 dX12_fromTable_126
            ·
              have qh7759 := nle_i h7759
              have j7762 : Iv 0 11 x7757 := r_ltl qh7759 x7757_h ik_12 (by decide)
              refine lv_iconst (v := 0) hx hb dX12_fromTable_37 (by decide) ?_
              refine lv_istore_n (lv' := [(2, .int 0), (1, .int x7757), (0, .ref o1)]) hx hb dX12_fromTable_38 rfl hl (by decide) rfl (fun ls hl => ?_)
              have L64 : ∀ (N : Nat) (x8515 : Int32) (f8516 : Nat → Int32) (H : Heap) (locs : List Loc) (ls : Array Slot), (8 - x8515.toInt).toNat < N → Iv 0 8 x8515 → Bd 12 0 4095 f8516 → va_P (dC, dI) vwCl ([(o1, .inr (12, [.int v2, .ref o3, .int v8, .ref o6, .int v8, .ref o9, .ref o11, .int v13, .ref o14, .int v16, .ref o17, .int v19, .int v20, .int v21, .ref o22, .ref o24, .ref o26, .ref o28, .ref o30, .int v32, .ref o33, .ref o35, .ref o37, .int v39, .ref o40, .ref o42, .ref o44, .int v46, .ref o47])), (o6, .inl (cI, 12, .inl f8516)), (o9, .inl (cI, 12, .inl fw10))]) H → va_D A ([(o1, .inr (12, [.int v2, .ref o3, .int v8, .ref o6, .int v8, .ref o9, .ref o11, .int v13, .ref o14, .int v16, .ref o17, .int v19, .int v20, .int v21, .ref o22, .ref o24, .ref o26, .ref o28, .ref o30, .int v32, .ref o33, .ref o35, .ref o37, .int v39, .ref o40, .ref o42, .ref o44, .int v46, .ref o47])), (o6, .inl (cI, 12, .inl f8516)), (o9, .inl (cI, 12, .inl fw10))]) → va_S A s.heap H locs → lv_has ls 4 [(2, .int x8515), (1, .int x7757), (0, .ref o1)] → W p l e ({ frames := 1, cells := 0, slots := 0, locals := 22 }) s m ([.ref o1] : List Value).toArray below meth c H locs 0 0 Q (F0 m 39 ls []) := by
                intro N
                induction N with
                | zero =>
                  intro x8515 f8516 H locs ls hM
                  exact absurd hM (Nat.not_lt_zero _)
                | succ N ih64 =>
                  intro x8515 f8516 H locs ls hM64 x8515_h f8516_b hP hD hS hl
                  refine lv_iload_n hx hb dX12_fromTable_39 rfl (lv_at hl 0 rfl) ?_
                  refine lv_aload_n hx hb dX12_fromTable_40 rfl (lv_at hl 2 rfl) ?_
                  refine va_get (D := (dC, dI)) (ci := 12) (v := .int v8) (C := RX12) (T := TX12) (N := 29) hx hb hts iw_X12_fromTable_X12 hown hK hP 0 rfl rfl 2 (by decide) (hts (.fieldLink RX12 73 "HolelessHouseModel" "n" "I") hm_X12_fromTable_2) (fun _ h9 => h9) rfl dX12_fromTable_41 ?_
                  refine lv_icmp_ge (tgt := 107) hx hb dX12_fromTable_44 (by decide) (fun h8517 => ?_) (fun h8517 => ?_)
                  ·
                    have qh8517 := le_i h8517
                    obtain ⟨x8518, x8518_e⟩ : ∃ z : Int32, z = x7757 + 1 := ⟨_, rfl⟩
                    have x8518_h : Iv 1 12 x8518 := iv_e x8518_e (iv_add j7762 ik_1 (by decide))
                    refine lv_iinc (v := x8518) (lv' := [(1, .int x8518), (2, .int x8515), (0, .ref o1)]) hx hb dX12_fromTable_107 hl (k := 1) rfl (incN (by decide +kernel) x8518_e) (by decide) rfl (fun ls hl => ?_)
                    refine lv_goto (tgt := 31) hx hb dX12_fromTable_110 (by decide) ?_
                    exact ih58 x8518 f8516 _ _ _ (ms_up x8518_e j7762 (by decide) hM58) (iv_w x8518_h (by decide)) f8516_b hP hD hS (lv_sub hl [0, 2] rfl)
                  ·
                    have qh8517 := nle_i h8517
                    have j8519 : Iv 0 7 x8515 := r_ltl qh8517 x8515_h v8_h (by decide)
                    have j8520 : Iv 1 8 v8 := r_ltr qh8517 x8515_h v8_h (by decide)
                    refine lv_iconst (v := 0) hx hb dX12_fromTable_47 (by decide) ?_
                    refine lv_istore_n (lv' := [(3, .int 0), (2, .int x8515), (1, .int x7757), (0, .ref o1)]) hx hb dX12_fromTable_48 rfl hl (by decide) rfl (fun ls hl => ?_)
                    have L65 : ∀ (N : Nat) (x8695 : Int32) (f8696 : Nat → Int32) (H : Heap) (locs : List Loc) (ls : Array Slot), (8 - x8695.toInt).toNat < N → Iv 0 8 x8695 → Bd 12 0 4095 f8696 → va_P (dC, dI) vwCl ([(o1, .inr (12, [.int v2, .ref o3, .int v8, .ref o6, .int v8, .ref o9, .ref o11, .int v13, .ref o14, .int v16, .ref o17, .int v19, .int v20, .int v21, .ref o22, .ref o24, .ref o26, .ref o28, .ref o30, .int v32, .ref o33, .ref o35, .ref o37, .int v39, .ref o40, .ref o42, .ref o44, .int v46, .ref o47])), (o6, .inl (cI, 12, .inl f8696)), (o9, .inl (cI, 12, .inl fw10))]) H → va_D A ([(o1, .inr (12, [.int v2, .ref o3, .int v8, .ref o6, .int v8, .ref o9, .ref o11, .int v13, .ref o14, .int v16, .ref o17, .int v19, .int v20, .int v21, .ref o22, .ref o24, .ref o26, .ref o28, .ref o30, .int v32, .ref o33, .ref o35, .ref o37, .int v39, .ref o40, .ref o42, .ref o44, .int v46, .ref o47])), (o6, .inl (cI, 12, .inl f8696)), (o9, .inl (cI, 12, .inl fw10))]) → va_S A s.heap H locs → lv_has ls 4 [(3, .int x8695), (2, .int x8515), (1, .int x7757), (0, .ref o1)] → W p l e ({ frames := 1, cells := 0, slots := 0, locals := 22 }) s m ([.ref o1] : List Value).toArray below meth c H locs 0 0 Q (F0 m 49 ls []) := by
                      intro N
                      induction N with
                      | zero =>
                        intro x8695 f8696 H locs ls hM
                        exact absurd hM (Nat.not_lt_zero _)
                      | succ N ih65 =>
                        intro x8695 f8696 H locs ls hM65 x8695_h f8696_b hP hD hS hl
                        refine lv_iload_n hx hb dX12_fromTable_49 rfl (lv_at hl 0 rfl) ?_
                        refine lv_iload_n hx hb dX12_fromTable_50 rfl (lv_at hl 1 rfl) ?_
                        refine lv_icmp_ge (tgt := 101) hx hb dX12_fromTable_51 (by decide) (fun h8697 => ?_) (fun h8697 => ?_)
                        ·
                          have qh8697 := le_i h8697
                          obtain ⟨x8698, x8698_e⟩ : ∃ z : Int32, z = x8515 + 1 := ⟨_, rfl⟩
                          have x8698_h : Iv 1 8 x8698 := iv_e x8698_e (iv_add j8519 ik_1 (by decide))
                          refine lv_iinc (v := x8698) (lv' := [(2, .int x8698), (3, .int x8695), (1, .int x7757), (0, .ref o1)]) hx hb dX12_fromTable_101 hl (k := 1) rfl (incN (by decide +kernel) x8698_e) (by decide) rfl (fun ls hl => ?_)
                          refine lv_goto (tgt := 39) hx hb dX12_fromTable_104 (by decide) ?_
                          exact ih64 x8698 f8696 _ _ _ (ms_up x8698_e j8519 (by decide) hM64) (iv_w x8698_h (by decide)) f8696_b hP hD hS (lv_sub hl [0, 2, 3] rfl)
                        ·
                          have qh8697 := nle_i h8697
                          have j8699 : Iv 0 6 x8695 := r_ltl qh8697 x8695_h j8519 (by decide)
                          have j8700 : Iv 1 7 x8515 := r_ltr qh8697 x8695_h j8519 (by decide)
                          refine lv_aload_n hx hb dX12_fromTable_54 rfl (lv_at hl 3 rfl) ?_
                          refine va_get (D := (dC, dI)) (ci := 12) (v := .ref o9) (C := RX12) (T := TX12) (N := 29) hx hb hts iw_X12_fromTable_X12 hown hK hP 0 rfl rfl 5 (by decide) (hts (.fieldLink RX12 16 "HolelessHouseModel" "rows" "[I") hm_X12_fromTable_4) (fun _ h9 => h9) rfl dX12_fromTable_55 ?_
                          refine lv_iload_n hx hb dX12_fromTable_58 rfl (lv_at hl 2 rfl) ?_
                          refine va_iald hx hb hK hP 2 0 rfl rfl (vin_iv j7762 (by decide)) dX12_fromTable_59 (lv_topi (fun x8701 x8701_e => ?_))
                          have x8701_h : Iv (-9) 255 x8701 := iv_e x8701_e (bd_at fw10_b (vin_iv j7762 (by decide)))
                          refine lv_if_lt (tgt := 95) hx hb dX12_fromTable_60 (by decide) (fun h8702 => ?_) (fun h8702 => ?_)
                          ·
                            have qh8702 := lt_i h8702
                            have j8703 : Iv (-9) (-1) x8701 := r_ltl qh8702 x8701_h ik_0 (by decide)
                            obtain ⟨x8704, x8704_e⟩ : ∃ z : Int32, z = x8695 + 1 := ⟨_, rfl⟩
                            have x8704_h : Iv 1 7 x8704 := iv_e x8704_e (iv_add j8699 ik_1 (by decide))
                            refine lv_iinc (v := x8704) (lv' := [(3, .int x8704), (2, .int x8515), (1, .int x7757), (0, .ref o1)]) hx hb dX12_fromTable_95 hl (k := 0) rfl (incN (by decide +kernel) x8704_e) (by decide) rfl (fun ls hl => ?_)
                            refine lv_goto (tgt := 49) hx hb dX12_fromTable_98 (by decide) ?_
                            exact ih65 x8704 f8696 _ _ _ (ms_up x8704_e j8699 (by decide) hM65) (iv_w x8704_h (by decide)) f8696_b hP hD hS hl
                          ·
                            have qh8702 := nlt_i h8702
                            have j8705 : Iv 0 255 x8701 := r_ler qh8702 ik_0 x8701_h (by decide)
                            refine lv_aload_n hx hb dX12_fromTable_63 rfl (lv_at hl 3 rfl) ?_
                            refine va_get (D := (dC, dI)) (ci := 12) (v := .ref o9) (C := RX12) (T := TX12) (N := 29) hx hb hts iw_X12_fromTable_X12 hown hK hP 0 rfl rfl 5 (by decide) (hts (.fieldLink RX12 16 "HolelessHouseModel" "rows" "[I") hm_X12_fromTable_4) (fun _ h9 => h9) rfl dX12_fromTable_64 ?_
                            refine lv_iload_n hx hb dX12_fromTable_67 rfl (lv_at hl 2 rfl) ?_
                            refine va_iald hx hb hK hP 2 0 rfl rfl (vin_iv j7762 (by decide)) dX12_fromTable_68 (lv_topi (fun x8706 x8706_e => ?_))
                            have x8706_h : Iv 0 255 x8706 := iv_e (x8706_e.trans x8701_e.symm) j8705
                            refine lv_iload_n hx hb dX12_fromTable_69 rfl (lv_at hl 1 rfl) ?_
                            refine kc_i (D := (dC, dI)) (S := Unit) (wc := []) (wr := [(o1, .inr (12, [.int v2, .ref o3, .int v8, .ref o6, .int v8, .ref o9, .ref o11, .int v13, .ref o14, .int v16, .ref o17, .int v19, .int v20, .int v21, .ref o22, .ref o24, .ref o26, .ref o28, .ref o30, .int v32, .ref o33, .ref o35, .ref o37, .int v39, .ref o40, .ref o42, .ref o44, .int v46, .ref o47])), (o6, .inl (cI, 12, .inl f8696)), (o9, .inl (cI, 12, .inl fw10))]) (w1 := fun _ => []) (wn := fun _ => [(o1, .inr (12, [.int v2, .ref o3, .int v8, .ref o6, .int v8, .ref o9, .ref o11, .int v13, .ref o14, .int v16, .ref o17, .int v19, .int v20, .int v21, .ref o22, .ref o24, .ref o26, .ref o28, .ref o30, .int v32, .ref o33, .ref o35, .ref o37, .int v39, .ref o40, .ref o42, .ref o44, .int v46, .ref o47])), (o6, .inl (cI, 12, .inl f8696)), (o9, .inl (cI, 12, .inl fw10))]) (fun hPc hDc => va_runS (As := [.int x8706, .int x8515]) (rest := []) ⟨hx, hb, hml, hown, hts⟩ (kX12_has_1 l dC dI cI c2 cZ x8706 x8515 H.size (iv_w j8700 (by decide))) (va_cwS 2 hts gX12_fromTable_X12_has rfl rfl rfl (by decide +kernel) ⟨Nat.le_of_ble_eq_true rfl, Nat.le_of_ble_eq_true rfl⟩) (pre_S hPc hK hDc hN) rfl rfl hl.1 rfl (lv_room (Nat.le_of_ble_eq_true rfl)) dX12_fromTable_70 ⟨Nat.le_of_ble_eq_true rfl, Nat.le_of_ble_eq_true rfl⟩) hP hD hS hA [] [0, 1, 2] [0, 1, 2] rfl rfl (by decide +kernel) (by decide +kernel) (by decide +kernel) (by decide +kernel) (fun _ => rfl) (fun x8707 _ H locs hq hP hD hS => ?_)
                            obtain ⟨x8707_h, e8708⟩ := hq
                            have hP : va_P (dC, dI) vwCl ([(o1, .inr (12, [.int v2, .ref o3, .int v8, .ref o6, .int v8, .ref o9, .ref o11, .int v13, .ref o14, .int v16, .ref o17, .int v19, .int v20, .int v21, .ref o22, .ref o24, .ref o26, .ref o28, .ref o30, .int v32, .ref o33, .ref o35, .ref o37, .int v39, .ref o40, .ref o42, .ref o44, .int v46, .ref o47])), (o6, .inl (cI, 12, .inl f8696)), (o9, .inl (cI, 12, .inl fw10))]) H := hP
                            have hD : va_D A ([(o1, .inr (12, [.int v2, .ref o3, .int v8, .ref o6, .int v8, .ref o9, .ref o11, .int v13, .ref o14, .int v16, .ref o17, .int v19, .int v20, .int v21, .ref o22, .ref o24, .ref o26, .ref o28, .ref o30, .int v32, .ref o33, .ref o35, .ref o37, .int v39, .ref o40, .ref o42, .ref o44, .int v46, .ref o47])), (o6, .inl (cI, 12, .inl f8696)), (o9, .inl (cI, 12, .inl fw10))]) := hD
                            refine lv_if_eq (tgt := 95) hx hb dX12_fromTable_73 (by decide) (fun h8709 => ?_) (fun h8709 => ?_)
                            ·
                              have j8710 : Iv 0 0 x8707 := r_eq h8709 ik_0
                              have b8711 : bt x8706 (Int32.toNatClampNeg x8515) = false := has_f e8708 h8709
                              obtain ⟨x8712, x8712_e⟩ : ∃ z : Int32, z = x8695 + 1 := ⟨_, rfl⟩
                              have x8712_h : Iv 1 7 x8712 := iv_e x8712_e (iv_add j8699 ik_1 (by decide))
                              refine lv_iinc (v := x8712) (lv' := [(3, .int x8712), (2, .int x8515), (1, .int x7757), (0, .ref o1)]) hx hb dX12_fromTable_95 hl (k := 0) rfl (incN (by decide +kernel) x8712_e) (by decide) rfl (fun ls hl => ?_)
                              refine lv_goto (tgt := 49) hx hb dX12_fromTable_98 (by decide) ?_
                              exact ih65 x8712 f8696 _ _ _ (ms_up x8712_e j8699 (by decide) hM65) (iv_w x8712_h (by decide)) f8696_b hP hD hS hl
                            ·
                              have j8713 : Iv 1 1 x8707 := r_nelo h8709 x8707_h ik_0 (by decide)
                              have b8714 : bt x8706 (Int32.toNatClampNeg x8515) = true := has_t e8708 h8709
                              refine lv_aload_n hx hb dX12_fromTable_76 rfl (lv_at hl 3 rfl) ?_
                              refine va_get (D := (dC, dI)) (ci := 12) (v := .ref o9) (C := RX12) (T := TX12) (N := 29) hx hb hts iw_X12_fromTable_X12 hown hK hP 0 rfl rfl 5 (by decide) (hts (.fieldLink RX12 16 "HolelessHouseModel" "rows" "[I") hm_X12_fromTable_4) (fun _ h9 => h9) rfl dX12_fromTable_77 ?_
                              refine lv_iload_n hx hb dX12_fromTable_80 rfl (lv_at hl 2 rfl) ?_
                              refine va_iald hx hb hK hP 2 0 rfl rfl (vin_iv j7762 (by decide)) dX12_fromTable_81 (lv_topi (fun x8715 x8715_e => ?_))
                              have x8715_h : Iv 0 255 x8715 := iv_e (x8715_e.trans x8701_e.symm) j8705
                              refine lv_iload_n hx hb dX12_fromTable_82 rfl (lv_at hl 0 rfl) ?_
                              refine kc_i (D := (dC, dI)) (S := Unit) (wc := []) (wr := [(o1, .inr (12, [.int v2, .ref o3, .int v8, .ref o6, .int v8, .ref o9, .ref o11, .int v13, .ref o14, .int v16, .ref o17, .int v19, .int v20, .int v21, .ref o22, .ref o24, .ref o26, .ref o28, .ref o30, .int v32, .ref o33, .ref o35, .ref o37, .int v39, .ref o40, .ref o42, .ref o44, .int v46, .ref o47])), (o6, .inl (cI, 12, .inl f8696)), (o9, .inl (cI, 12, .inl fw10))]) (w1 := fun _ => []) (wn := fun _ => [(o1, .inr (12, [.int v2, .ref o3, .int v8, .ref o6, .int v8, .ref o9, .ref o11, .int v13, .ref o14, .int v16, .ref o17, .int v19, .int v20, .int v21, .ref o22, .ref o24, .ref o26, .ref o28, .ref o30, .int v32, .ref o33, .ref o35, .ref o37, .int v39, .ref o40, .ref o42, .ref o44, .int v46, .ref o47])), (o6, .inl (cI, 12, .inl f8696)), (o9, .inl (cI, 12, .inl fw10))]) (fun hPc hDc => va_runS (As := [.int x8715, .int x8695]) (rest := []) ⟨hx, hb, hml, hown, hts⟩ (kX12_has_1 l dC dI cI c2 cZ x8715 x8695 H.size (iv_w j8699 (by decide))) (va_cwS 2 hts gX12_fromTable_X12_has rfl rfl rfl (by decide +kernel) ⟨Nat.le_of_ble_eq_true rfl, Nat.le_of_ble_eq_true rfl⟩) (pre_S hPc hK hDc hN) rfl rfl hl.1 rfl (lv_room (Nat.le_of_ble_eq_true rfl)) dX12_fromTable_83 ⟨Nat.le_of_ble_eq_true rfl, Nat.le_of_ble_eq_true rfl⟩) hP hD hS hA [] [0, 1, 2] [0, 1, 2] rfl rfl (by decide +kernel) (by decide +kernel) (by decide +kernel) (by decide +kernel) (fun _ => rfl) (fun x8716 _ H locs hq hP hD hS => ?_)
                              obtain ⟨x8716_h, e8717⟩ := hq
                              have hP : va_P (dC, dI) vwCl ([(o1, .inr (12, [.int v2, .ref o3, .int v8, .ref o6, .int v8, .ref o9, .ref o11, .int v13, .ref o14, .int v16, .ref o17, .int v19, .int v20, .int v21, .ref o22, .ref o24, .ref o26, .ref o28, .ref o30, .int v32, .ref o33, .ref o35, .ref o37, .int v39, .ref o40, .ref o42, .ref o44, .int v46, .ref o47])), (o6, .inl (cI, 12, .inl f8696)), (o9, .inl (cI, 12, .inl fw10))]) H := hP
                              have hD : va_D A ([(o1, .inr (12, [.int v2, .ref o3, .int v8, .ref o6, .int v8, .ref o9, .ref o11, .int v13, .ref o14, .int v16, .ref o17, .int v19, .int v20, .int v21, .ref o22, .ref o24, .ref o26, .ref o28, .ref o30, .int v32, .ref o33, .ref o35, .ref o37, .int v39, .ref o40, .ref o42, .ref o44, .int v46, .ref o47])), (o6, .inl (cI, 12, .inl f8696)), (o9, .inl (cI, 12, .inl fw10))]) := hD
                              refine lv_if_eq (tgt := 95) hx hb dX12_fromTable_86 (by decide) (fun h8718 => ?_) (fun h8718 => ?_)
                              ·
                                have j8719 : Iv 0 0 x8716 := r_eq h8718 ik_0
                                have b8720 : bt x8715 (Int32.toNatClampNeg x8695) = false := has_f e8717 h8718
                                obtain ⟨x8721, x8721_e⟩ : ∃ z : Int32, z = x8695 + 1 := ⟨_, rfl⟩
                                have x8721_h : Iv 1 7 x8721 := iv_e x8721_e (iv_add j8699 ik_1 (by decide))
                                refine lv_iinc (v := x8721) (lv' := [(3, .int x8721), (2, .int x8515), (1, .int x7757), (0, .ref o1)]) hx hb dX12_fromTable_95 hl (k := 0) rfl (incN (by decide +kernel) x8721_e) (by decide) rfl (fun ls hl => ?_)
                                refine lv_goto (tgt := 49) hx hb dX12_fromTable_98 (by decide) ?_
                                exact ih65 x8721 f8696 _ _ _ (ms_up x8721_e j8699 (by decide) hM65) (iv_w x8721_h (by decide)) f8696_b hP hD hS hl
                              ·
                                have j8722 : Iv 1 1 x8716 := r_nelo h8718 x8716_h ik_0 (by decide)
                                have b8723 : bt x8715 (Int32.toNatClampNeg x8695) = true := has_t e8717 h8718
                                refine lv_aload_n hx hb dX12_fromTable_89 rfl (lv_at hl 3 rfl) ?_
                                refine lv_iload_n hx hb dX12_fromTable_90 rfl (lv_at hl 1 rfl) ?_
                                refine lv_iload_n hx hb dX12_fromTable_91 rfl (lv_at hl 0 rfl) ?_
                                refine kc_v (D := (dC, dI)) (S := (Nat → Int32)) (wc := [(o1, .inr (12, [.int v2, .ref o3, .int v8, .ref o6, .int v8, .ref o9, .ref o11, .int v13, .ref o14, .int v16, .ref o17, .int v19, .int v20, .int v21, .ref o22, .ref o24, .ref o26, .ref o28, .ref o30, .int v32, .ref o33, .ref o35, .ref o37, .int v39, .ref o40, .ref o42, .ref o44, .int v46, .ref o47])), (o6, .inl (cI, 12, .inl f8696))]) (wr := [(o9, .inl (cI, 12, .inl fw10))]) (w1 := fun u => [(o1, .inr (12, [.int v2, .ref o3, .int v8, .ref o6, .int v8, .ref o9, .ref o11, .int v13, .ref o14, .int v16, .ref o17, .int v19, .int v20, .int v21, .ref o22, .ref o24, .ref o26, .ref o28, .ref o30, .int v32, .ref o33, .ref o35, .ref o37, .int v39, .ref o40, .ref o42, .ref o44, .int v46, .ref o47])), (o6, .inl (cI, 12, .inl u))]) (wn := fun u => [(o1, .inr (12, [.int v2, .ref o3, .int v8, .ref o6, .int v8, .ref o9, .ref o11, .int v13, .ref o14, .int v16, .ref o17, .int v19, .int v20, .int v21, .ref o22, .ref o24, .ref o26, .ref o28, .ref o30, .int v32, .ref o33, .ref o35, .ref o37, .int v39, .ref o40, .ref o42, .ref o44, .int v46, .ref o47])), (o6, .inl (cI, 12, .inl u)), (o9, .inl (cI, 12, .inl fw10))]) (fun hPc hDc => va_runV (As := [.int x8515, .int x8695]) (rest := []) ⟨hx, hb, hml, hown, hts⟩ (kX12_tie_1 l dC dI cI c2 cZ o1 o3 o6 o9 o11 o14 o17 o22 o24 o26 o28 o30 o33 o35 o37 o40 o42 o44 o47 v2 v8 f8696 v8 v13 v16 v19 v20 v21 v32 v39 v46 x8515 x8695 H.size (iv_w j8520 (by decide)) f8696_b (iv_w j8520 (by decide)) v13_h v16_h v19_h v32_h v39_h v46_h (iv_w j8700 (by decide)) (iv_w j8699 (by decide))) (cwV 2 hts gX12_fromTable_X12_tie rfl rfl rfl (by decide +kernel) ⟨Nat.le_of_ble_eq_true rfl, Nat.le_of_ble_eq_true rfl⟩) (pre_V hPc hK hDc hN (ci := 12) (q0 := 0) rfl rfl) rfl rfl hl.1 rfl (lv_room (Nat.le_of_ble_eq_true rfl)) dX12_fromTable_92 ⟨Nat.le_of_ble_eq_true rfl, Nat.le_of_ble_eq_true rfl⟩) hP hD hS hA [0, 1] [2] [1, 2, 0] rfl rfl (by decide +kernel) (by decide +kernel) (by decide +kernel) (by decide +kernel) (fun _ => rfl) (fun f8724 H locs hq hP hD hS => ?_)
                                have f8724_b := hq
                                have hP : va_P (dC, dI) vwCl ([(o1, .inr (12, [.int v2, .ref o3, .int v8, .ref o6, .int v8, .ref o9, .ref o11, .int v13, .ref o14, .int v16, .ref o17, .int v19, .int v20, .int v21, .ref o22, .ref o24, .ref o26, .ref o28, .ref o30, .int v32, .ref o33, .ref o35, .ref o37, .int v39, .ref o40, .ref o42, .ref o44, .int v46, .ref o47])), (o6, .inl (cI, 12, .inl f8724)), (o9, .inl (cI, 12, .inl fw10))]) H := hP
                                have hD : va_D A ([(o1, .inr (12, [.int v2, .ref o3, .int v8, .ref o6, .int v8, .ref o9, .ref o11, .int v13, .ref o14, .int v16, .ref o17, .int v19, .int v20, .int v21, .ref o22, .ref o24, .ref o26, .ref o28, .ref o30, .int v32, .ref o33, .ref o35, .ref o37, .int v39, .ref o40, .ref o42, .ref o44, .int v46, .ref o47])), (o6, .inl (cI, 12, .inl f8724)), (o9, .inl (cI, 12, .inl fw10))]) := hD
                                obtain ⟨x8725, x8725_e⟩ : ∃ z : Int32, z = x8695 + 1 := ⟨_, rfl⟩
                                have x8725_h : Iv 1 7 x8725 := iv_e x8725_e (iv_add j8699 ik_1 (by decide))
                                refine lv_iinc (v := x8725) (lv' := [(3, .int x8725), (2, .int x8515), (1, .int x7757), (0, .ref o1)]) hx hb dX12_fromTable_95 hl (k := 0) rfl (incN (by decide +kernel) x8725_e) (by decide) rfl (fun ls hl => ?_)
                                refine lv_goto (tgt := 49) hx hb dX12_fromTable_98 (by decide) ?_
                                exact ih65 x8725 f8724 _ _ _ (ms_up x8725_e j8699 (by decide) hM65) (iv_w x8725_h (by decide)) f8724_b hP hD hS hl
                    exact L65 _ 0 f8516 _ _ _ (Nat.lt_succ_self _) (iv_w ik_0 (by decide)) f8516_b hP hD hS hl
              exact L64 _ 0 f7758 _ _ _ (Nat.lt_succ_self _) (iv_w ik_0 (by decide)) f7758_b hP hD hS hl
        exact L58 _ 0 f34 _ _ _ (Nat.lt_succ_self _) (iv_w ik_0 (by decide)) f34_b hP hD hS hl
      ·
        have qh35 := nle_i h35
        have j8726 : Iv 0 11 x33 := r_ltl qh35 x33_h ik_12 (by decide)
        refine lv_aload_n hx hb dX12_fromTable_16 rfl (lv_at hl 1 rfl) ?_
        refine va_get (D := (dC, dI)) (ci := 12) (v := .ref o6) (C := RX12) (T := TX12) (N := 29) hx hb hts iw_X12_fromTable_X12 hown hK hP 0 rfl rfl 3 (by decide) (hts (.fieldLink RX12 13 "HolelessHouseModel" "near" "[I") hm_X12_fromTable_3) (fun _ h9 => h9) rfl dX12_fromTable_17 ?_
        refine lv_iload_n hx hb dX12_fromTable_20 rfl (lv_at hl 0 rfl) ?_
        refine lv_iconst (v := 0) hx hb dX12_fromTable_21 (by decide) ?_
        refine k_iast hx hb hK hP hD hS 1 0 rfl rfl (vin_iv j8726 (by decide)) dX12_fromTable_22 (fun f8727 H locs f8727_e hP hD hS => ?_)
        have f8727_b : Bd 12 0 4095 f8727 := bd_upd f8727_e f34_b ik_0 (by decide)
        have hP : va_P (dC, dI) vwCl ([(o1, .inr (12, [.int v2, .ref o3, .int v8, .ref o6, .int v8, .ref o9, .ref o11, .int v13, .ref o14, .int v16, .ref o17, .int v19, .int v20, .int v21, .ref o22, .ref o24, .ref o26, .ref o28, .ref o30, .int v32, .ref o33, .ref o35, .ref o37, .int v39, .ref o40, .ref o42, .ref o44, .int v46, .ref o47])), (o6, .inl (cI, 12, .inl f8727)), (o9, .inl (cI, 12, .inl fw10))]) H := hP
        have hD : va_D A ([(o1, .inr (12, [.int v2, .ref o3, .int v8, .ref o6, .int v8, .ref o9, .ref o11, .int v13, .ref o14, .int v16, .ref o17, .int v19, .int v20, .int v21, .ref o22, .ref o24, .ref o26, .ref o28, .ref o30, .int v32, .ref o33, .ref o35, .ref o37, .int v39, .ref o40, .ref o42, .ref o44, .int v46, .ref o47])), (o6, .inl (cI, 12, .inl f8727)), (o9, .inl (cI, 12, .inl fw10))]) := hD
        obtain ⟨x8728, x8728_e⟩ : ∃ z : Int32, z = x33 + 1 := ⟨_, rfl⟩
        have x8728_h : Iv 1 12 x8728 := iv_e x8728_e (iv_add j8726 ik_1 (by decide))
        refine lv_iinc (v := x8728) (lv' := [(1, .int x8728), (0, .ref o1)]) hx hb dX12_fromTable_23 hl (k := 0) rfl (incN (by decide +kernel) x8728_e) (by decide) rfl (fun ls hl => ?_)
        refine lv_goto (tgt := 10) hx hb dX12_fromTable_26 (by decide) ?_
        exact ih1 x8728 f8727 _ _ _ (ms_up x8728_e j8726 (by decide) hM1) (iv_w x8728_h (by decide)) f8727_b hP hD hS hl
  exact L1 _ 0 fw7 _ _ _ (Nat.lt_succ_self _) (iv_w ik_0 (by decide)) fw7_b hP hD hS hl
theorem iw_X12_pairs_X12 : ∀ w ∈ wsX120, w ∈ wsX12_pairs := fun _ h => List.mem_cons.mpr (Or.inr (List.mem_append.mpr (Or.inr h)))
set_option maxHeartbeats 4000000 in
set_option maxRecDepth 100000 in
theorem kX12_pairs_1 (l : Launch) (dC : Nat → ClassId) (dI : Nat → Nat → Nat) (cI c2 cZ : ClassId) (o1 : Nat) (o3 : Nat) (o6 : Nat) (o9 : Nat) (o11 : Nat) (o14 : Nat) (o17 : Nat) (o22 : Nat) (o24 : Nat) (o26 : Nat) (o28 : Nat) (o30 : Nat) (o33 : Nat) (o35 : Nat) (o37 : Nat) (o40 : Nat) (o42 : Nat) (o44 : Nat) (o47 : Nat) (v2 : Int32) (v5 : Int32) (fw7 : Nat → Int32) (v8 : Int32) (v13 : Int32) (v16 : Int32) (v19 : Int32) (v20 : Int32) (v21 : Int32) (v32 : Int32) (v39 : Int32) (v46 : Int32) (sz : Nat) (v5_h : Iv 0 12 v5) (fw7_b : Bd 12 0 4095 fw7) (v8_h : Iv 0 8 v8) (v13_h : Iv 0 12 v13) (v16_h : Iv 0 12 v16) (v19_h : Iv (-9) 12 v19) (v32_h : Iv 0 99 v32) (v39_h : Iv 0 12 v39) (v46_h : Iv 0 12 v46) : Met l yX12_pairs wsX12_pairs ({ frames := 1, cells := 0, slots := 0, locals := 22 }) (va_Pc [.ref o1] (wPre (dC, dI) [(cI, .int), (c2, .array .int), (cZ, .boolean)] ([(o1, .inr (12, [.int v2, .ref o3, .int v5, .ref o6, .int v8, .ref o9, .ref o11, .int v13, .ref o14, .int v16, .ref o17, .int v19, .int v20, .int v21, .ref o22, .ref o24, .ref o26, .ref o28, .ref o30, .int v32, .ref o33, .ref o35, .ref o37, .int v39, .ref o40, .ref o42, .ref o44, .int v46, .ref o47])), (o6, .inl (cI, 12, .inl fw7))]) sz)) (va_Qi (fun (r : Int32) (_ : Unit) => True) (fun _ t => wPost (dC, dI) [(cI, .int), (c2, .array .int), (cZ, .boolean)] (va_A ([(o1, .inr (12, [.int v2, .ref o3, .int v5, .ref o6, .int v8, .ref o9, .ref o11, .int v13, .ref o14, .int v16, .ref o17, .int v19, .int v20, .int v21, .ref o22, .ref o24, .ref o26, .ref o28, .ref o30, .int v32, .ref o33, .ref o35, .ref o37, .int v39, .ref o40, .ref o42, .ref o44, .int v46, .ref o47])), (o6, .inl (cI, 12, .inl fw7))]) sz) ([(o1, .inr (12, [.int v2, .ref o3, .int v5, .ref o6, .int v8, .ref o9, .ref o11, .int v13, .ref o14, .int v16, .ref o17, .int v19, .int v20, .int v21, .ref o22, .ref o24, .ref o26, .ref o28, .ref o30, .int v32, .ref o33, .ref o35, .ref o37, .int v39, .ref o40, .ref o42, .ref o44, .int v46, .ref o47])), (o6, .inl (cI, 12, .inl fw7))]) t) (va_A ([(o1, .inr (12, [.int v2, .ref o3, .int v5, .ref o6, .int v8, .ref o9, .ref o11, .int v13, .ref o14, .int v16, .ref o17, .int v19, .int v20, .int v21, .ref o22, .ref o24, .ref o26, .ref o28, .ref o30, .int v32, .ref o33, .ref o35, .ref o37, .int v39, .ref o40, .ref o42, .ref o44, .int v46, .ref o47])), (o6, .inl (cI, 12, .inl fw7))]) sz)) 0 0 (va_A ([(o1, .inr (12, [.int v2, .ref o3, .int v5, .ref o6, .int v8, .ref o9, .ref o11, .int v13, .ref o14, .int v16, .ref o17, .int v19, .int v20, .int v21, .ref o22, .ref o24, .ref o26, .ref o28, .ref o30, .int v32, .ref o33, .ref o35, .ref o37, .int v39, .ref o40, .ref o42, .ref o44, .int v46, .ref o47])), (o6, .inl (cI, 12, .inl fw7))]) sz) := by
  refine Met.ofW (cc := cX12_pairs) (maxL := 3) (ret := (some .int)) (by decide) rfl ?_
  intro p e s m args below meth c s₁ B hml hv
  obtain ⟨rfl, hsz, hP, hK, hD0, hN⟩ := hv
  have hx := B.exec
  have hb := B.bytes
  have hr := B.returns
  have hts := atoms_spec (ws := wsX12_pairs) B.pre
  have hown : s.vm.findClass RX12 = some m.cls := findClass_of_methodNamed B.named
  have hlocks := B.notSynchronized
  subst hsz
  have hD := hD0.self (sz := s.heap.size)
  generalize hAe : va_A ([(o1, .inr (12, [.int v2, .ref o3, .int v5, .ref o6, .int v8, .ref o9, .ref o11, .int v13, .ref o14, .int v16, .ref o17, .int v19, .int v20, .int v21, .ref o22, .ref o24, .ref o26, .ref o28, .ref o30, .int v32, .ref o33, .ref o35, .ref o37, .int v39, .ref o40, .ref o42, .ref o44, .int v46, .ref o47])), (o6, .inl (cI, 12, .inl fw7))]) s.heap.size = A at hD ⊢
  have hA : ∀ q : Nat, s.heap.size ≤ q → A q := fun q h => by rw [← hAe]; exact Or.inr h
  have hS : va_S A s.heap s.heap [] := va_S.rf
  have hP : va_P (dC, dI) vwCl ([(o1, .inr (12, [.int v2, .ref o3, .int v5, .ref o6, .int v8, .ref o9, .ref o11, .int v13, .ref o14, .int v16, .ref o17, .int v19, .int v20, .int v21, .ref o22, .ref o24, .ref o26, .ref o28, .ref o30, .int v32, .ref o33, .ref o35, .ref o37, .int v39, .ref o40, .ref o42, .ref o44, .int v46, .ref o47])), (o6, .inl (cI, 12, .inl fw7))]) s.heap := hP
  have hl := lv_entry ([.ref o1]) (n := 3) (Nat.le_of_ble_eq_true rfl)
  rw [lg_entry_eq]
  generalize (lg_sl ([.ref o1]) ++ List.replicate (3 - (lg_sl ([.ref o1])).length) Slot.unset).toArray = ls at hl ⊢
  have hl : lv_has ls 3 [(0, .ref o1)] := hl
  refine gen_Q (fun Q hQ => ?_)
  refine lv_iconst (v := 0) hx hb dX12_pairs_0 (by decide) ?_
  refine lv_istore_n (lv' := [(1, .int 0), (0, .ref o1)]) hx hb dX12_pairs_1 rfl hl (by decide) rfl (fun ls hl => ?_)
  refine lv_iconst (v := 0) hx hb dX12_pairs_2 (by decide) ?_
  refine lv_istore_n (lv' := [(2, .int 0), (1, .int 0), (0, .ref o1)]) hx hb dX12_pairs_3 rfl hl (by decide) rfl (fun ls hl => ?_)
  have L1 : ∀ (N : Nat) (x98 : Int32) (x99 : Int32) (H : Heap) (locs : List Loc) (ls : Array Slot), (12 - x98.toInt).toNat < N → Iv 0 12 x98 → va_P (dC, dI) vwCl ([(o1, .inr (12, [.int v2, .ref o3, .int v5, .ref o6, .int v8, .ref o9, .ref o11, .int v13, .ref o14, .int v16, .ref o17, .int v19, .int v20, .int v21, .ref o22, .ref o24, .ref o26, .ref o28, .ref o30, .int v32, .ref o33, .ref o35, .ref o37, .int v39, .ref o40, .ref o42, .ref o44, .int v46, .ref o47])), (o6, .inl (cI, 12, .inl fw7))]) H → va_D A ([(o1, .inr (12, [.int v2, .ref o3, .int v5, .ref o6, .int v8, .ref o9, .ref o11, .int v13, .ref o14, .int v16, .ref o17, .int v19, .int v20, .int v21, .ref o22, .ref o24, .ref o26, .ref o28, .ref o30, .int v32, .ref o33, .ref o35, .ref o37, .int v39, .ref o40, .ref o42, .ref o44, .int v46, .ref o47])), (o6, .inl (cI, 12, .inl fw7))]) → va_S A s.heap H locs → lv_has ls 3 [(2, .int x98), (1, .int x99), (0, .ref o1)] → W p l e ({ frames := 1, cells := 0, slots := 0, locals := 22 }) s m ([.ref o1] : List Value).toArray below meth c H locs 0 0 Q (F0 m 4 ls []) := by
    intro N
    induction N with
    | zero =>
      intro x98 x99 H locs ls hM
      exact absurd hM (Nat.not_lt_zero _)
    | succ N ih1 =>
      intro x98 x99 H locs ls hM1 x98_h hP hD hS hl
      refine lv_iload_n hx hb dX12_pairs_4 rfl (lv_at hl 0 rfl) ?_
      refine lv_aload_n hx hb dX12_pairs_5 rfl (lv_at hl 2 rfl) ?_
      refine va_get (D := (dC, dI)) (ci := 12) (v := .int v5) (C := RX12) (T := TX12) (N := 29) hx hb hts iw_X12_pairs_X12 hown hK hP 0 rfl rfl 2 (by decide) (hts (.fieldLink RX12 73 "HolelessHouseModel" "n" "I") hm_X12_pairs_1) (fun _ h9 => h9) rfl dX12_pairs_6 ?_
      refine lv_icmp_ge (tgt := 30) hx hb dX12_pairs_9 (by decide) (fun h100 => ?_) (fun h100 => ?_)
      ·
        have qh100 := le_i h100
        refine lv_iload_n hx hb dX12_pairs_30 rfl (lv_at hl 1 rfl) ?_
        refine lv_iconst (v := 2) hx hb dX12_pairs_31 (by decide) ?_
        refine lv_idiv hx hb dX12_pairs_32 (by decide +kernel) (lv_topi (fun x101 x101_e => ?_))
        rw [hQ]
        exact W.iret (v := x101) hx hb hr (fun t ht hW => ⟨⟨x101, (), rfl, trivial, by rw [ht]; exact hP, va_K.moved hW.alike hK, hD⟩, hS.F ht⟩) hS.2.2 dX12_pairs_33
      ·
        have qh100 := nle_i h100
        have j102 : Iv 0 11 x98 := r_ltl qh100 x98_h v5_h (by decide)
        have j103 : Iv 1 12 v5 := r_ltr qh100 x98_h v5_h (by decide)
        refine lv_iload_n hx hb dX12_pairs_12 rfl (lv_at hl 1 rfl) ?_
        refine lv_aload_n hx hb dX12_pairs_13 rfl (lv_at hl 2 rfl) ?_
        refine va_get (D := (dC, dI)) (ci := 12) (v := .ref o6) (C := RX12) (T := TX12) (N := 29) hx hb hts iw_X12_pairs_X12 hown hK hP 0 rfl rfl 3 (by decide) (hts (.fieldLink RX12 13 "HolelessHouseModel" "near" "[I") hm_X12_pairs_2) (fun _ h9 => h9) rfl dX12_pairs_14 ?_
        refine lv_iload_n hx hb dX12_pairs_17 rfl (lv_at hl 0 rfl) ?_
        refine va_iald hx hb hK hP 1 0 rfl rfl (vin_iv j102 (by decide)) dX12_pairs_18 (lv_topi (fun x104 x104_e => ?_))
        have x104_h : Iv 0 4095 x104 := iv_e x104_e (bd_at fw7_b (vin_iv j102 (by decide)))
        refine kc_i (D := (dC, dI)) (S := Unit) (wc := []) (wr := [(o1, .inr (12, [.int v2, .ref o3, .int v5, .ref o6, .int v8, .ref o9, .ref o11, .int v13, .ref o14, .int v16, .ref o17, .int v19, .int v20, .int v21, .ref o22, .ref o24, .ref o26, .ref o28, .ref o30, .int v32, .ref o33, .ref o35, .ref o37, .int v39, .ref o40, .ref o42, .ref o44, .int v46, .ref o47])), (o6, .inl (cI, 12, .inl fw7))]) (w1 := fun _ => []) (wn := fun _ => [(o1, .inr (12, [.int v2, .ref o3, .int v5, .ref o6, .int v8, .ref o9, .ref o11, .int v13, .ref o14, .int v16, .ref o17, .int v19, .int v20, .int v21, .ref o22, .ref o24, .ref o26, .ref o28, .ref o30, .int v32, .ref o33, .ref o35, .ref o37, .int v39, .ref o40, .ref o42, .ref o44, .int v46, .ref o47])), (o6, .inl (cI, 12, .inl fw7))]) (fun hPc hDc => va_runS (As := [.int x104]) (rest := [.int x99]) ⟨hx, hb, hml, hown, hts⟩ (kX12_bits_1 l dC dI cI c2 cZ x104 H.size) (va_cwS 1 hts gX12_pairs_X12_bits rfl rfl rfl (by decide +kernel) ⟨Nat.le_of_ble_eq_true rfl, Nat.le_of_ble_eq_true rfl⟩) (pre_S hPc hK hDc hN) rfl rfl hl.1 rfl (lv_room (Nat.le_of_ble_eq_true rfl)) dX12_pairs_19 ⟨Nat.le_of_ble_eq_true rfl, Nat.le_of_ble_eq_true rfl⟩) hP hD hS hA [] [0, 1] [0, 1] rfl rfl (by decide +kernel) (by decide +kernel) (by decide +kernel) (by decide +kernel) (fun _ => rfl) (fun x105 _ H locs hq hP hD hS => ?_)
        obtain ⟨x105_h, e106⟩ := hq
        have hP : va_P (dC, dI) vwCl ([(o1, .inr (12, [.int v2, .ref o3, .int v5, .ref o6, .int v8, .ref o9, .ref o11, .int v13, .ref o14, .int v16, .ref o17, .int v19, .int v20, .int v21, .ref o22, .ref o24, .ref o26, .ref o28, .ref o30, .int v32, .ref o33, .ref o35, .ref o37, .int v39, .ref o40, .ref o42, .ref o44, .int v46, .ref o47])), (o6, .inl (cI, 12, .inl fw7))]) H := hP
        have hD : va_D A ([(o1, .inr (12, [.int v2, .ref o3, .int v5, .ref o6, .int v8, .ref o9, .ref o11, .int v13, .ref o14, .int v16, .ref o17, .int v19, .int v20, .int v21, .ref o22, .ref o24, .ref o26, .ref o28, .ref o30, .int v32, .ref o33, .ref o35, .ref o37, .int v39, .ref o40, .ref o42, .ref o44, .int v46, .ref o47])), (o6, .inl (cI, 12, .inl fw7))]) := hD
        refine lv_iadd hx hb dX12_pairs_22 (lv_topi (fun x107 x107_e => ?_))
        refine lv_istore_n (lv' := [(1, .int x107), (2, .int x98), (0, .ref o1)]) hx hb dX12_pairs_23 rfl hl (by decide) rfl (fun ls hl => ?_)
        obtain ⟨x108, x108_e⟩ : ∃ z : Int32, z = x98 + 1 := ⟨_, rfl⟩
        have x108_h : Iv 1 12 x108 := iv_e x108_e (iv_add j102 ik_1 (by decide))
        refine lv_iinc (v := x108) (lv' := [(2, .int x108), (1, .int x107), (0, .ref o1)]) hx hb dX12_pairs_24 hl (k := 1) rfl (incN (by decide +kernel) x108_e) (by decide) rfl (fun ls hl => ?_)
        refine lv_goto (tgt := 4) hx hb dX12_pairs_27 (by decide) ?_
        exact ih1 x108 x107 _ _ _ (ms_up x108_e j102 (by decide) hM1) (iv_w x108_h (by decide)) hP hD hS hl
  exact L1 _ 0 0 _ _ _ (Nat.lt_succ_self _) (iv_w ik_0 (by decide)) hP hD hS hl
theorem iw_X12_turn_X12 : ∀ w ∈ wsX120, w ∈ wsX12_turn := fun _ h => List.mem_cons.mpr (Or.inr (List.mem_append.mpr (Or.inr h)))
set_option maxHeartbeats 4000000 in
set_option maxRecDepth 100000 in
theorem kX12_turn_1 (l : Launch) (dC : Nat → ClassId) (dI : Nat → Nat → Nat) (cI c2 cZ : ClassId) (o1 : Nat) (o3 : Nat) (o6 : Nat) (o9 : Nat) (o11 : Nat) (o14 : Nat) (o17 : Nat) (o22 : Nat) (o24 : Nat) (o26 : Nat) (o28 : Nat) (o30 : Nat) (o33 : Nat) (o35 : Nat) (o37 : Nat) (o40 : Nat) (o42 : Nat) (o44 : Nat) (o47 : Nat) (v2 : Int32) (v5 : Int32) (fw7 : Nat → Int32) (v8 : Int32) (v13 : Int32) (v16 : Int32) (v19 : Int32) (v20 : Int32) (v21 : Int32) (v32 : Int32) (v39 : Int32) (v46 : Int32) (sz : Nat) (v5_h : Iv 0 12 v5) (fw7_b : Bd 12 0 4095 fw7) (v8_h : Iv 0 8 v8) (v13_h : Iv 0 12 v13) (v16_h : Iv 0 12 v16) (v19_h : Iv (-9) 12 v19) (v32_h : Iv 0 99 v32) (v39_h : Iv 0 12 v39) (v46_h : Iv 0 12 v46) : Met l yX12_turn wsX12_turn ({ frames := 2, cells := 0, slots := 0, locals := 44 }) (va_Pc [.ref o1] (wPre (dC, dI) [(cI, .int), (c2, .array .int), (cZ, .boolean)] ([(o1, .inr (12, [.int v2, .ref o3, .int v5, .ref o6, .int v8, .ref o9, .ref o11, .int v13, .ref o14, .int v16, .ref o17, .int v19, .int v20, .int v21, .ref o22, .ref o24, .ref o26, .ref o28, .ref o30, .int v32, .ref o33, .ref o35, .ref o37, .int v39, .ref o40, .ref o42, .ref o44, .int v46, .ref o47])), (o6, .inl (cI, 12, .inl fw7))]) sz)) (va_Qi (fun (r : Int32) (u : Int32 × (Nat → Int32)) => Iv (-9) (-9) u.1 ∧ Bd 12 0 4095 u.2) (fun u t => wPost (dC, dI) [(cI, .int), (c2, .array .int), (cZ, .boolean)] (va_A ([(o1, .inr (12, [.int v2, .ref o3, .int v5, .ref o6, .int v8, .ref o9, .ref o11, .int v13, .ref o14, .int v16, .ref o17, .int v19, .int v20, .int v21, .ref o22, .ref o24, .ref o26, .ref o28, .ref o30, .int v32, .ref o33, .ref o35, .ref o37, .int v39, .ref o40, .ref o42, .ref o44, .int v46, .ref o47])), (o6, .inl (cI, 12, .inl fw7))]) sz) ([(o1, .inr (12, [.int v2, .ref o3, .int v5, .ref o6, .int v8, .ref o9, .ref o11, .int v13, .ref o14, .int v16, .ref o17, .int u.1, .int v20, .int v21, .ref o22, .ref o24, .ref o26, .ref o28, .ref o30, .int v32, .ref o33, .ref o35, .ref o37, .int v39, .ref o40, .ref o42, .ref o44, .int v46, .ref o47])), (o6, .inl (cI, 12, .inl u.2))]) t) (va_A ([(o1, .inr (12, [.int v2, .ref o3, .int v5, .ref o6, .int v8, .ref o9, .ref o11, .int v13, .ref o14, .int v16, .ref o17, .int v19, .int v20, .int v21, .ref o22, .ref o24, .ref o26, .ref o28, .ref o30, .int v32, .ref o33, .ref o35, .ref o37, .int v39, .ref o40, .ref o42, .ref o44, .int v46, .ref o47])), (o6, .inl (cI, 12, .inl fw7))]) sz)) 0 0 (va_A ([(o1, .inr (12, [.int v2, .ref o3, .int v5, .ref o6, .int v8, .ref o9, .ref o11, .int v13, .ref o14, .int v16, .ref o17, .int v19, .int v20, .int v21, .ref o22, .ref o24, .ref o26, .ref o28, .ref o30, .int v32, .ref o33, .ref o35, .ref o37, .int v39, .ref o40, .ref o42, .ref o44, .int v46, .ref o47])), (o6, .inl (cI, 12, .inl fw7))]) sz) := by
  refine Met.ofW (cc := cX12_turn) (maxL := 2) (ret := (some .int)) (by decide) rfl ?_
  intro p e s m args below meth c s₁ B hml hv
  obtain ⟨rfl, hsz, hP, hK, hD0, hN⟩ := hv
  have hx := B.exec
  have hb := B.bytes
  have hr := B.returns
  have hts := atoms_spec (ws := wsX12_turn) B.pre
  have hown : s.vm.findClass RX12 = some m.cls := findClass_of_methodNamed B.named
  have hlocks := B.notSynchronized
  subst hsz
  have hD := hD0.self (sz := s.heap.size)
  generalize hAe : va_A ([(o1, .inr (12, [.int v2, .ref o3, .int v5, .ref o6, .int v8, .ref o9, .ref o11, .int v13, .ref o14, .int v16, .ref o17, .int v19, .int v20, .int v21, .ref o22, .ref o24, .ref o26, .ref o28, .ref o30, .int v32, .ref o33, .ref o35, .ref o37, .int v39, .ref o40, .ref o42, .ref o44, .int v46, .ref o47])), (o6, .inl (cI, 12, .inl fw7))]) s.heap.size = A at hD ⊢
  have hA : ∀ q : Nat, s.heap.size ≤ q → A q := fun q h => by rw [← hAe]; exact Or.inr h
  have hS : va_S A s.heap s.heap [] := va_S.rf
  have hP : va_P (dC, dI) vwCl ([(o1, .inr (12, [.int v2, .ref o3, .int v5, .ref o6, .int v8, .ref o9, .ref o11, .int v13, .ref o14, .int v16, .ref o17, .int v19, .int v20, .int v21, .ref o22, .ref o24, .ref o26, .ref o28, .ref o30, .int v32, .ref o33, .ref o35, .ref o37, .int v39, .ref o40, .ref o42, .ref o44, .int v46, .ref o47])), (o6, .inl (cI, 12, .inl fw7))]) s.heap := hP
  have hl := lv_entry ([.ref o1]) (n := 2) (Nat.le_of_ble_eq_true rfl)
  rw [lg_entry_eq]
  generalize (lg_sl ([.ref o1]) ++ List.replicate (2 - (lg_sl ([.ref o1])).length) Slot.unset).toArray = ls at hl ⊢
  have hl : lv_has ls 2 [(0, .ref o1)] := hl
  refine gen_Q (fun Q hQ => ?_)
  refine lv_iconst (v := 0) hx hb dX12_turn_0 (by decide) ?_
  refine lv_istore_n (lv' := [(1, .int 0), (0, .ref o1)]) hx hb dX12_turn_1 rfl hl (by decide) rfl (fun ls hl => ?_)
  have L1 : ∀ (N : Nat) (x116 : Int32) (f117 : Nat → Int32) (H : Heap) (locs : List Loc) (ls : Array Slot), (12 - x116.toInt).toNat < N → Iv 0 12 x116 → Bd 12 0 4095 f117 → va_P (dC, dI) vwCl ([(o1, .inr (12, [.int v2, .ref o3, .int v5, .ref o6, .int v8, .ref o9, .ref o11, .int v13, .ref o14, .int v16, .ref o17, .int v19, .int v20, .int v21, .ref o22, .ref o24, .ref o26, .ref o28, .ref o30, .int v32, .ref o33, .ref o35, .ref o37, .int v39, .ref o40, .ref o42, .ref o44, .int v46, .ref o47])), (o6, .inl (cI, 12, .inl f117))]) H → va_D A ([(o1, .inr (12, [.int v2, .ref o3, .int v5, .ref o6, .int v8, .ref o9, .ref o11, .int v13, .ref o14, .int v16, .ref o17, .int v19, .int v20, .int v21, .ref o22, .ref o24, .ref o26, .ref o28, .ref o30, .int v32, .ref o33, .ref o35, .ref o37, .int v39, .ref o40, .ref o42, .ref o44, .int v46, .ref o47])), (o6, .inl (cI, 12, .inl f117))]) → va_S A s.heap H locs → lv_has ls 2 [(1, .int x116), (0, .ref o1)] → W p l e ({ frames := 2, cells := 0, slots := 0, locals := 44 }) s m ([.ref o1] : List Value).toArray below meth c H locs 0 0 Q (F0 m 2 ls []) := by
    intro N
    induction N with
    | zero =>
      intro x116 f117 H locs ls hM
      exact absurd hM (Nat.not_lt_zero _)
    | succ N ih1 =>
      intro x116 f117 H locs ls hM1 x116_h f117_b hP hD hS hl
      refine lv_iload_n hx hb dX12_turn_2 rfl (lv_at hl 0 rfl) ?_
      refine lv_aload_n hx hb dX12_turn_3 rfl (lv_at hl 1 rfl) ?_
      refine va_get (D := (dC, dI)) (ci := 12) (v := .int v5) (C := RX12) (T := TX12) (N := 29) hx hb hts iw_X12_turn_X12 hown hK hP 0 rfl rfl 2 (by decide) (hts (.fieldLink RX12 73 "HolelessHouseModel" "n" "I") hm_X12_turn_1) (fun _ h9 => h9) rfl dX12_turn_4 ?_
      refine lv_icmp_ge (tgt := 41) hx hb dX12_turn_7 (by decide) (fun h118 => ?_) (fun h118 => ?_)
      ·
        have qh118 := le_i h118
        refine lv_aload_n hx hb dX12_turn_41 rfl (lv_at hl 1 rfl) ?_
        refine kc_v (D := (dC, dI)) (S := Int32) (wc := [(o1, .inr (12, [.int v2, .ref o3, .int v5, .ref o6, .int v8, .ref o9, .ref o11, .int v13, .ref o14, .int v16, .ref o17, .int v19, .int v20, .int v21, .ref o22, .ref o24, .ref o26, .ref o28, .ref o30, .int v32, .ref o33, .ref o35, .ref o37, .int v39, .ref o40, .ref o42, .ref o44, .int v46, .ref o47]))]) (wr := [(o6, .inl (cI, 12, .inl f117))]) (w1 := fun u => [(o1, .inr (12, [.int v2, .ref o3, .int v5, .ref o6, .int v8, .ref o9, .ref o11, .int v13, .ref o14, .int v16, .ref o17, .int u, .int v20, .int v21, .ref o22, .ref o24, .ref o26, .ref o28, .ref o30, .int v32, .ref o33, .ref o35, .ref o37, .int v39, .ref o40, .ref o42, .ref o44, .int v46, .ref o47]))]) (wn := fun u => [(o1, .inr (12, [.int v2, .ref o3, .int v5, .ref o6, .int v8, .ref o9, .ref o11, .int v13, .ref o14, .int v16, .ref o17, .int u, .int v20, .int v21, .ref o22, .ref o24, .ref o26, .ref o28, .ref o30, .int v32, .ref o33, .ref o35, .ref o37, .int v39, .ref o40, .ref o42, .ref o44, .int v46, .ref o47])), (o6, .inl (cI, 12, .inl f117))]) (fun hPc hDc => va_runV (As := []) (rest := []) ⟨hx, hb, hml, hown, hts⟩ (kX12_changed_1 l dC dI cI c2 cZ o1 o3 o6 o9 o11 o14 o17 o22 o24 o26 o28 o30 o33 o35 o37 o40 o42 o44 o47 v2 v5 v8 v13 v16 v19 v20 v21 v32 v39 v46 H.size v5_h v8_h v13_h v16_h v19_h v32_h v39_h v46_h) (cwV 0 hts gX12_turn_X12_changed rfl rfl rfl (by decide +kernel) ⟨Nat.le_of_ble_eq_true rfl, Nat.le_of_ble_eq_true rfl⟩) (pre_V hPc hK hDc hN (ci := 12) (q0 := 0) rfl rfl) rfl rfl hl.1 rfl (lv_room (Nat.le_of_ble_eq_true rfl)) dX12_turn_42 ⟨Nat.le_of_ble_eq_true rfl, Nat.le_of_ble_eq_true rfl⟩) hP hD hS hA [0] [1] [1, 0] rfl rfl (by decide +kernel) (by decide +kernel) (by decide +kernel) (by decide +kernel) (fun _ => rfl) (fun y119 H locs hq hP hD hS => ?_)
        have y119_h := hq
        have hP : va_P (dC, dI) vwCl ([(o1, .inr (12, [.int v2, .ref o3, .int v5, .ref o6, .int v8, .ref o9, .ref o11, .int v13, .ref o14, .int v16, .ref o17, .int y119, .int v20, .int v21, .ref o22, .ref o24, .ref o26, .ref o28, .ref o30, .int v32, .ref o33, .ref o35, .ref o37, .int v39, .ref o40, .ref o42, .ref o44, .int v46, .ref o47])), (o6, .inl (cI, 12, .inl f117))]) H := hP
        have hD : va_D A ([(o1, .inr (12, [.int v2, .ref o3, .int v5, .ref o6, .int v8, .ref o9, .ref o11, .int v13, .ref o14, .int v16, .ref o17, .int y119, .int v20, .int v21, .ref o22, .ref o24, .ref o26, .ref o28, .ref o30, .int v32, .ref o33, .ref o35, .ref o37, .int v39, .ref o40, .ref o42, .ref o44, .int v46, .ref o47])), (o6, .inl (cI, 12, .inl f117))]) := hD
        refine lv_aload_n hx hb dX12_turn_45 rfl (lv_at hl 1 rfl) ?_
        refine kc_i (D := (dC, dI)) (S := Unit) (wc := [(o1, .inr (12, [.int v2, .ref o3, .int v5, .ref o6, .int v8, .ref o9, .ref o11, .int v13, .ref o14, .int v16, .ref o17, .int y119, .int v20, .int v21, .ref o22, .ref o24, .ref o26, .ref o28, .ref o30, .int v32, .ref o33, .ref o35, .ref o37, .int v39, .ref o40, .ref o42, .ref o44, .int v46, .ref o47])), (o6, .inl (cI, 12, .inl f117))]) (wr := []) (w1 := fun _ => [(o1, .inr (12, [.int v2, .ref o3, .int v5, .ref o6, .int v8, .ref o9, .ref o11, .int v13, .ref o14, .int v16, .ref o17, .int y119, .int v20, .int v21, .ref o22, .ref o24, .ref o26, .ref o28, .ref o30, .int v32, .ref o33, .ref o35, .ref o37, .int v39, .ref o40, .ref o42, .ref o44, .int v46, .ref o47])), (o6, .inl (cI, 12, .inl f117))]) (wn := fun _ => [(o1, .inr (12, [.int v2, .ref o3, .int v5, .ref o6, .int v8, .ref o9, .ref o11, .int v13, .ref o14, .int v16, .ref o17, .int y119, .int v20, .int v21, .ref o22, .ref o24, .ref o26, .ref o28, .ref o30, .int v32, .ref o33, .ref o35, .ref o37, .int v39, .ref o40, .ref o42, .ref o44, .int v46, .ref o47])), (o6, .inl (cI, 12, .inl f117))]) (fun hPc hDc => va_runV (As := []) (rest := []) ⟨hx, hb, hml, hown, hts⟩ (kX12_pairs_1 l dC dI cI c2 cZ o1 o3 o6 o9 o11 o14 o17 o22 o24 o26 o28 o30 o33 o35 o37 o40 o42 o44 o47 v2 v5 f117 v8 v13 v16 y119 v20 v21 v32 v39 v46 H.size v5_h f117_b v8_h v13_h v16_h (iv_w y119_h (by decide)) v32_h v39_h v46_h) (cwV 0 hts gX12_turn_X12_pairs rfl rfl rfl (by decide +kernel) ⟨Nat.le_of_ble_eq_true rfl, Nat.le_of_ble_eq_true rfl⟩) (pre_V hPc hK hDc hN (ci := 12) (q0 := 0) rfl rfl) rfl rfl hl.1 rfl (lv_room (Nat.le_of_ble_eq_true rfl)) dX12_turn_46 ⟨Nat.le_of_ble_eq_true rfl, Nat.le_of_ble_eq_true rfl⟩) hP hD hS hA [0, 1] [] [0, 1] rfl rfl (by decide +kernel) (by decide +kernel) (by decide +kernel) (by decide +kernel) (fun _ => rfl) (fun x120 _ H locs hq hP hD hS => ?_)
        have hP : va_P (dC, dI) vwCl ([(o1, .inr (12, [.int v2, .ref o3, .int v5, .ref o6, .int v8, .ref o9, .ref o11, .int v13, .ref o14, .int v16, .ref o17, .int y119, .int v20, .int v21, .ref o22, .ref o24, .ref o26, .ref o28, .ref o30, .int v32, .ref o33, .ref o35, .ref o37, .int v39, .ref o40, .ref o42, .ref o44, .int v46, .ref o47])), (o6, .inl (cI, 12, .inl f117))]) H := hP
        have hD : va_D A ([(o1, .inr (12, [.int v2, .ref o3, .int v5, .ref o6, .int v8, .ref o9, .ref o11, .int v13, .ref o14, .int v16, .ref o17, .int y119, .int v20, .int v21, .ref o22, .ref o24, .ref o26, .ref o28, .ref o30, .int v32, .ref o33, .ref o35, .ref o37, .int v39, .ref o40, .ref o42, .ref o44, .int v46, .ref o47])), (o6, .inl (cI, 12, .inl f117))]) := hD
        rw [hQ]
        exact W.iret (v := x120) hx hb hr (fun t ht hW => ⟨⟨x120, (y119, f117), rfl, ⟨y119_h, f117_b⟩, by rw [ht]; exact hP, va_K.moved hW.alike hK, hD⟩, hS.F ht⟩) hS.2.2 dX12_turn_49
      ·
        have qh118 := nle_i h118
        have j121 : Iv 0 11 x116 := r_ltl qh118 x116_h v5_h (by decide)
        have j122 : Iv 1 12 v5 := r_ltr qh118 x116_h v5_h (by decide)
        refine lv_aload_n hx hb dX12_turn_10 rfl (lv_at hl 1 rfl) ?_
        refine va_get (D := (dC, dI)) (ci := 12) (v := .ref o6) (C := RX12) (T := TX12) (N := 29) hx hb hts iw_X12_turn_X12 hown hK hP 0 rfl rfl 3 (by decide) (hts (.fieldLink RX12 13 "HolelessHouseModel" "near" "[I") hm_X12_turn_2) (fun _ h9 => h9) rfl dX12_turn_11 ?_
        refine lv_iload_n hx hb dX12_turn_14 rfl (lv_at hl 0 rfl) ?_
        refine lv_aload_n hx hb dX12_turn_15 rfl (lv_at hl 1 rfl) ?_
        refine kc_i (D := (dC, dI)) (S := Unit) (wc := [(o1, .inr (12, [.int v2, .ref o3, .int v5, .ref o6, .int v8, .ref o9, .ref o11, .int v13, .ref o14, .int v16, .ref o17, .int v19, .int v20, .int v21, .ref o22, .ref o24, .ref o26, .ref o28, .ref o30, .int v32, .ref o33, .ref o35, .ref o37, .int v39, .ref o40, .ref o42, .ref o44, .int v46, .ref o47]))]) (wr := [(o6, .inl (cI, 12, .inl f117))]) (w1 := fun _ => [(o1, .inr (12, [.int v2, .ref o3, .int v5, .ref o6, .int v8, .ref o9, .ref o11, .int v13, .ref o14, .int v16, .ref o17, .int v19, .int v20, .int v21, .ref o22, .ref o24, .ref o26, .ref o28, .ref o30, .int v32, .ref o33, .ref o35, .ref o37, .int v39, .ref o40, .ref o42, .ref o44, .int v46, .ref o47]))]) (wn := fun _ => [(o1, .inr (12, [.int v2, .ref o3, .int v5, .ref o6, .int v8, .ref o9, .ref o11, .int v13, .ref o14, .int v16, .ref o17, .int v19, .int v20, .int v21, .ref o22, .ref o24, .ref o26, .ref o28, .ref o30, .int v32, .ref o33, .ref o35, .ref o37, .int v39, .ref o40, .ref o42, .ref o44, .int v46, .ref o47])), (o6, .inl (cI, 12, .inl f117))]) (fun hPc hDc => va_runV (As := []) (rest := [.int x116, .ref o6]) ⟨hx, hb, hml, hown, hts⟩ (kX12_all_1 l dC dI cI c2 cZ o1 o3 o6 o9 o11 o14 o17 o22 o24 o26 o28 o30 o33 o35 o37 o40 o42 o44 o47 v2 v5 v8 v13 v16 v19 v20 v21 v32 v39 v46 H.size (iv_w j122 (by decide)) v8_h v13_h v16_h v19_h v32_h v39_h v46_h) (cwV 0 hts gX12_turn_X12_all rfl rfl rfl (by decide +kernel) ⟨Nat.le_of_ble_eq_true rfl, Nat.le_of_ble_eq_true rfl⟩) (pre_V hPc hK hDc hN (ci := 12) (q0 := 0) rfl rfl) rfl rfl hl.1 rfl (lv_room (Nat.le_of_ble_eq_true rfl)) dX12_turn_16 ⟨Nat.le_of_ble_eq_true rfl, Nat.le_of_ble_eq_true rfl⟩) hP hD hS hA [0] [1] [1, 0] rfl rfl (by decide +kernel) (by decide +kernel) (by decide +kernel) (by decide +kernel) (fun _ => rfl) (fun x123 _ H locs hq hP hD hS => ?_)
        obtain ⟨x123_h, e124⟩ := hq
        have hP : va_P (dC, dI) vwCl ([(o1, .inr (12, [.int v2, .ref o3, .int v5, .ref o6, .int v8, .ref o9, .ref o11, .int v13, .ref o14, .int v16, .ref o17, .int v19, .int v20, .int v21, .ref o22, .ref o24, .ref o26, .ref o28, .ref o30, .int v32, .ref o33, .ref o35, .ref o37, .int v39, .ref o40, .ref o42, .ref o44, .int v46, .ref o47])), (o6, .inl (cI, 12, .inl f117))]) H := hP
        have hD : va_D A ([(o1, .inr (12, [.int v2, .ref o3, .int v5, .ref o6, .int v8, .ref o9, .ref o11, .int v13, .ref o14, .int v16, .ref o17, .int v19, .int v20, .int v21, .ref o22, .ref o24, .ref o26, .ref o28, .ref o30, .int v32, .ref o33, .ref o35, .ref o37, .int v39, .ref o40, .ref o42, .ref o44, .int v46, .ref o47])), (o6, .inl (cI, 12, .inl f117))]) := hD
        refine lv_aload_n hx hb dX12_turn_19 rfl (lv_at hl 1 rfl) ?_
        refine va_get (D := (dC, dI)) (ci := 12) (v := .ref o6) (C := RX12) (T := TX12) (N := 29) hx hb hts iw_X12_turn_X12 hown hK hP 0 rfl rfl 3 (by decide) (hts (.fieldLink RX12 13 "HolelessHouseModel" "near" "[I") hm_X12_turn_2) (fun _ h9 => h9) rfl dX12_turn_20 ?_
        refine lv_iload_n hx hb dX12_turn_23 rfl (lv_at hl 0 rfl) ?_
        refine va_iald hx hb hK hP 1 0 rfl rfl (vin_iv j121 (by decide)) dX12_turn_24 (lv_topi (fun x125 x125_e => ?_))
        have x125_h : Iv 0 4095 x125 := iv_e x125_e (bd_at f117_b (vin_iv j121 (by decide)))
        refine lv_iconst (v := (-1)) hx hb dX12_turn_25 (by decide) ?_
        refine lv_ixor hx hb dX12_turn_26 (lv_topi (fun x126 x126_e => ?_))
        refine lv_iand hx hb dX12_turn_27 (lv_topi (fun x127 x127_e => ?_))
        have x127_h : Iv 0 4095 x127 := iv_e x127_e (iv_andL _ x123_h (by decide))
        refine lv_iconst (v := 1) hx hb dX12_turn_28 (by decide) ?_
        refine lv_iload_n hx hb dX12_turn_29 rfl (lv_at hl 0 rfl) ?_
        refine lv_ishl hx hb dX12_turn_30 (lv_topi (fun x128 x128_e => ?_))
        have x128_h : Iv 1 2048 x128 := iv_e x128_e (iv_shl1 j121 (by decide))
        refine lv_iconst (v := (-1)) hx hb dX12_turn_31 (by decide) ?_
        refine lv_ixor hx hb dX12_turn_32 (lv_topi (fun x129 x129_e => ?_))
        refine lv_iand hx hb dX12_turn_33 (lv_topi (fun x130 x130_e => ?_))
        have x130_h : Iv 0 4095 x130 := iv_e x130_e (iv_andL _ x127_h (by decide))
        refine k_iast hx hb hK hP hD hS 1 0 rfl rfl (vin_iv j121 (by decide)) dX12_turn_34 (fun f131 H locs f131_e hP hD hS => ?_)
        have f131_b : Bd 12 0 4095 f131 := bd_upd f131_e f117_b x130_h (by decide)
        have hP : va_P (dC, dI) vwCl ([(o1, .inr (12, [.int v2, .ref o3, .int v5, .ref o6, .int v8, .ref o9, .ref o11, .int v13, .ref o14, .int v16, .ref o17, .int v19, .int v20, .int v21, .ref o22, .ref o24, .ref o26, .ref o28, .ref o30, .int v32, .ref o33, .ref o35, .ref o37, .int v39, .ref o40, .ref o42, .ref o44, .int v46, .ref o47])), (o6, .inl (cI, 12, .inl f131))]) H := hP
        have hD : va_D A ([(o1, .inr (12, [.int v2, .ref o3, .int v5, .ref o6, .int v8, .ref o9, .ref o11, .int v13, .ref o14, .int v16, .ref o17, .int v19, .int v20, .int v21, .ref o22, .ref o24, .ref o26, .ref o28, .ref o30, .int v32, .ref o33, .ref o35, .ref o37, .int v39, .ref o40, .ref o42, .ref o44, .int v46, .ref o47])), (o6, .inl (cI, 12, .inl f131))]) := hD
        obtain ⟨x132, x132_e⟩ : ∃ z : Int32, z = x116 + 1 := ⟨_, rfl⟩
        have x132_h : Iv 1 12 x132 := iv_e x132_e (iv_add j121 ik_1 (by decide))
        refine lv_iinc (v := x132) (lv' := [(1, .int x132), (0, .ref o1)]) hx hb dX12_turn_35 hl (k := 0) rfl (incN (by decide +kernel) x132_e) (by decide) rfl (fun ls hl => ?_)
        refine lv_goto (tgt := 2) hx hb dX12_turn_38 (by decide) ?_
        exact ih1 x132 f131 _ _ _ (ms_up x132_e j121 (by decide) hM1) (iv_w x132_h (by decide)) f131_b hP hD hS hl
  exact L1 _ 0 fw7 _ _ _ (Nat.lt_succ_self _) (iv_w ik_0 (by decide)) fw7_b hP hD hS hl
theorem iw_X12_draft_X12 : ∀ w ∈ wsX120, w ∈ wsX12_draft := fun _ h => List.mem_cons.mpr (Or.inr (List.mem_append.mpr (Or.inr h)))
set_option maxHeartbeats 4000000 in
set_option maxRecDepth 100000 in
theorem kX12_draft_1 (l : Launch) (dC : Nat → ClassId) (dI : Nat → Nat → Nat) (cI c2 cZ : ClassId) (o1 : Nat) (o3 : Nat) (o6 : Nat) (o9 : Nat) (o11 : Nat) (o14 : Nat) (o17 : Nat) (o22 : Nat) (o24 : Nat) (o26 : Nat) (o28 : Nat) (o30 : Nat) (o33 : Nat) (o35 : Nat) (o37 : Nat) (o40 : Nat) (o42 : Nat) (o44 : Nat) (o47 : Nat) (v2 : Int32) (v5 : Int32) (v8 : Int32) (v13 : Int32) (fw15 : Nat → Int32) (v16 : Int32) (v19 : Int32) (v20 : Int32) (v21 : Int32) (v32 : Int32) (v39 : Int32) (v46 : Int32) (a1 : Int32) (sz : Nat) (v5_h : Iv 0 12 v5) (v8_h : Iv 0 8 v8) (v13_h : Iv 0 12 v13) (fw15_b : Bd 12 0 11 fw15) (v16_h : Iv 0 12 v16) (v19_h : Iv (-9) 12 v19) (v32_h : Iv 0 99 v32) (v39_h : Iv 0 12 v39) (v46_h : Iv 0 12 v46) (pre0 : DR v5 v16 fw15) : Met l yX12_draft wsX12_draft ({ frames := 2, cells := 0, slots := 0, locals := 43 }) (va_Pc [.ref o1, .int a1] (wPre (dC, dI) [(cI, .int), (c2, .array .int), (cZ, .boolean)] ([(o1, .inr (12, [.int v2, .ref o3, .int v5, .ref o6, .int v8, .ref o9, .ref o11, .int v13, .ref o14, .int v16, .ref o17, .int v19, .int v20, .int v21, .ref o22, .ref o24, .ref o26, .ref o28, .ref o30, .int v32, .ref o33, .ref o35, .ref o37, .int v39, .ref o40, .ref o42, .ref o44, .int v46, .ref o47])), (o14, .inl (cI, 12, .inl fw15))]) sz)) (va_Qi (fun (r : Int32) (u : Int32 × (Nat → Int32)) => Iv (-1) 12 r ∧ Iv 0 12 u.1 ∧ Bd 12 0 11 u.2 ∧ DR v5 u.1 u.2) (fun u t => wPost (dC, dI) [(cI, .int), (c2, .array .int), (cZ, .boolean)] (va_A ([(o1, .inr (12, [.int v2, .ref o3, .int v5, .ref o6, .int v8, .ref o9, .ref o11, .int v13, .ref o14, .int v16, .ref o17, .int v19, .int v20, .int v21, .ref o22, .ref o24, .ref o26, .ref o28, .ref o30, .int v32, .ref o33, .ref o35, .ref o37, .int v39, .ref o40, .ref o42, .ref o44, .int v46, .ref o47])), (o14, .inl (cI, 12, .inl fw15))]) sz) ([(o1, .inr (12, [.int v2, .ref o3, .int v5, .ref o6, .int v8, .ref o9, .ref o11, .int v13, .ref o14, .int u.1, .ref o17, .int v19, .int v20, .int v21, .ref o22, .ref o24, .ref o26, .ref o28, .ref o30, .int v32, .ref o33, .ref o35, .ref o37, .int v39, .ref o40, .ref o42, .ref o44, .int v46, .ref o47])), (o14, .inl (cI, 12, .inl u.2))]) t) (va_A ([(o1, .inr (12, [.int v2, .ref o3, .int v5, .ref o6, .int v8, .ref o9, .ref o11, .int v13, .ref o14, .int v16, .ref o17, .int v19, .int v20, .int v21, .ref o22, .ref o24, .ref o26, .ref o28, .ref o30, .int v32, .ref o33, .ref o35, .ref o37, .int v39, .ref o40, .ref o42, .ref o44, .int v46, .ref o47])), (o14, .inl (cI, 12, .inl fw15))]) sz)) 0 0 (va_A ([(o1, .inr (12, [.int v2, .ref o3, .int v5, .ref o6, .int v8, .ref o9, .ref o11, .int v13, .ref o14, .int v16, .ref o17, .int v19, .int v20, .int v21, .ref o22, .ref o24, .ref o26, .ref o28, .ref o30, .int v32, .ref o33, .ref o35, .ref o37, .int v39, .ref o40, .ref o42, .ref o44, .int v46, .ref o47])), (o14, .inl (cI, 12, .inl fw15))]) sz) := by
  refine Met.ofW (cc := cX12_draft) (maxL := 4) (ret := (some .int)) (by decide) rfl ?_
  intro p e s m args below meth c s₁ B hml hv
  obtain ⟨rfl, hsz, hP, hK, hD0, hN⟩ := hv
  have hx := B.exec
  have hb := B.bytes
  have hr := B.returns
  have hts := atoms_spec (ws := wsX12_draft) B.pre
  have hown : s.vm.findClass RX12 = some m.cls := findClass_of_methodNamed B.named
  have hlocks := B.notSynchronized
  subst hsz
  have hD := hD0.self (sz := s.heap.size)
  generalize hAe : va_A ([(o1, .inr (12, [.int v2, .ref o3, .int v5, .ref o6, .int v8, .ref o9, .ref o11, .int v13, .ref o14, .int v16, .ref o17, .int v19, .int v20, .int v21, .ref o22, .ref o24, .ref o26, .ref o28, .ref o30, .int v32, .ref o33, .ref o35, .ref o37, .int v39, .ref o40, .ref o42, .ref o44, .int v46, .ref o47])), (o14, .inl (cI, 12, .inl fw15))]) s.heap.size = A at hD ⊢
  have hA : ∀ q : Nat, s.heap.size ≤ q → A q := fun q h => by rw [← hAe]; exact Or.inr h
  have hS : va_S A s.heap s.heap [] := va_S.rf
  have hP : va_P (dC, dI) vwCl ([(o1, .inr (12, [.int v2, .ref o3, .int v5, .ref o6, .int v8, .ref o9, .ref o11, .int v13, .ref o14, .int v16, .ref o17, .int v19, .int v20, .int v21, .ref o22, .ref o24, .ref o26, .ref o28, .ref o30, .int v32, .ref o33, .ref o35, .ref o37, .int v39, .ref o40, .ref o42, .ref o44, .int v46, .ref o47])), (o14, .inl (cI, 12, .inl fw15))]) s.heap := hP
  have hl := lv_entry ([.ref o1, .int a1]) (n := 4) (Nat.le_of_ble_eq_true rfl)
  rw [lg_entry_eq]
  generalize (lg_sl ([.ref o1, .int a1]) ++ List.replicate (4 - (lg_sl ([.ref o1, .int a1])).length) Slot.unset).toArray = ls at hl ⊢
  have hl : lv_has ls 4 [(0, .ref o1), (1, .int a1)] := hl
  refine gen_Q (fun Q hQ => ?_)
  refine lv_iconst (v := 0) hx hb dX12_draft_0 (by decide) ?_
  refine lv_istore_n (lv' := [(2, .int 0), (0, .ref o1), (1, .int a1)]) hx hb dX12_draft_1 rfl hl (by decide) rfl (fun ls hl => ?_)
  refine lv_iconst (v := 0) hx hb dX12_draft_2 (by decide) ?_
  refine lv_istore_n (lv' := [(3, .int 0), (2, .int 0), (0, .ref o1), (1, .int a1)]) hx hb dX12_draft_3 rfl hl (by decide) rfl (fun ls hl => ?_)
  have L1 : ∀ (N : Nat) (x105 : Int32) (x106 : Int32) (H : Heap) (locs : List Loc) (ls : Array Slot), (12 - x105.toInt).toNat < N → Iv 0 12 x105 → Iv 0 1 x106 → (x106 = 0 → ∀ i, i < (Int32.toNatClampNeg x105) → ¬ fw15 i = a1) → va_P (dC, dI) vwCl ([(o1, .inr (12, [.int v2, .ref o3, .int v5, .ref o6, .int v8, .ref o9, .ref o11, .int v13, .ref o14, .int v16, .ref o17, .int v19, .int v20, .int v21, .ref o22, .ref o24, .ref o26, .ref o28, .ref o30, .int v32, .ref o33, .ref o35, .ref o37, .int v39, .ref o40, .ref o42, .ref o44, .int v46, .ref o47])), (o14, .inl (cI, 12, .inl fw15))]) H → va_D A ([(o1, .inr (12, [.int v2, .ref o3, .int v5, .ref o6, .int v8, .ref o9, .ref o11, .int v13, .ref o14, .int v16, .ref o17, .int v19, .int v20, .int v21, .ref o22, .ref o24, .ref o26, .ref o28, .ref o30, .int v32, .ref o33, .ref o35, .ref o37, .int v39, .ref o40, .ref o42, .ref o44, .int v46, .ref o47])), (o14, .inl (cI, 12, .inl fw15))]) → va_S A s.heap H locs → lv_has ls 4 [(3, .int x105), (2, .int x106), (0, .ref o1), (1, .int a1)] → W p l e ({ frames := 2, cells := 0, slots := 0, locals := 43 }) s m ([.ref o1, .int a1] : List Value).toArray below meth c H locs 0 0 Q (F0 m 4 ls []) := by
    intro N
    induction N with
    | zero =>
      intro x105 x106 H locs ls hM
      exact absurd hM (Nat.not_lt_zero _)
    | succ N ih1 =>
      intro x105 x106 H locs ls hM1 x105_h x106_h iv1_0 hP hD hS hl
      refine lv_iload_n hx hb dX12_draft_4 rfl (lv_at hl 0 rfl) ?_
      refine lv_aload_n hx hb dX12_draft_5 rfl (lv_at hl 2 rfl) ?_
      refine va_get (D := (dC, dI)) (ci := 12) (v := .int v16) (C := RX12) (T := TX12) (N := 29) hx hb hts iw_X12_draft_X12 hown hK hP 0 rfl rfl 9 (by decide) (hts (.fieldLink RX12 80 "HolelessHouseModel" "drafted" "I") hm_X12_draft_1) (fun _ h9 => h9) rfl dX12_draft_6 ?_
      refine lv_icmp_ge (tgt := 38) hx hb dX12_draft_9 (by decide) (fun h107 => ?_) (fun h107 => ?_)
      ·
        have qh107 := le_i h107
        refine lv_aload_n hx hb dX12_draft_38 rfl (lv_at hl 2 rfl) ?_
        refine lv_iload_n hx hb dX12_draft_39 rfl (lv_at hl 3 rfl) ?_
        refine kc_i (D := (dC, dI)) (S := Unit) (wc := [(o1, .inr (12, [.int v2, .ref o3, .int v5, .ref o6, .int v8, .ref o9, .ref o11, .int v13, .ref o14, .int v16, .ref o17, .int v19, .int v20, .int v21, .ref o22, .ref o24, .ref o26, .ref o28, .ref o30, .int v32, .ref o33, .ref o35, .ref o37, .int v39, .ref o40, .ref o42, .ref o44, .int v46, .ref o47]))]) (wr := [(o14, .inl (cI, 12, .inl fw15))]) (w1 := fun _ => [(o1, .inr (12, [.int v2, .ref o3, .int v5, .ref o6, .int v8, .ref o9, .ref o11, .int v13, .ref o14, .int v16, .ref o17, .int v19, .int v20, .int v21, .ref o22, .ref o24, .ref o26, .ref o28, .ref o30, .int v32, .ref o33, .ref o35, .ref o37, .int v39, .ref o40, .ref o42, .ref o44, .int v46, .ref o47]))]) (wn := fun _ => [(o1, .inr (12, [.int v2, .ref o3, .int v5, .ref o6, .int v8, .ref o9, .ref o11, .int v13, .ref o14, .int v16, .ref o17, .int v19, .int v20, .int v21, .ref o22, .ref o24, .ref o26, .ref o28, .ref o30, .int v32, .ref o33, .ref o35, .ref o37, .int v39, .ref o40, .ref o42, .ref o44, .int v46, .ref o47])), (o14, .inl (cI, 12, .inl fw15))]) (fun hPc hDc => va_runV (As := [.int a1]) (rest := []) ⟨hx, hb, hml, hown, hts⟩ (kX12_isNode_1 l dC dI cI c2 cZ o1 o3 o6 o9 o11 o14 o17 o22 o24 o26 o28 o30 o33 o35 o37 o40 o42 o44 o47 v2 v5 v8 v13 v16 v19 v20 v21 v32 v39 v46 a1 H.size v5_h v8_h v13_h v16_h v19_h v32_h v39_h v46_h) (cwV 1 hts gX12_draft_X12_isNode rfl rfl rfl (by decide +kernel) ⟨Nat.le_of_ble_eq_true rfl, Nat.le_of_ble_eq_true rfl⟩) (pre_V hPc hK hDc hN (ci := 12) (q0 := 0) rfl rfl) rfl rfl hl.1 rfl (lv_room (Nat.le_of_ble_eq_true rfl)) dX12_draft_40 ⟨Nat.le_of_ble_eq_true rfl, Nat.le_of_ble_eq_true rfl⟩) hP hD hS hA [0] [1] [1, 0] rfl rfl (by decide +kernel) (by decide +kernel) (by decide +kernel) (by decide +kernel) (fun _ => rfl) (fun x108 _ H locs hq hP hD hS => ?_)
        obtain ⟨x108_h, i109, e110⟩ := hq
        have hP : va_P (dC, dI) vwCl ([(o1, .inr (12, [.int v2, .ref o3, .int v5, .ref o6, .int v8, .ref o9, .ref o11, .int v13, .ref o14, .int v16, .ref o17, .int v19, .int v20, .int v21, .ref o22, .ref o24, .ref o26, .ref o28, .ref o30, .int v32, .ref o33, .ref o35, .ref o37, .int v39, .ref o40, .ref o42, .ref o44, .int v46, .ref o47])), (o14, .inl (cI, 12, .inl fw15))]) H := hP
        have hD : va_D A ([(o1, .inr (12, [.int v2, .ref o3, .int v5, .ref o6, .int v8, .ref o9, .ref o11, .int v13, .ref o14, .int v16, .ref o17, .int v19, .int v20, .int v21, .ref o22, .ref o24, .ref o26, .ref o28, .ref o30, .int v32, .ref o33, .ref o35, .ref o37, .int v39, .ref o40, .ref o42, .ref o44, .int v46, .ref o47])), (o14, .inl (cI, 12, .inl fw15))]) := hD
        refine lv_if_eq (tgt := 50) hx hb dX12_draft_43 (by decide) (fun h111 => ?_) (fun h111 => ?_)
        ·
          have j112 : Iv 0 0 x108 := r_eq h111 ik_0
          refine lv_iconst (v := (-1)) hx hb dX12_draft_50 (by decide) ?_
          rw [hQ]
          exact W.iret (v := (-1)) hx hb hr (fun t ht hW => ⟨⟨(-1), (v16, fw15), rfl, ⟨(iv_w ikm_1 (by decide)), v16_h, fw15_b, pre0⟩, by rw [ht]; exact hP, va_K.moved hW.alike hK, hD⟩, hS.F ht⟩) hS.2.2 dX12_draft_51
        ·
          have j113 : Iv 1 1 x108 := r_nelo h111 x108_h ik_0 (by decide)
          have j114 : Iv 0 11 a1 := i109 h111
          have e115 := e110 h111
          refine lv_iload_n hx hb dX12_draft_46 rfl (lv_at hl 1 rfl) ?_
          refine lv_if_eq (tgt := 52) hx hb dX12_draft_47 (by decide) (fun h116 => ?_) (fun h116 => ?_)
          ·
            have j117 : Iv 0 0 x106 := r_eq h116 ik_0
            have e118 := (nf_le (iv1_0 h116) qh107 v16_h)
            have j119 : Iv 0 11 v16 := DR_11 pre0 v5_h v16_h e115 e118
            refine lv_aload_n hx hb dX12_draft_52 rfl (lv_at hl 2 rfl) ?_
            refine va_get (D := (dC, dI)) (ci := 12) (v := .ref o14) (C := RX12) (T := TX12) (N := 29) hx hb hts iw_X12_draft_X12 hown hK hP 0 rfl rfl 8 (by decide) (hts (.fieldLink RX12 22 "HolelessHouseModel" "draft" "[I") hm_X12_draft_2) (fun _ h9 => h9) rfl dX12_draft_53 ?_
            refine lv_aload_n hx hb dX12_draft_56 rfl (lv_at hl 2 rfl) ?_
            refine va_get (D := (dC, dI)) (ci := 12) (v := .int v16) (C := RX12) (T := TX12) (N := 29) hx hb hts iw_X12_draft_X12 hown hK hP 0 rfl rfl 9 (by decide) (hts (.fieldLink RX12 80 "HolelessHouseModel" "drafted" "I") hm_X12_draft_1) (fun _ h9 => h9) rfl dX12_draft_57 ?_
            refine lv_iload_n hx hb dX12_draft_60 rfl (lv_at hl 3 rfl) ?_
            refine k_iast hx hb hK hP hD hS 1 0 rfl rfl (vin_iv j119 (by decide)) dX12_draft_61 (fun f120 H locs f120_e hP hD hS => ?_)
            have f120_b : Bd 12 0 11 f120 := bd_upd f120_e fw15_b j114 (by decide)
            have hP : va_P (dC, dI) vwCl ([(o1, .inr (12, [.int v2, .ref o3, .int v5, .ref o6, .int v8, .ref o9, .ref o11, .int v13, .ref o14, .int v16, .ref o17, .int v19, .int v20, .int v21, .ref o22, .ref o24, .ref o26, .ref o28, .ref o30, .int v32, .ref o33, .ref o35, .ref o37, .int v39, .ref o40, .ref o42, .ref o44, .int v46, .ref o47])), (o14, .inl (cI, 12, .inl f120))]) H := hP
            have hD : va_D A ([(o1, .inr (12, [.int v2, .ref o3, .int v5, .ref o6, .int v8, .ref o9, .ref o11, .int v13, .ref o14, .int v16, .ref o17, .int v19, .int v20, .int v21, .ref o22, .ref o24, .ref o26, .ref o28, .ref o30, .int v32, .ref o33, .ref o35, .ref o37, .int v39, .ref o40, .ref o42, .ref o44, .int v46, .ref o47])), (o14, .inl (cI, 12, .inl f120))]) := hD
            refine lv_aload_n hx hb dX12_draft_62 rfl (lv_at hl 2 rfl) ?_
            refine lv_dup hx hb dX12_draft_63 rfl ?_
            refine va_get (D := (dC, dI)) (ci := 12) (v := .int v16) (C := RX12) (T := TX12) (N := 29) hx hb hts iw_X12_draft_X12 hown hK hP 0 rfl rfl 9 (by decide) (hts (.fieldLink RX12 80 "HolelessHouseModel" "drafted" "I") hm_X12_draft_1) (fun _ h9 => h9) rfl dX12_draft_64 ?_
            refine lv_iconst (v := 1) hx hb dX12_draft_67 (by decide) ?_
            refine lv_iadd hx hb dX12_draft_68 (lv_topi (fun x121 x121_e => ?_))
            have x121_h : Iv 1 12 x121 := iv_e x121_e (iv_add j119 ik_1 (by decide))
            refine va_put (D := (dC, dI)) (ci := 12) (v := .int x121) (ty := .int) (C := RX12) (T := TX12) (N := 29) hx hb hts iw_X12_draft_X12 tyX12 tyX12_ok nmX12 hown hK hP hD hS 0 rfl rfl 9 (by decide) (hts (.fieldLink RX12 80 "HolelessHouseModel" "drafted" "I") hm_X12_draft_1) (fun _ h9 => h9) rfl (by decide +kernel) rfl rfl (Nat.le_of_ble_eq_true rfl) dX12_draft_69 (fun H locs hP hD hS => ?_)
            have hP : va_P (dC, dI) vwCl ([(o1, .inr (12, [.int v2, .ref o3, .int v5, .ref o6, .int v8, .ref o9, .ref o11, .int v13, .ref o14, .int x121, .ref o17, .int v19, .int v20, .int v21, .ref o22, .ref o24, .ref o26, .ref o28, .ref o30, .int v32, .ref o33, .ref o35, .ref o37, .int v39, .ref o40, .ref o42, .ref o44, .int v46, .ref o47])), (o14, .inl (cI, 12, .inl f120))]) H := hP
            have hD : va_D A ([(o1, .inr (12, [.int v2, .ref o3, .int v5, .ref o6, .int v8, .ref o9, .ref o11, .int v13, .ref o14, .int x121, .ref o17, .int v19, .int v20, .int v21, .ref o22, .ref o24, .ref o26, .ref o28, .ref o30, .int v32, .ref o33, .ref o35, .ref o37, .int v39, .ref o40, .ref o42, .ref o44, .int v46, .ref o47])), (o14, .inl (cI, 12, .inl f120))]) := hD
            refine lv_aload_n hx hb dX12_draft_72 rfl (lv_at hl 2 rfl) ?_
            refine va_get (D := (dC, dI)) (ci := 12) (v := .int x121) (C := RX12) (T := TX12) (N := 29) hx hb hts iw_X12_draft_X12 hown hK hP 0 rfl rfl 9 (by decide) (hts (.fieldLink RX12 80 "HolelessHouseModel" "drafted" "I") hm_X12_draft_1) (fun _ h9 => h9) rfl dX12_draft_73 ?_
            rw [hQ]
            exact W.iret (v := x121) hx hb hr (fun t ht hW => ⟨⟨x121, (x121, f120), rfl, ⟨(iv_w x121_h (by decide)), (iv_w x121_h (by decide)), f120_b, (DR_s pre0 (iv_w (c := 0) (d := 4095) j119 (by decide)) x121_e f120_e e115 e118)⟩, by rw [ht]; exact hP, va_K.moved hW.alike hK, hD⟩, hS.F ht⟩) hS.2.2 dX12_draft_76
          ·
            have j122 : Iv 1 1 x106 := r_nelo h116 x106_h ik_0 (by decide)
            refine lv_iconst (v := (-1)) hx hb dX12_draft_50 (by decide) ?_
            rw [hQ]
            exact W.iret (v := (-1)) hx hb hr (fun t ht hW => ⟨⟨(-1), (v16, fw15), rfl, ⟨(iv_w ikm_1 (by decide)), v16_h, fw15_b, pre0⟩, by rw [ht]; exact hP, va_K.moved hW.alike hK, hD⟩, hS.F ht⟩) hS.2.2 dX12_draft_51
      ·
        have qh107 := nle_i h107
        have j123 : Iv 0 11 x105 := r_ltl qh107 x105_h v16_h (by decide)
        have j124 : Iv 1 12 v16 := r_ltr qh107 x105_h v16_h (by decide)
        refine lv_iload_n hx hb dX12_draft_12 rfl (lv_at hl 1 rfl) ?_
        refine lv_if_ne (tgt := 26) hx hb dX12_draft_13 (by decide) (fun h125 => ?_) (fun h125 => ?_)
        ·
          have j126 : Iv 1 1 x106 := r_nelo h125 x106_h ik_0 (by decide)
          refine lv_iconst (v := 1) hx hb dX12_draft_26 (by decide) ?_
          refine lv_goto (tgt := 31) hx hb dX12_draft_27 (by decide) ?_
          refine lv_istore_n (lv' := [(2, .int 1), (3, .int x105), (0, .ref o1), (1, .int a1)]) hx hb dX12_draft_31 rfl hl (by decide) rfl (fun ls hl => ?_)
          obtain ⟨x127, x127_e⟩ : ∃ z : Int32, z = x105 + 1 := ⟨_, rfl⟩
          have x127_h : Iv 1 12 x127 := iv_e x127_e (iv_add j123 ik_1 (by decide))
          refine lv_iinc (v := x127) (lv' := [(3, .int x127), (2, .int 1), (0, .ref o1), (1, .int a1)]) hx hb dX12_draft_32 hl (k := 1) rfl (incN (by decide +kernel) x127_e) (by decide) rfl (fun ls hl => ?_)
          refine lv_goto (tgt := 4) hx hb dX12_draft_35 (by decide) ?_
          exact ih1 x127 1 _ _ _ (ms_up x127_e j123 (by decide) hM1) (iv_w x127_h (by decide)) (iv_w ik_1 (by decide)) (fun h8 => absurd h8 (by decide +kernel)) hP hD hS hl
        ·
          have j128 : Iv 0 0 x106 := r_eq h125 ik_0
          refine lv_aload_n hx hb dX12_draft_16 rfl (lv_at hl 2 rfl) ?_
          refine va_get (D := (dC, dI)) (ci := 12) (v := .ref o14) (C := RX12) (T := TX12) (N := 29) hx hb hts iw_X12_draft_X12 hown hK hP 0 rfl rfl 8 (by decide) (hts (.fieldLink RX12 22 "HolelessHouseModel" "draft" "[I") hm_X12_draft_2) (fun _ h9 => h9) rfl dX12_draft_17 ?_
          refine lv_iload_n hx hb dX12_draft_20 rfl (lv_at hl 0 rfl) ?_
          refine va_iald hx hb hK hP 1 0 rfl rfl (vin_iv j123 (by decide)) dX12_draft_21 (lv_topi (fun x129 x129_e => ?_))
          have x129_h : Iv 0 11 x129 := iv_e x129_e (bd_at fw15_b (vin_iv j123 (by decide)))
          refine lv_iload_n hx hb dX12_draft_22 rfl (lv_at hl 3 rfl) ?_
          refine lv_icmp_ne (tgt := 30) hx hb dX12_draft_23 (by decide) (fun h130 => ?_) (fun h130 => ?_)
          ·
            refine lv_iconst (v := 0) hx hb dX12_draft_30 (by decide) ?_
            refine lv_istore_n (lv' := [(2, .int 0), (3, .int x105), (0, .ref o1), (1, .int a1)]) hx hb dX12_draft_31 rfl hl (by decide) rfl (fun ls hl => ?_)
            obtain ⟨x131, x131_e⟩ : ∃ z : Int32, z = x105 + 1 := ⟨_, rfl⟩
            have x131_h : Iv 1 12 x131 := iv_e x131_e (iv_add j123 ik_1 (by decide))
            refine lv_iinc (v := x131) (lv' := [(3, .int x131), (2, .int 0), (0, .ref o1), (1, .int a1)]) hx hb dX12_draft_32 hl (k := 1) rfl (incN (by decide +kernel) x131_e) (by decide) rfl (fun ls hl => ?_)
            refine lv_goto (tgt := 4) hx hb dX12_draft_35 (by decide) ?_
            exact ih1 x131 0 _ _ _ (ms_up x131_e j123 (by decide) hM1) (iv_w x131_h (by decide)) (iv_w ik_0 (by decide)) (fun _ => nf_s (iv1_0 h125) (iv_w (c := 0) (d := 4095) j123 (by decide)) x131_e x129_e h130) hP hD hS hl
          ·
            have j132 : Iv 0 11 a1 := r_eq h130.symm x129_h
            refine lv_iconst (v := 1) hx hb dX12_draft_26 (by decide) ?_
            refine lv_goto (tgt := 31) hx hb dX12_draft_27 (by decide) ?_
            refine lv_istore_n (lv' := [(2, .int 1), (3, .int x105), (0, .ref o1), (1, .int a1)]) hx hb dX12_draft_31 rfl hl (by decide) rfl (fun ls hl => ?_)
            obtain ⟨x133, x133_e⟩ : ∃ z : Int32, z = x105 + 1 := ⟨_, rfl⟩
            have x133_h : Iv 1 12 x133 := iv_e x133_e (iv_add j123 ik_1 (by decide))
            refine lv_iinc (v := x133) (lv' := [(3, .int x133), (2, .int 1), (0, .ref o1), (1, .int a1)]) hx hb dX12_draft_32 hl (k := 1) rfl (incN (by decide +kernel) x133_e) (by decide) rfl (fun ls hl => ?_)
            refine lv_goto (tgt := 4) hx hb dX12_draft_35 (by decide) ?_
            exact ih1 x133 1 _ _ _ (ms_up x133_e j123 (by decide) hM1) (iv_w x133_h (by decide)) (iv_w ik_1 (by decide)) (fun h8 => absurd h8 (by decide +kernel)) hP hD hS hl
  exact L1 _ 0 0 _ _ _ (Nat.lt_succ_self _) (iv_w ik_0 (by decide)) (iv_w ik_0 (by decide)) (fun _ => nf_0) hP hD hS hl
theorem iw_X12_beginOrder_X12 : ∀ w ∈ wsX120, w ∈ wsX12_beginOrder := fun _ h => List.mem_cons.mpr (Or.inr (List.mem_append.mpr (Or.inr h)))
set_option maxHeartbeats 4000000 in
set_option maxRecDepth 100000 in
theorem kX12_beginOrder_1 (l : Launch) (dC : Nat → ClassId) (dI : Nat → Nat → Nat) (cI c2 cZ : ClassId) (o1 : Nat) (o3 : Nat) (o6 : Nat) (o9 : Nat) (o11 : Nat) (o14 : Nat) (o17 : Nat) (o22 : Nat) (o24 : Nat) (o26 : Nat) (o28 : Nat) (o30 : Nat) (o33 : Nat) (o35 : Nat) (o37 : Nat) (o40 : Nat) (o42 : Nat) (o44 : Nat) (o47 : Nat) (v2 : Int32) (v5 : Int32) (fw7 : Nat → Int32) (v8 : Int32) (v13 : Int32) (v16 : Int32) (v19 : Int32) (v20 : Int32) (v21 : Int32) (fw23 : Nat → Int32) (fw25 : Nat → Int32) (v32 : Int32) (v39 : Int32) (v46 : Int32) (sz : Nat) (v5_h : Iv 0 12 v5) (fw7_b : Bd 12 0 4095 fw7) (v8_h : Iv 0 8 v8) (v13_h : Iv 0 12 v13) (v16_h : Iv 0 12 v16) (v19_h : Iv (-9) 12 v19) (fw23_b : Bd 12 0 4095 fw23) (fw25_b : Bd 12 0 4095 fw25) (v32_h : Iv 0 99 v32) (v39_h : Iv 0 12 v39) (v46_h : Iv 0 12 v46) : Met l yX12_beginOrder wsX12_beginOrder ({ frames := 0, cells := 0, slots := 0, locals := 0 }) (va_Pc [.ref o1] (wPre (dC, dI) [(cI, .int), (c2, .array .int), (cZ, .boolean)] ([(o1, .inr (12, [.int v2, .ref o3, .int v5, .ref o6, .int v8, .ref o9, .ref o11, .int v13, .ref o14, .int v16, .ref o17, .int v19, .int v20, .int v21, .ref o22, .ref o24, .ref o26, .ref o28, .ref o30, .int v32, .ref o33, .ref o35, .ref o37, .int v39, .ref o40, .ref o42, .ref o44, .int v46, .ref o47])), (o6, .inl (cI, 12, .inl fw7)), (o22, .inl (cI, 12, .inl fw23)), (o24, .inl (cI, 12, .inl fw25))]) sz)) (va_Qv (fun (u : Int32 × Int32 × Int32 × (Nat → Int32) × (Nat → Int32)) => Iv 0 0 u.1 ∧ Bd 12 0 4095 u.2.2.2.1 ∧ Bd 12 0 4095 u.2.2.2.2) (fun u t => wPost (dC, dI) [(cI, .int), (c2, .array .int), (cZ, .boolean)] (va_A ([(o1, .inr (12, [.int v2, .ref o3, .int v5, .ref o6, .int v8, .ref o9, .ref o11, .int v13, .ref o14, .int v16, .ref o17, .int v19, .int v20, .int v21, .ref o22, .ref o24, .ref o26, .ref o28, .ref o30, .int v32, .ref o33, .ref o35, .ref o37, .int v39, .ref o40, .ref o42, .ref o44, .int v46, .ref o47])), (o6, .inl (cI, 12, .inl fw7)), (o22, .inl (cI, 12, .inl fw23)), (o24, .inl (cI, 12, .inl fw25))]) sz) ([(o1, .inr (12, [.int v2, .ref o3, .int v5, .ref o6, .int v8, .ref o9, .ref o11, .int v13, .ref o14, .int v16, .ref o17, .int u.1, .int u.2.1, .int u.2.2.1, .ref o22, .ref o24, .ref o26, .ref o28, .ref o30, .int v32, .ref o33, .ref o35, .ref o37, .int v39, .ref o40, .ref o42, .ref o44, .int v46, .ref o47])), (o6, .inl (cI, 12, .inl fw7)), (o22, .inl (cI, 12, .inl u.2.2.2.1)), (o24, .inl (cI, 12, .inl u.2.2.2.2))]) t) (va_A ([(o1, .inr (12, [.int v2, .ref o3, .int v5, .ref o6, .int v8, .ref o9, .ref o11, .int v13, .ref o14, .int v16, .ref o17, .int v19, .int v20, .int v21, .ref o22, .ref o24, .ref o26, .ref o28, .ref o30, .int v32, .ref o33, .ref o35, .ref o37, .int v39, .ref o40, .ref o42, .ref o44, .int v46, .ref o47])), (o6, .inl (cI, 12, .inl fw7)), (o22, .inl (cI, 12, .inl fw23)), (o24, .inl (cI, 12, .inl fw25))]) sz)) 0 0 (va_A ([(o1, .inr (12, [.int v2, .ref o3, .int v5, .ref o6, .int v8, .ref o9, .ref o11, .int v13, .ref o14, .int v16, .ref o17, .int v19, .int v20, .int v21, .ref o22, .ref o24, .ref o26, .ref o28, .ref o30, .int v32, .ref o33, .ref o35, .ref o37, .int v39, .ref o40, .ref o42, .ref o44, .int v46, .ref o47])), (o6, .inl (cI, 12, .inl fw7)), (o22, .inl (cI, 12, .inl fw23)), (o24, .inl (cI, 12, .inl fw25))]) sz) := by
  refine Met.ofW (cc := cX12_beginOrder) (maxL := 2) (ret := none) (by decide) rfl ?_
  intro p e s m args below meth c s₁ B hml hv
  obtain ⟨rfl, hsz, hP, hK, hD0, hN⟩ := hv
  have hx := B.exec
  have hb := B.bytes
  have hr := B.returns
  have hts := atoms_spec (ws := wsX12_beginOrder) B.pre
  have hown : s.vm.findClass RX12 = some m.cls := findClass_of_methodNamed B.named
  have hlocks := B.notSynchronized
  subst hsz
  have hD := hD0.self (sz := s.heap.size)
  generalize hAe : va_A ([(o1, .inr (12, [.int v2, .ref o3, .int v5, .ref o6, .int v8, .ref o9, .ref o11, .int v13, .ref o14, .int v16, .ref o17, .int v19, .int v20, .int v21, .ref o22, .ref o24, .ref o26, .ref o28, .ref o30, .int v32, .ref o33, .ref o35, .ref o37, .int v39, .ref o40, .ref o42, .ref o44, .int v46, .ref o47])), (o6, .inl (cI, 12, .inl fw7)), (o22, .inl (cI, 12, .inl fw23)), (o24, .inl (cI, 12, .inl fw25))]) s.heap.size = A at hD ⊢
  have hA : ∀ q : Nat, s.heap.size ≤ q → A q := fun q h => by rw [← hAe]; exact Or.inr h
  have hS : va_S A s.heap s.heap [] := va_S.rf
  have hP : va_P (dC, dI) vwCl ([(o1, .inr (12, [.int v2, .ref o3, .int v5, .ref o6, .int v8, .ref o9, .ref o11, .int v13, .ref o14, .int v16, .ref o17, .int v19, .int v20, .int v21, .ref o22, .ref o24, .ref o26, .ref o28, .ref o30, .int v32, .ref o33, .ref o35, .ref o37, .int v39, .ref o40, .ref o42, .ref o44, .int v46, .ref o47])), (o6, .inl (cI, 12, .inl fw7)), (o22, .inl (cI, 12, .inl fw23)), (o24, .inl (cI, 12, .inl fw25))]) s.heap := hP
  have hl := lv_entry ([.ref o1]) (n := 2) (Nat.le_of_ble_eq_true rfl)
  rw [lg_entry_eq]
  generalize (lg_sl ([.ref o1]) ++ List.replicate (2 - (lg_sl ([.ref o1])).length) Slot.unset).toArray = ls at hl ⊢
  have hl : lv_has ls 2 [(0, .ref o1)] := hl
  refine gen_Q (fun Q hQ => ?_)
  refine lv_aload_n hx hb dX12_beginOrder_0 rfl (lv_at hl 0 rfl) ?_
  refine lv_iconst (v := 0) hx hb dX12_beginOrder_1 (by decide) ?_
  refine va_put (D := (dC, dI)) (ci := 12) (v := .int 0) (ty := .int) (C := RX12) (T := TX12) (N := 29) hx hb hts iw_X12_beginOrder_X12 tyX12 tyX12_ok nmX12 hown hK hP hD hS 0 rfl rfl 11 (by decide) (hts (.fieldLink RX12 28 "HolelessHouseModel" "ordered" "I") hm_X12_beginOrder_1) (fun _ h9 => h9) rfl (by decide +kernel) rfl rfl (Nat.le_of_ble_eq_true rfl) dX12_beginOrder_2 (fun H locs hP hD hS => ?_)
  have hP : va_P (dC, dI) vwCl ([(o1, .inr (12, [.int v2, .ref o3, .int v5, .ref o6, .int v8, .ref o9, .ref o11, .int v13, .ref o14, .int v16, .ref o17, .int 0, .int v20, .int v21, .ref o22, .ref o24, .ref o26, .ref o28, .ref o30, .int v32, .ref o33, .ref o35, .ref o37, .int v39, .ref o40, .ref o42, .ref o44, .int v46, .ref o47])), (o6, .inl (cI, 12, .inl fw7)), (o22, .inl (cI, 12, .inl fw23)), (o24, .inl (cI, 12, .inl fw25))]) H := hP
  have hD : va_D A ([(o1, .inr (12, [.int v2, .ref o3, .int v5, .ref o6, .int v8, .ref o9, .ref o11, .int v13, .ref o14, .int v16, .ref o17, .int 0, .int v20, .int v21, .ref o22, .ref o24, .ref o26, .ref o28, .ref o30, .int v32, .ref o33, .ref o35, .ref o37, .int v39, .ref o40, .ref o42, .ref o44, .int v46, .ref o47])), (o6, .inl (cI, 12, .inl fw7)), (o22, .inl (cI, 12, .inl fw23)), (o24, .inl (cI, 12, .inl fw25))]) := hD
  refine lv_aload_n hx hb dX12_beginOrder_5 rfl (lv_at hl 0 rfl) ?_
  refine lv_iconst (v := 0) hx hb dX12_beginOrder_6 (by decide) ?_
  refine va_put (D := (dC, dI)) (ci := 12) (v := .int 0) (ty := .int) (C := RX12) (T := TX12) (N := 29) hx hb hts iw_X12_beginOrder_X12 tyX12 tyX12_ok nmX12 hown hK hP hD hS 0 rfl rfl 12 (by decide) (hts (.fieldLink RX12 134 "HolelessHouseModel" "orderFill" "I") hm_X12_beginOrder_2) (fun _ h9 => h9) rfl (by decide +kernel) rfl rfl (Nat.le_of_ble_eq_true rfl) dX12_beginOrder_7 (fun H locs hP hD hS => ?_)
  have hP : va_P (dC, dI) vwCl ([(o1, .inr (12, [.int v2, .ref o3, .int v5, .ref o6, .int v8, .ref o9, .ref o11, .int v13, .ref o14, .int v16, .ref o17, .int 0, .int 0, .int v21, .ref o22, .ref o24, .ref o26, .ref o28, .ref o30, .int v32, .ref o33, .ref o35, .ref o37, .int v39, .ref o40, .ref o42, .ref o44, .int v46, .ref o47])), (o6, .inl (cI, 12, .inl fw7)), (o22, .inl (cI, 12, .inl fw23)), (o24, .inl (cI, 12, .inl fw25))]) H := hP
  have hD : va_D A ([(o1, .inr (12, [.int v2, .ref o3, .int v5, .ref o6, .int v8, .ref o9, .ref o11, .int v13, .ref o14, .int v16, .ref o17, .int 0, .int 0, .int v21, .ref o22, .ref o24, .ref o26, .ref o28, .ref o30, .int v32, .ref o33, .ref o35, .ref o37, .int v39, .ref o40, .ref o42, .ref o44, .int v46, .ref o47])), (o6, .inl (cI, 12, .inl fw7)), (o22, .inl (cI, 12, .inl fw23)), (o24, .inl (cI, 12, .inl fw25))]) := hD
  refine lv_aload_n hx hb dX12_beginOrder_10 rfl (lv_at hl 0 rfl) ?_
  refine lv_iconst (v := 0) hx hb dX12_beginOrder_11 (by decide) ?_
  refine va_put (D := (dC, dI)) (ci := 12) (v := .int 0) (ty := .int) (C := RX12) (T := TX12) (N := 29) hx hb hts iw_X12_beginOrder_X12 tyX12 tyX12_ok nmX12 hown hK hP hD hS 0 rfl rfl 13 (by decide) (hts (.fieldLink RX12 137 "HolelessHouseModel" "orderWidth" "I") hm_X12_beginOrder_3) (fun _ h9 => h9) rfl (by decide +kernel) rfl rfl (Nat.le_of_ble_eq_true rfl) dX12_beginOrder_12 (fun H locs hP hD hS => ?_)
  have hP : va_P (dC, dI) vwCl ([(o1, .inr (12, [.int v2, .ref o3, .int v5, .ref o6, .int v8, .ref o9, .ref o11, .int v13, .ref o14, .int v16, .ref o17, .int 0, .int 0, .int 0, .ref o22, .ref o24, .ref o26, .ref o28, .ref o30, .int v32, .ref o33, .ref o35, .ref o37, .int v39, .ref o40, .ref o42, .ref o44, .int v46, .ref o47])), (o6, .inl (cI, 12, .inl fw7)), (o22, .inl (cI, 12, .inl fw23)), (o24, .inl (cI, 12, .inl fw25))]) H := hP
  have hD : va_D A ([(o1, .inr (12, [.int v2, .ref o3, .int v5, .ref o6, .int v8, .ref o9, .ref o11, .int v13, .ref o14, .int v16, .ref o17, .int 0, .int 0, .int 0, .ref o22, .ref o24, .ref o26, .ref o28, .ref o30, .int v32, .ref o33, .ref o35, .ref o37, .int v39, .ref o40, .ref o42, .ref o44, .int v46, .ref o47])), (o6, .inl (cI, 12, .inl fw7)), (o22, .inl (cI, 12, .inl fw23)), (o24, .inl (cI, 12, .inl fw25))]) := hD
  refine lv_iconst (v := 0) hx hb dX12_beginOrder_15 (by decide) ?_
  refine lv_istore_n (lv' := [(1, .int 0), (0, .ref o1)]) hx hb dX12_beginOrder_16 rfl hl (by decide) rfl (fun ls hl => ?_)
  have L1 : ∀ (N : Nat) (x56 : Int32) (f57 : Nat → Int32) (f58 : Nat → Int32) (H : Heap) (locs : List Loc) (ls : Array Slot), (12 - x56.toInt).toNat < N → Iv 0 12 x56 → Bd 12 0 4095 f57 → Bd 12 0 4095 f58 → va_P (dC, dI) vwCl ([(o1, .inr (12, [.int v2, .ref o3, .int v5, .ref o6, .int v8, .ref o9, .ref o11, .int v13, .ref o14, .int v16, .ref o17, .int 0, .int 0, .int 0, .ref o22, .ref o24, .ref o26, .ref o28, .ref o30, .int v32, .ref o33, .ref o35, .ref o37, .int v39, .ref o40, .ref o42, .ref o44, .int v46, .ref o47])), (o6, .inl (cI, 12, .inl fw7)), (o22, .inl (cI, 12, .inl f57)), (o24, .inl (cI, 12, .inl f58))]) H → va_D A ([(o1, .inr (12, [.int v2, .ref o3, .int v5, .ref o6, .int v8, .ref o9, .ref o11, .int v13, .ref o14, .int v16, .ref o17, .int 0, .int 0, .int 0, .ref o22, .ref o24, .ref o26, .ref o28, .ref o30, .int v32, .ref o33, .ref o35, .ref o37, .int v39, .ref o40, .ref o42, .ref o44, .int v46, .ref o47])), (o6, .inl (cI, 12, .inl fw7)), (o22, .inl (cI, 12, .inl f57)), (o24, .inl (cI, 12, .inl f58))]) → va_S A s.heap H locs → lv_has ls 2 [(1, .int x56), (0, .ref o1)] → W p l e ({ frames := 0, cells := 0, slots := 0, locals := 0 }) s m ([.ref o1] : List Value).toArray below meth c H locs 0 0 Q (F0 m 17 ls []) := by
    intro N
    induction N with
    | zero =>
      intro x56 f57 f58 H locs ls hM
      exact absurd hM (Nat.not_lt_zero _)
    | succ N ih1 =>
      intro x56 f57 f58 H locs ls hM1 x56_h f57_b f58_b hP hD hS hl
      refine lv_iload_n hx hb dX12_beginOrder_17 rfl (lv_at hl 0 rfl) ?_
      refine lv_bipush (v := 12) hx hb dX12_beginOrder_18 (by decide) ?_
      refine lv_icmp_ge (tgt := 48) hx hb dX12_beginOrder_20 (by decide) (fun h59 => ?_) (fun h59 => ?_)
      ·
        have qh59 := le_i h59
        have j60 : Iv 12 12 x56 := r_ler qh59 ik_12 x56_h (by decide)
        rw [hQ]
        exact W.vret hx hb hr (fun t ht hW => ⟨⟨(0, 0, 0, f57, f58), rfl, ⟨ik_0, f57_b, f58_b⟩, by rw [ht]; exact hP, va_K.moved hW.alike hK, hD⟩, hS.F ht⟩) hS.2.2 dX12_beginOrder_48
      ·
        have qh59 := nle_i h59
        have j61 : Iv 0 11 x56 := r_ltl qh59 x56_h ik_12 (by decide)
        refine lv_aload_n hx hb dX12_beginOrder_23 rfl (lv_at hl 1 rfl) ?_
        refine va_get (D := (dC, dI)) (ci := 12) (v := .ref o22) (C := RX12) (T := TX12) (N := 29) hx hb hts iw_X12_beginOrder_X12 hown hK hP 0 rfl rfl 14 (by decide) (hts (.fieldLink RX12 32 "HolelessHouseModel" "left" "[I") hm_X12_beginOrder_4) (fun _ h9 => h9) rfl dX12_beginOrder_24 ?_
        refine lv_iload_n hx hb dX12_beginOrder_27 rfl (lv_at hl 0 rfl) ?_
        refine lv_aload_n hx hb dX12_beginOrder_28 rfl (lv_at hl 1 rfl) ?_
        refine va_get (D := (dC, dI)) (ci := 12) (v := .ref o6) (C := RX12) (T := TX12) (N := 29) hx hb hts iw_X12_beginOrder_X12 hown hK hP 0 rfl rfl 3 (by decide) (hts (.fieldLink RX12 13 "HolelessHouseModel" "near" "[I") hm_X12_beginOrder_5) (fun _ h9 => h9) rfl dX12_beginOrder_29 ?_
        refine lv_iload_n hx hb dX12_beginOrder_32 rfl (lv_at hl 0 rfl) ?_
        refine va_iald hx hb hK hP 1 0 rfl rfl (vin_iv j61 (by decide)) dX12_beginOrder_33 (lv_topi (fun x62 x62_e => ?_))
        have x62_h : Iv 0 4095 x62 := iv_e x62_e (bd_at fw7_b (vin_iv j61 (by decide)))
        refine k_iast hx hb hK hP hD hS 2 0 rfl rfl (vin_iv j61 (by decide)) dX12_beginOrder_34 (fun f63 H locs f63_e hP hD hS => ?_)
        have f63_b : Bd 12 0 4095 f63 := bd_upd f63_e f57_b x62_h (by decide)
        have hP : va_P (dC, dI) vwCl ([(o1, .inr (12, [.int v2, .ref o3, .int v5, .ref o6, .int v8, .ref o9, .ref o11, .int v13, .ref o14, .int v16, .ref o17, .int 0, .int 0, .int 0, .ref o22, .ref o24, .ref o26, .ref o28, .ref o30, .int v32, .ref o33, .ref o35, .ref o37, .int v39, .ref o40, .ref o42, .ref o44, .int v46, .ref o47])), (o6, .inl (cI, 12, .inl fw7)), (o22, .inl (cI, 12, .inl f63)), (o24, .inl (cI, 12, .inl f58))]) H := hP
        have hD : va_D A ([(o1, .inr (12, [.int v2, .ref o3, .int v5, .ref o6, .int v8, .ref o9, .ref o11, .int v13, .ref o14, .int v16, .ref o17, .int 0, .int 0, .int 0, .ref o22, .ref o24, .ref o26, .ref o28, .ref o30, .int v32, .ref o33, .ref o35, .ref o37, .int v39, .ref o40, .ref o42, .ref o44, .int v46, .ref o47])), (o6, .inl (cI, 12, .inl fw7)), (o22, .inl (cI, 12, .inl f63)), (o24, .inl (cI, 12, .inl f58))]) := hD
        refine lv_aload_n hx hb dX12_beginOrder_35 rfl (lv_at hl 1 rfl) ?_
        refine va_get (D := (dC, dI)) (ci := 12) (v := .ref o24) (C := RX12) (T := TX12) (N := 29) hx hb hts iw_X12_beginOrder_X12 hown hK hP 0 rfl rfl 15 (by decide) (hts (.fieldLink RX12 35 "HolelessHouseModel" "joins" "[I") hm_X12_beginOrder_6) (fun _ h9 => h9) rfl dX12_beginOrder_36 ?_
        refine lv_iload_n hx hb dX12_beginOrder_39 rfl (lv_at hl 0 rfl) ?_
        refine lv_iconst (v := 0) hx hb dX12_beginOrder_40 (by decide) ?_
        refine k_iast hx hb hK hP hD hS 3 0 rfl rfl (vin_iv j61 (by decide)) dX12_beginOrder_41 (fun f64 H locs f64_e hP hD hS => ?_)
        have f64_b : Bd 12 0 4095 f64 := bd_upd f64_e f58_b ik_0 (by decide)
        have hP : va_P (dC, dI) vwCl ([(o1, .inr (12, [.int v2, .ref o3, .int v5, .ref o6, .int v8, .ref o9, .ref o11, .int v13, .ref o14, .int v16, .ref o17, .int 0, .int 0, .int 0, .ref o22, .ref o24, .ref o26, .ref o28, .ref o30, .int v32, .ref o33, .ref o35, .ref o37, .int v39, .ref o40, .ref o42, .ref o44, .int v46, .ref o47])), (o6, .inl (cI, 12, .inl fw7)), (o22, .inl (cI, 12, .inl f63)), (o24, .inl (cI, 12, .inl f64))]) H := hP
        have hD : va_D A ([(o1, .inr (12, [.int v2, .ref o3, .int v5, .ref o6, .int v8, .ref o9, .ref o11, .int v13, .ref o14, .int v16, .ref o17, .int 0, .int 0, .int 0, .ref o22, .ref o24, .ref o26, .ref o28, .ref o30, .int v32, .ref o33, .ref o35, .ref o37, .int v39, .ref o40, .ref o42, .ref o44, .int v46, .ref o47])), (o6, .inl (cI, 12, .inl fw7)), (o22, .inl (cI, 12, .inl f63)), (o24, .inl (cI, 12, .inl f64))]) := hD
        obtain ⟨x65, x65_e⟩ : ∃ z : Int32, z = x56 + 1 := ⟨_, rfl⟩
        have x65_h : Iv 1 12 x65 := iv_e x65_e (iv_add j61 ik_1 (by decide))
        refine lv_iinc (v := x65) (lv' := [(1, .int x65), (0, .ref o1)]) hx hb dX12_beginOrder_42 hl (k := 0) rfl (incN (by decide +kernel) x65_e) (by decide) rfl (fun ls hl => ?_)
        refine lv_goto (tgt := 17) hx hb dX12_beginOrder_45 (by decide) ?_
        exact ih1 x65 f63 f64 _ _ _ (ms_up x65_e j61 (by decide) hM1) (iv_w x65_h (by decide)) f63_b f64_b hP hD hS hl
  exact L1 _ 0 fw23 fw25 _ _ _ (Nat.lt_succ_self _) (iv_w ik_0 (by decide)) fw23_b fw25_b hP hD hS hl
theorem iw_X12_fillOf_X12 : ∀ w ∈ wsX120, w ∈ wsX12_fillOf := fun _ h => List.mem_cons.mpr (Or.inr (List.mem_append.mpr (Or.inr h)))
set_option maxHeartbeats 4000000 in
set_option maxRecDepth 100000 in
theorem kX12_fillOf_1 (l : Launch) (dC : Nat → ClassId) (dI : Nat → Nat → Nat) (cI c2 cZ : ClassId) (o1 : Nat) (o3 : Nat) (o6 : Nat) (o9 : Nat) (o11 : Nat) (o14 : Nat) (o17 : Nat) (o22 : Nat) (o24 : Nat) (o26 : Nat) (o28 : Nat) (o30 : Nat) (o33 : Nat) (o35 : Nat) (o37 : Nat) (o40 : Nat) (o42 : Nat) (o44 : Nat) (o47 : Nat) (v2 : Int32) (v5 : Int32) (v8 : Int32) (v13 : Int32) (v16 : Int32) (v19 : Int32) (v20 : Int32) (v21 : Int32) (fw23 : Nat → Int32) (v32 : Int32) (v39 : Int32) (v46 : Int32) (a1 : Int32) (sz : Nat) (v5_h : Iv 0 12 v5) (v8_h : Iv 0 8 v8) (v13_h : Iv 0 12 v13) (v16_h : Iv 0 12 v16) (v19_h : Iv (-9) 12 v19) (fw23_b : Bd 12 0 4095 fw23) (v32_h : Iv 0 99 v32) (v39_h : Iv 0 12 v39) (v46_h : Iv 0 12 v46) (a1_h : Iv 0 11 a1) : Met l yX12_fillOf wsX12_fillOf ({ frames := 1, cells := 0, slots := 0, locals := 22 }) (va_Pc [.ref o1, .int a1] (wPre (dC, dI) [(cI, .int), (c2, .array .int), (cZ, .boolean)] ([(o1, .inr (12, [.int v2, .ref o3, .int v5, .ref o6, .int v8, .ref o9, .ref o11, .int v13, .ref o14, .int v16, .ref o17, .int v19, .int v20, .int v21, .ref o22, .ref o24, .ref o26, .ref o28, .ref o30, .int v32, .ref o33, .ref o35, .ref o37, .int v39, .ref o40, .ref o42, .ref o44, .int v46, .ref o47])), (o22, .inl (cI, 12, .inl fw23))]) sz)) (va_Qi (fun (r : Int32) (_ : Unit) => True) (fun _ t => wPost (dC, dI) [(cI, .int), (c2, .array .int), (cZ, .boolean)] (va_A ([(o1, .inr (12, [.int v2, .ref o3, .int v5, .ref o6, .int v8, .ref o9, .ref o11, .int v13, .ref o14, .int v16, .ref o17, .int v19, .int v20, .int v21, .ref o22, .ref o24, .ref o26, .ref o28, .ref o30, .int v32, .ref o33, .ref o35, .ref o37, .int v39, .ref o40, .ref o42, .ref o44, .int v46, .ref o47])), (o22, .inl (cI, 12, .inl fw23))]) sz) ([(o1, .inr (12, [.int v2, .ref o3, .int v5, .ref o6, .int v8, .ref o9, .ref o11, .int v13, .ref o14, .int v16, .ref o17, .int v19, .int v20, .int v21, .ref o22, .ref o24, .ref o26, .ref o28, .ref o30, .int v32, .ref o33, .ref o35, .ref o37, .int v39, .ref o40, .ref o42, .ref o44, .int v46, .ref o47])), (o22, .inl (cI, 12, .inl fw23))]) t) (va_A ([(o1, .inr (12, [.int v2, .ref o3, .int v5, .ref o6, .int v8, .ref o9, .ref o11, .int v13, .ref o14, .int v16, .ref o17, .int v19, .int v20, .int v21, .ref o22, .ref o24, .ref o26, .ref o28, .ref o30, .int v32, .ref o33, .ref o35, .ref o37, .int v39, .ref o40, .ref o42, .ref o44, .int v46, .ref o47])), (o22, .inl (cI, 12, .inl fw23))]) sz)) 0 0 (va_A ([(o1, .inr (12, [.int v2, .ref o3, .int v5, .ref o6, .int v8, .ref o9, .ref o11, .int v13, .ref o14, .int v16, .ref o17, .int v19, .int v20, .int v21, .ref o22, .ref o24, .ref o26, .ref o28, .ref o30, .int v32, .ref o33, .ref o35, .ref o37, .int v39, .ref o40, .ref o42, .ref o44, .int v46, .ref o47])), (o22, .inl (cI, 12, .inl fw23))]) sz) := by
  refine Met.ofW (cc := cX12_fillOf) (maxL := 4) (ret := (some .int)) (by decide) rfl ?_
  intro p e s m args below meth c s₁ B hml hv
  obtain ⟨rfl, hsz, hP, hK, hD0, hN⟩ := hv
  have hx := B.exec
  have hb := B.bytes
  have hr := B.returns
  have hts := atoms_spec (ws := wsX12_fillOf) B.pre
  have hown : s.vm.findClass RX12 = some m.cls := findClass_of_methodNamed B.named
  have hlocks := B.notSynchronized
  subst hsz
  have hD := hD0.self (sz := s.heap.size)
  generalize hAe : va_A ([(o1, .inr (12, [.int v2, .ref o3, .int v5, .ref o6, .int v8, .ref o9, .ref o11, .int v13, .ref o14, .int v16, .ref o17, .int v19, .int v20, .int v21, .ref o22, .ref o24, .ref o26, .ref o28, .ref o30, .int v32, .ref o33, .ref o35, .ref o37, .int v39, .ref o40, .ref o42, .ref o44, .int v46, .ref o47])), (o22, .inl (cI, 12, .inl fw23))]) s.heap.size = A at hD ⊢
  have hA : ∀ q : Nat, s.heap.size ≤ q → A q := fun q h => by rw [← hAe]; exact Or.inr h
  have hS : va_S A s.heap s.heap [] := va_S.rf
  have hP : va_P (dC, dI) vwCl ([(o1, .inr (12, [.int v2, .ref o3, .int v5, .ref o6, .int v8, .ref o9, .ref o11, .int v13, .ref o14, .int v16, .ref o17, .int v19, .int v20, .int v21, .ref o22, .ref o24, .ref o26, .ref o28, .ref o30, .int v32, .ref o33, .ref o35, .ref o37, .int v39, .ref o40, .ref o42, .ref o44, .int v46, .ref o47])), (o22, .inl (cI, 12, .inl fw23))]) s.heap := hP
  have hl := lv_entry ([.ref o1, .int a1]) (n := 4) (Nat.le_of_ble_eq_true rfl)
  rw [lg_entry_eq]
  generalize (lg_sl ([.ref o1, .int a1]) ++ List.replicate (4 - (lg_sl ([.ref o1, .int a1])).length) Slot.unset).toArray = ls at hl ⊢
  have hl : lv_has ls 4 [(0, .ref o1), (1, .int a1)] := hl
  refine gen_Q (fun Q hQ => ?_)
  refine lv_iconst (v := 0) hx hb dX12_fillOf_0 (by decide) ?_
  refine lv_istore_n (lv' := [(2, .int 0), (0, .ref o1), (1, .int a1)]) hx hb dX12_fillOf_1 rfl hl (by decide) rfl (fun ls hl => ?_)
  refine lv_iconst (v := 0) hx hb dX12_fillOf_2 (by decide) ?_
  refine lv_istore_n (lv' := [(3, .int 0), (2, .int 0), (0, .ref o1), (1, .int a1)]) hx hb dX12_fillOf_3 rfl hl (by decide) rfl (fun ls hl => ?_)
  have L1 : ∀ (N : Nat) (x188 : Int32) (x189 : Int32) (H : Heap) (locs : List Loc) (ls : Array Slot), (12 - x188.toInt).toNat < N → Iv 0 12 x188 → va_P (dC, dI) vwCl ([(o1, .inr (12, [.int v2, .ref o3, .int v5, .ref o6, .int v8, .ref o9, .ref o11, .int v13, .ref o14, .int v16, .ref o17, .int v19, .int v20, .int v21, .ref o22, .ref o24, .ref o26, .ref o28, .ref o30, .int v32, .ref o33, .ref o35, .ref o37, .int v39, .ref o40, .ref o42, .ref o44, .int v46, .ref o47])), (o22, .inl (cI, 12, .inl fw23))]) H → va_D A ([(o1, .inr (12, [.int v2, .ref o3, .int v5, .ref o6, .int v8, .ref o9, .ref o11, .int v13, .ref o14, .int v16, .ref o17, .int v19, .int v20, .int v21, .ref o22, .ref o24, .ref o26, .ref o28, .ref o30, .int v32, .ref o33, .ref o35, .ref o37, .int v39, .ref o40, .ref o42, .ref o44, .int v46, .ref o47])), (o22, .inl (cI, 12, .inl fw23))]) → va_S A s.heap H locs → lv_has ls 4 [(3, .int x188), (2, .int x189), (0, .ref o1), (1, .int a1)] → W p l e ({ frames := 1, cells := 0, slots := 0, locals := 22 }) s m ([.ref o1, .int a1] : List Value).toArray below meth c H locs 0 0 Q (F0 m 4 ls []) := by
    intro N
    induction N with
    | zero =>
      intro x188 x189 H locs ls hM
      exact absurd hM (Nat.not_lt_zero _)
    | succ N ih1 =>
      intro x188 x189 H locs ls hM1 x188_h hP hD hS hl
      refine lv_iload_n hx hb dX12_fillOf_4 rfl (lv_at hl 0 rfl) ?_
      refine lv_aload_n hx hb dX12_fillOf_5 rfl (lv_at hl 2 rfl) ?_
      refine va_get (D := (dC, dI)) (ci := 12) (v := .int v5) (C := RX12) (T := TX12) (N := 29) hx hb hts iw_X12_fillOf_X12 hown hK hP 0 rfl rfl 2 (by decide) (hts (.fieldLink RX12 73 "HolelessHouseModel" "n" "I") hm_X12_fillOf_1) (fun _ h9 => h9) rfl dX12_fillOf_6 ?_
      refine lv_icmp_ge (tgt := 58) hx hb dX12_fillOf_9 (by decide) (fun h190 => ?_) (fun h190 => ?_)
      ·
        have qh190 := le_i h190
        refine lv_iload_n hx hb dX12_fillOf_58 rfl (lv_at hl 1 rfl) ?_
        refine lv_iconst (v := 2) hx hb dX12_fillOf_59 (by decide) ?_
        refine lv_idiv hx hb dX12_fillOf_60 (by decide +kernel) (lv_topi (fun x191 x191_e => ?_))
        rw [hQ]
        exact W.iret (v := x191) hx hb hr (fun t ht hW => ⟨⟨x191, (), rfl, trivial, by rw [ht]; exact hP, va_K.moved hW.alike hK, hD⟩, hS.F ht⟩) hS.2.2 dX12_fillOf_61
      ·
        have qh190 := nle_i h190
        have j192 : Iv 0 11 x188 := r_ltl qh190 x188_h v5_h (by decide)
        have j193 : Iv 1 12 v5 := r_ltr qh190 x188_h v5_h (by decide)
        refine lv_iload_n hx hb dX12_fillOf_12 rfl (lv_at hl 1 rfl) ?_
        refine lv_aload_n hx hb dX12_fillOf_13 rfl (lv_at hl 2 rfl) ?_
        refine va_get (D := (dC, dI)) (ci := 12) (v := .ref o22) (C := RX12) (T := TX12) (N := 29) hx hb hts iw_X12_fillOf_X12 hown hK hP 0 rfl rfl 14 (by decide) (hts (.fieldLink RX12 32 "HolelessHouseModel" "left" "[I") hm_X12_fillOf_2) (fun _ h9 => h9) rfl dX12_fillOf_14 ?_
        refine lv_iload_n hx hb dX12_fillOf_17 rfl (lv_at hl 3 rfl) ?_
        refine va_iald hx hb hK hP 1 0 rfl rfl (vin_iv a1_h (by decide)) dX12_fillOf_18 (lv_topi (fun x194 x194_e => ?_))
        have x194_h : Iv 0 4095 x194 := iv_e x194_e (bd_at fw23_b (vin_iv a1_h (by decide)))
        refine lv_iload_n hx hb dX12_fillOf_19 rfl (lv_at hl 0 rfl) ?_
        refine kc_i (D := (dC, dI)) (S := Unit) (wc := []) (wr := [(o1, .inr (12, [.int v2, .ref o3, .int v5, .ref o6, .int v8, .ref o9, .ref o11, .int v13, .ref o14, .int v16, .ref o17, .int v19, .int v20, .int v21, .ref o22, .ref o24, .ref o26, .ref o28, .ref o30, .int v32, .ref o33, .ref o35, .ref o37, .int v39, .ref o40, .ref o42, .ref o44, .int v46, .ref o47])), (o22, .inl (cI, 12, .inl fw23))]) (w1 := fun _ => []) (wn := fun _ => [(o1, .inr (12, [.int v2, .ref o3, .int v5, .ref o6, .int v8, .ref o9, .ref o11, .int v13, .ref o14, .int v16, .ref o17, .int v19, .int v20, .int v21, .ref o22, .ref o24, .ref o26, .ref o28, .ref o30, .int v32, .ref o33, .ref o35, .ref o37, .int v39, .ref o40, .ref o42, .ref o44, .int v46, .ref o47])), (o22, .inl (cI, 12, .inl fw23))]) (fun hPc hDc => va_runS (As := [.int x194, .int x188]) (rest := [.int x189]) ⟨hx, hb, hml, hown, hts⟩ (kX12_has_1 l dC dI cI c2 cZ x194 x188 H.size (iv_w j192 (by decide))) (va_cwS 2 hts gX12_fillOf_X12_has rfl rfl rfl (by decide +kernel) ⟨Nat.le_of_ble_eq_true rfl, Nat.le_of_ble_eq_true rfl⟩) (pre_S hPc hK hDc hN) rfl rfl hl.1 rfl (lv_room (Nat.le_of_ble_eq_true rfl)) dX12_fillOf_20 ⟨Nat.le_of_ble_eq_true rfl, Nat.le_of_ble_eq_true rfl⟩) hP hD hS hA [] [0, 1] [0, 1] rfl rfl (by decide +kernel) (by decide +kernel) (by decide +kernel) (by decide +kernel) (fun _ => rfl) (fun x195 _ H locs hq hP hD hS => ?_)
        obtain ⟨x195_h, e196⟩ := hq
        have hP : va_P (dC, dI) vwCl ([(o1, .inr (12, [.int v2, .ref o3, .int v5, .ref o6, .int v8, .ref o9, .ref o11, .int v13, .ref o14, .int v16, .ref o17, .int v19, .int v20, .int v21, .ref o22, .ref o24, .ref o26, .ref o28, .ref o30, .int v32, .ref o33, .ref o35, .ref o37, .int v39, .ref o40, .ref o42, .ref o44, .int v46, .ref o47])), (o22, .inl (cI, 12, .inl fw23))]) H := hP
        have hD : va_D A ([(o1, .inr (12, [.int v2, .ref o3, .int v5, .ref o6, .int v8, .ref o9, .ref o11, .int v13, .ref o14, .int v16, .ref o17, .int v19, .int v20, .int v21, .ref o22, .ref o24, .ref o26, .ref o28, .ref o30, .int v32, .ref o33, .ref o35, .ref o37, .int v39, .ref o40, .ref o42, .ref o44, .int v46, .ref o47])), (o22, .inl (cI, 12, .inl fw23))]) := hD
        refine lv_if_eq (tgt := 49) hx hb dX12_fillOf_23 (by decide) (fun h197 => ?_) (fun h197 => ?_)
        ·
          have j198 : Iv 0 0 x195 := r_eq h197 ik_0
          have b199 : bt x194 (Int32.toNatClampNeg x188) = false := has_f e196 h197
          refine lv_iconst (v := 0) hx hb dX12_fillOf_49 (by decide) ?_
          refine lv_iadd hx hb dX12_fillOf_50 (lv_topi (fun x200 x200_e => ?_))
          refine lv_istore_n (lv' := [(2, .int x200), (3, .int x188), (0, .ref o1), (1, .int a1)]) hx hb dX12_fillOf_51 rfl hl (by decide) rfl (fun ls hl => ?_)
          obtain ⟨x201, x201_e⟩ : ∃ z : Int32, z = x188 + 1 := ⟨_, rfl⟩
          have x201_h : Iv 1 12 x201 := iv_e x201_e (iv_add j192 ik_1 (by decide))
          refine lv_iinc (v := x201) (lv' := [(3, .int x201), (2, .int x200), (0, .ref o1), (1, .int a1)]) hx hb dX12_fillOf_52 hl (k := 1) rfl (incN (by decide +kernel) x201_e) (by decide) rfl (fun ls hl => ?_)
          refine lv_goto (tgt := 4) hx hb dX12_fillOf_55 (by decide) ?_
          exact ih1 x201 x200 _ _ _ (ms_up x201_e j192 (by decide) hM1) (iv_w x201_h (by decide)) hP hD hS hl
        ·
          have j202 : Iv 1 1 x195 := r_nelo h197 x195_h ik_0 (by decide)
          have b203 : bt x194 (Int32.toNatClampNeg x188) = true := has_t e196 h197
          refine lv_aload_n hx hb dX12_fillOf_26 rfl (lv_at hl 2 rfl) ?_
          refine va_get (D := (dC, dI)) (ci := 12) (v := .ref o22) (C := RX12) (T := TX12) (N := 29) hx hb hts iw_X12_fillOf_X12 hown hK hP 0 rfl rfl 14 (by decide) (hts (.fieldLink RX12 32 "HolelessHouseModel" "left" "[I") hm_X12_fillOf_2) (fun _ h9 => h9) rfl dX12_fillOf_27 ?_
          refine lv_iload_n hx hb dX12_fillOf_30 rfl (lv_at hl 3 rfl) ?_
          refine va_iald hx hb hK hP 1 0 rfl rfl (vin_iv a1_h (by decide)) dX12_fillOf_31 (lv_topi (fun x204 x204_e => ?_))
          have x204_h : Iv 0 4095 x204 := iv_e x204_e (bd_at fw23_b (vin_iv a1_h (by decide)))
          refine lv_aload_n hx hb dX12_fillOf_32 rfl (lv_at hl 2 rfl) ?_
          refine va_get (D := (dC, dI)) (ci := 12) (v := .ref o22) (C := RX12) (T := TX12) (N := 29) hx hb hts iw_X12_fillOf_X12 hown hK hP 0 rfl rfl 14 (by decide) (hts (.fieldLink RX12 32 "HolelessHouseModel" "left" "[I") hm_X12_fillOf_2) (fun _ h9 => h9) rfl dX12_fillOf_33 ?_
          refine lv_iload_n hx hb dX12_fillOf_36 rfl (lv_at hl 0 rfl) ?_
          refine va_iald hx hb hK hP 1 0 rfl rfl (vin_iv j192 (by decide)) dX12_fillOf_37 (lv_topi (fun x205 x205_e => ?_))
          have x205_h : Iv 0 4095 x205 := iv_e x205_e (bd_at fw23_b (vin_iv j192 (by decide)))
          refine lv_iconst (v := (-1)) hx hb dX12_fillOf_38 (by decide) ?_
          refine lv_ixor hx hb dX12_fillOf_39 (lv_topi (fun x206 x206_e => ?_))
          refine lv_iand hx hb dX12_fillOf_40 (lv_topi (fun x207 x207_e => ?_))
          have x207_h : Iv 0 4095 x207 := iv_e x207_e (iv_andL _ x204_h (by decide))
          refine kc_i (D := (dC, dI)) (S := Unit) (wc := []) (wr := [(o1, .inr (12, [.int v2, .ref o3, .int v5, .ref o6, .int v8, .ref o9, .ref o11, .int v13, .ref o14, .int v16, .ref o17, .int v19, .int v20, .int v21, .ref o22, .ref o24, .ref o26, .ref o28, .ref o30, .int v32, .ref o33, .ref o35, .ref o37, .int v39, .ref o40, .ref o42, .ref o44, .int v46, .ref o47])), (o22, .inl (cI, 12, .inl fw23))]) (w1 := fun _ => []) (wn := fun _ => [(o1, .inr (12, [.int v2, .ref o3, .int v5, .ref o6, .int v8, .ref o9, .ref o11, .int v13, .ref o14, .int v16, .ref o17, .int v19, .int v20, .int v21, .ref o22, .ref o24, .ref o26, .ref o28, .ref o30, .int v32, .ref o33, .ref o35, .ref o37, .int v39, .ref o40, .ref o42, .ref o44, .int v46, .ref o47])), (o22, .inl (cI, 12, .inl fw23))]) (fun hPc hDc => va_runS (As := [.int x207]) (rest := [.int x189]) ⟨hx, hb, hml, hown, hts⟩ (kX12_bits_1 l dC dI cI c2 cZ x207 H.size) (va_cwS 1 hts gX12_fillOf_X12_bits rfl rfl rfl (by decide +kernel) ⟨Nat.le_of_ble_eq_true rfl, Nat.le_of_ble_eq_true rfl⟩) (pre_S hPc hK hDc hN) rfl rfl hl.1 rfl (lv_room (Nat.le_of_ble_eq_true rfl)) dX12_fillOf_41 ⟨Nat.le_of_ble_eq_true rfl, Nat.le_of_ble_eq_true rfl⟩) hP hD hS hA [] [0, 1] [0, 1] rfl rfl (by decide +kernel) (by decide +kernel) (by decide +kernel) (by decide +kernel) (fun _ => rfl) (fun x208 _ H locs hq hP hD hS => ?_)
          obtain ⟨x208_h, e209⟩ := hq
          have hP : va_P (dC, dI) vwCl ([(o1, .inr (12, [.int v2, .ref o3, .int v5, .ref o6, .int v8, .ref o9, .ref o11, .int v13, .ref o14, .int v16, .ref o17, .int v19, .int v20, .int v21, .ref o22, .ref o24, .ref o26, .ref o28, .ref o30, .int v32, .ref o33, .ref o35, .ref o37, .int v39, .ref o40, .ref o42, .ref o44, .int v46, .ref o47])), (o22, .inl (cI, 12, .inl fw23))]) H := hP
          have hD : va_D A ([(o1, .inr (12, [.int v2, .ref o3, .int v5, .ref o6, .int v8, .ref o9, .ref o11, .int v13, .ref o14, .int v16, .ref o17, .int v19, .int v20, .int v21, .ref o22, .ref o24, .ref o26, .ref o28, .ref o30, .int v32, .ref o33, .ref o35, .ref o37, .int v39, .ref o40, .ref o42, .ref o44, .int v46, .ref o47])), (o22, .inl (cI, 12, .inl fw23))]) := hD
          refine lv_iconst (v := 1) hx hb dX12_fillOf_44 (by decide) ?_
          refine lv_isub hx hb dX12_fillOf_45 (lv_topi (fun x210 x210_e => ?_))
          have x210_h : Iv (-1) 12 x210 := iv_e x210_e (iv_sub x208_h ik_1 (by decide))
          refine lv_goto (tgt := 50) hx hb dX12_fillOf_46 (by decide) ?_
          refine lv_iadd hx hb dX12_fillOf_50 (lv_topi (fun x211 x211_e => ?_))
          refine lv_istore_n (lv' := [(2, .int x211), (3, .int x188), (0, .ref o1), (1, .int a1)]) hx hb dX12_fillOf_51 rfl hl (by decide) rfl (fun ls hl => ?_)
          obtain ⟨x212, x212_e⟩ : ∃ z : Int32, z = x188 + 1 := ⟨_, rfl⟩
          have x212_h : Iv 1 12 x212 := iv_e x212_e (iv_add j192 ik_1 (by decide))
          refine lv_iinc (v := x212) (lv' := [(3, .int x212), (2, .int x211), (0, .ref o1), (1, .int a1)]) hx hb dX12_fillOf_52 hl (k := 1) rfl (incN (by decide +kernel) x212_e) (by decide) rfl (fun ls hl => ?_)
          refine lv_goto (tgt := 4) hx hb dX12_fillOf_55 (by decide) ?_
          exact ih1 x212 x211 _ _ _ (ms_up x212_e j192 (by decide) hM1) (iv_w x212_h (by decide)) hP hD hS hl
  exact L1 _ 0 0 _ _ _ (Nat.lt_succ_self _) (iv_w ik_0 (by decide)) hP hD hS hl
theorem iw_X12_go_X12 : ∀ w ∈ wsX120, w ∈ wsX12_go := fun _ h => List.mem_cons.mpr (Or.inr (List.mem_append.mpr (Or.inr h)))
set_option maxHeartbeats 4000000 in
set_option maxRecDepth 100000 in
theorem kX12_go_1 (l : Launch) (dC : Nat → ClassId) (dI : Nat → Nat → Nat) (cI c2 cZ : ClassId) (o1 : Nat) (o3 : Nat) (o6 : Nat) (o9 : Nat) (o11 : Nat) (o14 : Nat) (o17 : Nat) (o22 : Nat) (o24 : Nat) (o26 : Nat) (o28 : Nat) (o30 : Nat) (o33 : Nat) (o35 : Nat) (o37 : Nat) (o40 : Nat) (o42 : Nat) (o44 : Nat) (o47 : Nat) (v2 : Int32) (v5 : Int32) (v8 : Int32) (v13 : Int32) (v16 : Int32) (fw18 : Nat → Int32) (v19 : Int32) (v20 : Int32) (v21 : Int32) (fw23 : Nat → Int32) (fw25 : Nat → Int32) (v32 : Int32) (v39 : Int32) (v46 : Int32) (a1 : Int32) (sz : Nat) (v5_h : Iv 0 12 v5) (v8_h : Iv 0 8 v8) (v13_h : Iv 0 12 v13) (v16_h : Iv 0 12 v16) (fw18_b : Bd 12 0 11 fw18) (v19_h : Iv 0 11 v19) (fw23_b : Bd 12 0 4095 fw23) (fw25_b : Bd 12 0 4095 fw25) (v32_h : Iv 0 99 v32) (v39_h : Iv 0 12 v39) (v46_h : Iv 0 12 v46) (a1_h : Iv 0 11 a1) : Met l yX12_go wsX12_go ({ frames := 2, cells := 0, slots := 0, locals := 45 }) (va_Pc [.ref o1, .int a1] (wPre (dC, dI) [(cI, .int), (c2, .array .int), (cZ, .boolean)] ([(o1, .inr (12, [.int v2, .ref o3, .int v5, .ref o6, .int v8, .ref o9, .ref o11, .int v13, .ref o14, .int v16, .ref o17, .int v19, .int v20, .int v21, .ref o22, .ref o24, .ref o26, .ref o28, .ref o30, .int v32, .ref o33, .ref o35, .ref o37, .int v39, .ref o40, .ref o42, .ref o44, .int v46, .ref o47])), (o22, .inl (cI, 12, .inl fw23)), (o24, .inl (cI, 12, .inl fw25)), (o17, .inl (cI, 12, .inl fw18))]) sz)) (va_Qv (fun (u : Int32 × Int32 × Int32 × (Nat → Int32) × (Nat → Int32) × (Nat → Int32)) => Iv 1 12 u.1 ∧ Bd 12 0 4095 u.2.2.2.1 ∧ Bd 12 0 4095 u.2.2.2.2.1 ∧ Bd 12 0 11 u.2.2.2.2.2 ∧ Int32.toInt u.1 = Int32.toInt v19 + 1) (fun u t => wPost (dC, dI) [(cI, .int), (c2, .array .int), (cZ, .boolean)] (va_A ([(o1, .inr (12, [.int v2, .ref o3, .int v5, .ref o6, .int v8, .ref o9, .ref o11, .int v13, .ref o14, .int v16, .ref o17, .int v19, .int v20, .int v21, .ref o22, .ref o24, .ref o26, .ref o28, .ref o30, .int v32, .ref o33, .ref o35, .ref o37, .int v39, .ref o40, .ref o42, .ref o44, .int v46, .ref o47])), (o22, .inl (cI, 12, .inl fw23)), (o24, .inl (cI, 12, .inl fw25)), (o17, .inl (cI, 12, .inl fw18))]) sz) ([(o1, .inr (12, [.int v2, .ref o3, .int v5, .ref o6, .int v8, .ref o9, .ref o11, .int v13, .ref o14, .int v16, .ref o17, .int u.1, .int u.2.1, .int u.2.2.1, .ref o22, .ref o24, .ref o26, .ref o28, .ref o30, .int v32, .ref o33, .ref o35, .ref o37, .int v39, .ref o40, .ref o42, .ref o44, .int v46, .ref o47])), (o22, .inl (cI, 12, .inl u.2.2.2.1)), (o24, .inl (cI, 12, .inl u.2.2.2.2.1)), (o17, .inl (cI, 12, .inl u.2.2.2.2.2))]) t) (va_A ([(o1, .inr (12, [.int v2, .ref o3, .int v5, .ref o6, .int v8, .ref o9, .ref o11, .int v13, .ref o14, .int v16, .ref o17, .int v19, .int v20, .int v21, .ref o22, .ref o24, .ref o26, .ref o28, .ref o30, .int v32, .ref o33, .ref o35, .ref o37, .int v39, .ref o40, .ref o42, .ref o44, .int v46, .ref o47])), (o22, .inl (cI, 12, .inl fw23)), (o24, .inl (cI, 12, .inl fw25)), (o17, .inl (cI, 12, .inl fw18))]) sz)) 0 0 (va_A ([(o1, .inr (12, [.int v2, .ref o3, .int v5, .ref o6, .int v8, .ref o9, .ref o11, .int v13, .ref o14, .int v16, .ref o17, .int v19, .int v20, .int v21, .ref o22, .ref o24, .ref o26, .ref o28, .ref o30, .int v32, .ref o33, .ref o35, .ref o37, .int v39, .ref o40, .ref o42, .ref o44, .int v46, .ref o47])), (o22, .inl (cI, 12, .inl fw23)), (o24, .inl (cI, 12, .inl fw25)), (o17, .inl (cI, 12, .inl fw18))]) sz) := by
  refine Met.ofW (cc := cX12_go) (maxL := 4) (ret := none) (by decide) rfl ?_
  intro p e s m args below meth c s₁ B hml hv
  obtain ⟨rfl, hsz, hP, hK, hD0, hN⟩ := hv
  have hx := B.exec
  have hb := B.bytes
  have hr := B.returns
  have hts := atoms_spec (ws := wsX12_go) B.pre
  have hown : s.vm.findClass RX12 = some m.cls := findClass_of_methodNamed B.named
  have hlocks := B.notSynchronized
  subst hsz
  have hD := hD0.self (sz := s.heap.size)
  generalize hAe : va_A ([(o1, .inr (12, [.int v2, .ref o3, .int v5, .ref o6, .int v8, .ref o9, .ref o11, .int v13, .ref o14, .int v16, .ref o17, .int v19, .int v20, .int v21, .ref o22, .ref o24, .ref o26, .ref o28, .ref o30, .int v32, .ref o33, .ref o35, .ref o37, .int v39, .ref o40, .ref o42, .ref o44, .int v46, .ref o47])), (o22, .inl (cI, 12, .inl fw23)), (o24, .inl (cI, 12, .inl fw25)), (o17, .inl (cI, 12, .inl fw18))]) s.heap.size = A at hD ⊢
  have hA : ∀ q : Nat, s.heap.size ≤ q → A q := fun q h => by rw [← hAe]; exact Or.inr h
  have hS : va_S A s.heap s.heap [] := va_S.rf
  have hP : va_P (dC, dI) vwCl ([(o1, .inr (12, [.int v2, .ref o3, .int v5, .ref o6, .int v8, .ref o9, .ref o11, .int v13, .ref o14, .int v16, .ref o17, .int v19, .int v20, .int v21, .ref o22, .ref o24, .ref o26, .ref o28, .ref o30, .int v32, .ref o33, .ref o35, .ref o37, .int v39, .ref o40, .ref o42, .ref o44, .int v46, .ref o47])), (o22, .inl (cI, 12, .inl fw23)), (o24, .inl (cI, 12, .inl fw25)), (o17, .inl (cI, 12, .inl fw18))]) s.heap := hP
  have hl := lv_entry ([.ref o1, .int a1]) (n := 4) (Nat.le_of_ble_eq_true rfl)
  rw [lg_entry_eq]
  generalize (lg_sl ([.ref o1, .int a1]) ++ List.replicate (4 - (lg_sl ([.ref o1, .int a1])).length) Slot.unset).toArray = ls at hl ⊢
  have hl : lv_has ls 4 [(0, .ref o1), (1, .int a1)] := hl
  refine gen_Q (fun Q hQ => ?_)
  refine lv_aload_n hx hb dX12_go_0 rfl (lv_at hl 0 rfl) ?_
  refine lv_dup hx hb dX12_go_1 rfl ?_
  refine va_get (D := (dC, dI)) (ci := 12) (v := .int v20) (C := RX12) (T := TX12) (N := 29) hx hb hts iw_X12_go_X12 hown hK hP 0 rfl rfl 12 (by decide) (hts (.fieldLink RX12 134 "HolelessHouseModel" "orderFill" "I") hm_X12_go_1) (fun _ h9 => h9) rfl dX12_go_2 ?_
  refine lv_aload_n hx hb dX12_go_5 rfl (lv_at hl 0 rfl) ?_
  refine lv_iload_n hx hb dX12_go_6 rfl (lv_at hl 1 rfl) ?_
  refine kc_i (D := (dC, dI)) (S := Unit) (wc := [(o1, .inr (12, [.int v2, .ref o3, .int v5, .ref o6, .int v8, .ref o9, .ref o11, .int v13, .ref o14, .int v16, .ref o17, .int v19, .int v20, .int v21, .ref o22, .ref o24, .ref o26, .ref o28, .ref o30, .int v32, .ref o33, .ref o35, .ref o37, .int v39, .ref o40, .ref o42, .ref o44, .int v46, .ref o47])), (o22, .inl (cI, 12, .inl fw23))]) (wr := [(o24, .inl (cI, 12, .inl fw25)), (o17, .inl (cI, 12, .inl fw18))]) (w1 := fun _ => [(o1, .inr (12, [.int v2, .ref o3, .int v5, .ref o6, .int v8, .ref o9, .ref o11, .int v13, .ref o14, .int v16, .ref o17, .int v19, .int v20, .int v21, .ref o22, .ref o24, .ref o26, .ref o28, .ref o30, .int v32, .ref o33, .ref o35, .ref o37, .int v39, .ref o40, .ref o42, .ref o44, .int v46, .ref o47])), (o22, .inl (cI, 12, .inl fw23))]) (wn := fun _ => [(o1, .inr (12, [.int v2, .ref o3, .int v5, .ref o6, .int v8, .ref o9, .ref o11, .int v13, .ref o14, .int v16, .ref o17, .int v19, .int v20, .int v21, .ref o22, .ref o24, .ref o26, .ref o28, .ref o30, .int v32, .ref o33, .ref o35, .ref o37, .int v39, .ref o40, .ref o42, .ref o44, .int v46, .ref o47])), (o22, .inl (cI, 12, .inl fw23)), (o24, .inl (cI, 12, .inl fw25)), (o17, .inl (cI, 12, .inl fw18))]) (fun hPc hDc => va_runV (As := [.int a1]) (rest := [.int v20, .ref o1]) ⟨hx, hb, hml, hown, hts⟩ (kX12_fillOf_1 l dC dI cI c2 cZ o1 o3 o6 o9 o11 o14 o17 o22 o24 o26 o28 o30 o33 o35 o37 o40 o42 o44 o47 v2 v5 v8 v13 v16 v19 v20 v21 fw23 v32 v39 v46 a1 s.heap.size v5_h v8_h v13_h v16_h (iv_w v19_h (by decide)) fw23_b v32_h v39_h v46_h a1_h) (cwV 1 hts gX12_go_X12_fillOf rfl rfl rfl (by decide +kernel) ⟨Nat.le_of_ble_eq_true rfl, Nat.le_of_ble_eq_true rfl⟩) (pre_V hPc hK hDc hN (ci := 12) (q0 := 0) rfl rfl) rfl rfl hl.1 rfl (lv_room (Nat.le_of_ble_eq_true rfl)) dX12_go_7 ⟨Nat.le_of_ble_eq_true rfl, Nat.le_of_ble_eq_true rfl⟩) hP hD hS hA [0, 1] [2, 3] [2, 3, 0, 1] rfl rfl (by decide +kernel) (by decide +kernel) (by decide +kernel) (by decide +kernel) (fun _ => rfl) (fun x1 _ H locs hq hP hD hS => ?_)
  have hP : va_P (dC, dI) vwCl ([(o1, .inr (12, [.int v2, .ref o3, .int v5, .ref o6, .int v8, .ref o9, .ref o11, .int v13, .ref o14, .int v16, .ref o17, .int v19, .int v20, .int v21, .ref o22, .ref o24, .ref o26, .ref o28, .ref o30, .int v32, .ref o33, .ref o35, .ref o37, .int v39, .ref o40, .ref o42, .ref o44, .int v46, .ref o47])), (o22, .inl (cI, 12, .inl fw23)), (o24, .inl (cI, 12, .inl fw25)), (o17, .inl (cI, 12, .inl fw18))]) H := hP
  have hD : va_D A ([(o1, .inr (12, [.int v2, .ref o3, .int v5, .ref o6, .int v8, .ref o9, .ref o11, .int v13, .ref o14, .int v16, .ref o17, .int v19, .int v20, .int v21, .ref o22, .ref o24, .ref o26, .ref o28, .ref o30, .int v32, .ref o33, .ref o35, .ref o37, .int v39, .ref o40, .ref o42, .ref o44, .int v46, .ref o47])), (o22, .inl (cI, 12, .inl fw23)), (o24, .inl (cI, 12, .inl fw25)), (o17, .inl (cI, 12, .inl fw18))]) := hD
  refine lv_iadd hx hb dX12_go_10 (lv_topi (fun x2 x2_e => ?_))
  refine va_put (D := (dC, dI)) (ci := 12) (v := .int x2) (ty := .int) (C := RX12) (T := TX12) (N := 29) hx hb hts iw_X12_go_X12 tyX12 tyX12_ok nmX12 hown hK hP hD hS 0 rfl rfl 12 (by decide) (hts (.fieldLink RX12 134 "HolelessHouseModel" "orderFill" "I") hm_X12_go_1) (fun _ h9 => h9) rfl (by decide +kernel) rfl rfl (Nat.le_of_ble_eq_true rfl) dX12_go_11 (fun H locs hP hD hS => ?_)
  have hP : va_P (dC, dI) vwCl ([(o1, .inr (12, [.int v2, .ref o3, .int v5, .ref o6, .int v8, .ref o9, .ref o11, .int v13, .ref o14, .int v16, .ref o17, .int v19, .int x2, .int v21, .ref o22, .ref o24, .ref o26, .ref o28, .ref o30, .int v32, .ref o33, .ref o35, .ref o37, .int v39, .ref o40, .ref o42, .ref o44, .int v46, .ref o47])), (o22, .inl (cI, 12, .inl fw23)), (o24, .inl (cI, 12, .inl fw25)), (o17, .inl (cI, 12, .inl fw18))]) H := hP
  have hD : va_D A ([(o1, .inr (12, [.int v2, .ref o3, .int v5, .ref o6, .int v8, .ref o9, .ref o11, .int v13, .ref o14, .int v16, .ref o17, .int v19, .int x2, .int v21, .ref o22, .ref o24, .ref o26, .ref o28, .ref o30, .int v32, .ref o33, .ref o35, .ref o37, .int v39, .ref o40, .ref o42, .ref o44, .int v46, .ref o47])), (o22, .inl (cI, 12, .inl fw23)), (o24, .inl (cI, 12, .inl fw25)), (o17, .inl (cI, 12, .inl fw18))]) := hD
  refine lv_aload_n hx hb dX12_go_14 rfl (lv_at hl 0 rfl) ?_
  refine lv_aload_n hx hb dX12_go_15 rfl (lv_at hl 0 rfl) ?_
  refine va_get (D := (dC, dI)) (ci := 12) (v := .ref o22) (C := RX12) (T := TX12) (N := 29) hx hb hts iw_X12_go_X12 hown hK hP 0 rfl rfl 14 (by decide) (hts (.fieldLink RX12 32 "HolelessHouseModel" "left" "[I") hm_X12_go_2) (fun _ h9 => h9) rfl dX12_go_16 ?_
  refine lv_iload_n hx hb dX12_go_19 rfl (lv_at hl 1 rfl) ?_
  refine va_iald hx hb hK hP 1 0 rfl rfl (vin_iv a1_h (by decide)) dX12_go_20 (lv_topi (fun x3 x3_e => ?_))
  have x3_h : Iv 0 4095 x3 := iv_e x3_e (bd_at fw23_b (vin_iv a1_h (by decide)))
  refine kc_i (D := (dC, dI)) (S := Unit) (wc := []) (wr := [(o1, .inr (12, [.int v2, .ref o3, .int v5, .ref o6, .int v8, .ref o9, .ref o11, .int v13, .ref o14, .int v16, .ref o17, .int v19, .int x2, .int v21, .ref o22, .ref o24, .ref o26, .ref o28, .ref o30, .int v32, .ref o33, .ref o35, .ref o37, .int v39, .ref o40, .ref o42, .ref o44, .int v46, .ref o47])), (o22, .inl (cI, 12, .inl fw23)), (o24, .inl (cI, 12, .inl fw25)), (o17, .inl (cI, 12, .inl fw18))]) (w1 := fun _ => []) (wn := fun _ => [(o1, .inr (12, [.int v2, .ref o3, .int v5, .ref o6, .int v8, .ref o9, .ref o11, .int v13, .ref o14, .int v16, .ref o17, .int v19, .int x2, .int v21, .ref o22, .ref o24, .ref o26, .ref o28, .ref o30, .int v32, .ref o33, .ref o35, .ref o37, .int v39, .ref o40, .ref o42, .ref o44, .int v46, .ref o47])), (o22, .inl (cI, 12, .inl fw23)), (o24, .inl (cI, 12, .inl fw25)), (o17, .inl (cI, 12, .inl fw18))]) (fun hPc hDc => va_runS (As := [.int x3]) (rest := [.ref o1]) ⟨hx, hb, hml, hown, hts⟩ (kX12_bits_1 l dC dI cI c2 cZ x3 H.size) (va_cwS 1 hts gX12_go_X12_bits rfl rfl rfl (by decide +kernel) ⟨Nat.le_of_ble_eq_true rfl, Nat.le_of_ble_eq_true rfl⟩) (pre_S hPc hK hDc hN) rfl rfl hl.1 rfl (lv_room (Nat.le_of_ble_eq_true rfl)) dX12_go_21 ⟨Nat.le_of_ble_eq_true rfl, Nat.le_of_ble_eq_true rfl⟩) hP hD hS hA [] [0, 1, 2, 3] [0, 1, 2, 3] rfl rfl (by decide +kernel) (by decide +kernel) (by decide +kernel) (by decide +kernel) (fun _ => rfl) (fun x4 _ H locs hq hP hD hS => ?_)
  obtain ⟨x4_h, e5⟩ := hq
  have hP : va_P (dC, dI) vwCl ([(o1, .inr (12, [.int v2, .ref o3, .int v5, .ref o6, .int v8, .ref o9, .ref o11, .int v13, .ref o14, .int v16, .ref o17, .int v19, .int x2, .int v21, .ref o22, .ref o24, .ref o26, .ref o28, .ref o30, .int v32, .ref o33, .ref o35, .ref o37, .int v39, .ref o40, .ref o42, .ref o44, .int v46, .ref o47])), (o22, .inl (cI, 12, .inl fw23)), (o24, .inl (cI, 12, .inl fw25)), (o17, .inl (cI, 12, .inl fw18))]) H := hP
  have hD : va_D A ([(o1, .inr (12, [.int v2, .ref o3, .int v5, .ref o6, .int v8, .ref o9, .ref o11, .int v13, .ref o14, .int v16, .ref o17, .int v19, .int x2, .int v21, .ref o22, .ref o24, .ref o26, .ref o28, .ref o30, .int v32, .ref o33, .ref o35, .ref o37, .int v39, .ref o40, .ref o42, .ref o44, .int v46, .ref o47])), (o22, .inl (cI, 12, .inl fw23)), (o24, .inl (cI, 12, .inl fw25)), (o17, .inl (cI, 12, .inl fw18))]) := hD
  refine lv_aload_n hx hb dX12_go_24 rfl (lv_at hl 0 rfl) ?_
  refine va_get (D := (dC, dI)) (ci := 12) (v := .int v21) (C := RX12) (T := TX12) (N := 29) hx hb hts iw_X12_go_X12 hown hK hP 0 rfl rfl 13 (by decide) (hts (.fieldLink RX12 137 "HolelessHouseModel" "orderWidth" "I") hm_X12_go_3) (fun _ h9 => h9) rfl dX12_go_25 ?_
  refine lv_icmp_le (tgt := 43) hx hb dX12_go_28 (by decide) (fun h6 => ?_) (fun h6 => ?_)
  ·
    have qh6 := le_i h6
    have j7 : Iv 0 2147483647 v21 := r_ler qh6 x4_h (iv_full v21) (by decide)
    refine lv_aload_n hx hb dX12_go_43 rfl (lv_at hl 0 rfl) ?_
    refine va_get (D := (dC, dI)) (ci := 12) (v := .int v21) (C := RX12) (T := TX12) (N := 29) hx hb hts iw_X12_go_X12 hown hK hP 0 rfl rfl 13 (by decide) (hts (.fieldLink RX12 137 "HolelessHouseModel" "orderWidth" "I") hm_X12_go_3) (fun _ h9 => h9) rfl dX12_go_44 ?_
    refine va_put (D := (dC, dI)) (ci := 12) (v := .int v21) (ty := .int) (C := RX12) (T := TX12) (N := 29) hx hb hts iw_X12_go_X12 tyX12 tyX12_ok nmX12 hown hK hP hD hS 0 rfl rfl 13 (by decide) (hts (.fieldLink RX12 137 "HolelessHouseModel" "orderWidth" "I") hm_X12_go_3) (fun _ h9 => h9) rfl (by decide +kernel) rfl rfl (Nat.le_of_ble_eq_true rfl) dX12_go_47 (fun H locs hP hD hS => ?_)
    have hP : va_P (dC, dI) vwCl ([(o1, .inr (12, [.int v2, .ref o3, .int v5, .ref o6, .int v8, .ref o9, .ref o11, .int v13, .ref o14, .int v16, .ref o17, .int v19, .int x2, .int v21, .ref o22, .ref o24, .ref o26, .ref o28, .ref o30, .int v32, .ref o33, .ref o35, .ref o37, .int v39, .ref o40, .ref o42, .ref o44, .int v46, .ref o47])), (o22, .inl (cI, 12, .inl fw23)), (o24, .inl (cI, 12, .inl fw25)), (o17, .inl (cI, 12, .inl fw18))]) H := hP
    have hD : va_D A ([(o1, .inr (12, [.int v2, .ref o3, .int v5, .ref o6, .int v8, .ref o9, .ref o11, .int v13, .ref o14, .int v16, .ref o17, .int v19, .int x2, .int v21, .ref o22, .ref o24, .ref o26, .ref o28, .ref o30, .int v32, .ref o33, .ref o35, .ref o37, .int v39, .ref o40, .ref o42, .ref o44, .int v46, .ref o47])), (o22, .inl (cI, 12, .inl fw23)), (o24, .inl (cI, 12, .inl fw25)), (o17, .inl (cI, 12, .inl fw18))]) := hD
    refine lv_iconst (v := 0) hx hb dX12_go_50 (by decide) ?_
    refine lv_istore_n (lv' := [(2, .int 0), (0, .ref o1), (1, .int a1)]) hx hb dX12_go_51 rfl hl (by decide) rfl (fun ls hl => ?_)
    have L1 : ∀ (N : Nat) (x257 : Int32) (f258 : Nat → Int32) (f259 : Nat → Int32) (H : Heap) (locs : List Loc) (ls : Array Slot), (12 - x257.toInt).toNat < N → Iv 0 12 x257 → Bd 12 0 4095 f258 → Bd 12 0 4095 f259 → va_P (dC, dI) vwCl ([(o1, .inr (12, [.int v2, .ref o3, .int v5, .ref o6, .int v8, .ref o9, .ref o11, .int v13, .ref o14, .int v16, .ref o17, .int v19, .int x2, .int v21, .ref o22, .ref o24, .ref o26, .ref o28, .ref o30, .int v32, .ref o33, .ref o35, .ref o37, .int v39, .ref o40, .ref o42, .ref o44, .int v46, .ref o47])), (o22, .inl (cI, 12, .inl f258)), (o24, .inl (cI, 12, .inl f259)), (o17, .inl (cI, 12, .inl fw18))]) H → va_D A ([(o1, .inr (12, [.int v2, .ref o3, .int v5, .ref o6, .int v8, .ref o9, .ref o11, .int v13, .ref o14, .int v16, .ref o17, .int v19, .int x2, .int v21, .ref o22, .ref o24, .ref o26, .ref o28, .ref o30, .int v32, .ref o33, .ref o35, .ref o37, .int v39, .ref o40, .ref o42, .ref o44, .int v46, .ref o47])), (o22, .inl (cI, 12, .inl f258)), (o24, .inl (cI, 12, .inl f259)), (o17, .inl (cI, 12, .inl fw18))]) → va_S A s.heap H locs → lv_has ls 4 [(2, .int x257), (0, .ref o1), (1, .int a1)] → W p l e ({ frames := 2, cells := 0, slots := 0, locals := 45 }) s m ([.ref o1, .int a1] : List Value).toArray below meth c H locs 0 0 Q (F0 m 52 ls []) := by
      intro N
      induction N with
      | zero =>
        intro x257 f258 f259 H locs ls hM
        exact absurd hM (Nat.not_lt_zero _)
      | succ N ih1 =>
        intro x257 f258 f259 H locs ls hM1 x257_h f258_b f259_b hP hD hS hl
        refine lv_iload_n hx hb dX12_go_52 rfl (lv_at hl 0 rfl) ?_
        refine lv_aload_n hx hb dX12_go_53 rfl (lv_at hl 1 rfl) ?_
        refine va_get (D := (dC, dI)) (ci := 12) (v := .int v5) (C := RX12) (T := TX12) (N := 29) hx hb hts iw_X12_go_X12 hown hK hP 0 rfl rfl 2 (by decide) (hts (.fieldLink RX12 73 "HolelessHouseModel" "n" "I") hm_X12_go_4) (fun _ h9 => h9) rfl dX12_go_54 ?_
        refine lv_icmp_ge (tgt := 131) hx hb dX12_go_57 (by decide) (fun h260 => ?_) (fun h260 => ?_)
        ·
          have qh260 := le_i h260
          refine lv_aload_n hx hb dX12_go_131 rfl (lv_at hl 1 rfl) ?_
          refine va_get (D := (dC, dI)) (ci := 12) (v := .ref o17) (C := RX12) (T := TX12) (N := 29) hx hb hts iw_X12_go_X12 hown hK hP 0 rfl rfl 10 (by decide) (hts (.fieldLink RX12 25 "HolelessHouseModel" "order" "[I") hm_X12_go_6) (fun _ h9 => h9) rfl dX12_go_132 ?_
          refine lv_aload_n hx hb dX12_go_135 rfl (lv_at hl 1 rfl) ?_
          refine va_get (D := (dC, dI)) (ci := 12) (v := .int v19) (C := RX12) (T := TX12) (N := 29) hx hb hts iw_X12_go_X12 hown hK hP 0 rfl rfl 11 (by decide) (hts (.fieldLink RX12 28 "HolelessHouseModel" "ordered" "I") hm_X12_go_7) (fun _ h9 => h9) rfl dX12_go_136 ?_
          refine lv_iload_n hx hb dX12_go_139 rfl (lv_at hl 2 rfl) ?_
          refine k_iast hx hb hK hP hD hS 3 0 rfl rfl (vin_iv v19_h (by decide)) dX12_go_140 (fun f261 H locs f261_e hP hD hS => ?_)
          have f261_b : Bd 12 0 11 f261 := bd_upd f261_e fw18_b a1_h (by decide)
          have hP : va_P (dC, dI) vwCl ([(o1, .inr (12, [.int v2, .ref o3, .int v5, .ref o6, .int v8, .ref o9, .ref o11, .int v13, .ref o14, .int v16, .ref o17, .int v19, .int x2, .int v21, .ref o22, .ref o24, .ref o26, .ref o28, .ref o30, .int v32, .ref o33, .ref o35, .ref o37, .int v39, .ref o40, .ref o42, .ref o44, .int v46, .ref o47])), (o22, .inl (cI, 12, .inl f258)), (o24, .inl (cI, 12, .inl f259)), (o17, .inl (cI, 12, .inl f261))]) H := hP
          have hD : va_D A ([(o1, .inr (12, [.int v2, .ref o3, .int v5, .ref o6, .int v8, .ref o9, .ref o11, .int v13, .ref o14, .int v16, .ref o17, .int v19, .int x2, .int v21, .ref o22, .ref o24, .ref o26, .ref o28, .ref o30, .int v32, .ref o33, .ref o35, .ref o37, .int v39, .ref o40, .ref o42, .ref o44, .int v46, .ref o47])), (o22, .inl (cI, 12, .inl f258)), (o24, .inl (cI, 12, .inl f259)), (o17, .inl (cI, 12, .inl f261))]) := hD
          refine lv_aload_n hx hb dX12_go_141 rfl (lv_at hl 1 rfl) ?_
          refine lv_dup hx hb dX12_go_142 rfl ?_
          refine va_get (D := (dC, dI)) (ci := 12) (v := .int v19) (C := RX12) (T := TX12) (N := 29) hx hb hts iw_X12_go_X12 hown hK hP 0 rfl rfl 11 (by decide) (hts (.fieldLink RX12 28 "HolelessHouseModel" "ordered" "I") hm_X12_go_7) (fun _ h9 => h9) rfl dX12_go_143 ?_
          refine lv_iconst (v := 1) hx hb dX12_go_146 (by decide) ?_
          refine lv_iadd hx hb dX12_go_147 (lv_topi (fun x262 x262_e => ?_))
          have x262_h : Iv 1 12 x262 := iv_e x262_e (iv_add v19_h ik_1 (by decide))
          refine va_put (D := (dC, dI)) (ci := 12) (v := .int x262) (ty := .int) (C := RX12) (T := TX12) (N := 29) hx hb hts iw_X12_go_X12 tyX12 tyX12_ok nmX12 hown hK hP hD hS 0 rfl rfl 11 (by decide) (hts (.fieldLink RX12 28 "HolelessHouseModel" "ordered" "I") hm_X12_go_7) (fun _ h9 => h9) rfl (by decide +kernel) rfl rfl (Nat.le_of_ble_eq_true rfl) dX12_go_148 (fun H locs hP hD hS => ?_)
          have hP : va_P (dC, dI) vwCl ([(o1, .inr (12, [.int v2, .ref o3, .int v5, .ref o6, .int v8, .ref o9, .ref o11, .int v13, .ref o14, .int v16, .ref o17, .int x262, .int x2, .int v21, .ref o22, .ref o24, .ref o26, .ref o28, .ref o30, .int v32, .ref o33, .ref o35, .ref o37, .int v39, .ref o40, .ref o42, .ref o44, .int v46, .ref o47])), (o22, .inl (cI, 12, .inl f258)), (o24, .inl (cI, 12, .inl f259)), (o17, .inl (cI, 12, .inl f261))]) H := hP
          have hD : va_D A ([(o1, .inr (12, [.int v2, .ref o3, .int v5, .ref o6, .int v8, .ref o9, .ref o11, .int v13, .ref o14, .int v16, .ref o17, .int x262, .int x2, .int v21, .ref o22, .ref o24, .ref o26, .ref o28, .ref o30, .int v32, .ref o33, .ref o35, .ref o37, .int v39, .ref o40, .ref o42, .ref o44, .int v46, .ref o47])), (o22, .inl (cI, 12, .inl f258)), (o24, .inl (cI, 12, .inl f259)), (o17, .inl (cI, 12, .inl f261))]) := hD
          rw [hQ]
          exact W.vret hx hb hr (fun t ht hW => ⟨⟨(x262, x2, v21, f258, f259, f261), rfl, ⟨x262_h, f258_b, f259_b, f261_b, (tia x262_e v19_h ik_1 (by decide))⟩, by rw [ht]; exact hP, va_K.moved hW.alike hK, hD⟩, hS.F ht⟩) hS.2.2 dX12_go_151
        ·
          have qh260 := nle_i h260
          have j263 : Iv 0 11 x257 := r_ltl qh260 x257_h v5_h (by decide)
          have j264 : Iv 1 12 v5 := r_ltr qh260 x257_h v5_h (by decide)
          refine lv_aload_n hx hb dX12_go_60 rfl (lv_at hl 1 rfl) ?_
          refine va_get (D := (dC, dI)) (ci := 12) (v := .ref o22) (C := RX12) (T := TX12) (N := 29) hx hb hts iw_X12_go_X12 hown hK hP 0 rfl rfl 14 (by decide) (hts (.fieldLink RX12 32 "HolelessHouseModel" "left" "[I") hm_X12_go_2) (fun _ h9 => h9) rfl dX12_go_61 ?_
          refine lv_iload_n hx hb dX12_go_64 rfl (lv_at hl 2 rfl) ?_
          refine va_iald hx hb hK hP 1 0 rfl rfl (vin_iv a1_h (by decide)) dX12_go_65 (lv_topi (fun x265 x265_e => ?_))
          have x265_h : Iv 0 4095 x265 := iv_e x265_e (bd_at f258_b (vin_iv a1_h (by decide)))
          refine lv_iload_n hx hb dX12_go_66 rfl (lv_at hl 0 rfl) ?_
          refine kc_i (D := (dC, dI)) (S := Unit) (wc := []) (wr := [(o1, .inr (12, [.int v2, .ref o3, .int v5, .ref o6, .int v8, .ref o9, .ref o11, .int v13, .ref o14, .int v16, .ref o17, .int v19, .int x2, .int v21, .ref o22, .ref o24, .ref o26, .ref o28, .ref o30, .int v32, .ref o33, .ref o35, .ref o37, .int v39, .ref o40, .ref o42, .ref o44, .int v46, .ref o47])), (o22, .inl (cI, 12, .inl f258)), (o24, .inl (cI, 12, .inl f259)), (o17, .inl (cI, 12, .inl fw18))]) (w1 := fun _ => []) (wn := fun _ => [(o1, .inr (12, [.int v2, .ref o3, .int v5, .ref o6, .int v8, .ref o9, .ref o11, .int v13, .ref o14, .int v16, .ref o17, .int v19, .int x2, .int v21, .ref o22, .ref o24, .ref o26, .ref o28, .ref o30, .int v32, .ref o33, .ref o35, .ref o37, .int v39, .ref o40, .ref o42, .ref o44, .int v46, .ref o47])), (o22, .inl (cI, 12, .inl f258)), (o24, .inl (cI, 12, .inl f259)), (o17, .inl (cI, 12, .inl fw18))]) (fun hPc hDc => va_runS (As := [.int x265, .int x257]) (rest := []) ⟨hx, hb, hml, hown, hts⟩ (kX12_has_1 l dC dI cI c2 cZ x265 x257 H.size (iv_w j263 (by decide))) (va_cwS 2 hts gX12_go_X12_has rfl rfl rfl (by decide +kernel) ⟨Nat.le_of_ble_eq_true rfl, Nat.le_of_ble_eq_true rfl⟩) (pre_S hPc hK hDc hN) rfl rfl hl.1 rfl (lv_room (Nat.le_of_ble_eq_true rfl)) dX12_go_67 ⟨Nat.le_of_ble_eq_true rfl, Nat.le_of_ble_eq_true rfl⟩) hP hD hS hA [] [0, 1, 2, 3] [0, 1, 2, 3] rfl rfl (by decide +kernel) (by decide +kernel) (by decide +kernel) (by decide +kernel) (fun _ => rfl) (fun x266 _ H locs hq hP hD hS => ?_)
          obtain ⟨x266_h, e267⟩ := hq
          have hP : va_P (dC, dI) vwCl ([(o1, .inr (12, [.int v2, .ref o3, .int v5, .ref o6, .int v8, .ref o9, .ref o11, .int v13, .ref o14, .int v16, .ref o17, .int v19, .int x2, .int v21, .ref o22, .ref o24, .ref o26, .ref o28, .ref o30, .int v32, .ref o33, .ref o35, .ref o37, .int v39, .ref o40, .ref o42, .ref o44, .int v46, .ref o47])), (o22, .inl (cI, 12, .inl f258)), (o24, .inl (cI, 12, .inl f259)), (o17, .inl (cI, 12, .inl fw18))]) H := hP
          have hD : va_D A ([(o1, .inr (12, [.int v2, .ref o3, .int v5, .ref o6, .int v8, .ref o9, .ref o11, .int v13, .ref o14, .int v16, .ref o17, .int v19, .int x2, .int v21, .ref o22, .ref o24, .ref o26, .ref o28, .ref o30, .int v32, .ref o33, .ref o35, .ref o37, .int v39, .ref o40, .ref o42, .ref o44, .int v46, .ref o47])), (o22, .inl (cI, 12, .inl f258)), (o24, .inl (cI, 12, .inl f259)), (o17, .inl (cI, 12, .inl fw18))]) := hD
          refine lv_if_eq (tgt := 125) hx hb dX12_go_70 (by decide) (fun h268 => ?_) (fun h268 => ?_)
          ·
            have j269 : Iv 0 0 x266 := r_eq h268 ik_0
            have b270 : bt x265 (Int32.toNatClampNeg x257) = false := has_f e267 h268
            obtain ⟨x271, x271_e⟩ : ∃ z : Int32, z = x257 + 1 := ⟨_, rfl⟩
            have x271_h : Iv 1 12 x271 := iv_e x271_e (iv_add j263 ik_1 (by decide))
            refine lv_iinc (v := x271) (lv' := [(2, .int x271), (0, .ref o1), (1, .int a1)]) hx hb dX12_go_125 hl (k := 0) rfl (incN (by decide +kernel) x271_e) (by decide) rfl (fun ls hl => ?_)
            refine lv_goto (tgt := 52) hx hb dX12_go_128 (by decide) ?_
            exact ih1 x271 f258 f259 _ _ _ (ms_up x271_e j263 (by decide) hM1) (iv_w x271_h (by decide)) f258_b f259_b hP hD hS hl
          ·
            have j272 : Iv 1 1 x266 := r_nelo h268 x266_h ik_0 (by decide)
            have b273 : bt x265 (Int32.toNatClampNeg x257) = true := has_t e267 h268
            refine lv_aload_n hx hb dX12_go_73 rfl (lv_at hl 1 rfl) ?_
            refine va_get (D := (dC, dI)) (ci := 12) (v := .ref o22) (C := RX12) (T := TX12) (N := 29) hx hb hts iw_X12_go_X12 hown hK hP 0 rfl rfl 14 (by decide) (hts (.fieldLink RX12 32 "HolelessHouseModel" "left" "[I") hm_X12_go_2) (fun _ h9 => h9) rfl dX12_go_74 ?_
            refine lv_iload_n hx hb dX12_go_77 rfl (lv_at hl 2 rfl) ?_
            refine va_iald hx hb hK hP 1 0 rfl rfl (vin_iv a1_h (by decide)) dX12_go_78 (lv_topi (fun x274 x274_e => ?_))
            have x274_h : Iv 0 4095 x274 := iv_e x274_e (bd_at f258_b (vin_iv a1_h (by decide)))
            refine lv_aload_n hx hb dX12_go_79 rfl (lv_at hl 1 rfl) ?_
            refine va_get (D := (dC, dI)) (ci := 12) (v := .ref o22) (C := RX12) (T := TX12) (N := 29) hx hb hts iw_X12_go_X12 hown hK hP 0 rfl rfl 14 (by decide) (hts (.fieldLink RX12 32 "HolelessHouseModel" "left" "[I") hm_X12_go_2) (fun _ h9 => h9) rfl dX12_go_80 ?_
            refine lv_iload_n hx hb dX12_go_83 rfl (lv_at hl 0 rfl) ?_
            refine va_iald hx hb hK hP 1 0 rfl rfl (vin_iv j263 (by decide)) dX12_go_84 (lv_topi (fun x275 x275_e => ?_))
            have x275_h : Iv 0 4095 x275 := iv_e x275_e (bd_at f258_b (vin_iv j263 (by decide)))
            refine lv_iconst (v := (-1)) hx hb dX12_go_85 (by decide) ?_
            refine lv_ixor hx hb dX12_go_86 (lv_topi (fun x276 x276_e => ?_))
            refine lv_iand hx hb dX12_go_87 (lv_topi (fun x277 x277_e => ?_))
            have x277_h : Iv 0 4095 x277 := iv_e x277_e (iv_andL _ x274_h (by decide))
            refine lv_iconst (v := 1) hx hb dX12_go_88 (by decide) ?_
            refine lv_iload_n hx hb dX12_go_89 rfl (lv_at hl 0 rfl) ?_
            refine lv_ishl hx hb dX12_go_90 (lv_topi (fun x278 x278_e => ?_))
            have x278_h : Iv 1 2048 x278 := iv_e x278_e (iv_shl1 j263 (by decide))
            refine lv_iconst (v := (-1)) hx hb dX12_go_91 (by decide) ?_
            refine lv_ixor hx hb dX12_go_92 (lv_topi (fun x279 x279_e => ?_))
            refine lv_iand hx hb dX12_go_93 (lv_topi (fun x280 x280_e => ?_))
            have x280_h : Iv 0 4095 x280 := iv_e x280_e (iv_andL _ x277_h (by decide))
            refine lv_istore_n (lv' := [(3, .int x280), (2, .int x257), (0, .ref o1), (1, .int a1)]) hx hb dX12_go_94 rfl hl (by decide) rfl (fun ls hl => ?_)
            refine lv_aload_n hx hb dX12_go_95 rfl (lv_at hl 2 rfl) ?_
            refine va_get (D := (dC, dI)) (ci := 12) (v := .ref o24) (C := RX12) (T := TX12) (N := 29) hx hb hts iw_X12_go_X12 hown hK hP 0 rfl rfl 15 (by decide) (hts (.fieldLink RX12 35 "HolelessHouseModel" "joins" "[I") hm_X12_go_5) (fun _ h9 => h9) rfl dX12_go_96 ?_
            refine lv_iload_n hx hb dX12_go_99 rfl (lv_at hl 1 rfl) ?_
            refine lv_dup2_11 hx hb dX12_go_100 rfl rfl ?_
            refine va_iald hx hb hK hP 2 0 rfl rfl (vin_iv j263 (by decide)) dX12_go_101 (lv_topi (fun x281 x281_e => ?_))
            have x281_h : Iv 0 4095 x281 := iv_e x281_e (bd_at f259_b (vin_iv j263 (by decide)))
            refine lv_iload_n hx hb dX12_go_102 rfl (lv_at hl 0 rfl) ?_
            refine lv_ior hx hb dX12_go_103 (lv_topi (fun x282 x282_e => ?_))
            have x282_h : Iv 0 4095 x282 := iv_e x282_e (iv_or 12 x281_h x280_h (by decide))
            refine k_iast hx hb hK hP hD hS 2 0 rfl rfl (vin_iv j263 (by decide)) dX12_go_104 (fun f283 H locs f283_e hP hD hS => ?_)
            have f283_b : Bd 12 0 4095 f283 := bd_upd f283_e f259_b x282_h (by decide)
            have hP : va_P (dC, dI) vwCl ([(o1, .inr (12, [.int v2, .ref o3, .int v5, .ref o6, .int v8, .ref o9, .ref o11, .int v13, .ref o14, .int v16, .ref o17, .int v19, .int x2, .int v21, .ref o22, .ref o24, .ref o26, .ref o28, .ref o30, .int v32, .ref o33, .ref o35, .ref o37, .int v39, .ref o40, .ref o42, .ref o44, .int v46, .ref o47])), (o22, .inl (cI, 12, .inl f258)), (o24, .inl (cI, 12, .inl f283)), (o17, .inl (cI, 12, .inl fw18))]) H := hP
            have hD : va_D A ([(o1, .inr (12, [.int v2, .ref o3, .int v5, .ref o6, .int v8, .ref o9, .ref o11, .int v13, .ref o14, .int v16, .ref o17, .int v19, .int x2, .int v21, .ref o22, .ref o24, .ref o26, .ref o28, .ref o30, .int v32, .ref o33, .ref o35, .ref o37, .int v39, .ref o40, .ref o42, .ref o44, .int v46, .ref o47])), (o22, .inl (cI, 12, .inl f258)), (o24, .inl (cI, 12, .inl f283)), (o17, .inl (cI, 12, .inl fw18))]) := hD
            refine lv_aload_n hx hb dX12_go_105 rfl (lv_at hl 2 rfl) ?_
            refine va_get (D := (dC, dI)) (ci := 12) (v := .ref o22) (C := RX12) (T := TX12) (N := 29) hx hb hts iw_X12_go_X12 hown hK hP 0 rfl rfl 14 (by decide) (hts (.fieldLink RX12 32 "HolelessHouseModel" "left" "[I") hm_X12_go_2) (fun _ h9 => h9) rfl dX12_go_106 ?_
            refine lv_iload_n hx hb dX12_go_109 rfl (lv_at hl 1 rfl) ?_
            refine lv_aload_n hx hb dX12_go_110 rfl (lv_at hl 2 rfl) ?_
            refine va_get (D := (dC, dI)) (ci := 12) (v := .ref o22) (C := RX12) (T := TX12) (N := 29) hx hb hts iw_X12_go_X12 hown hK hP 0 rfl rfl 14 (by decide) (hts (.fieldLink RX12 32 "HolelessHouseModel" "left" "[I") hm_X12_go_2) (fun _ h9 => h9) rfl dX12_go_111 ?_
            refine lv_iload_n hx hb dX12_go_114 rfl (lv_at hl 1 rfl) ?_
            refine va_iald hx hb hK hP 1 0 rfl rfl (vin_iv j263 (by decide)) dX12_go_115 (lv_topi (fun x284 x284_e => ?_))
            have x284_h : Iv 0 4095 x284 := iv_e x284_e (bd_at f258_b (vin_iv j263 (by decide)))
            refine lv_iload_n hx hb dX12_go_116 rfl (lv_at hl 0 rfl) ?_
            refine lv_ior hx hb dX12_go_117 (lv_topi (fun x285 x285_e => ?_))
            have x285_h : Iv 0 4095 x285 := iv_e x285_e (iv_or 12 x284_h x280_h (by decide))
            refine lv_iconst (v := 1) hx hb dX12_go_118 (by decide) ?_
            refine lv_iload_n hx hb dX12_go_119 rfl (lv_at hl 3 rfl) ?_
            refine lv_ishl hx hb dX12_go_120 (lv_topi (fun x286 x286_e => ?_))
            have x286_h : Iv 1 2048 x286 := iv_e x286_e (iv_shl1 a1_h (by decide))
            refine lv_iconst (v := (-1)) hx hb dX12_go_121 (by decide) ?_
            refine lv_ixor hx hb dX12_go_122 (lv_topi (fun x287 x287_e => ?_))
            refine lv_iand hx hb dX12_go_123 (lv_topi (fun x288 x288_e => ?_))
            have x288_h : Iv 0 4095 x288 := iv_e x288_e (iv_andL _ x285_h (by decide))
            refine k_iast hx hb hK hP hD hS 1 0 rfl rfl (vin_iv j263 (by decide)) dX12_go_124 (fun f289 H locs f289_e hP hD hS => ?_)
            have f289_b : Bd 12 0 4095 f289 := bd_upd f289_e f258_b x288_h (by decide)
            have hP : va_P (dC, dI) vwCl ([(o1, .inr (12, [.int v2, .ref o3, .int v5, .ref o6, .int v8, .ref o9, .ref o11, .int v13, .ref o14, .int v16, .ref o17, .int v19, .int x2, .int v21, .ref o22, .ref o24, .ref o26, .ref o28, .ref o30, .int v32, .ref o33, .ref o35, .ref o37, .int v39, .ref o40, .ref o42, .ref o44, .int v46, .ref o47])), (o22, .inl (cI, 12, .inl f289)), (o24, .inl (cI, 12, .inl f283)), (o17, .inl (cI, 12, .inl fw18))]) H := hP
            have hD : va_D A ([(o1, .inr (12, [.int v2, .ref o3, .int v5, .ref o6, .int v8, .ref o9, .ref o11, .int v13, .ref o14, .int v16, .ref o17, .int v19, .int x2, .int v21, .ref o22, .ref o24, .ref o26, .ref o28, .ref o30, .int v32, .ref o33, .ref o35, .ref o37, .int v39, .ref o40, .ref o42, .ref o44, .int v46, .ref o47])), (o22, .inl (cI, 12, .inl f289)), (o24, .inl (cI, 12, .inl f283)), (o17, .inl (cI, 12, .inl fw18))]) := hD
            obtain ⟨x290, x290_e⟩ : ∃ z : Int32, z = x257 + 1 := ⟨_, rfl⟩
            have x290_h : Iv 1 12 x290 := iv_e x290_e (iv_add j263 ik_1 (by decide))
            refine lv_iinc (v := x290) (lv' := [(2, .int x290), (3, .int x280), (0, .ref o1), (1, .int a1)]) hx hb dX12_go_125 hl (k := 1) rfl (incN (by decide +kernel) x290_e) (by decide) rfl (fun ls hl => ?_)
            refine lv_goto (tgt := 52) hx hb dX12_go_128 (by decide) ?_
            exact ih1 x290 f289 f283 _ _ _ (ms_up x290_e j263 (by decide) hM1) (iv_w x290_h (by decide)) f289_b f283_b hP hD hS (lv_sub hl [0, 2, 3] rfl)
    exact L1 _ 0 fw23 fw25 _ _ _ (Nat.lt_succ_self _) (iv_w ik_0 (by decide)) fw23_b fw25_b hP hD hS hl
  ·
    have qh6 := nle_i h6
    have j291 : Iv (-2147483648) 12 v21 := r_ltl qh6 (iv_full v21) x4_h (by decide)
    refine lv_aload_n hx hb dX12_go_31 rfl (lv_at hl 0 rfl) ?_
    refine va_get (D := (dC, dI)) (ci := 12) (v := .ref o22) (C := RX12) (T := TX12) (N := 29) hx hb hts iw_X12_go_X12 hown hK hP 0 rfl rfl 14 (by decide) (hts (.fieldLink RX12 32 "HolelessHouseModel" "left" "[I") hm_X12_go_2) (fun _ h9 => h9) rfl dX12_go_32 ?_
    refine lv_iload_n hx hb dX12_go_35 rfl (lv_at hl 1 rfl) ?_
    refine va_iald hx hb hK hP 1 0 rfl rfl (vin_iv a1_h (by decide)) dX12_go_36 (lv_topi (fun x292 x292_e => ?_))
    have x292_h : Iv 0 4095 x292 := iv_e x292_e (bd_at fw23_b (vin_iv a1_h (by decide)))
    refine kc_i (D := (dC, dI)) (S := Unit) (wc := []) (wr := [(o1, .inr (12, [.int v2, .ref o3, .int v5, .ref o6, .int v8, .ref o9, .ref o11, .int v13, .ref o14, .int v16, .ref o17, .int v19, .int x2, .int v21, .ref o22, .ref o24, .ref o26, .ref o28, .ref o30, .int v32, .ref o33, .ref o35, .ref o37, .int v39, .ref o40, .ref o42, .ref o44, .int v46, .ref o47])), (o22, .inl (cI, 12, .inl fw23)), (o24, .inl (cI, 12, .inl fw25)), (o17, .inl (cI, 12, .inl fw18))]) (w1 := fun _ => []) (wn := fun _ => [(o1, .inr (12, [.int v2, .ref o3, .int v5, .ref o6, .int v8, .ref o9, .ref o11, .int v13, .ref o14, .int v16, .ref o17, .int v19, .int x2, .int v21, .ref o22, .ref o24, .ref o26, .ref o28, .ref o30, .int v32, .ref o33, .ref o35, .ref o37, .int v39, .ref o40, .ref o42, .ref o44, .int v46, .ref o47])), (o22, .inl (cI, 12, .inl fw23)), (o24, .inl (cI, 12, .inl fw25)), (o17, .inl (cI, 12, .inl fw18))]) (fun hPc hDc => va_runS (As := [.int x292]) (rest := [.ref o1]) ⟨hx, hb, hml, hown, hts⟩ (kX12_bits_1 l dC dI cI c2 cZ x292 H.size) (va_cwS 1 hts gX12_go_X12_bits rfl rfl rfl (by decide +kernel) ⟨Nat.le_of_ble_eq_true rfl, Nat.le_of_ble_eq_true rfl⟩) (pre_S hPc hK hDc hN) rfl rfl hl.1 rfl (lv_room (Nat.le_of_ble_eq_true rfl)) dX12_go_37 ⟨Nat.le_of_ble_eq_true rfl, Nat.le_of_ble_eq_true rfl⟩) hP hD hS hA [] [0, 1, 2, 3] [0, 1, 2, 3] rfl rfl (by decide +kernel) (by decide +kernel) (by decide +kernel) (by decide +kernel) (fun _ => rfl) (fun x293 _ H locs hq hP hD hS => ?_)
    obtain ⟨x293_h, e294⟩ := hq
    have hP : va_P (dC, dI) vwCl ([(o1, .inr (12, [.int v2, .ref o3, .int v5, .ref o6, .int v8, .ref o9, .ref o11, .int v13, .ref o14, .int v16, .ref o17, .int v19, .int x2, .int v21, .ref o22, .ref o24, .ref o26, .ref o28, .ref o30, .int v32, .ref o33, .ref o35, .ref o37, .int v39, .ref o40, .ref o42, .ref o44, .int v46, .ref o47])), (o22, .inl (cI, 12, .inl fw23)), (o24, .inl (cI, 12, .inl fw25)), (o17, .inl (cI, 12, .inl fw18))]) H := hP
    have hD : va_D A ([(o1, .inr (12, [.int v2, .ref o3, .int v5, .ref o6, .int v8, .ref o9, .ref o11, .int v13, .ref o14, .int v16, .ref o17, .int v19, .int x2, .int v21, .ref o22, .ref o24, .ref o26, .ref o28, .ref o30, .int v32, .ref o33, .ref o35, .ref o37, .int v39, .ref o40, .ref o42, .ref o44, .int v46, .ref o47])), (o22, .inl (cI, 12, .inl fw23)), (o24, .inl (cI, 12, .inl fw25)), (o17, .inl (cI, 12, .inl fw18))]) := hD
    refine lv_goto (tgt := 47) hx hb dX12_go_40 (by decide) ?_
    refine va_put (D := (dC, dI)) (ci := 12) (v := .int x293) (ty := .int) (C := RX12) (T := TX12) (N := 29) hx hb hts iw_X12_go_X12 tyX12 tyX12_ok nmX12 hown hK hP hD hS 0 rfl rfl 13 (by decide) (hts (.fieldLink RX12 137 "HolelessHouseModel" "orderWidth" "I") hm_X12_go_3) (fun _ h9 => h9) rfl (by decide +kernel) rfl rfl (Nat.le_of_ble_eq_true rfl) dX12_go_47 (fun H locs hP hD hS => ?_)
    have hP : va_P (dC, dI) vwCl ([(o1, .inr (12, [.int v2, .ref o3, .int v5, .ref o6, .int v8, .ref o9, .ref o11, .int v13, .ref o14, .int v16, .ref o17, .int v19, .int x2, .int x293, .ref o22, .ref o24, .ref o26, .ref o28, .ref o30, .int v32, .ref o33, .ref o35, .ref o37, .int v39, .ref o40, .ref o42, .ref o44, .int v46, .ref o47])), (o22, .inl (cI, 12, .inl fw23)), (o24, .inl (cI, 12, .inl fw25)), (o17, .inl (cI, 12, .inl fw18))]) H := hP
    have hD : va_D A ([(o1, .inr (12, [.int v2, .ref o3, .int v5, .ref o6, .int v8, .ref o9, .ref o11, .int v13, .ref o14, .int v16, .ref o17, .int v19, .int x2, .int x293, .ref o22, .ref o24, .ref o26, .ref o28, .ref o30, .int v32, .ref o33, .ref o35, .ref o37, .int v39, .ref o40, .ref o42, .ref o44, .int v46, .ref o47])), (o22, .inl (cI, 12, .inl fw23)), (o24, .inl (cI, 12, .inl fw25)), (o17, .inl (cI, 12, .inl fw18))]) := hD
    refine lv_iconst (v := 0) hx hb dX12_go_50 (by decide) ?_
    refine lv_istore_n (lv' := [(2, .int 0), (0, .ref o1), (1, .int a1)]) hx hb dX12_go_51 rfl hl (by decide) rfl (fun ls hl => ?_)
    have L2 : ∀ (N : Nat) (x544 : Int32) (f545 : Nat → Int32) (f546 : Nat → Int32) (H : Heap) (locs : List Loc) (ls : Array Slot), (12 - x544.toInt).toNat < N → Iv 0 12 x544 → Bd 12 0 4095 f545 → Bd 12 0 4095 f546 → va_P (dC, dI) vwCl ([(o1, .inr (12, [.int v2, .ref o3, .int v5, .ref o6, .int v8, .ref o9, .ref o11, .int v13, .ref o14, .int v16, .ref o17, .int v19, .int x2, .int x293, .ref o22, .ref o24, .ref o26, .ref o28, .ref o30, .int v32, .ref o33, .ref o35, .ref o37, .int v39, .ref o40, .ref o42, .ref o44, .int v46, .ref o47])), (o22, .inl (cI, 12, .inl f545)), (o24, .inl (cI, 12, .inl f546)), (o17, .inl (cI, 12, .inl fw18))]) H → va_D A ([(o1, .inr (12, [.int v2, .ref o3, .int v5, .ref o6, .int v8, .ref o9, .ref o11, .int v13, .ref o14, .int v16, .ref o17, .int v19, .int x2, .int x293, .ref o22, .ref o24, .ref o26, .ref o28, .ref o30, .int v32, .ref o33, .ref o35, .ref o37, .int v39, .ref o40, .ref o42, .ref o44, .int v46, .ref o47])), (o22, .inl (cI, 12, .inl f545)), (o24, .inl (cI, 12, .inl f546)), (o17, .inl (cI, 12, .inl fw18))]) → va_S A s.heap H locs → lv_has ls 4 [(2, .int x544), (0, .ref o1), (1, .int a1)] → W p l e ({ frames := 2, cells := 0, slots := 0, locals := 45 }) s m ([.ref o1, .int a1] : List Value).toArray below meth c H locs 0 0 Q (F0 m 52 ls []) := by
      intro N
      induction N with
      | zero =>
        intro x544 f545 f546 H locs ls hM
        exact absurd hM (Nat.not_lt_zero _)
      | succ N ih2 =>
        intro x544 f545 f546 H locs ls hM2 x544_h f545_b f546_b hP hD hS hl
        refine lv_iload_n hx hb dX12_go_52 rfl (lv_at hl 0 rfl) ?_
        refine lv_aload_n hx hb dX12_go_53 rfl (lv_at hl 1 rfl) ?_
        refine va_get (D := (dC, dI)) (ci := 12) (v := .int v5) (C := RX12) (T := TX12) (N := 29) hx hb hts iw_X12_go_X12 hown hK hP 0 rfl rfl 2 (by decide) (hts (.fieldLink RX12 73 "HolelessHouseModel" "n" "I") hm_X12_go_4) (fun _ h9 => h9) rfl dX12_go_54 ?_
        refine lv_icmp_ge (tgt := 131) hx hb dX12_go_57 (by decide) (fun h547 => ?_) (fun h547 => ?_)
        ·
          have qh547 := le_i h547
          refine lv_aload_n hx hb dX12_go_131 rfl (lv_at hl 1 rfl) ?_
          refine va_get (D := (dC, dI)) (ci := 12) (v := .ref o17) (C := RX12) (T := TX12) (N := 29) hx hb hts iw_X12_go_X12 hown hK hP 0 rfl rfl 10 (by decide) (hts (.fieldLink RX12 25 "HolelessHouseModel" "order" "[I") hm_X12_go_6) (fun _ h9 => h9) rfl dX12_go_132 ?_
          refine lv_aload_n hx hb dX12_go_135 rfl (lv_at hl 1 rfl) ?_
          refine va_get (D := (dC, dI)) (ci := 12) (v := .int v19) (C := RX12) (T := TX12) (N := 29) hx hb hts iw_X12_go_X12 hown hK hP 0 rfl rfl 11 (by decide) (hts (.fieldLink RX12 28 "HolelessHouseModel" "ordered" "I") hm_X12_go_7) (fun _ h9 => h9) rfl dX12_go_136 ?_
          refine lv_iload_n hx hb dX12_go_139 rfl (lv_at hl 2 rfl) ?_
          refine k_iast hx hb hK hP hD hS 3 0 rfl rfl (vin_iv v19_h (by decide)) dX12_go_140 (fun f548 H locs f548_e hP hD hS => ?_)
          have f548_b : Bd 12 0 11 f548 := bd_upd f548_e fw18_b a1_h (by decide)
          have hP : va_P (dC, dI) vwCl ([(o1, .inr (12, [.int v2, .ref o3, .int v5, .ref o6, .int v8, .ref o9, .ref o11, .int v13, .ref o14, .int v16, .ref o17, .int v19, .int x2, .int x293, .ref o22, .ref o24, .ref o26, .ref o28, .ref o30, .int v32, .ref o33, .ref o35, .ref o37, .int v39, .ref o40, .ref o42, .ref o44, .int v46, .ref o47])), (o22, .inl (cI, 12, .inl f545)), (o24, .inl (cI, 12, .inl f546)), (o17, .inl (cI, 12, .inl f548))]) H := hP
          have hD : va_D A ([(o1, .inr (12, [.int v2, .ref o3, .int v5, .ref o6, .int v8, .ref o9, .ref o11, .int v13, .ref o14, .int v16, .ref o17, .int v19, .int x2, .int x293, .ref o22, .ref o24, .ref o26, .ref o28, .ref o30, .int v32, .ref o33, .ref o35, .ref o37, .int v39, .ref o40, .ref o42, .ref o44, .int v46, .ref o47])), (o22, .inl (cI, 12, .inl f545)), (o24, .inl (cI, 12, .inl f546)), (o17, .inl (cI, 12, .inl f548))]) := hD
          refine lv_aload_n hx hb dX12_go_141 rfl (lv_at hl 1 rfl) ?_
          refine lv_dup hx hb dX12_go_142 rfl ?_
          refine va_get (D := (dC, dI)) (ci := 12) (v := .int v19) (C := RX12) (T := TX12) (N := 29) hx hb hts iw_X12_go_X12 hown hK hP 0 rfl rfl 11 (by decide) (hts (.fieldLink RX12 28 "HolelessHouseModel" "ordered" "I") hm_X12_go_7) (fun _ h9 => h9) rfl dX12_go_143 ?_
          refine lv_iconst (v := 1) hx hb dX12_go_146 (by decide) ?_
          refine lv_iadd hx hb dX12_go_147 (lv_topi (fun x549 x549_e => ?_))
          have x549_h : Iv 1 12 x549 := iv_e x549_e (iv_add v19_h ik_1 (by decide))
          refine va_put (D := (dC, dI)) (ci := 12) (v := .int x549) (ty := .int) (C := RX12) (T := TX12) (N := 29) hx hb hts iw_X12_go_X12 tyX12 tyX12_ok nmX12 hown hK hP hD hS 0 rfl rfl 11 (by decide) (hts (.fieldLink RX12 28 "HolelessHouseModel" "ordered" "I") hm_X12_go_7) (fun _ h9 => h9) rfl (by decide +kernel) rfl rfl (Nat.le_of_ble_eq_true rfl) dX12_go_148 (fun H locs hP hD hS => ?_)
          have hP : va_P (dC, dI) vwCl ([(o1, .inr (12, [.int v2, .ref o3, .int v5, .ref o6, .int v8, .ref o9, .ref o11, .int v13, .ref o14, .int v16, .ref o17, .int x549, .int x2, .int x293, .ref o22, .ref o24, .ref o26, .ref o28, .ref o30, .int v32, .ref o33, .ref o35, .ref o37, .int v39, .ref o40, .ref o42, .ref o44, .int v46, .ref o47])), (o22, .inl (cI, 12, .inl f545)), (o24, .inl (cI, 12, .inl f546)), (o17, .inl (cI, 12, .inl f548))]) H := hP
          have hD : va_D A ([(o1, .inr (12, [.int v2, .ref o3, .int v5, .ref o6, .int v8, .ref o9, .ref o11, .int v13, .ref o14, .int v16, .ref o17, .int x549, .int x2, .int x293, .ref o22, .ref o24, .ref o26, .ref o28, .ref o30, .int v32, .ref o33, .ref o35, .ref o37, .int v39, .ref o40, .ref o42, .ref o44, .int v46, .ref o47])), (o22, .inl (cI, 12, .inl f545)), (o24, .inl (cI, 12, .inl f546)), (o17, .inl (cI, 12, .inl f548))]) := hD
          rw [hQ]
          exact W.vret hx hb hr (fun t ht hW => ⟨⟨(x549, x2, x293, f545, f546, f548), rfl, ⟨x549_h, f545_b, f546_b, f548_b, (tia x549_e v19_h ik_1 (by decide))⟩, by rw [ht]; exact hP, va_K.moved hW.alike hK, hD⟩, hS.F ht⟩) hS.2.2 dX12_go_151
        ·
          have qh547 := nle_i h547
          have j550 : Iv 0 11 x544 := r_ltl qh547 x544_h v5_h (by decide)
          have j551 : Iv 1 12 v5 := r_ltr qh547 x544_h v5_h (by decide)
          refine lv_aload_n hx hb dX12_go_60 rfl (lv_at hl 1 rfl) ?_
          refine va_get (D := (dC, dI)) (ci := 12) (v := .ref o22) (C := RX12) (T := TX12) (N := 29) hx hb hts iw_X12_go_X12 hown hK hP 0 rfl rfl 14 (by decide) (hts (.fieldLink RX12 32 "HolelessHouseModel" "left" "[I") hm_X12_go_2) (fun _ h9 => h9) rfl dX12_go_61 ?_
          refine lv_iload_n hx hb dX12_go_64 rfl (lv_at hl 2 rfl) ?_
          refine va_iald hx hb hK hP 1 0 rfl rfl (vin_iv a1_h (by decide)) dX12_go_65 (lv_topi (fun x552 x552_e => ?_))
          have x552_h : Iv 0 4095 x552 := iv_e x552_e (bd_at f545_b (vin_iv a1_h (by decide)))
          refine lv_iload_n hx hb dX12_go_66 rfl (lv_at hl 0 rfl) ?_
          refine kc_i (D := (dC, dI)) (S := Unit) (wc := []) (wr := [(o1, .inr (12, [.int v2, .ref o3, .int v5, .ref o6, .int v8, .ref o9, .ref o11, .int v13, .ref o14, .int v16, .ref o17, .int v19, .int x2, .int x293, .ref o22, .ref o24, .ref o26, .ref o28, .ref o30, .int v32, .ref o33, .ref o35, .ref o37, .int v39, .ref o40, .ref o42, .ref o44, .int v46, .ref o47])), (o22, .inl (cI, 12, .inl f545)), (o24, .inl (cI, 12, .inl f546)), (o17, .inl (cI, 12, .inl fw18))]) (w1 := fun _ => []) (wn := fun _ => [(o1, .inr (12, [.int v2, .ref o3, .int v5, .ref o6, .int v8, .ref o9, .ref o11, .int v13, .ref o14, .int v16, .ref o17, .int v19, .int x2, .int x293, .ref o22, .ref o24, .ref o26, .ref o28, .ref o30, .int v32, .ref o33, .ref o35, .ref o37, .int v39, .ref o40, .ref o42, .ref o44, .int v46, .ref o47])), (o22, .inl (cI, 12, .inl f545)), (o24, .inl (cI, 12, .inl f546)), (o17, .inl (cI, 12, .inl fw18))]) (fun hPc hDc => va_runS (As := [.int x552, .int x544]) (rest := []) ⟨hx, hb, hml, hown, hts⟩ (kX12_has_1 l dC dI cI c2 cZ x552 x544 H.size (iv_w j550 (by decide))) (va_cwS 2 hts gX12_go_X12_has rfl rfl rfl (by decide +kernel) ⟨Nat.le_of_ble_eq_true rfl, Nat.le_of_ble_eq_true rfl⟩) (pre_S hPc hK hDc hN) rfl rfl hl.1 rfl (lv_room (Nat.le_of_ble_eq_true rfl)) dX12_go_67 ⟨Nat.le_of_ble_eq_true rfl, Nat.le_of_ble_eq_true rfl⟩) hP hD hS hA [] [0, 1, 2, 3] [0, 1, 2, 3] rfl rfl (by decide +kernel) (by decide +kernel) (by decide +kernel) (by decide +kernel) (fun _ => rfl) (fun x553 _ H locs hq hP hD hS => ?_)
          obtain ⟨x553_h, e554⟩ := hq
          have hP : va_P (dC, dI) vwCl ([(o1, .inr (12, [.int v2, .ref o3, .int v5, .ref o6, .int v8, .ref o9, .ref o11, .int v13, .ref o14, .int v16, .ref o17, .int v19, .int x2, .int x293, .ref o22, .ref o24, .ref o26, .ref o28, .ref o30, .int v32, .ref o33, .ref o35, .ref o37, .int v39, .ref o40, .ref o42, .ref o44, .int v46, .ref o47])), (o22, .inl (cI, 12, .inl f545)), (o24, .inl (cI, 12, .inl f546)), (o17, .inl (cI, 12, .inl fw18))]) H := hP
          have hD : va_D A ([(o1, .inr (12, [.int v2, .ref o3, .int v5, .ref o6, .int v8, .ref o9, .ref o11, .int v13, .ref o14, .int v16, .ref o17, .int v19, .int x2, .int x293, .ref o22, .ref o24, .ref o26, .ref o28, .ref o30, .int v32, .ref o33, .ref o35, .ref o37, .int v39, .ref o40, .ref o42, .ref o44, .int v46, .ref o47])), (o22, .inl (cI, 12, .inl f545)), (o24, .inl (cI, 12, .inl f546)), (o17, .inl (cI, 12, .inl fw18))]) := hD
          refine lv_if_eq (tgt := 125) hx hb dX12_go_70 (by decide) (fun h555 => ?_) (fun h555 => ?_)
          ·
            have j556 : Iv 0 0 x553 := r_eq h555 ik_0
            have b557 : bt x552 (Int32.toNatClampNeg x544) = false := has_f e554 h555
            obtain ⟨x558, x558_e⟩ : ∃ z : Int32, z = x544 + 1 := ⟨_, rfl⟩
            have x558_h : Iv 1 12 x558 := iv_e x558_e (iv_add j550 ik_1 (by decide))
            refine lv_iinc (v := x558) (lv' := [(2, .int x558), (0, .ref o1), (1, .int a1)]) hx hb dX12_go_125 hl (k := 0) rfl (incN (by decide +kernel) x558_e) (by decide) rfl (fun ls hl => ?_)
            refine lv_goto (tgt := 52) hx hb dX12_go_128 (by decide) ?_
            exact ih2 x558 f545 f546 _ _ _ (ms_up x558_e j550 (by decide) hM2) (iv_w x558_h (by decide)) f545_b f546_b hP hD hS hl
          ·
            have j559 : Iv 1 1 x553 := r_nelo h555 x553_h ik_0 (by decide)
            have b560 : bt x552 (Int32.toNatClampNeg x544) = true := has_t e554 h555
            refine lv_aload_n hx hb dX12_go_73 rfl (lv_at hl 1 rfl) ?_
            refine va_get (D := (dC, dI)) (ci := 12) (v := .ref o22) (C := RX12) (T := TX12) (N := 29) hx hb hts iw_X12_go_X12 hown hK hP 0 rfl rfl 14 (by decide) (hts (.fieldLink RX12 32 "HolelessHouseModel" "left" "[I") hm_X12_go_2) (fun _ h9 => h9) rfl dX12_go_74 ?_
            refine lv_iload_n hx hb dX12_go_77 rfl (lv_at hl 2 rfl) ?_
            refine va_iald hx hb hK hP 1 0 rfl rfl (vin_iv a1_h (by decide)) dX12_go_78 (lv_topi (fun x561 x561_e => ?_))
            have x561_h : Iv 0 4095 x561 := iv_e x561_e (bd_at f545_b (vin_iv a1_h (by decide)))
            refine lv_aload_n hx hb dX12_go_79 rfl (lv_at hl 1 rfl) ?_
            refine va_get (D := (dC, dI)) (ci := 12) (v := .ref o22) (C := RX12) (T := TX12) (N := 29) hx hb hts iw_X12_go_X12 hown hK hP 0 rfl rfl 14 (by decide) (hts (.fieldLink RX12 32 "HolelessHouseModel" "left" "[I") hm_X12_go_2) (fun _ h9 => h9) rfl dX12_go_80 ?_
            refine lv_iload_n hx hb dX12_go_83 rfl (lv_at hl 0 rfl) ?_
            refine va_iald hx hb hK hP 1 0 rfl rfl (vin_iv j550 (by decide)) dX12_go_84 (lv_topi (fun x562 x562_e => ?_))
            have x562_h : Iv 0 4095 x562 := iv_e x562_e (bd_at f545_b (vin_iv j550 (by decide)))
            refine lv_iconst (v := (-1)) hx hb dX12_go_85 (by decide) ?_
            refine lv_ixor hx hb dX12_go_86 (lv_topi (fun x563 x563_e => ?_))
            refine lv_iand hx hb dX12_go_87 (lv_topi (fun x564 x564_e => ?_))
            have x564_h : Iv 0 4095 x564 := iv_e x564_e (iv_andL _ x561_h (by decide))
            refine lv_iconst (v := 1) hx hb dX12_go_88 (by decide) ?_
            refine lv_iload_n hx hb dX12_go_89 rfl (lv_at hl 0 rfl) ?_
            refine lv_ishl hx hb dX12_go_90 (lv_topi (fun x565 x565_e => ?_))
            have x565_h : Iv 1 2048 x565 := iv_e x565_e (iv_shl1 j550 (by decide))
            refine lv_iconst (v := (-1)) hx hb dX12_go_91 (by decide) ?_
            refine lv_ixor hx hb dX12_go_92 (lv_topi (fun x566 x566_e => ?_))
            refine lv_iand hx hb dX12_go_93 (lv_topi (fun x567 x567_e => ?_))
            have x567_h : Iv 0 4095 x567 := iv_e x567_e (iv_andL _ x564_h (by decide))
            refine lv_istore_n (lv' := [(3, .int x567), (2, .int x544), (0, .ref o1), (1, .int a1)]) hx hb dX12_go_94 rfl hl (by decide) rfl (fun ls hl => ?_)
            refine lv_aload_n hx hb dX12_go_95 rfl (lv_at hl 2 rfl) ?_
            refine va_get (D := (dC, dI)) (ci := 12) (v := .ref o24) (C := RX12) (T := TX12) (N := 29) hx hb hts iw_X12_go_X12 hown hK hP 0 rfl rfl 15 (by decide) (hts (.fieldLink RX12 35 "HolelessHouseModel" "joins" "[I") hm_X12_go_5) (fun _ h9 => h9) rfl dX12_go_96 ?_
            refine lv_iload_n hx hb dX12_go_99 rfl (lv_at hl 1 rfl) ?_
            refine lv_dup2_11 hx hb dX12_go_100 rfl rfl ?_
            refine va_iald hx hb hK hP 2 0 rfl rfl (vin_iv j550 (by decide)) dX12_go_101 (lv_topi (fun x568 x568_e => ?_))
            have x568_h : Iv 0 4095 x568 := iv_e x568_e (bd_at f546_b (vin_iv j550 (by decide)))
            refine lv_iload_n hx hb dX12_go_102 rfl (lv_at hl 0 rfl) ?_
            refine lv_ior hx hb dX12_go_103 (lv_topi (fun x569 x569_e => ?_))
            have x569_h : Iv 0 4095 x569 := iv_e x569_e (iv_or 12 x568_h x567_h (by decide))
            refine k_iast hx hb hK hP hD hS 2 0 rfl rfl (vin_iv j550 (by decide)) dX12_go_104 (fun f570 H locs f570_e hP hD hS => ?_)
            have f570_b : Bd 12 0 4095 f570 := bd_upd f570_e f546_b x569_h (by decide)
            have hP : va_P (dC, dI) vwCl ([(o1, .inr (12, [.int v2, .ref o3, .int v5, .ref o6, .int v8, .ref o9, .ref o11, .int v13, .ref o14, .int v16, .ref o17, .int v19, .int x2, .int x293, .ref o22, .ref o24, .ref o26, .ref o28, .ref o30, .int v32, .ref o33, .ref o35, .ref o37, .int v39, .ref o40, .ref o42, .ref o44, .int v46, .ref o47])), (o22, .inl (cI, 12, .inl f545)), (o24, .inl (cI, 12, .inl f570)), (o17, .inl (cI, 12, .inl fw18))]) H := hP
            have hD : va_D A ([(o1, .inr (12, [.int v2, .ref o3, .int v5, .ref o6, .int v8, .ref o9, .ref o11, .int v13, .ref o14, .int v16, .ref o17, .int v19, .int x2, .int x293, .ref o22, .ref o24, .ref o26, .ref o28, .ref o30, .int v32, .ref o33, .ref o35, .ref o37, .int v39, .ref o40, .ref o42, .ref o44, .int v46, .ref o47])), (o22, .inl (cI, 12, .inl f545)), (o24, .inl (cI, 12, .inl f570)), (o17, .inl (cI, 12, .inl fw18))]) := hD
            refine lv_aload_n hx hb dX12_go_105 rfl (lv_at hl 2 rfl) ?_
            refine va_get (D := (dC, dI)) (ci := 12) (v := .ref o22) (C := RX12) (T := TX12) (N := 29) hx hb hts iw_X12_go_X12 hown hK hP 0 rfl rfl 14 (by decide) (hts (.fieldLink RX12 32 "HolelessHouseModel" "left" "[I") hm_X12_go_2) (fun _ h9 => h9) rfl dX12_go_106 ?_
            refine lv_iload_n hx hb dX12_go_109 rfl (lv_at hl 1 rfl) ?_
            refine lv_aload_n hx hb dX12_go_110 rfl (lv_at hl 2 rfl) ?_
            refine va_get (D := (dC, dI)) (ci := 12) (v := .ref o22) (C := RX12) (T := TX12) (N := 29) hx hb hts iw_X12_go_X12 hown hK hP 0 rfl rfl 14 (by decide) (hts (.fieldLink RX12 32 "HolelessHouseModel" "left" "[I") hm_X12_go_2) (fun _ h9 => h9) rfl dX12_go_111 ?_
            refine lv_iload_n hx hb dX12_go_114 rfl (lv_at hl 1 rfl) ?_
            refine va_iald hx hb hK hP 1 0 rfl rfl (vin_iv j550 (by decide)) dX12_go_115 (lv_topi (fun x571 x571_e => ?_))
            have x571_h : Iv 0 4095 x571 := iv_e x571_e (bd_at f545_b (vin_iv j550 (by decide)))
            refine lv_iload_n hx hb dX12_go_116 rfl (lv_at hl 0 rfl) ?_
            refine lv_ior hx hb dX12_go_117 (lv_topi (fun x572 x572_e => ?_))
            have x572_h : Iv 0 4095 x572 := iv_e x572_e (iv_or 12 x571_h x567_h (by decide))
            refine lv_iconst (v := 1) hx hb dX12_go_118 (by decide) ?_
            refine lv_iload_n hx hb dX12_go_119 rfl (lv_at hl 3 rfl) ?_
            refine lv_ishl hx hb dX12_go_120 (lv_topi (fun x573 x573_e => ?_))
            have x573_h : Iv 1 2048 x573 := iv_e x573_e (iv_shl1 a1_h (by decide))
            refine lv_iconst (v := (-1)) hx hb dX12_go_121 (by decide) ?_
            refine lv_ixor hx hb dX12_go_122 (lv_topi (fun x574 x574_e => ?_))
            refine lv_iand hx hb dX12_go_123 (lv_topi (fun x575 x575_e => ?_))
            have x575_h : Iv 0 4095 x575 := iv_e x575_e (iv_andL _ x572_h (by decide))
            refine k_iast hx hb hK hP hD hS 1 0 rfl rfl (vin_iv j550 (by decide)) dX12_go_124 (fun f576 H locs f576_e hP hD hS => ?_)
            have f576_b : Bd 12 0 4095 f576 := bd_upd f576_e f545_b x575_h (by decide)
            have hP : va_P (dC, dI) vwCl ([(o1, .inr (12, [.int v2, .ref o3, .int v5, .ref o6, .int v8, .ref o9, .ref o11, .int v13, .ref o14, .int v16, .ref o17, .int v19, .int x2, .int x293, .ref o22, .ref o24, .ref o26, .ref o28, .ref o30, .int v32, .ref o33, .ref o35, .ref o37, .int v39, .ref o40, .ref o42, .ref o44, .int v46, .ref o47])), (o22, .inl (cI, 12, .inl f576)), (o24, .inl (cI, 12, .inl f570)), (o17, .inl (cI, 12, .inl fw18))]) H := hP
            have hD : va_D A ([(o1, .inr (12, [.int v2, .ref o3, .int v5, .ref o6, .int v8, .ref o9, .ref o11, .int v13, .ref o14, .int v16, .ref o17, .int v19, .int x2, .int x293, .ref o22, .ref o24, .ref o26, .ref o28, .ref o30, .int v32, .ref o33, .ref o35, .ref o37, .int v39, .ref o40, .ref o42, .ref o44, .int v46, .ref o47])), (o22, .inl (cI, 12, .inl f576)), (o24, .inl (cI, 12, .inl f570)), (o17, .inl (cI, 12, .inl fw18))]) := hD
            obtain ⟨x577, x577_e⟩ : ∃ z : Int32, z = x544 + 1 := ⟨_, rfl⟩
            have x577_h : Iv 1 12 x577 := iv_e x577_e (iv_add j550 ik_1 (by decide))
            refine lv_iinc (v := x577) (lv' := [(2, .int x577), (3, .int x567), (0, .ref o1), (1, .int a1)]) hx hb dX12_go_125 hl (k := 1) rfl (incN (by decide +kernel) x577_e) (by decide) rfl (fun ls hl => ?_)
            refine lv_goto (tgt := 52) hx hb dX12_go_128 (by decide) ?_
            exact ih2 x577 f576 f570 _ _ _ (ms_up x577_e j550 (by decide) hM2) (iv_w x577_h (by decide)) f576_b f570_b hP hD hS (lv_sub hl [0, 2, 3] rfl)
    exact L2 _ 0 fw23 fw25 _ _ _ (Nat.lt_succ_self _) (iv_w ik_0 (by decide)) fw23_b fw25_b hP hD hS hl
