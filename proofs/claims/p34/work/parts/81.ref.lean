theorem hm_X12_tree_1 : (.fieldLink RX12 164 "HolelessHouseModel" "cliqueMany" "I" : Cond) ∈ wsX12_tree := List.mem_of_getElem? (i := 1) rfl
theorem hm_X12_tree_2 : (.fieldLink RX12 51 "HolelessHouseModel" "parents" "[I" : Cond) ∈ wsX12_tree := List.mem_of_getElem? (i := 2) rfl
theorem hm_X12_tree_3 : (.fieldLink RX12 45 "HolelessHouseModel" "cliques" "[I" : Cond) ∈ wsX12_tree := List.mem_of_getElem? (i := 3) rfl
theorem hm_X12_reach_1 : (.fieldLink RX12 73 "HolelessHouseModel" "n" "I" : Cond) ∈ wsX12_reach := List.mem_of_getElem? (i := 1) rfl
theorem hm_X12_reach_2 : (.fieldLink RX12 13 "HolelessHouseModel" "near" "[I" : Cond) ∈ wsX12_reach := List.mem_of_getElem? (i := 2) rfl
theorem hm_X12_isPart_1 : (.fieldLink RX12 73 "HolelessHouseModel" "n" "I" : Cond) ∈ wsX12_isPart := List.mem_of_getElem? (i := 1) rfl
theorem hm_X12_part_1 : (.fieldLink RX12 13 "HolelessHouseModel" "near" "[I" : Cond) ∈ wsX12_part := List.mem_of_getElem? (i := 1) rfl
theorem hm_X12_isWell_1 : (.fieldLink RX12 191 "HolelessHouseModel" "thingMany" "I" : Cond) ∈ wsX12_isWell := List.mem_of_getElem? (i := 1) rfl
theorem hm_X12_isWell_2 : (.fieldLink RX12 54 "HolelessHouseModel" "things" "[I" : Cond) ∈ wsX12_isWell := List.mem_of_getElem? (i := 2) rfl
theorem hm_X12_setLine_1 : (.fieldLink RX12 191 "HolelessHouseModel" "thingMany" "I" : Cond) ∈ wsX12_setLine := List.mem_of_getElem? (i := 1) rfl
theorem hm_X12_setLine_4 : (.fieldLink RX12 197 "HolelessHouseModel" "lined" "I" : Cond) ∈ wsX12_setLine := List.mem_of_getElem? (i := 4) rfl
theorem hm_X12_setLine_3 : (.fieldLink RX12 57 "HolelessHouseModel" "can" "[Z" : Cond) ∈ wsX12_setLine := List.mem_of_getElem? (i := 3) rfl
theorem hm_X12_setLine_5 : (.fieldLink RX12 64 "HolelessHouseModel" "line" "[I" : Cond) ∈ wsX12_setLine := List.mem_of_getElem? (i := 5) rfl
theorem hm_X12_setLine_2 : (.fieldLink RX12 61 "HolelessHouseModel" "counts" "[I" : Cond) ∈ wsX12_setLine := List.mem_of_getElem? (i := 2) rfl
theorem iw_X12_tree_X12 : ∀ w ∈ wsX120, w ∈ wsX12_tree := fun _ h => List.mem_cons.mpr (Or.inr (List.mem_append.mpr (Or.inr h)))
set_option maxHeartbeats 4000000 in
set_option maxRecDepth 100000 in
theorem kX12_tree_1 (l : Launch) (dC : Nat → ClassId) (dI : Nat → Nat → Nat) (cI c2 cZ : ClassId) (o1 : Nat) (o3 : Nat) (o6 : Nat) (o9 : Nat) (o11 : Nat) (o14 : Nat) (o17 : Nat) (o22 : Nat) (o24 : Nat) (o26 : Nat) (o28 : Nat) (o30 : Nat) (o33 : Nat) (o35 : Nat) (o37 : Nat) (o40 : Nat) (o42 : Nat) (o44 : Nat) (o47 : Nat) (v2 : Int32) (v5 : Int32) (fw7 : Nat → Int32) (v8 : Int32) (v13 : Int32) (v16 : Int32) (v19 : Int32) (v20 : Int32) (v21 : Int32) (fw31 : Nat → Int32) (v32 : Int32) (fw36 : Nat → Int32) (v39 : Int32) (v46 : Int32) (a1 : Int32) (a2 : Int32) (sz : Nat) (v5_h : Iv 0 12 v5) (fw7_b : Bd 12 0 4095 fw7) (v8_h : Iv 0 8 v8) (v13_h : Iv 0 12 v13) (v16_h : Iv 0 12 v16) (v19_h : Iv (-9) 12 v19) (fw31_b : Bd 100 0 4095 fw31) (v32_h : Iv 0 99 v32) (fw36_b : Bd 100 (-9) 99 fw36) (v39_h : Iv 0 12 v39) (v46_h : Iv 0 12 v46) : Met l yX12_tree wsX12_tree ({ frames := 4, cells := 0, slots := 0, locals := 88 }) (va_Pc [.ref o1, .int a1, .int a2] (wPre (dC, dI) [(cI, .int), (c2, .array .int), (cZ, .boolean)] ([(o1, .inr (12, [.int v2, .ref o3, .int v5, .ref o6, .int v8, .ref o9, .ref o11, .int v13, .ref o14, .int v16, .ref o17, .int v19, .int v20, .int v21, .ref o22, .ref o24, .ref o26, .ref o28, .ref o30, .int v32, .ref o33, .ref o35, .ref o37, .int v39, .ref o40, .ref o42, .ref o44, .int v46, .ref o47])), (o6, .inl (cI, 12, .inl fw7)), (o30, .inl (cI, 100, .inl fw31)), (o35, .inl (cI, 100, .inl fw36))]) sz)) (va_Qi (fun (r : Int32) (u : Int32 × (Nat → Int32) × (Nat → Int32)) => Iv (-9) 4095 r ∧ Iv 0 99 u.1 ∧ Bd 100 0 4095 u.2.1 ∧ Bd 100 (-9) 99 u.2.2) (fun u t => wPost (dC, dI) [(cI, .int), (c2, .array .int), (cZ, .boolean)] (va_A ([(o1, .inr (12, [.int v2, .ref o3, .int v5, .ref o6, .int v8, .ref o9, .ref o11, .int v13, .ref o14, .int v16, .ref o17, .int v19, .int v20, .int v21, .ref o22, .ref o24, .ref o26, .ref o28, .ref o30, .int v32, .ref o33, .ref o35, .ref o37, .int v39, .ref o40, .ref o42, .ref o44, .int v46, .ref o47])), (o6, .inl (cI, 12, .inl fw7)), (o30, .inl (cI, 100, .inl fw31)), (o35, .inl (cI, 100, .inl fw36))]) sz) ([(o1, .inr (12, [.int v2, .ref o3, .int v5, .ref o6, .int v8, .ref o9, .ref o11, .int v13, .ref o14, .int v16, .ref o17, .int v19, .int v20, .int v21, .ref o22, .ref o24, .ref o26, .ref o28, .ref o30, .int u.1, .ref o33, .ref o35, .ref o37, .int v39, .ref o40, .ref o42, .ref o44, .int v46, .ref o47])), (o6, .inl (cI, 12, .inl fw7)), (o30, .inl (cI, 100, .inl u.2.1)), (o35, .inl (cI, 100, .inl u.2.2))]) t) (va_A ([(o1, .inr (12, [.int v2, .ref o3, .int v5, .ref o6, .int v8, .ref o9, .ref o11, .int v13, .ref o14, .int v16, .ref o17, .int v19, .int v20, .int v21, .ref o22, .ref o24, .ref o26, .ref o28, .ref o30, .int v32, .ref o33, .ref o35, .ref o37, .int v39, .ref o40, .ref o42, .ref o44, .int v46, .ref o47])), (o6, .inl (cI, 12, .inl fw7)), (o30, .inl (cI, 100, .inl fw31)), (o35, .inl (cI, 100, .inl fw36))]) sz)) 0 0 (va_A ([(o1, .inr (12, [.int v2, .ref o3, .int v5, .ref o6, .int v8, .ref o9, .ref o11, .int v13, .ref o14, .int v16, .ref o17, .int v19, .int v20, .int v21, .ref o22, .ref o24, .ref o26, .ref o28, .ref o30, .int v32, .ref o33, .ref o35, .ref o37, .int v39, .ref o40, .ref o42, .ref o44, .int v46, .ref o47])), (o6, .inl (cI, 12, .inl fw7)), (o30, .inl (cI, 100, .inl fw31)), (o35, .inl (cI, 100, .inl fw36))]) sz) := by
  refine Met.ofW (cc := cX12_tree) (maxL := 3) (ret := (some .int)) (by decide) rfl ?_
  intro p e s m args below meth c s₁ B hml hv
  obtain ⟨rfl, hsz, hP, hK, hD0, hN⟩ := hv
  have hx := B.exec
  have hb := B.bytes
  have hr := B.returns
  have hts := atoms_spec (ws := wsX12_tree) B.pre
  have hown : s.vm.findClass RX12 = some m.cls := findClass_of_methodNamed B.named
  have hlocks := B.notSynchronized
  subst hsz
  have hD := hD0.self (sz := s.heap.size)
  generalize hAe : va_A ([(o1, .inr (12, [.int v2, .ref o3, .int v5, .ref o6, .int v8, .ref o9, .ref o11, .int v13, .ref o14, .int v16, .ref o17, .int v19, .int v20, .int v21, .ref o22, .ref o24, .ref o26, .ref o28, .ref o30, .int v32, .ref o33, .ref o35, .ref o37, .int v39, .ref o40, .ref o42, .ref o44, .int v46, .ref o47])), (o6, .inl (cI, 12, .inl fw7)), (o30, .inl (cI, 100, .inl fw31)), (o35, .inl (cI, 100, .inl fw36))]) s.heap.size = A at hD ⊢
  have hA : ∀ q : Nat, s.heap.size ≤ q → A q := fun q h => by rw [← hAe]; exact Or.inr h
  have hS : va_S A s.heap s.heap [] := va_S.rf
  have hP : va_P (dC, dI) vwCl ([(o1, .inr (12, [.int v2, .ref o3, .int v5, .ref o6, .int v8, .ref o9, .ref o11, .int v13, .ref o14, .int v16, .ref o17, .int v19, .int v20, .int v21, .ref o22, .ref o24, .ref o26, .ref o28, .ref o30, .int v32, .ref o33, .ref o35, .ref o37, .int v39, .ref o40, .ref o42, .ref o44, .int v46, .ref o47])), (o6, .inl (cI, 12, .inl fw7)), (o30, .inl (cI, 100, .inl fw31)), (o35, .inl (cI, 100, .inl fw36))]) s.heap := hP
  have hl := lv_entry ([.ref o1, .int a1, .int a2]) (n := 3) (Nat.le_of_ble_eq_true rfl)
  rw [lg_entry_eq]
  generalize (lg_sl ([.ref o1, .int a1, .int a2]) ++ List.replicate (3 - (lg_sl ([.ref o1, .int a1, .int a2])).length) Slot.unset).toArray = ls at hl ⊢
  have hl : lv_has ls 3 [(0, .ref o1), (1, .int a1), (2, .int a2)] := hl
  refine gen_Q (fun Q hQ => ?_)
  refine lv_aload_n hx hb dX12_tree_0 rfl (lv_at hl 0 rfl) ?_
  refine kc_v (D := (dC, dI)) (S := Int32 × (Nat → Int32)) (wc := [(o1, .inr (12, [.int v2, .ref o3, .int v5, .ref o6, .int v8, .ref o9, .ref o11, .int v13, .ref o14, .int v16, .ref o17, .int v19, .int v20, .int v21, .ref o22, .ref o24, .ref o26, .ref o28, .ref o30, .int v32, .ref o33, .ref o35, .ref o37, .int v39, .ref o40, .ref o42, .ref o44, .int v46, .ref o47])), (o6, .inl (cI, 12, .inl fw7)), (o30, .inl (cI, 100, .inl fw31))]) (wr := [(o35, .inl (cI, 100, .inl fw36))]) (w1 := fun u => [(o1, .inr (12, [.int v2, .ref o3, .int v5, .ref o6, .int v8, .ref o9, .ref o11, .int v13, .ref o14, .int v16, .ref o17, .int v19, .int v20, .int v21, .ref o22, .ref o24, .ref o26, .ref o28, .ref o30, .int u.1, .ref o33, .ref o35, .ref o37, .int v39, .ref o40, .ref o42, .ref o44, .int v46, .ref o47])), (o6, .inl (cI, 12, .inl fw7)), (o30, .inl (cI, 100, .inl u.2))]) (wn := fun u => [(o1, .inr (12, [.int v2, .ref o3, .int v5, .ref o6, .int v8, .ref o9, .ref o11, .int v13, .ref o14, .int v16, .ref o17, .int v19, .int v20, .int v21, .ref o22, .ref o24, .ref o26, .ref o28, .ref o30, .int u.1, .ref o33, .ref o35, .ref o37, .int v39, .ref o40, .ref o42, .ref o44, .int v46, .ref o47])), (o6, .inl (cI, 12, .inl fw7)), (o30, .inl (cI, 100, .inl u.2)), (o35, .inl (cI, 100, .inl fw36))]) (fun hPc hDc => va_runV (As := []) (rest := []) ⟨hx, hb, hml, hown, hts⟩ (kX12_setCliques_1 l dC dI cI c2 cZ o1 o3 o6 o9 o11 o14 o17 o22 o24 o26 o28 o30 o33 o35 o37 o40 o42 o44 o47 v2 v5 fw7 v8 v13 v16 v19 v20 v21 fw31 v32 v39 v46 s.heap.size v5_h fw7_b v8_h v13_h v16_h v19_h fw31_b v32_h v39_h v46_h) (cwV 0 hts gX12_tree_X12_setCliques rfl rfl rfl (by decide +kernel) ⟨Nat.le_of_ble_eq_true rfl, Nat.le_of_ble_eq_true rfl⟩) (pre_V hPc hK hDc hN (ci := 12) (q0 := 0) rfl rfl) rfl rfl hl.1 rfl (lv_room (Nat.le_of_ble_eq_true rfl)) dX12_tree_1 ⟨Nat.le_of_ble_eq_true rfl, Nat.le_of_ble_eq_true rfl⟩) hP hD hS hA [0, 1, 2] [3] [1, 2, 3, 0] rfl rfl (by decide +kernel) (by decide +kernel) (by decide +kernel) (by decide +kernel) (fun _ => rfl) (fun u H locs hq hP hD hS => ?_)
  obtain ⟨y1, f2⟩ := u
  obtain ⟨y1_h, f2_b, e3⟩ := hq
  have y1_h : Iv 0 99 y1 := y1_h
  have f2_b : Bd 100 0 4095 f2 := f2_b
  have e3 : CL fw7 (Int32.toNatClampNeg v5) f2 (Int32.toNatClampNeg y1) 4096 := e3
  have hP : va_P (dC, dI) vwCl ([(o1, .inr (12, [.int v2, .ref o3, .int v5, .ref o6, .int v8, .ref o9, .ref o11, .int v13, .ref o14, .int v16, .ref o17, .int v19, .int v20, .int v21, .ref o22, .ref o24, .ref o26, .ref o28, .ref o30, .int y1, .ref o33, .ref o35, .ref o37, .int v39, .ref o40, .ref o42, .ref o44, .int v46, .ref o47])), (o6, .inl (cI, 12, .inl fw7)), (o30, .inl (cI, 100, .inl f2)), (o35, .inl (cI, 100, .inl fw36))]) H := hP
  have hD : va_D A ([(o1, .inr (12, [.int v2, .ref o3, .int v5, .ref o6, .int v8, .ref o9, .ref o11, .int v13, .ref o14, .int v16, .ref o17, .int v19, .int v20, .int v21, .ref o22, .ref o24, .ref o26, .ref o28, .ref o30, .int y1, .ref o33, .ref o35, .ref o37, .int v39, .ref o40, .ref o42, .ref o44, .int v46, .ref o47])), (o6, .inl (cI, 12, .inl fw7)), (o30, .inl (cI, 100, .inl f2)), (o35, .inl (cI, 100, .inl fw36))]) := hD
  refine lv_iload_n hx hb dX12_tree_4 rfl (lv_at hl 1 rfl) ?_
  refine lv_iconst (v := 0) hx hb dX12_tree_5 (by decide) ?_
  refine lv_aload_n hx hb dX12_tree_6 rfl (lv_at hl 0 rfl) ?_
  refine va_get (D := (dC, dI)) (ci := 12) (v := .int y1) (C := RX12) (T := TX12) (N := 29) hx hb hts iw_X12_tree_X12 hown hK hP 0 rfl rfl 19 (by decide) (hts (.fieldLink RX12 164 "HolelessHouseModel" "cliqueMany" "I") hm_X12_tree_1) (fun _ h9 => h9) rfl dX12_tree_7 ?_
  refine lv_iconst (v := 1) hx hb dX12_tree_10 (by decide) ?_
  refine lv_isub hx hb dX12_tree_11 (lv_topi (fun x4 x4_e => ?_))
  have x4_h : Iv (-1) 98 x4 := iv_e x4_e (iv_sub y1_h ik_1 (by decide))
  refine kc_i (D := (dC, dI)) (S := Unit) (wc := []) (wr := [(o1, .inr (12, [.int v2, .ref o3, .int v5, .ref o6, .int v8, .ref o9, .ref o11, .int v13, .ref o14, .int v16, .ref o17, .int v19, .int v20, .int v21, .ref o22, .ref o24, .ref o26, .ref o28, .ref o30, .int y1, .ref o33, .ref o35, .ref o37, .int v39, .ref o40, .ref o42, .ref o44, .int v46, .ref o47])), (o6, .inl (cI, 12, .inl fw7)), (o30, .inl (cI, 100, .inl f2)), (o35, .inl (cI, 100, .inl fw36))]) (w1 := fun _ => []) (wn := fun _ => [(o1, .inr (12, [.int v2, .ref o3, .int v5, .ref o6, .int v8, .ref o9, .ref o11, .int v13, .ref o14, .int v16, .ref o17, .int v19, .int v20, .int v21, .ref o22, .ref o24, .ref o26, .ref o28, .ref o30, .int y1, .ref o33, .ref o35, .ref o37, .int v39, .ref o40, .ref o42, .ref o44, .int v46, .ref o47])), (o6, .inl (cI, 12, .inl fw7)), (o30, .inl (cI, 100, .inl f2)), (o35, .inl (cI, 100, .inl fw36))]) (fun hPc hDc => va_runS (As := [.int a1, .int 0, .int x4]) (rest := []) ⟨hx, hb, hml, hown, hts⟩ (kX12_in_7 l dC dI cI c2 cZ a1 0 x4 H.size ik_0 x4_h) (va_cwS 3 hts gX12_tree_X12_in rfl rfl rfl (by decide +kernel) ⟨Nat.le_of_ble_eq_true rfl, Nat.le_of_ble_eq_true rfl⟩) (pre_S hPc hK hDc hN) rfl rfl hl.1 rfl (lv_room (Nat.le_of_ble_eq_true rfl)) dX12_tree_12 ⟨Nat.le_of_ble_eq_true rfl, Nat.le_of_ble_eq_true rfl⟩) hP hD hS hA [] [0, 1, 2, 3] [0, 1, 2, 3] rfl rfl (by decide +kernel) (by decide +kernel) (by decide +kernel) (by decide +kernel) (fun _ => rfl) (fun x5 _ H locs hq hP hD hS => ?_)
  obtain ⟨x5_h, i6, i7, e8⟩ := hq
  have hP : va_P (dC, dI) vwCl ([(o1, .inr (12, [.int v2, .ref o3, .int v5, .ref o6, .int v8, .ref o9, .ref o11, .int v13, .ref o14, .int v16, .ref o17, .int v19, .int v20, .int v21, .ref o22, .ref o24, .ref o26, .ref o28, .ref o30, .int y1, .ref o33, .ref o35, .ref o37, .int v39, .ref o40, .ref o42, .ref o44, .int v46, .ref o47])), (o6, .inl (cI, 12, .inl fw7)), (o30, .inl (cI, 100, .inl f2)), (o35, .inl (cI, 100, .inl fw36))]) H := hP
  have hD : va_D A ([(o1, .inr (12, [.int v2, .ref o3, .int v5, .ref o6, .int v8, .ref o9, .ref o11, .int v13, .ref o14, .int v16, .ref o17, .int v19, .int v20, .int v21, .ref o22, .ref o24, .ref o26, .ref o28, .ref o30, .int y1, .ref o33, .ref o35, .ref o37, .int v39, .ref o40, .ref o42, .ref o44, .int v46, .ref o47])), (o6, .inl (cI, 12, .inl fw7)), (o30, .inl (cI, 100, .inl f2)), (o35, .inl (cI, 100, .inl fw36))]) := hD
  refine lv_if_eq (tgt := 27) hx hb dX12_tree_15 (by decide) (fun h9 => ?_) (fun h9 => ?_)
  ·
    have j10 : Iv 0 0 x5 := r_eq h9 ik_0
    refine lv_iconst (v := (-1)) hx hb dX12_tree_27 (by decide) ?_
    rw [hQ]
    exact W.iret (v := (-1)) hx hb hr (fun t ht hW => ⟨⟨(-1), (y1, f2, fw36), rfl, ⟨(iv_w ikm_1 (by decide)), y1_h, f2_b, fw36_b⟩, by rw [ht]; exact hP, va_K.moved hW.alike hK, hD⟩, hS.F ht⟩) hS.2.2 dX12_tree_28
  ·
    have j11 : Iv 1 1 x5 := r_nelo h9 x5_h ik_0 (by decide)
    have j12 : Iv 0 98 a1 := i6 h9
    have j13 : Iv 0 98 x4 := i7 h9
    have j14 : Iv 1 99 y1 := ivb_sub x4_e y1_h ik_1 j13 (by decide)
    refine lv_iload_n hx hb dX12_tree_18 rfl (lv_at hl 2 rfl) ?_
    refine lv_iconst (v := 0) hx hb dX12_tree_19 (by decide) ?_
    refine lv_iconst (v := 1) hx hb dX12_tree_20 (by decide) ?_
    refine kc_i (D := (dC, dI)) (S := Unit) (wc := []) (wr := [(o1, .inr (12, [.int v2, .ref o3, .int v5, .ref o6, .int v8, .ref o9, .ref o11, .int v13, .ref o14, .int v16, .ref o17, .int v19, .int v20, .int v21, .ref o22, .ref o24, .ref o26, .ref o28, .ref o30, .int y1, .ref o33, .ref o35, .ref o37, .int v39, .ref o40, .ref o42, .ref o44, .int v46, .ref o47])), (o6, .inl (cI, 12, .inl fw7)), (o30, .inl (cI, 100, .inl f2)), (o35, .inl (cI, 100, .inl fw36))]) (w1 := fun _ => []) (wn := fun _ => [(o1, .inr (12, [.int v2, .ref o3, .int v5, .ref o6, .int v8, .ref o9, .ref o11, .int v13, .ref o14, .int v16, .ref o17, .int v19, .int v20, .int v21, .ref o22, .ref o24, .ref o26, .ref o28, .ref o30, .int y1, .ref o33, .ref o35, .ref o37, .int v39, .ref o40, .ref o42, .ref o44, .int v46, .ref o47])), (o6, .inl (cI, 12, .inl fw7)), (o30, .inl (cI, 100, .inl f2)), (o35, .inl (cI, 100, .inl fw36))]) (fun hPc hDc => va_runS (As := [.int a2, .int 0, .int 1]) (rest := []) ⟨hx, hb, hml, hown, hts⟩ (kX12_in_5 l dC dI cI c2 cZ a2 0 1 H.size ik_0 ik_1) (va_cwS 3 hts gX12_tree_X12_in rfl rfl rfl (by decide +kernel) ⟨Nat.le_of_ble_eq_true rfl, Nat.le_of_ble_eq_true rfl⟩) (pre_S hPc hK hDc hN) rfl rfl hl.1 rfl (lv_room (Nat.le_of_ble_eq_true rfl)) dX12_tree_21 ⟨Nat.le_of_ble_eq_true rfl, Nat.le_of_ble_eq_true rfl⟩) hP hD hS hA [] [0, 1, 2, 3] [0, 1, 2, 3] rfl rfl (by decide +kernel) (by decide +kernel) (by decide +kernel) (by decide +kernel) (fun _ => rfl) (fun x15 _ H locs hq hP hD hS => ?_)
    obtain ⟨x15_h, i16, e17⟩ := hq
    have hP : va_P (dC, dI) vwCl ([(o1, .inr (12, [.int v2, .ref o3, .int v5, .ref o6, .int v8, .ref o9, .ref o11, .int v13, .ref o14, .int v16, .ref o17, .int v19, .int v20, .int v21, .ref o22, .ref o24, .ref o26, .ref o28, .ref o30, .int y1, .ref o33, .ref o35, .ref o37, .int v39, .ref o40, .ref o42, .ref o44, .int v46, .ref o47])), (o6, .inl (cI, 12, .inl fw7)), (o30, .inl (cI, 100, .inl f2)), (o35, .inl (cI, 100, .inl fw36))]) H := hP
    have hD : va_D A ([(o1, .inr (12, [.int v2, .ref o3, .int v5, .ref o6, .int v8, .ref o9, .ref o11, .int v13, .ref o14, .int v16, .ref o17, .int v19, .int v20, .int v21, .ref o22, .ref o24, .ref o26, .ref o28, .ref o30, .int y1, .ref o33, .ref o35, .ref o37, .int v39, .ref o40, .ref o42, .ref o44, .int v46, .ref o47])), (o6, .inl (cI, 12, .inl fw7)), (o30, .inl (cI, 100, .inl f2)), (o35, .inl (cI, 100, .inl fw36))]) := hD
    refine lv_if_ne (tgt := 29) hx hb dX12_tree_24 (by decide) (fun h18 => ?_) (fun h18 => ?_)
    ·
      have j19 : Iv 1 1 x15 := r_nelo h18 x15_h ik_0 (by decide)
      have j20 : Iv 0 1 a2 := i16 h18
      refine lv_aload_n hx hb dX12_tree_29 rfl (lv_at hl 0 rfl) ?_
      refine kc_i (D := (dC, dI)) (S := Unit) (wc := [(o1, .inr (12, [.int v2, .ref o3, .int v5, .ref o6, .int v8, .ref o9, .ref o11, .int v13, .ref o14, .int v16, .ref o17, .int v19, .int v20, .int v21, .ref o22, .ref o24, .ref o26, .ref o28, .ref o30, .int y1, .ref o33, .ref o35, .ref o37, .int v39, .ref o40, .ref o42, .ref o44, .int v46, .ref o47])), (o6, .inl (cI, 12, .inl fw7))]) (wr := [(o30, .inl (cI, 100, .inl f2)), (o35, .inl (cI, 100, .inl fw36))]) (w1 := fun _ => [(o1, .inr (12, [.int v2, .ref o3, .int v5, .ref o6, .int v8, .ref o9, .ref o11, .int v13, .ref o14, .int v16, .ref o17, .int v19, .int v20, .int v21, .ref o22, .ref o24, .ref o26, .ref o28, .ref o30, .int y1, .ref o33, .ref o35, .ref o37, .int v39, .ref o40, .ref o42, .ref o44, .int v46, .ref o47])), (o6, .inl (cI, 12, .inl fw7))]) (wn := fun _ => [(o1, .inr (12, [.int v2, .ref o3, .int v5, .ref o6, .int v8, .ref o9, .ref o11, .int v13, .ref o14, .int v16, .ref o17, .int v19, .int v20, .int v21, .ref o22, .ref o24, .ref o26, .ref o28, .ref o30, .int y1, .ref o33, .ref o35, .ref o37, .int v39, .ref o40, .ref o42, .ref o44, .int v46, .ref o47])), (o6, .inl (cI, 12, .inl fw7)), (o30, .inl (cI, 100, .inl f2)), (o35, .inl (cI, 100, .inl fw36))]) (fun hPc hDc => va_runV (As := []) (rest := []) ⟨hx, hb, hml, hown, hts⟩ (kX12_isSound_1 l dC dI cI c2 cZ o1 o3 o6 o9 o11 o14 o17 o22 o24 o26 o28 o30 o33 o35 o37 o40 o42 o44 o47 v2 v5 fw7 v8 v13 v16 v19 v20 v21 y1 v39 v46 H.size v5_h fw7_b v8_h v13_h v16_h v19_h (iv_w j14 (by decide)) v39_h v46_h) (cwV 0 hts gX12_tree_X12_isSound rfl rfl rfl (by decide +kernel) ⟨Nat.le_of_ble_eq_true rfl, Nat.le_of_ble_eq_true rfl⟩) (pre_V hPc hK hDc hN (ci := 12) (q0 := 0) rfl rfl) rfl rfl hl.1 rfl (lv_room (Nat.le_of_ble_eq_true rfl)) dX12_tree_30 ⟨Nat.le_of_ble_eq_true rfl, Nat.le_of_ble_eq_true rfl⟩) hP hD hS hA [0, 1] [2, 3] [2, 3, 0, 1] rfl rfl (by decide +kernel) (by decide +kernel) (by decide +kernel) (by decide +kernel) (fun _ => rfl) (fun x21 _ H locs hq hP hD hS => ?_)
      obtain ⟨x21_h, e22⟩ := hq
      have hP : va_P (dC, dI) vwCl ([(o1, .inr (12, [.int v2, .ref o3, .int v5, .ref o6, .int v8, .ref o9, .ref o11, .int v13, .ref o14, .int v16, .ref o17, .int v19, .int v20, .int v21, .ref o22, .ref o24, .ref o26, .ref o28, .ref o30, .int y1, .ref o33, .ref o35, .ref o37, .int v39, .ref o40, .ref o42, .ref o44, .int v46, .ref o47])), (o6, .inl (cI, 12, .inl fw7)), (o30, .inl (cI, 100, .inl f2)), (o35, .inl (cI, 100, .inl fw36))]) H := hP
      have hD : va_D A ([(o1, .inr (12, [.int v2, .ref o3, .int v5, .ref o6, .int v8, .ref o9, .ref o11, .int v13, .ref o14, .int v16, .ref o17, .int v19, .int v20, .int v21, .ref o22, .ref o24, .ref o26, .ref o28, .ref o30, .int y1, .ref o33, .ref o35, .ref o37, .int v39, .ref o40, .ref o42, .ref o44, .int v46, .ref o47])), (o6, .inl (cI, 12, .inl fw7)), (o30, .inl (cI, 100, .inl f2)), (o35, .inl (cI, 100, .inl fw36))]) := hD
      refine lv_if_ne (tgt := 39) hx hb dX12_tree_33 (by decide) (fun h23 => ?_) (fun h23 => ?_)
      ·
        have j24 : Iv 1 1 x21 := r_nelo h23 x21_h ik_0 (by decide)
        have j25 : Iv 0 12 y1 := CL_12 e3 (e22 h23) (cl_b v5_h (by decide)) j14 (by decide)
        refine lv_aload_n hx hb dX12_tree_39 rfl (lv_at hl 0 rfl) ?_
        refine kc_v (D := (dC, dI)) (S := (Nat → Int32)) (wc := [(o1, .inr (12, [.int v2, .ref o3, .int v5, .ref o6, .int v8, .ref o9, .ref o11, .int v13, .ref o14, .int v16, .ref o17, .int v19, .int v20, .int v21, .ref o22, .ref o24, .ref o26, .ref o28, .ref o30, .int y1, .ref o33, .ref o35, .ref o37, .int v39, .ref o40, .ref o42, .ref o44, .int v46, .ref o47])), (o35, .inl (cI, 100, .inl fw36)), (o30, .inl (cI, 100, .inl f2))]) (wr := [(o6, .inl (cI, 12, .inl fw7))]) (w1 := fun u => [(o1, .inr (12, [.int v2, .ref o3, .int v5, .ref o6, .int v8, .ref o9, .ref o11, .int v13, .ref o14, .int v16, .ref o17, .int v19, .int v20, .int v21, .ref o22, .ref o24, .ref o26, .ref o28, .ref o30, .int y1, .ref o33, .ref o35, .ref o37, .int v39, .ref o40, .ref o42, .ref o44, .int v46, .ref o47])), (o35, .inl (cI, 100, .inl u)), (o30, .inl (cI, 100, .inl f2))]) (wn := fun u => [(o1, .inr (12, [.int v2, .ref o3, .int v5, .ref o6, .int v8, .ref o9, .ref o11, .int v13, .ref o14, .int v16, .ref o17, .int v19, .int v20, .int v21, .ref o22, .ref o24, .ref o26, .ref o28, .ref o30, .int y1, .ref o33, .ref o35, .ref o37, .int v39, .ref o40, .ref o42, .ref o44, .int v46, .ref o47])), (o6, .inl (cI, 12, .inl fw7)), (o30, .inl (cI, 100, .inl f2)), (o35, .inl (cI, 100, .inl u))]) (fun hPc hDc => va_runV (As := []) (rest := []) ⟨hx, hb, hml, hown, hts⟩ (kX12_setTree_1 l dC dI cI c2 cZ o1 o3 o6 o9 o11 o14 o17 o22 o24 o26 o28 o30 o33 o35 o37 o40 o42 o44 o47 v2 v5 v8 v13 v16 v19 v20 v21 f2 y1 fw36 v39 v46 H.size v5_h v8_h v13_h v16_h v19_h f2_b j25 fw36_b v39_h v46_h) (cwV 0 hts gX12_tree_X12_setTree rfl rfl rfl (by decide +kernel) ⟨Nat.le_of_ble_eq_true rfl, Nat.le_of_ble_eq_true rfl⟩) (pre_V hPc hK hDc hN (ci := 12) (q0 := 0) rfl rfl) rfl rfl hl.1 rfl (lv_room (Nat.le_of_ble_eq_true rfl)) dX12_tree_40 ⟨Nat.le_of_ble_eq_true rfl, Nat.le_of_ble_eq_true rfl⟩) hP hD hS hA [0, 3, 2] [1] [1, 0, 3, 2] rfl rfl (by decide +kernel) (by decide +kernel) (by decide +kernel) (by decide +kernel) (fun _ => rfl) (fun f26 H locs hq hP hD hS => ?_)
        have f26_b := hq
        have hP : va_P (dC, dI) vwCl ([(o1, .inr (12, [.int v2, .ref o3, .int v5, .ref o6, .int v8, .ref o9, .ref o11, .int v13, .ref o14, .int v16, .ref o17, .int v19, .int v20, .int v21, .ref o22, .ref o24, .ref o26, .ref o28, .ref o30, .int y1, .ref o33, .ref o35, .ref o37, .int v39, .ref o40, .ref o42, .ref o44, .int v46, .ref o47])), (o6, .inl (cI, 12, .inl fw7)), (o30, .inl (cI, 100, .inl f2)), (o35, .inl (cI, 100, .inl f26))]) H := hP
        have hD : va_D A ([(o1, .inr (12, [.int v2, .ref o3, .int v5, .ref o6, .int v8, .ref o9, .ref o11, .int v13, .ref o14, .int v16, .ref o17, .int v19, .int v20, .int v21, .ref o22, .ref o24, .ref o26, .ref o28, .ref o30, .int y1, .ref o33, .ref o35, .ref o37, .int v39, .ref o40, .ref o42, .ref o44, .int v46, .ref o47])), (o6, .inl (cI, 12, .inl fw7)), (o30, .inl (cI, 100, .inl f2)), (o35, .inl (cI, 100, .inl f26))]) := hD
        refine lv_iload_n hx hb dX12_tree_43 rfl (lv_at hl 2 rfl) ?_
        refine lv_if_ne (tgt := 56) hx hb dX12_tree_44 (by decide) (fun h27 => ?_) (fun h27 => ?_)
        ·
          have j28 : Iv 1 1 a2 := r_nelo h27 j20 ik_0 (by decide)
          refine lv_aload_n hx hb dX12_tree_56 rfl (lv_at hl 0 rfl) ?_
          refine va_get (D := (dC, dI)) (ci := 12) (v := .ref o35) (C := RX12) (T := TX12) (N := 29) hx hb hts iw_X12_tree_X12 hown hK hP 0 rfl rfl 21 (by decide) (hts (.fieldLink RX12 51 "HolelessHouseModel" "parents" "[I") hm_X12_tree_2) (fun _ h9 => h9) rfl dX12_tree_57 ?_
          refine lv_iload_n hx hb dX12_tree_60 rfl (lv_at hl 1 rfl) ?_
          refine va_iald hx hb hK hP 3 0 rfl rfl (vin_iv j12 (by decide)) dX12_tree_61 (lv_topi (fun x29 x29_e => ?_))
          have x29_h : Iv (-9) 99 x29 := iv_e x29_e (bd_at f26_b (vin_iv j12 (by decide)))
          refine lv_if_ge (tgt := 69) hx hb dX12_tree_62 (by decide) (fun h30 => ?_) (fun h30 => ?_)
          ·
            have qh30 := le_i h30
            have j31 : Iv 0 99 x29 := r_ler qh30 ik_0 x29_h (by decide)
            refine lv_aload_n hx hb dX12_tree_69 rfl (lv_at hl 0 rfl) ?_
            refine va_get (D := (dC, dI)) (ci := 12) (v := .ref o30) (C := RX12) (T := TX12) (N := 29) hx hb hts iw_X12_tree_X12 hown hK hP 0 rfl rfl 18 (by decide) (hts (.fieldLink RX12 45 "HolelessHouseModel" "cliques" "[I") hm_X12_tree_3) (fun _ h9 => h9) rfl dX12_tree_70 ?_
            refine lv_iload_n hx hb dX12_tree_73 rfl (lv_at hl 1 rfl) ?_
            refine va_iald hx hb hK hP 2 0 rfl rfl (vin_iv j12 (by decide)) dX12_tree_74 (lv_topi (fun x32 x32_e => ?_))
            have x32_h : Iv 0 4095 x32 := iv_e x32_e (bd_at f2_b (vin_iv j12 (by decide)))
            refine lv_aload_n hx hb dX12_tree_75 rfl (lv_at hl 0 rfl) ?_
            refine va_get (D := (dC, dI)) (ci := 12) (v := .ref o30) (C := RX12) (T := TX12) (N := 29) hx hb hts iw_X12_tree_X12 hown hK hP 0 rfl rfl 18 (by decide) (hts (.fieldLink RX12 45 "HolelessHouseModel" "cliques" "[I") hm_X12_tree_3) (fun _ h9 => h9) rfl dX12_tree_76 ?_
            refine lv_aload_n hx hb dX12_tree_79 rfl (lv_at hl 0 rfl) ?_
            refine va_get (D := (dC, dI)) (ci := 12) (v := .ref o35) (C := RX12) (T := TX12) (N := 29) hx hb hts iw_X12_tree_X12 hown hK hP 0 rfl rfl 21 (by decide) (hts (.fieldLink RX12 51 "HolelessHouseModel" "parents" "[I") hm_X12_tree_2) (fun _ h9 => h9) rfl dX12_tree_80 ?_
            refine lv_iload_n hx hb dX12_tree_83 rfl (lv_at hl 1 rfl) ?_
            refine va_iald hx hb hK hP 3 0 rfl rfl (vin_iv j12 (by decide)) dX12_tree_84 (lv_topi (fun x33 x33_e => ?_))
            have x33_h : Iv 0 99 x33 := iv_e (x33_e.trans x29_e.symm) j31
            refine va_iald hx hb hK hP 2 0 rfl rfl (vin_iv x33_h (by decide)) dX12_tree_85 (lv_topi (fun x34 x34_e => ?_))
            have x34_h : Iv 0 4095 x34 := iv_e x34_e (bd_at f2_b (vin_iv x33_h (by decide)))
            refine lv_iand hx hb dX12_tree_86 (lv_topi (fun x35 x35_e => ?_))
            have x35_h : Iv 0 4095 x35 := iv_e x35_e (iv_andL _ x32_h (by decide))
            rw [hQ]
            exact W.iret (v := x35) hx hb hr (fun t ht hW => ⟨⟨x35, (y1, f2, f26), rfl, ⟨(iv_w x35_h (by decide)), (iv_w j25 (by decide)), f2_b, f26_b⟩, by rw [ht]; exact hP, va_K.moved hW.alike hK, hD⟩, hS.F ht⟩) hS.2.2 dX12_tree_87
          ·
            have qh30 := nle_i h30
            have j36 : Iv (-9) (-1) x29 := r_ltl qh30 x29_h ik_0 (by decide)
            refine lv_iconst (v := 0) hx hb dX12_tree_65 (by decide) ?_
            refine lv_goto (tgt := 87) hx hb dX12_tree_66 (by decide) ?_
            rw [hQ]
            exact W.iret (v := 0) hx hb hr (fun t ht hW => ⟨⟨0, (y1, f2, f26), rfl, ⟨(iv_w ik_0 (by decide)), (iv_w j25 (by decide)), f2_b, f26_b⟩, by rw [ht]; exact hP, va_K.moved hW.alike hK, hD⟩, hS.F ht⟩) hS.2.2 dX12_tree_87
        ·
          have j37 : Iv 0 0 a2 := r_eq h27 ik_0
          refine lv_aload_n hx hb dX12_tree_47 rfl (lv_at hl 0 rfl) ?_
          refine va_get (D := (dC, dI)) (ci := 12) (v := .ref o35) (C := RX12) (T := TX12) (N := 29) hx hb hts iw_X12_tree_X12 hown hK hP 0 rfl rfl 21 (by decide) (hts (.fieldLink RX12 51 "HolelessHouseModel" "parents" "[I") hm_X12_tree_2) (fun _ h9 => h9) rfl dX12_tree_48 ?_
          refine lv_iload_n hx hb dX12_tree_51 rfl (lv_at hl 1 rfl) ?_
          refine va_iald hx hb hK hP 3 0 rfl rfl (vin_iv j12 (by decide)) dX12_tree_52 (lv_topi (fun x38 x38_e => ?_))
          have x38_h : Iv (-9) 99 x38 := iv_e x38_e (bd_at f26_b (vin_iv j12 (by decide)))
          refine lv_goto (tgt := 87) hx hb dX12_tree_53 (by decide) ?_
          rw [hQ]
          exact W.iret (v := x38) hx hb hr (fun t ht hW => ⟨⟨x38, (y1, f2, f26), rfl, ⟨(iv_w x38_h (by decide)), (iv_w j25 (by decide)), f2_b, f26_b⟩, by rw [ht]; exact hP, va_K.moved hW.alike hK, hD⟩, hS.F ht⟩) hS.2.2 dX12_tree_87
      ·
        have j39 : Iv 0 0 x21 := r_eq h23 ik_0
        refine lv_bipush (v := (-4)) hx hb dX12_tree_36 (by decide) ?_
        rw [hQ]
        exact W.iret (v := (-4)) hx hb hr (fun t ht hW => ⟨⟨(-4), (y1, f2, fw36), rfl, ⟨(iv_w ikm_4 (by decide)), (iv_w j14 (by decide)), f2_b, fw36_b⟩, by rw [ht]; exact hP, va_K.moved hW.alike hK, hD⟩, hS.F ht⟩) hS.2.2 dX12_tree_38
    ·
      have j40 : Iv 0 0 x15 := r_eq h18 ik_0
      refine lv_iconst (v := (-1)) hx hb dX12_tree_27 (by decide) ?_
      rw [hQ]
      exact W.iret (v := (-1)) hx hb hr (fun t ht hW => ⟨⟨(-1), (y1, f2, fw36), rfl, ⟨(iv_w ikm_1 (by decide)), (iv_w j14 (by decide)), f2_b, fw36_b⟩, by rw [ht]; exact hP, va_K.moved hW.alike hK, hD⟩, hS.F ht⟩) hS.2.2 dX12_tree_28
theorem iw_X12_reach_X12 : ∀ w ∈ wsX120, w ∈ wsX12_reach := fun _ h => List.mem_cons.mpr (Or.inr (List.mem_append.mpr (Or.inr h)))
set_option maxHeartbeats 4000000 in
set_option maxRecDepth 100000 in
theorem kX12_reach_1 (l : Launch) (dC : Nat → ClassId) (dI : Nat → Nat → Nat) (cI c2 cZ : ClassId) (o1 : Nat) (o3 : Nat) (o6 : Nat) (o9 : Nat) (o11 : Nat) (o14 : Nat) (o17 : Nat) (o22 : Nat) (o24 : Nat) (o26 : Nat) (o28 : Nat) (o30 : Nat) (o33 : Nat) (o35 : Nat) (o37 : Nat) (o40 : Nat) (o42 : Nat) (o44 : Nat) (o47 : Nat) (v2 : Int32) (v5 : Int32) (fw7 : Nat → Int32) (v8 : Int32) (v13 : Int32) (v16 : Int32) (v19 : Int32) (v20 : Int32) (v21 : Int32) (v32 : Int32) (v39 : Int32) (v46 : Int32) (a1 : Int32) (a2 : Int32) (sz : Nat) (v5_h : Iv 0 12 v5) (fw7_b : Bd 12 0 4095 fw7) (v8_h : Iv 0 8 v8) (v13_h : Iv 0 12 v13) (v16_h : Iv 0 12 v16) (v19_h : Iv (-9) 12 v19) (v32_h : Iv 0 99 v32) (v39_h : Iv 0 12 v39) (v46_h : Iv 0 12 v46) (a1_h : Iv 0 11 a1) (a2_h : Iv 0 4095 a2) : Met l yX12_reach wsX12_reach ({ frames := 1, cells := 0, slots := 0, locals := 21 }) (va_Pc [.ref o1, .int a1, .int a2] (wPre (dC, dI) [(cI, .int), (c2, .array .int), (cZ, .boolean)] ([(o1, .inr (12, [.int v2, .ref o3, .int v5, .ref o6, .int v8, .ref o9, .ref o11, .int v13, .ref o14, .int v16, .ref o17, .int v19, .int v20, .int v21, .ref o22, .ref o24, .ref o26, .ref o28, .ref o30, .int v32, .ref o33, .ref o35, .ref o37, .int v39, .ref o40, .ref o42, .ref o44, .int v46, .ref o47])), (o6, .inl (cI, 12, .inl fw7))]) sz)) (va_Qi (fun (r : Int32) (_ : Unit) => Iv 0 4095 r) (fun _ t => wPost (dC, dI) [(cI, .int), (c2, .array .int), (cZ, .boolean)] (va_A ([(o1, .inr (12, [.int v2, .ref o3, .int v5, .ref o6, .int v8, .ref o9, .ref o11, .int v13, .ref o14, .int v16, .ref o17, .int v19, .int v20, .int v21, .ref o22, .ref o24, .ref o26, .ref o28, .ref o30, .int v32, .ref o33, .ref o35, .ref o37, .int v39, .ref o40, .ref o42, .ref o44, .int v46, .ref o47])), (o6, .inl (cI, 12, .inl fw7))]) sz) ([(o1, .inr (12, [.int v2, .ref o3, .int v5, .ref o6, .int v8, .ref o9, .ref o11, .int v13, .ref o14, .int v16, .ref o17, .int v19, .int v20, .int v21, .ref o22, .ref o24, .ref o26, .ref o28, .ref o30, .int v32, .ref o33, .ref o35, .ref o37, .int v39, .ref o40, .ref o42, .ref o44, .int v46, .ref o47])), (o6, .inl (cI, 12, .inl fw7))]) t) (va_A ([(o1, .inr (12, [.int v2, .ref o3, .int v5, .ref o6, .int v8, .ref o9, .ref o11, .int v13, .ref o14, .int v16, .ref o17, .int v19, .int v20, .int v21, .ref o22, .ref o24, .ref o26, .ref o28, .ref o30, .int v32, .ref o33, .ref o35, .ref o37, .int v39, .ref o40, .ref o42, .ref o44, .int v46, .ref o47])), (o6, .inl (cI, 12, .inl fw7))]) sz)) 0 0 (va_A ([(o1, .inr (12, [.int v2, .ref o3, .int v5, .ref o6, .int v8, .ref o9, .ref o11, .int v13, .ref o14, .int v16, .ref o17, .int v19, .int v20, .int v21, .ref o22, .ref o24, .ref o26, .ref o28, .ref o30, .int v32, .ref o33, .ref o35, .ref o37, .int v39, .ref o40, .ref o42, .ref o44, .int v46, .ref o47])), (o6, .inl (cI, 12, .inl fw7))]) sz) := by
  refine Met.ofW (cc := cX12_reach) (maxL := 7) (ret := (some .int)) (by decide) rfl ?_
  intro p e s m args below meth c s₁ B hml hv
  obtain ⟨rfl, hsz, hP, hK, hD0, hN⟩ := hv
  have hx := B.exec
  have hb := B.bytes
  have hr := B.returns
  have hts := atoms_spec (ws := wsX12_reach) B.pre
  have hown : s.vm.findClass RX12 = some m.cls := findClass_of_methodNamed B.named
  have hlocks := B.notSynchronized
  subst hsz
  have hD := hD0.self (sz := s.heap.size)
  generalize hAe : va_A ([(o1, .inr (12, [.int v2, .ref o3, .int v5, .ref o6, .int v8, .ref o9, .ref o11, .int v13, .ref o14, .int v16, .ref o17, .int v19, .int v20, .int v21, .ref o22, .ref o24, .ref o26, .ref o28, .ref o30, .int v32, .ref o33, .ref o35, .ref o37, .int v39, .ref o40, .ref o42, .ref o44, .int v46, .ref o47])), (o6, .inl (cI, 12, .inl fw7))]) s.heap.size = A at hD ⊢
  have hA : ∀ q : Nat, s.heap.size ≤ q → A q := fun q h => by rw [← hAe]; exact Or.inr h
  have hS : va_S A s.heap s.heap [] := va_S.rf
  have hP : va_P (dC, dI) vwCl ([(o1, .inr (12, [.int v2, .ref o3, .int v5, .ref o6, .int v8, .ref o9, .ref o11, .int v13, .ref o14, .int v16, .ref o17, .int v19, .int v20, .int v21, .ref o22, .ref o24, .ref o26, .ref o28, .ref o30, .int v32, .ref o33, .ref o35, .ref o37, .int v39, .ref o40, .ref o42, .ref o44, .int v46, .ref o47])), (o6, .inl (cI, 12, .inl fw7))]) s.heap := hP
  have hl := lv_entry ([.ref o1, .int a1, .int a2]) (n := 7) (Nat.le_of_ble_eq_true rfl)
  rw [lg_entry_eq]
  generalize (lg_sl ([.ref o1, .int a1, .int a2]) ++ List.replicate (7 - (lg_sl ([.ref o1, .int a1, .int a2])).length) Slot.unset).toArray = ls at hl ⊢
  have hl : lv_has ls 7 [(0, .ref o1), (1, .int a1), (2, .int a2)] := hl
  refine gen_Q (fun Q hQ => ?_)
  refine lv_iconst (v := 1) hx hb dX12_reach_0 (by decide) ?_
  refine lv_iload_n hx hb dX12_reach_1 rfl (lv_at hl 1 rfl) ?_
  refine lv_ishl hx hb dX12_reach_2 (lv_topi (fun x1 x1_e => ?_))
  have x1_h : Iv 1 2048 x1 := iv_e x1_e (iv_shl1 a1_h (by decide))
  refine lv_istore_n (lv' := [(3, .int x1), (0, .ref o1), (1, .int a1), (2, .int a2)]) hx hb dX12_reach_3 rfl hl (by decide) rfl (fun ls hl => ?_)
  refine lv_iconst (v := 1) hx hb dX12_reach_4 (by decide) ?_
  refine lv_istore (lv' := [(4, .int 1), (3, .int x1), (0, .ref o1), (1, .int a1), (2, .int a2)]) hx hb dX12_reach_5 hl (by decide) rfl (fun ls hl => ?_)
  have L3 : ∀ (N : Nat) (x344 : Int32) (x345 : Int32) (H : Heap) (locs : List Loc) (ls : Array Slot), (2 * (4095 - Int32.toInt x345) + Int32.toInt x344).toNat < N → Iv 0 1 x344 → Iv 0 4095 x345 → va_P (dC, dI) vwCl ([(o1, .inr (12, [.int v2, .ref o3, .int v5, .ref o6, .int v8, .ref o9, .ref o11, .int v13, .ref o14, .int v16, .ref o17, .int v19, .int v20, .int v21, .ref o22, .ref o24, .ref o26, .ref o28, .ref o30, .int v32, .ref o33, .ref o35, .ref o37, .int v39, .ref o40, .ref o42, .ref o44, .int v46, .ref o47])), (o6, .inl (cI, 12, .inl fw7))]) H → va_D A ([(o1, .inr (12, [.int v2, .ref o3, .int v5, .ref o6, .int v8, .ref o9, .ref o11, .int v13, .ref o14, .int v16, .ref o17, .int v19, .int v20, .int v21, .ref o22, .ref o24, .ref o26, .ref o28, .ref o30, .int v32, .ref o33, .ref o35, .ref o37, .int v39, .ref o40, .ref o42, .ref o44, .int v46, .ref o47])), (o6, .inl (cI, 12, .inl fw7))]) → va_S A s.heap H locs → lv_has ls 7 [(4, .int x344), (3, .int x345), (0, .ref o1), (1, .int a1), (2, .int a2)] → W p l e ({ frames := 1, cells := 0, slots := 0, locals := 21 }) s m ([.ref o1, .int a1, .int a2] : List Value).toArray below meth c H locs 0 0 Q (F0 m 7 ls []) := by
    intro N
    induction N with
    | zero =>
      intro x344 x345 H locs ls hM
      exact absurd hM (Nat.not_lt_zero _)
    | succ N ih3 =>
      intro x344 x345 H locs ls hM3 x344_h x345_h hP hD hS hl
      refine lv_iload hx hb dX12_reach_7 (lv_at hl 0 rfl) ?_
      refine lv_if_eq (tgt := 81) hx hb dX12_reach_9 (by decide) (fun h346 => ?_) (fun h346 => ?_)
      ·
        have j347 : Iv 0 0 x344 := r_eq h346 ik_0
        refine lv_iload_n hx hb dX12_reach_81 rfl (lv_at hl 1 rfl) ?_
        rw [hQ]
        exact W.iret (v := x345) hx hb hr (fun t ht hW => ⟨⟨x345, (), rfl, x345_h, by rw [ht]; exact hP, va_K.moved hW.alike hK, hD⟩, hS.F ht⟩) hS.2.2 dX12_reach_82
      ·
        have j348 : Iv 1 1 x344 := r_nelo h346 x344_h ik_0 (by decide)
        refine lv_iload_n hx hb dX12_reach_12 rfl (lv_at hl 1 rfl) ?_
        refine lv_istore (lv' := [(5, .int x345), (4, .int x344), (3, .int x345), (0, .ref o1), (1, .int a1), (2, .int a2)]) hx hb dX12_reach_13 hl (by decide) rfl (fun ls hl => ?_)
        refine lv_iconst (v := 0) hx hb dX12_reach_15 (by decide) ?_
        refine lv_istore (lv' := [(6, .int 0), (5, .int x345), (4, .int x344), (3, .int x345), (0, .ref o1), (1, .int a1), (2, .int a2)]) hx hb dX12_reach_16 hl (by decide) rfl (fun ls hl => ?_)
        have L4 : ∀ (N : Nat) (x497 : Int32) (x498 : Int32) (H : Heap) (locs : List Loc) (ls : Array Slot), (12 - x497.toInt).toNat < N → Iv 0 12 x497 → Iv 0 4095 x498 → Int32.toInt x345 ≤ Int32.toInt x498 → va_P (dC, dI) vwCl ([(o1, .inr (12, [.int v2, .ref o3, .int v5, .ref o6, .int v8, .ref o9, .ref o11, .int v13, .ref o14, .int v16, .ref o17, .int v19, .int v20, .int v21, .ref o22, .ref o24, .ref o26, .ref o28, .ref o30, .int v32, .ref o33, .ref o35, .ref o37, .int v39, .ref o40, .ref o42, .ref o44, .int v46, .ref o47])), (o6, .inl (cI, 12, .inl fw7))]) H → va_D A ([(o1, .inr (12, [.int v2, .ref o3, .int v5, .ref o6, .int v8, .ref o9, .ref o11, .int v13, .ref o14, .int v16, .ref o17, .int v19, .int v20, .int v21, .ref o22, .ref o24, .ref o26, .ref o28, .ref o30, .int v32, .ref o33, .ref o35, .ref o37, .int v39, .ref o40, .ref o42, .ref o44, .int v46, .ref o47])), (o6, .inl (cI, 12, .inl fw7))]) → va_S A s.heap H locs → lv_has ls 7 [(6, .int x497), (5, .int x498), (4, .int x344), (3, .int x345), (0, .ref o1), (1, .int a1), (2, .int a2)] → W p l e ({ frames := 1, cells := 0, slots := 0, locals := 21 }) s m ([.ref o1, .int a1, .int a2] : List Value).toArray below meth c H locs 0 0 Q (F0 m 18 ls []) := by
          intro N
          induction N with
          | zero =>
            intro x497 x498 H locs ls hM
            exact absurd hM (Nat.not_lt_zero _)
          | succ N ih4 =>
            intro x497 x498 H locs ls hM4 x497_h x498_h rl4_0 hP hD hS hl
            refine lv_iload hx hb dX12_reach_18 (lv_at hl 0 rfl) ?_
            refine lv_aload_n hx hb dX12_reach_20 rfl (lv_at hl 4 rfl) ?_
            refine va_get (D := (dC, dI)) (ci := 12) (v := .int v5) (C := RX12) (T := TX12) (N := 29) hx hb hts iw_X12_reach_X12 hown hK hP 0 rfl rfl 2 (by decide) (hts (.fieldLink RX12 73 "HolelessHouseModel" "n" "I") hm_X12_reach_1) (fun _ h9 => h9) rfl dX12_reach_21 ?_
            refine lv_icmp_ge (tgt := 62) hx hb dX12_reach_24 (by decide) (fun h499 => ?_) (fun h499 => ?_)
            ·
              have qh499 := le_i h499
              refine lv_iload hx hb dX12_reach_62 (lv_at hl 1 rfl) ?_
              refine lv_iload_n hx hb dX12_reach_64 rfl (lv_at hl 3 rfl) ?_
              refine lv_icmp_eq (tgt := 72) hx hb dX12_reach_65 (by decide) (fun h500 => ?_) (fun h500 => ?_)
              ·
                refine lv_iconst (v := 0) hx hb dX12_reach_72 (by decide) ?_
                refine lv_istore (lv' := [(4, .int 0), (6, .int x497), (5, .int x498), (3, .int x345), (0, .ref o1), (1, .int a1), (2, .int a2)]) hx hb dX12_reach_73 hl (by decide) rfl (fun ls hl => ?_)
                refine lv_iload hx hb dX12_reach_75 (lv_at hl 2 rfl) ?_
                refine lv_istore_n (lv' := [(3, .int x498), (4, .int 0), (6, .int x497), (5, .int x498), (0, .ref o1), (1, .int a1), (2, .int a2)]) hx hb dX12_reach_77 rfl hl (by decide) rfl (fun ls hl => ?_)
                refine lv_goto (tgt := 7) hx hb dX12_reach_78 (by decide) ?_
                exact ih3 0 x498 _ _ _ (by have a0 := rl4_0; have a1 := (show _ ≤ _ ∧ _ ≤ _ from j348); have a2 := (show _ ≤ _ ∧ _ ≤ _ from x345_h); have a3 := (show _ ≤ _ ∧ _ ≤ _ from x498_h); have a4 := (show Int32.toInt 0 = 0 by decide +kernel); have a5 := hM3; omega) (iv_w ik_0 (by decide)) x498_h hP hD hS (lv_sub hl [1, 0, 4, 5, 6] rfl)
              ·
                refine lv_iconst (v := 1) hx hb dX12_reach_68 (by decide) ?_
                refine lv_goto (tgt := 73) hx hb dX12_reach_69 (by decide) ?_
                refine lv_istore (lv' := [(4, .int 1), (6, .int x497), (5, .int x498), (3, .int x345), (0, .ref o1), (1, .int a1), (2, .int a2)]) hx hb dX12_reach_73 hl (by decide) rfl (fun ls hl => ?_)
                refine lv_iload hx hb dX12_reach_75 (lv_at hl 2 rfl) ?_
                refine lv_istore_n (lv' := [(3, .int x498), (4, .int 1), (6, .int x497), (5, .int x498), (0, .ref o1), (1, .int a1), (2, .int a2)]) hx hb dX12_reach_77 rfl hl (by decide) rfl (fun ls hl => ?_)
                refine lv_goto (tgt := 7) hx hb dX12_reach_78 (by decide) ?_
                exact ih3 1 x498 _ _ _ (by have a0 := rl4_0; have a1 := (show _ ≤ _ ∧ _ ≤ _ from j348); have a2 := (show _ ≤ _ ∧ _ ≤ _ from x345_h); have a3 := (show _ ≤ _ ∧ _ ≤ _ from x498_h); have a4 := (show Int32.toInt 1 = 1 by decide +kernel); have a5 := hM3; have a6 := ne_i h500; omega) (iv_w ik_1 (by decide)) x498_h hP hD hS (lv_sub hl [1, 0, 4, 5, 6] rfl)
            ·
              have qh499 := nle_i h499
              have j501 : Iv 0 11 x497 := r_ltl qh499 x497_h v5_h (by decide)
              have j502 : Iv 1 12 v5 := r_ltr qh499 x497_h v5_h (by decide)
              refine lv_iload hx hb dX12_reach_27 (lv_at hl 1 rfl) ?_
              refine lv_iload_n hx hb dX12_reach_29 rfl (lv_at hl 3 rfl) ?_
              refine lv_iload hx hb dX12_reach_30 (lv_at hl 0 rfl) ?_
              refine kc_i (D := (dC, dI)) (S := Unit) (wc := []) (wr := [(o1, .inr (12, [.int v2, .ref o3, .int v5, .ref o6, .int v8, .ref o9, .ref o11, .int v13, .ref o14, .int v16, .ref o17, .int v19, .int v20, .int v21, .ref o22, .ref o24, .ref o26, .ref o28, .ref o30, .int v32, .ref o33, .ref o35, .ref o37, .int v39, .ref o40, .ref o42, .ref o44, .int v46, .ref o47])), (o6, .inl (cI, 12, .inl fw7))]) (w1 := fun _ => []) (wn := fun _ => [(o1, .inr (12, [.int v2, .ref o3, .int v5, .ref o6, .int v8, .ref o9, .ref o11, .int v13, .ref o14, .int v16, .ref o17, .int v19, .int v20, .int v21, .ref o22, .ref o24, .ref o26, .ref o28, .ref o30, .int v32, .ref o33, .ref o35, .ref o37, .int v39, .ref o40, .ref o42, .ref o44, .int v46, .ref o47])), (o6, .inl (cI, 12, .inl fw7))]) (fun hPc hDc => va_runS (As := [.int x345, .int x497]) (rest := [.int x498]) ⟨hx, hb, hml, hown, hts⟩ (kX12_has_1 l dC dI cI c2 cZ x345 x497 H.size (iv_w j501 (by decide))) (va_cwS 2 hts gX12_reach_X12_has rfl rfl rfl (by decide +kernel) ⟨Nat.le_of_ble_eq_true rfl, Nat.le_of_ble_eq_true rfl⟩) (pre_S hPc hK hDc hN) rfl rfl hl.1 rfl (lv_room (Nat.le_of_ble_eq_true rfl)) dX12_reach_32 ⟨Nat.le_of_ble_eq_true rfl, Nat.le_of_ble_eq_true rfl⟩) hP hD hS hA [] [0, 1] [0, 1] rfl rfl (by decide +kernel) (by decide +kernel) (by decide +kernel) (by decide +kernel) (fun _ => rfl) (fun x503 _ H locs hq hP hD hS => ?_)
              obtain ⟨x503_h, e504⟩ := hq
              have hP : va_P (dC, dI) vwCl ([(o1, .inr (12, [.int v2, .ref o3, .int v5, .ref o6, .int v8, .ref o9, .ref o11, .int v13, .ref o14, .int v16, .ref o17, .int v19, .int v20, .int v21, .ref o22, .ref o24, .ref o26, .ref o28, .ref o30, .int v32, .ref o33, .ref o35, .ref o37, .int v39, .ref o40, .ref o42, .ref o44, .int v46, .ref o47])), (o6, .inl (cI, 12, .inl fw7))]) H := hP
              have hD : va_D A ([(o1, .inr (12, [.int v2, .ref o3, .int v5, .ref o6, .int v8, .ref o9, .ref o11, .int v13, .ref o14, .int v16, .ref o17, .int v19, .int v20, .int v21, .ref o22, .ref o24, .ref o26, .ref o28, .ref o30, .int v32, .ref o33, .ref o35, .ref o37, .int v39, .ref o40, .ref o42, .ref o44, .int v46, .ref o47])), (o6, .inl (cI, 12, .inl fw7))]) := hD
              refine lv_if_eq (tgt := 52) hx hb dX12_reach_35 (by decide) (fun h505 => ?_) (fun h505 => ?_)
              ·
                have j506 : Iv 0 0 x503 := r_eq h505 ik_0
                have b507 : bt x345 (Int32.toNatClampNeg x497) = false := has_f e504 h505
                refine lv_iconst (v := 0) hx hb dX12_reach_52 (by decide) ?_
                refine lv_ior hx hb dX12_reach_53 (lv_topi (fun x508 x508_e => ?_))
                have x508_h : Iv 0 4095 x508 := iv_e x508_e (iv_or 12 x498_h ik_0 (by decide))
                refine lv_istore (lv' := [(5, .int x508), (6, .int x497), (4, .int x344), (3, .int x345), (0, .ref o1), (1, .int a1), (2, .int a2)]) hx hb dX12_reach_54 hl (by decide) rfl (fun ls hl => ?_)
                obtain ⟨x509, x509_e⟩ : ∃ z : Int32, z = x497 + 1 := ⟨_, rfl⟩
                have x509_h : Iv 1 12 x509 := iv_e x509_e (iv_add j501 ik_1 (by decide))
                refine lv_iinc (v := x509) (lv' := [(6, .int x509), (5, .int x508), (4, .int x344), (3, .int x345), (0, .ref o1), (1, .int a1), (2, .int a2)]) hx hb dX12_reach_56 hl (k := 1) rfl (incN (by decide +kernel) x509_e) (by decide) rfl (fun ls hl => ?_)
                refine lv_goto (tgt := 18) hx hb dX12_reach_59 (by decide) ?_
                exact ih4 x509 x508 _ _ _ (ms_up x509_e j501 (by decide) hM4) (iv_w x509_h (by decide)) x508_h (by have h70 := or_ge x508_e x498_h ik_0 (by decide); have h8 := rl4_0; omega) hP hD hS hl
              ·
                have j510 : Iv 1 1 x503 := r_nelo h505 x503_h ik_0 (by decide)
                have b511 : bt x345 (Int32.toNatClampNeg x497) = true := has_t e504 h505
                refine lv_aload_n hx hb dX12_reach_38 rfl (lv_at hl 4 rfl) ?_
                refine va_get (D := (dC, dI)) (ci := 12) (v := .ref o6) (C := RX12) (T := TX12) (N := 29) hx hb hts iw_X12_reach_X12 hown hK hP 0 rfl rfl 3 (by decide) (hts (.fieldLink RX12 13 "HolelessHouseModel" "near" "[I") hm_X12_reach_2) (fun _ h9 => h9) rfl dX12_reach_39 ?_
                refine lv_iload hx hb dX12_reach_42 (lv_at hl 0 rfl) ?_
                refine va_iald hx hb hK hP 1 0 rfl rfl (vin_iv j501 (by decide)) dX12_reach_44 (lv_topi (fun x512 x512_e => ?_))
                have x512_h : Iv 0 4095 x512 := iv_e x512_e (bd_at fw7_b (vin_iv j501 (by decide)))
                refine lv_iload_n hx hb dX12_reach_45 rfl (lv_at hl 6 rfl) ?_
                refine lv_iconst (v := (-1)) hx hb dX12_reach_46 (by decide) ?_
                refine lv_ixor hx hb dX12_reach_47 (lv_topi (fun x513 x513_e => ?_))
                refine lv_iand hx hb dX12_reach_48 (lv_topi (fun x514 x514_e => ?_))
                have x514_h : Iv 0 4095 x514 := iv_e x514_e (iv_andL _ x512_h (by decide))
                refine lv_goto (tgt := 53) hx hb dX12_reach_49 (by decide) ?_
                refine lv_ior hx hb dX12_reach_53 (lv_topi (fun x515 x515_e => ?_))
                have x515_h : Iv 0 4095 x515 := iv_e x515_e (iv_or 12 x498_h x514_h (by decide))
                refine lv_istore (lv' := [(5, .int x515), (6, .int x497), (4, .int x344), (3, .int x345), (0, .ref o1), (1, .int a1), (2, .int a2)]) hx hb dX12_reach_54 hl (by decide) rfl (fun ls hl => ?_)
                obtain ⟨x516, x516_e⟩ : ∃ z : Int32, z = x497 + 1 := ⟨_, rfl⟩
                have x516_h : Iv 1 12 x516 := iv_e x516_e (iv_add j501 ik_1 (by decide))
                refine lv_iinc (v := x516) (lv' := [(6, .int x516), (5, .int x515), (4, .int x344), (3, .int x345), (0, .ref o1), (1, .int a1), (2, .int a2)]) hx hb dX12_reach_56 hl (k := 1) rfl (incN (by decide +kernel) x516_e) (by decide) rfl (fun ls hl => ?_)
                refine lv_goto (tgt := 18) hx hb dX12_reach_59 (by decide) ?_
                exact ih4 x516 x515 _ _ _ (ms_up x516_e j501 (by decide) hM4) (iv_w x516_h (by decide)) x515_h (by have h70 := or_ge x515_e x498_h x514_h (by decide); have h8 := rl4_0; omega) hP hD hS hl
        exact L4 _ 0 x345 _ _ _ (Nat.lt_succ_self _) (iv_w ik_0 (by decide)) x345_h (Int.le_refl _) hP hD hS hl
  exact L3 _ 1 x1 _ _ _ (Nat.lt_succ_self _) (iv_w ik_1 (by decide)) (iv_w x1_h (by decide)) hP hD hS hl
set_option maxHeartbeats 4000000 in
set_option maxRecDepth 100000 in
theorem kX12_parts_1 (l : Launch) (dC : Nat → ClassId) (dI : Nat → Nat → Nat) (cI c2 cZ : ClassId) (o1 : Nat) (o3 : Nat) (o6 : Nat) (o9 : Nat) (o11 : Nat) (o14 : Nat) (o17 : Nat) (o22 : Nat) (o24 : Nat) (o26 : Nat) (o28 : Nat) (o30 : Nat) (o33 : Nat) (o35 : Nat) (o37 : Nat) (o40 : Nat) (o42 : Nat) (o44 : Nat) (o47 : Nat) (v2 : Int32) (v5 : Int32) (fw7 : Nat → Int32) (v8 : Int32) (v13 : Int32) (v16 : Int32) (v19 : Int32) (v20 : Int32) (v21 : Int32) (v32 : Int32) (v39 : Int32) (v46 : Int32) (a1 : Int32) (a2 : Int32) (a3 : Int32) (sz : Nat) (v5_h : Iv 0 12 v5) (fw7_b : Bd 12 0 4095 fw7) (v8_h : Iv 0 8 v8) (v13_h : Iv 0 12 v13) (v16_h : Iv 0 12 v16) (v19_h : Iv (-9) 12 v19) (v32_h : Iv 0 99 v32) (v39_h : Iv 0 12 v39) (v46_h : Iv 0 12 v46) (a1_h : Iv 0 11 a1) (a2_h : Iv 0 11 a2) (a3_h : Iv 0 4095 a3) : Met l yX12_parts wsX12_parts ({ frames := 2, cells := 0, slots := 0, locals := 47 }) (va_Pc [.ref o1, .int a1, .int a2, .int a3] (wPre (dC, dI) [(cI, .int), (c2, .array .int), (cZ, .boolean)] ([(o1, .inr (12, [.int v2, .ref o3, .int v5, .ref o6, .int v8, .ref o9, .ref o11, .int v13, .ref o14, .int v16, .ref o17, .int v19, .int v20, .int v21, .ref o22, .ref o24, .ref o26, .ref o28, .ref o30, .int v32, .ref o33, .ref o35, .ref o37, .int v39, .ref o40, .ref o42, .ref o44, .int v46, .ref o47])), (o6, .inl (cI, 12, .inl fw7))]) sz)) (va_Qi (fun (r : Int32) (_ : Unit) => Iv 0 1 r) (fun _ t => wPost (dC, dI) [(cI, .int), (c2, .array .int), (cZ, .boolean)] (va_A ([(o1, .inr (12, [.int v2, .ref o3, .int v5, .ref o6, .int v8, .ref o9, .ref o11, .int v13, .ref o14, .int v16, .ref o17, .int v19, .int v20, .int v21, .ref o22, .ref o24, .ref o26, .ref o28, .ref o30, .int v32, .ref o33, .ref o35, .ref o37, .int v39, .ref o40, .ref o42, .ref o44, .int v46, .ref o47])), (o6, .inl (cI, 12, .inl fw7))]) sz) ([(o1, .inr (12, [.int v2, .ref o3, .int v5, .ref o6, .int v8, .ref o9, .ref o11, .int v13, .ref o14, .int v16, .ref o17, .int v19, .int v20, .int v21, .ref o22, .ref o24, .ref o26, .ref o28, .ref o30, .int v32, .ref o33, .ref o35, .ref o37, .int v39, .ref o40, .ref o42, .ref o44, .int v46, .ref o47])), (o6, .inl (cI, 12, .inl fw7))]) t) (va_A ([(o1, .inr (12, [.int v2, .ref o3, .int v5, .ref o6, .int v8, .ref o9, .ref o11, .int v13, .ref o14, .int v16, .ref o17, .int v19, .int v20, .int v21, .ref o22, .ref o24, .ref o26, .ref o28, .ref o30, .int v32, .ref o33, .ref o35, .ref o37, .int v39, .ref o40, .ref o42, .ref o44, .int v46, .ref o47])), (o6, .inl (cI, 12, .inl fw7))]) sz)) 0 0 (va_A ([(o1, .inr (12, [.int v2, .ref o3, .int v5, .ref o6, .int v8, .ref o9, .ref o11, .int v13, .ref o14, .int v16, .ref o17, .int v19, .int v20, .int v21, .ref o22, .ref o24, .ref o26, .ref o28, .ref o30, .int v32, .ref o33, .ref o35, .ref o37, .int v39, .ref o40, .ref o42, .ref o44, .int v46, .ref o47])), (o6, .inl (cI, 12, .inl fw7))]) sz) := by
  refine Met.ofW (cc := cX12_parts) (maxL := 4) (ret := (some .boolean)) (by decide) rfl ?_
  intro p e s m args below meth c s₁ B hml hv
  obtain ⟨rfl, hsz, hP, hK, hD0, hN⟩ := hv
  have hx := B.exec
  have hb := B.bytes
  have hr := B.returns
  have hts := atoms_spec (ws := wsX12_parts) B.pre
  have hown : s.vm.findClass RX12 = some m.cls := findClass_of_methodNamed B.named
  have hlocks := B.notSynchronized
  subst hsz
  have hD := hD0.self (sz := s.heap.size)
  generalize hAe : va_A ([(o1, .inr (12, [.int v2, .ref o3, .int v5, .ref o6, .int v8, .ref o9, .ref o11, .int v13, .ref o14, .int v16, .ref o17, .int v19, .int v20, .int v21, .ref o22, .ref o24, .ref o26, .ref o28, .ref o30, .int v32, .ref o33, .ref o35, .ref o37, .int v39, .ref o40, .ref o42, .ref o44, .int v46, .ref o47])), (o6, .inl (cI, 12, .inl fw7))]) s.heap.size = A at hD ⊢
  have hA : ∀ q : Nat, s.heap.size ≤ q → A q := fun q h => by rw [← hAe]; exact Or.inr h
  have hS : va_S A s.heap s.heap [] := va_S.rf
  have hP : va_P (dC, dI) vwCl ([(o1, .inr (12, [.int v2, .ref o3, .int v5, .ref o6, .int v8, .ref o9, .ref o11, .int v13, .ref o14, .int v16, .ref o17, .int v19, .int v20, .int v21, .ref o22, .ref o24, .ref o26, .ref o28, .ref o30, .int v32, .ref o33, .ref o35, .ref o37, .int v39, .ref o40, .ref o42, .ref o44, .int v46, .ref o47])), (o6, .inl (cI, 12, .inl fw7))]) s.heap := hP
  have hl := lv_entry ([.ref o1, .int a1, .int a2, .int a3]) (n := 4) (Nat.le_of_ble_eq_true rfl)
  rw [lg_entry_eq]
  generalize (lg_sl ([.ref o1, .int a1, .int a2, .int a3]) ++ List.replicate (4 - (lg_sl ([.ref o1, .int a1, .int a2, .int a3])).length) Slot.unset).toArray = ls at hl ⊢
  have hl : lv_has ls 4 [(0, .ref o1), (1, .int a1), (2, .int a2), (3, .int a3)] := hl
  refine gen_Q (fun Q hQ => ?_)
  refine lv_aload_n hx hb dX12_parts_0 rfl (lv_at hl 0 rfl) ?_
  refine lv_iload_n hx hb dX12_parts_1 rfl (lv_at hl 1 rfl) ?_
  refine lv_iload_n hx hb dX12_parts_2 rfl (lv_at hl 3 rfl) ?_
  refine kc_i (D := (dC, dI)) (S := Unit) (wc := [(o1, .inr (12, [.int v2, .ref o3, .int v5, .ref o6, .int v8, .ref o9, .ref o11, .int v13, .ref o14, .int v16, .ref o17, .int v19, .int v20, .int v21, .ref o22, .ref o24, .ref o26, .ref o28, .ref o30, .int v32, .ref o33, .ref o35, .ref o37, .int v39, .ref o40, .ref o42, .ref o44, .int v46, .ref o47])), (o6, .inl (cI, 12, .inl fw7))]) (wr := []) (w1 := fun _ => [(o1, .inr (12, [.int v2, .ref o3, .int v5, .ref o6, .int v8, .ref o9, .ref o11, .int v13, .ref o14, .int v16, .ref o17, .int v19, .int v20, .int v21, .ref o22, .ref o24, .ref o26, .ref o28, .ref o30, .int v32, .ref o33, .ref o35, .ref o37, .int v39, .ref o40, .ref o42, .ref o44, .int v46, .ref o47])), (o6, .inl (cI, 12, .inl fw7))]) (wn := fun _ => [(o1, .inr (12, [.int v2, .ref o3, .int v5, .ref o6, .int v8, .ref o9, .ref o11, .int v13, .ref o14, .int v16, .ref o17, .int v19, .int v20, .int v21, .ref o22, .ref o24, .ref o26, .ref o28, .ref o30, .int v32, .ref o33, .ref o35, .ref o37, .int v39, .ref o40, .ref o42, .ref o44, .int v46, .ref o47])), (o6, .inl (cI, 12, .inl fw7))]) (fun hPc hDc => va_runV (As := [.int a1, .int a3]) (rest := []) ⟨hx, hb, hml, hown, hts⟩ (kX12_reach_1 l dC dI cI c2 cZ o1 o3 o6 o9 o11 o14 o17 o22 o24 o26 o28 o30 o33 o35 o37 o40 o42 o44 o47 v2 v5 fw7 v8 v13 v16 v19 v20 v21 v32 v39 v46 a1 a3 s.heap.size v5_h fw7_b v8_h v13_h v16_h v19_h v32_h v39_h v46_h a1_h a3_h) (cwV 2 hts gX12_parts_X12_reach rfl rfl rfl (by decide +kernel) ⟨Nat.le_of_ble_eq_true rfl, Nat.le_of_ble_eq_true rfl⟩) (pre_V hPc hK hDc hN (ci := 12) (q0 := 0) rfl rfl) rfl rfl hl.1 rfl (lv_room (Nat.le_of_ble_eq_true rfl)) dX12_parts_3 ⟨Nat.le_of_ble_eq_true rfl, Nat.le_of_ble_eq_true rfl⟩) hP hD hS hA [0, 1] [] [0, 1] rfl rfl (by decide +kernel) (by decide +kernel) (by decide +kernel) (by decide +kernel) (fun _ => rfl) (fun x1 _ H locs hq hP hD hS => ?_)
  have x1_h := hq
  have hP : va_P (dC, dI) vwCl ([(o1, .inr (12, [.int v2, .ref o3, .int v5, .ref o6, .int v8, .ref o9, .ref o11, .int v13, .ref o14, .int v16, .ref o17, .int v19, .int v20, .int v21, .ref o22, .ref o24, .ref o26, .ref o28, .ref o30, .int v32, .ref o33, .ref o35, .ref o37, .int v39, .ref o40, .ref o42, .ref o44, .int v46, .ref o47])), (o6, .inl (cI, 12, .inl fw7))]) H := hP
  have hD : va_D A ([(o1, .inr (12, [.int v2, .ref o3, .int v5, .ref o6, .int v8, .ref o9, .ref o11, .int v13, .ref o14, .int v16, .ref o17, .int v19, .int v20, .int v21, .ref o22, .ref o24, .ref o26, .ref o28, .ref o30, .int v32, .ref o33, .ref o35, .ref o37, .int v39, .ref o40, .ref o42, .ref o44, .int v46, .ref o47])), (o6, .inl (cI, 12, .inl fw7))]) := hD
  refine lv_iload_n hx hb dX12_parts_6 rfl (lv_at hl 2 rfl) ?_
  refine kc_i (D := (dC, dI)) (S := Unit) (wc := []) (wr := [(o1, .inr (12, [.int v2, .ref o3, .int v5, .ref o6, .int v8, .ref o9, .ref o11, .int v13, .ref o14, .int v16, .ref o17, .int v19, .int v20, .int v21, .ref o22, .ref o24, .ref o26, .ref o28, .ref o30, .int v32, .ref o33, .ref o35, .ref o37, .int v39, .ref o40, .ref o42, .ref o44, .int v46, .ref o47])), (o6, .inl (cI, 12, .inl fw7))]) (w1 := fun _ => []) (wn := fun _ => [(o1, .inr (12, [.int v2, .ref o3, .int v5, .ref o6, .int v8, .ref o9, .ref o11, .int v13, .ref o14, .int v16, .ref o17, .int v19, .int v20, .int v21, .ref o22, .ref o24, .ref o26, .ref o28, .ref o30, .int v32, .ref o33, .ref o35, .ref o37, .int v39, .ref o40, .ref o42, .ref o44, .int v46, .ref o47])), (o6, .inl (cI, 12, .inl fw7))]) (fun hPc hDc => va_runS (As := [.int x1, .int a2]) (rest := []) ⟨hx, hb, hml, hown, hts⟩ (kX12_has_1 l dC dI cI c2 cZ x1 a2 H.size (iv_w a2_h (by decide))) (va_cwS 2 hts gX12_parts_X12_has rfl rfl rfl (by decide +kernel) ⟨Nat.le_of_ble_eq_true rfl, Nat.le_of_ble_eq_true rfl⟩) (pre_S hPc hK hDc hN) rfl rfl hl.1 rfl (lv_room (Nat.le_of_ble_eq_true rfl)) dX12_parts_7 ⟨Nat.le_of_ble_eq_true rfl, Nat.le_of_ble_eq_true rfl⟩) hP hD hS hA [] [0, 1] [0, 1] rfl rfl (by decide +kernel) (by decide +kernel) (by decide +kernel) (by decide +kernel) (fun _ => rfl) (fun x2 _ H locs hq hP hD hS => ?_)
  obtain ⟨x2_h, e3⟩ := hq
  have hP : va_P (dC, dI) vwCl ([(o1, .inr (12, [.int v2, .ref o3, .int v5, .ref o6, .int v8, .ref o9, .ref o11, .int v13, .ref o14, .int v16, .ref o17, .int v19, .int v20, .int v21, .ref o22, .ref o24, .ref o26, .ref o28, .ref o30, .int v32, .ref o33, .ref o35, .ref o37, .int v39, .ref o40, .ref o42, .ref o44, .int v46, .ref o47])), (o6, .inl (cI, 12, .inl fw7))]) H := hP
  have hD : va_D A ([(o1, .inr (12, [.int v2, .ref o3, .int v5, .ref o6, .int v8, .ref o9, .ref o11, .int v13, .ref o14, .int v16, .ref o17, .int v19, .int v20, .int v21, .ref o22, .ref o24, .ref o26, .ref o28, .ref o30, .int v32, .ref o33, .ref o35, .ref o37, .int v39, .ref o40, .ref o42, .ref o44, .int v46, .ref o47])), (o6, .inl (cI, 12, .inl fw7))]) := hD
  refine lv_if_ne (tgt := 17) hx hb dX12_parts_10 (by decide) (fun h4 => ?_) (fun h4 => ?_)
  ·
    have j5 : Iv 1 1 x2 := r_nelo h4 x2_h ik_0 (by decide)
    have b6 : bt x1 (Int32.toNatClampNeg a2) = true := has_t e3 h4
    refine lv_iconst (v := 0) hx hb dX12_parts_17 (by decide) ?_
    rw [hQ]
    exact W.zret (v := 0) (ty := .boolean) hx hb hr rfl (fun t ht hW => ⟨⟨0, (), rfl, (iv_w ik_0 (by decide)), by rw [ht]; exact hP, va_K.moved hW.alike hK, hD⟩, hS.F ht⟩) hS.2.2 dX12_parts_18
  ·
    have j7 : Iv 0 0 x2 := r_eq h4 ik_0
    have b8 : bt x1 (Int32.toNatClampNeg a2) = false := has_f e3 h4
    refine lv_iconst (v := 1) hx hb dX12_parts_13 (by decide) ?_
    refine lv_goto (tgt := 18) hx hb dX12_parts_14 (by decide) ?_
    rw [hQ]
    exact W.zret (v := 1) (ty := .boolean) hx hb hr rfl (fun t ht hW => ⟨⟨1, (), rfl, (iv_w ik_1 (by decide)), by rw [ht]; exact hP, va_K.moved hW.alike hK, hD⟩, hS.F ht⟩) hS.2.2 dX12_parts_18
theorem iw_X12_isPart_X12 : ∀ w ∈ wsX120, w ∈ wsX12_isPart := fun _ h => List.mem_cons.mpr (Or.inr (List.mem_append.mpr (Or.inr h)))
set_option maxHeartbeats 4000000 in
set_option maxRecDepth 100000 in
theorem kX12_isPart_1 (l : Launch) (dC : Nat → ClassId) (dI : Nat → Nat → Nat) (cI c2 cZ : ClassId) (o1 : Nat) (o3 : Nat) (o6 : Nat) (o9 : Nat) (o11 : Nat) (o14 : Nat) (o17 : Nat) (o22 : Nat) (o24 : Nat) (o26 : Nat) (o28 : Nat) (o30 : Nat) (o33 : Nat) (o35 : Nat) (o37 : Nat) (o40 : Nat) (o42 : Nat) (o44 : Nat) (o47 : Nat) (v2 : Int32) (v5 : Int32) (fw7 : Nat → Int32) (v8 : Int32) (v13 : Int32) (v16 : Int32) (v19 : Int32) (v20 : Int32) (v21 : Int32) (v32 : Int32) (v39 : Int32) (v46 : Int32) (a1 : Int32) (a2 : Int32) (a3 : Int32) (sz : Nat) (v5_h : Iv 0 12 v5) (fw7_b : Bd 12 0 4095 fw7) (v8_h : Iv 0 8 v8) (v13_h : Iv 0 12 v13) (v16_h : Iv 0 12 v16) (v19_h : Iv (-9) 12 v19) (v32_h : Iv 0 99 v32) (v39_h : Iv 0 12 v39) (v46_h : Iv 0 12 v46) (a1_h : Iv 0 11 a1) (a2_h : Iv 0 11 a2) (a3_h : Iv 0 4095 a3) : Met l yX12_isPart wsX12_isPart ({ frames := 3, cells := 0, slots := 0, locals := 70 }) (va_Pc [.ref o1, .int a1, .int a2, .int a3] (wPre (dC, dI) [(cI, .int), (c2, .array .int), (cZ, .boolean)] ([(o1, .inr (12, [.int v2, .ref o3, .int v5, .ref o6, .int v8, .ref o9, .ref o11, .int v13, .ref o14, .int v16, .ref o17, .int v19, .int v20, .int v21, .ref o22, .ref o24, .ref o26, .ref o28, .ref o30, .int v32, .ref o33, .ref o35, .ref o37, .int v39, .ref o40, .ref o42, .ref o44, .int v46, .ref o47])), (o6, .inl (cI, 12, .inl fw7))]) sz)) (va_Qi (fun (r : Int32) (_ : Unit) => Iv 0 1 r) (fun _ t => wPost (dC, dI) [(cI, .int), (c2, .array .int), (cZ, .boolean)] (va_A ([(o1, .inr (12, [.int v2, .ref o3, .int v5, .ref o6, .int v8, .ref o9, .ref o11, .int v13, .ref o14, .int v16, .ref o17, .int v19, .int v20, .int v21, .ref o22, .ref o24, .ref o26, .ref o28, .ref o30, .int v32, .ref o33, .ref o35, .ref o37, .int v39, .ref o40, .ref o42, .ref o44, .int v46, .ref o47])), (o6, .inl (cI, 12, .inl fw7))]) sz) ([(o1, .inr (12, [.int v2, .ref o3, .int v5, .ref o6, .int v8, .ref o9, .ref o11, .int v13, .ref o14, .int v16, .ref o17, .int v19, .int v20, .int v21, .ref o22, .ref o24, .ref o26, .ref o28, .ref o30, .int v32, .ref o33, .ref o35, .ref o37, .int v39, .ref o40, .ref o42, .ref o44, .int v46, .ref o47])), (o6, .inl (cI, 12, .inl fw7))]) t) (va_A ([(o1, .inr (12, [.int v2, .ref o3, .int v5, .ref o6, .int v8, .ref o9, .ref o11, .int v13, .ref o14, .int v16, .ref o17, .int v19, .int v20, .int v21, .ref o22, .ref o24, .ref o26, .ref o28, .ref o30, .int v32, .ref o33, .ref o35, .ref o37, .int v39, .ref o40, .ref o42, .ref o44, .int v46, .ref o47])), (o6, .inl (cI, 12, .inl fw7))]) sz)) 0 0 (va_A ([(o1, .inr (12, [.int v2, .ref o3, .int v5, .ref o6, .int v8, .ref o9, .ref o11, .int v13, .ref o14, .int v16, .ref o17, .int v19, .int v20, .int v21, .ref o22, .ref o24, .ref o26, .ref o28, .ref o30, .int v32, .ref o33, .ref o35, .ref o37, .int v39, .ref o40, .ref o42, .ref o44, .int v46, .ref o47])), (o6, .inl (cI, 12, .inl fw7))]) sz) := by
  refine Met.ofW (cc := cX12_isPart) (maxL := 6) (ret := (some .boolean)) (by decide) rfl ?_
  intro p e s m args below meth c s₁ B hml hv
  obtain ⟨rfl, hsz, hP, hK, hD0, hN⟩ := hv
  have hx := B.exec
  have hb := B.bytes
  have hr := B.returns
  have hts := atoms_spec (ws := wsX12_isPart) B.pre
  have hown : s.vm.findClass RX12 = some m.cls := findClass_of_methodNamed B.named
  have hlocks := B.notSynchronized
  subst hsz
  have hD := hD0.self (sz := s.heap.size)
  generalize hAe : va_A ([(o1, .inr (12, [.int v2, .ref o3, .int v5, .ref o6, .int v8, .ref o9, .ref o11, .int v13, .ref o14, .int v16, .ref o17, .int v19, .int v20, .int v21, .ref o22, .ref o24, .ref o26, .ref o28, .ref o30, .int v32, .ref o33, .ref o35, .ref o37, .int v39, .ref o40, .ref o42, .ref o44, .int v46, .ref o47])), (o6, .inl (cI, 12, .inl fw7))]) s.heap.size = A at hD ⊢
  have hA : ∀ q : Nat, s.heap.size ≤ q → A q := fun q h => by rw [← hAe]; exact Or.inr h
  have hS : va_S A s.heap s.heap [] := va_S.rf
  have hP : va_P (dC, dI) vwCl ([(o1, .inr (12, [.int v2, .ref o3, .int v5, .ref o6, .int v8, .ref o9, .ref o11, .int v13, .ref o14, .int v16, .ref o17, .int v19, .int v20, .int v21, .ref o22, .ref o24, .ref o26, .ref o28, .ref o30, .int v32, .ref o33, .ref o35, .ref o37, .int v39, .ref o40, .ref o42, .ref o44, .int v46, .ref o47])), (o6, .inl (cI, 12, .inl fw7))]) s.heap := hP
  have hl := lv_entry ([.ref o1, .int a1, .int a2, .int a3]) (n := 6) (Nat.le_of_ble_eq_true rfl)
  rw [lg_entry_eq]
  generalize (lg_sl ([.ref o1, .int a1, .int a2, .int a3]) ++ List.replicate (6 - (lg_sl ([.ref o1, .int a1, .int a2, .int a3])).length) Slot.unset).toArray = ls at hl ⊢
  have hl : lv_has ls 6 [(0, .ref o1), (1, .int a1), (2, .int a2), (3, .int a3)] := hl
  refine gen_Q (fun Q hQ => ?_)
  refine lv_iload_n hx hb dX12_isPart_0 rfl (lv_at hl 3 rfl) ?_
  refine lv_iload_n hx hb dX12_isPart_1 rfl (lv_at hl 1 rfl) ?_
  refine kc_i (D := (dC, dI)) (S := Unit) (wc := []) (wr := [(o1, .inr (12, [.int v2, .ref o3, .int v5, .ref o6, .int v8, .ref o9, .ref o11, .int v13, .ref o14, .int v16, .ref o17, .int v19, .int v20, .int v21, .ref o22, .ref o24, .ref o26, .ref o28, .ref o30, .int v32, .ref o33, .ref o35, .ref o37, .int v39, .ref o40, .ref o42, .ref o44, .int v46, .ref o47])), (o6, .inl (cI, 12, .inl fw7))]) (w1 := fun _ => []) (wn := fun _ => [(o1, .inr (12, [.int v2, .ref o3, .int v5, .ref o6, .int v8, .ref o9, .ref o11, .int v13, .ref o14, .int v16, .ref o17, .int v19, .int v20, .int v21, .ref o22, .ref o24, .ref o26, .ref o28, .ref o30, .int v32, .ref o33, .ref o35, .ref o37, .int v39, .ref o40, .ref o42, .ref o44, .int v46, .ref o47])), (o6, .inl (cI, 12, .inl fw7))]) (fun hPc hDc => va_runS (As := [.int a3, .int a1]) (rest := []) ⟨hx, hb, hml, hown, hts⟩ (kX12_has_1 l dC dI cI c2 cZ a3 a1 s.heap.size (iv_w a1_h (by decide))) (va_cwS 2 hts gX12_isPart_X12_has rfl rfl rfl (by decide +kernel) ⟨Nat.le_of_ble_eq_true rfl, Nat.le_of_ble_eq_true rfl⟩) (pre_S hPc hK hDc hN) rfl rfl hl.1 rfl (lv_room (Nat.le_of_ble_eq_true rfl)) dX12_isPart_2 ⟨Nat.le_of_ble_eq_true rfl, Nat.le_of_ble_eq_true rfl⟩) hP hD hS hA [] [0, 1] [0, 1] rfl rfl (by decide +kernel) (by decide +kernel) (by decide +kernel) (by decide +kernel) (fun _ => rfl) (fun x1 _ H locs hq hP hD hS => ?_)
  obtain ⟨x1_h, e2⟩ := hq
  have hP : va_P (dC, dI) vwCl ([(o1, .inr (12, [.int v2, .ref o3, .int v5, .ref o6, .int v8, .ref o9, .ref o11, .int v13, .ref o14, .int v16, .ref o17, .int v19, .int v20, .int v21, .ref o22, .ref o24, .ref o26, .ref o28, .ref o30, .int v32, .ref o33, .ref o35, .ref o37, .int v39, .ref o40, .ref o42, .ref o44, .int v46, .ref o47])), (o6, .inl (cI, 12, .inl fw7))]) H := hP
  have hD : va_D A ([(o1, .inr (12, [.int v2, .ref o3, .int v5, .ref o6, .int v8, .ref o9, .ref o11, .int v13, .ref o14, .int v16, .ref o17, .int v19, .int v20, .int v21, .ref o22, .ref o24, .ref o26, .ref o28, .ref o30, .int v32, .ref o33, .ref o35, .ref o37, .int v39, .ref o40, .ref o42, .ref o44, .int v46, .ref o47])), (o6, .inl (cI, 12, .inl fw7))]) := hD
  refine lv_if_ne (tgt := 30) hx hb dX12_isPart_5 (by decide) (fun h3 => ?_) (fun h3 => ?_)
  ·
    have j4 : Iv 1 1 x1 := r_nelo h3 x1_h ik_0 (by decide)
    have b5 : bt a3 (Int32.toNatClampNeg a1) = true := has_t e2 h3
    refine lv_iconst (v := 0) hx hb dX12_isPart_30 (by decide) ?_
    refine lv_istore (lv' := [(4, .int 0), (0, .ref o1), (1, .int a1), (2, .int a2), (3, .int a3)]) hx hb dX12_isPart_31 hl (by decide) rfl (fun ls hl => ?_)
    refine lv_iconst (v := 0) hx hb dX12_isPart_33 (by decide) ?_
    refine lv_istore (lv' := [(5, .int 0), (4, .int 0), (0, .ref o1), (1, .int a1), (2, .int a2), (3, .int a3)]) hx hb dX12_isPart_34 hl (by decide) rfl (fun ls hl => ?_)
    have L1 : ∀ (N : Nat) (x44 : Int32) (H : Heap) (locs : List Loc) (ls : Array Slot), (12 - x44.toInt).toNat < N → Iv 0 12 x44 → va_P (dC, dI) vwCl ([(o1, .inr (12, [.int v2, .ref o3, .int v5, .ref o6, .int v8, .ref o9, .ref o11, .int v13, .ref o14, .int v16, .ref o17, .int v19, .int v20, .int v21, .ref o22, .ref o24, .ref o26, .ref o28, .ref o30, .int v32, .ref o33, .ref o35, .ref o37, .int v39, .ref o40, .ref o42, .ref o44, .int v46, .ref o47])), (o6, .inl (cI, 12, .inl fw7))]) H → va_D A ([(o1, .inr (12, [.int v2, .ref o3, .int v5, .ref o6, .int v8, .ref o9, .ref o11, .int v13, .ref o14, .int v16, .ref o17, .int v19, .int v20, .int v21, .ref o22, .ref o24, .ref o26, .ref o28, .ref o30, .int v32, .ref o33, .ref o35, .ref o37, .int v39, .ref o40, .ref o42, .ref o44, .int v46, .ref o47])), (o6, .inl (cI, 12, .inl fw7))]) → va_S A s.heap H locs → lv_has ls 6 [(5, .int x44), (4, .int 0), (0, .ref o1), (1, .int a1), (2, .int a2), (3, .int a3)] → W p l e ({ frames := 3, cells := 0, slots := 0, locals := 70 }) s m ([.ref o1, .int a1, .int a2, .int a3] : List Value).toArray below meth c H locs 0 0 Q (F0 m 36 ls []) := by
      intro N
      induction N with
      | zero =>
        intro x44 H locs ls hM
        exact absurd hM (Nat.not_lt_zero _)
      | succ N ih1 =>
        intro x44 H locs ls hM1 x44_h hP hD hS hl
        refine lv_iload hx hb dX12_isPart_36 (lv_at hl 0 rfl) ?_
        refine lv_aload_n hx hb dX12_isPart_38 rfl (lv_at hl 2 rfl) ?_
        refine va_get (D := (dC, dI)) (ci := 12) (v := .int v5) (C := RX12) (T := TX12) (N := 29) hx hb hts iw_X12_isPart_X12 hown hK hP 0 rfl rfl 2 (by decide) (hts (.fieldLink RX12 73 "HolelessHouseModel" "n" "I") hm_X12_isPart_1) (fun _ h9 => h9) rfl dX12_isPart_39 ?_
        refine lv_icmp_ge (tgt := 89) hx hb dX12_isPart_42 (by decide) (fun h45 => ?_) (fun h45 => ?_)
        ·
          have qh45 := le_i h45
          refine lv_iload hx hb dX12_isPart_89 (lv_at hl 1 rfl) ?_
          rw [hQ]
          exact W.zret (v := 0) (ty := .boolean) hx hb hr rfl (fun t ht hW => ⟨⟨0, (), rfl, (iv_w ik_0 (by decide)), by rw [ht]; exact hP, va_K.moved hW.alike hK, hD⟩, hS.F ht⟩) hS.2.2 dX12_isPart_91
        ·
          have qh45 := nle_i h45
          have j46 : Iv 0 11 x44 := r_ltl qh45 x44_h v5_h (by decide)
          have j47 : Iv 1 12 v5 := r_ltr qh45 x44_h v5_h (by decide)
          refine lv_iload hx hb dX12_isPart_45 (lv_at hl 1 rfl) ?_
          refine lv_if_eq (tgt := 80) hx hb dX12_isPart_47 (by decide) (fun _ => ?_) (fun h9 => absurd (by decide +kernel) h9)
          refine lv_iconst (v := 0) hx hb dX12_isPart_80 (by decide) ?_
          refine lv_istore (lv' := [(4, .int 0), (5, .int x44), (0, .ref o1), (1, .int a1), (2, .int a2), (3, .int a3)]) hx hb dX12_isPart_81 hl (by decide) rfl (fun ls hl => ?_)
          obtain ⟨x48, x48_e⟩ : ∃ z : Int32, z = x44 + 1 := ⟨_, rfl⟩
          have x48_h : Iv 1 12 x48 := iv_e x48_e (iv_add j46 ik_1 (by decide))
          refine lv_iinc (v := x48) (lv' := [(5, .int x48), (4, .int 0), (0, .ref o1), (1, .int a1), (2, .int a2), (3, .int a3)]) hx hb dX12_isPart_83 hl (k := 1) rfl (incN (by decide +kernel) x48_e) (by decide) rfl (fun ls hl => ?_)
          refine lv_goto (tgt := 36) hx hb dX12_isPart_86 (by decide) ?_
          exact ih1 x48 _ _ _ (ms_up x48_e j46 (by decide) hM1) (iv_w x48_h (by decide)) hP hD hS hl
    exact L1 _ 0 _ _ _ (Nat.lt_succ_self _) (iv_w ik_0 (by decide)) hP hD hS hl
  ·
    have j49 : Iv 0 0 x1 := r_eq h3 ik_0
    have b50 : bt a3 (Int32.toNatClampNeg a1) = false := has_f e2 h3
    refine lv_iload_n hx hb dX12_isPart_8 rfl (lv_at hl 3 rfl) ?_
    refine lv_iload_n hx hb dX12_isPart_9 rfl (lv_at hl 2 rfl) ?_
    refine kc_i (D := (dC, dI)) (S := Unit) (wc := []) (wr := [(o1, .inr (12, [.int v2, .ref o3, .int v5, .ref o6, .int v8, .ref o9, .ref o11, .int v13, .ref o14, .int v16, .ref o17, .int v19, .int v20, .int v21, .ref o22, .ref o24, .ref o26, .ref o28, .ref o30, .int v32, .ref o33, .ref o35, .ref o37, .int v39, .ref o40, .ref o42, .ref o44, .int v46, .ref o47])), (o6, .inl (cI, 12, .inl fw7))]) (w1 := fun _ => []) (wn := fun _ => [(o1, .inr (12, [.int v2, .ref o3, .int v5, .ref o6, .int v8, .ref o9, .ref o11, .int v13, .ref o14, .int v16, .ref o17, .int v19, .int v20, .int v21, .ref o22, .ref o24, .ref o26, .ref o28, .ref o30, .int v32, .ref o33, .ref o35, .ref o37, .int v39, .ref o40, .ref o42, .ref o44, .int v46, .ref o47])), (o6, .inl (cI, 12, .inl fw7))]) (fun hPc hDc => va_runS (As := [.int a3, .int a2]) (rest := []) ⟨hx, hb, hml, hown, hts⟩ (kX12_has_1 l dC dI cI c2 cZ a3 a2 H.size (iv_w a2_h (by decide))) (va_cwS 2 hts gX12_isPart_X12_has rfl rfl rfl (by decide +kernel) ⟨Nat.le_of_ble_eq_true rfl, Nat.le_of_ble_eq_true rfl⟩) (pre_S hPc hK hDc hN) rfl rfl hl.1 rfl (lv_room (Nat.le_of_ble_eq_true rfl)) dX12_isPart_10 ⟨Nat.le_of_ble_eq_true rfl, Nat.le_of_ble_eq_true rfl⟩) hP hD hS hA [] [0, 1] [0, 1] rfl rfl (by decide +kernel) (by decide +kernel) (by decide +kernel) (by decide +kernel) (fun _ => rfl) (fun x51 _ H locs hq hP hD hS => ?_)
    obtain ⟨x51_h, e52⟩ := hq
    have hP : va_P (dC, dI) vwCl ([(o1, .inr (12, [.int v2, .ref o3, .int v5, .ref o6, .int v8, .ref o9, .ref o11, .int v13, .ref o14, .int v16, .ref o17, .int v19, .int v20, .int v21, .ref o22, .ref o24, .ref o26, .ref o28, .ref o30, .int v32, .ref o33, .ref o35, .ref o37, .int v39, .ref o40, .ref o42, .ref o44, .int v46, .ref o47])), (o6, .inl (cI, 12, .inl fw7))]) H := hP
    have hD : va_D A ([(o1, .inr (12, [.int v2, .ref o3, .int v5, .ref o6, .int v8, .ref o9, .ref o11, .int v13, .ref o14, .int v16, .ref o17, .int v19, .int v20, .int v21, .ref o22, .ref o24, .ref o26, .ref o28, .ref o30, .int v32, .ref o33, .ref o35, .ref o37, .int v39, .ref o40, .ref o42, .ref o44, .int v46, .ref o47])), (o6, .inl (cI, 12, .inl fw7))]) := hD
    refine lv_if_ne (tgt := 30) hx hb dX12_isPart_13 (by decide) (fun h53 => ?_) (fun h53 => ?_)
    ·
      have j54 : Iv 1 1 x51 := r_nelo h53 x51_h ik_0 (by decide)
      have b55 : bt a3 (Int32.toNatClampNeg a2) = true := has_t e52 h53
      refine lv_iconst (v := 0) hx hb dX12_isPart_30 (by decide) ?_
      refine lv_istore (lv' := [(4, .int 0), (0, .ref o1), (1, .int a1), (2, .int a2), (3, .int a3)]) hx hb dX12_isPart_31 hl (by decide) rfl (fun ls hl => ?_)
      refine lv_iconst (v := 0) hx hb dX12_isPart_33 (by decide) ?_
      refine lv_istore (lv' := [(5, .int 0), (4, .int 0), (0, .ref o1), (1, .int a1), (2, .int a2), (3, .int a3)]) hx hb dX12_isPart_34 hl (by decide) rfl (fun ls hl => ?_)
      have L2 : ∀ (N : Nat) (x94 : Int32) (H : Heap) (locs : List Loc) (ls : Array Slot), (12 - x94.toInt).toNat < N → Iv 0 12 x94 → va_P (dC, dI) vwCl ([(o1, .inr (12, [.int v2, .ref o3, .int v5, .ref o6, .int v8, .ref o9, .ref o11, .int v13, .ref o14, .int v16, .ref o17, .int v19, .int v20, .int v21, .ref o22, .ref o24, .ref o26, .ref o28, .ref o30, .int v32, .ref o33, .ref o35, .ref o37, .int v39, .ref o40, .ref o42, .ref o44, .int v46, .ref o47])), (o6, .inl (cI, 12, .inl fw7))]) H → va_D A ([(o1, .inr (12, [.int v2, .ref o3, .int v5, .ref o6, .int v8, .ref o9, .ref o11, .int v13, .ref o14, .int v16, .ref o17, .int v19, .int v20, .int v21, .ref o22, .ref o24, .ref o26, .ref o28, .ref o30, .int v32, .ref o33, .ref o35, .ref o37, .int v39, .ref o40, .ref o42, .ref o44, .int v46, .ref o47])), (o6, .inl (cI, 12, .inl fw7))]) → va_S A s.heap H locs → lv_has ls 6 [(5, .int x94), (4, .int 0), (0, .ref o1), (1, .int a1), (2, .int a2), (3, .int a3)] → W p l e ({ frames := 3, cells := 0, slots := 0, locals := 70 }) s m ([.ref o1, .int a1, .int a2, .int a3] : List Value).toArray below meth c H locs 0 0 Q (F0 m 36 ls []) := by
        intro N
        induction N with
        | zero =>
          intro x94 H locs ls hM
          exact absurd hM (Nat.not_lt_zero _)
        | succ N ih2 =>
          intro x94 H locs ls hM2 x94_h hP hD hS hl
          refine lv_iload hx hb dX12_isPart_36 (lv_at hl 0 rfl) ?_
          refine lv_aload_n hx hb dX12_isPart_38 rfl (lv_at hl 2 rfl) ?_
          refine va_get (D := (dC, dI)) (ci := 12) (v := .int v5) (C := RX12) (T := TX12) (N := 29) hx hb hts iw_X12_isPart_X12 hown hK hP 0 rfl rfl 2 (by decide) (hts (.fieldLink RX12 73 "HolelessHouseModel" "n" "I") hm_X12_isPart_1) (fun _ h9 => h9) rfl dX12_isPart_39 ?_
          refine lv_icmp_ge (tgt := 89) hx hb dX12_isPart_42 (by decide) (fun h95 => ?_) (fun h95 => ?_)
          ·
            have qh95 := le_i h95
            refine lv_iload hx hb dX12_isPart_89 (lv_at hl 1 rfl) ?_
            rw [hQ]
            exact W.zret (v := 0) (ty := .boolean) hx hb hr rfl (fun t ht hW => ⟨⟨0, (), rfl, (iv_w ik_0 (by decide)), by rw [ht]; exact hP, va_K.moved hW.alike hK, hD⟩, hS.F ht⟩) hS.2.2 dX12_isPart_91
          ·
            have qh95 := nle_i h95
            have j96 : Iv 0 11 x94 := r_ltl qh95 x94_h v5_h (by decide)
            have j97 : Iv 1 12 v5 := r_ltr qh95 x94_h v5_h (by decide)
            refine lv_iload hx hb dX12_isPart_45 (lv_at hl 1 rfl) ?_
            refine lv_if_eq (tgt := 80) hx hb dX12_isPart_47 (by decide) (fun _ => ?_) (fun h9 => absurd (by decide +kernel) h9)
            refine lv_iconst (v := 0) hx hb dX12_isPart_80 (by decide) ?_
            refine lv_istore (lv' := [(4, .int 0), (5, .int x94), (0, .ref o1), (1, .int a1), (2, .int a2), (3, .int a3)]) hx hb dX12_isPart_81 hl (by decide) rfl (fun ls hl => ?_)
            obtain ⟨x98, x98_e⟩ : ∃ z : Int32, z = x94 + 1 := ⟨_, rfl⟩
            have x98_h : Iv 1 12 x98 := iv_e x98_e (iv_add j96 ik_1 (by decide))
            refine lv_iinc (v := x98) (lv' := [(5, .int x98), (4, .int 0), (0, .ref o1), (1, .int a1), (2, .int a2), (3, .int a3)]) hx hb dX12_isPart_83 hl (k := 1) rfl (incN (by decide +kernel) x98_e) (by decide) rfl (fun ls hl => ?_)
            refine lv_goto (tgt := 36) hx hb dX12_isPart_86 (by decide) ?_
            exact ih2 x98 _ _ _ (ms_up x98_e j96 (by decide) hM2) (iv_w x98_h (by decide)) hP hD hS hl
      exact L2 _ 0 _ _ _ (Nat.lt_succ_self _) (iv_w ik_0 (by decide)) hP hD hS hl
    ·
      have j99 : Iv 0 0 x51 := r_eq h53 ik_0
      have b100 : bt a3 (Int32.toNatClampNeg a2) = false := has_f e52 h53
      refine lv_aload_n hx hb dX12_isPart_16 rfl (lv_at hl 0 rfl) ?_
      refine lv_iload_n hx hb dX12_isPart_17 rfl (lv_at hl 1 rfl) ?_
      refine lv_iload_n hx hb dX12_isPart_18 rfl (lv_at hl 2 rfl) ?_
      refine lv_iload_n hx hb dX12_isPart_19 rfl (lv_at hl 3 rfl) ?_
      refine kc_i (D := (dC, dI)) (S := Unit) (wc := [(o1, .inr (12, [.int v2, .ref o3, .int v5, .ref o6, .int v8, .ref o9, .ref o11, .int v13, .ref o14, .int v16, .ref o17, .int v19, .int v20, .int v21, .ref o22, .ref o24, .ref o26, .ref o28, .ref o30, .int v32, .ref o33, .ref o35, .ref o37, .int v39, .ref o40, .ref o42, .ref o44, .int v46, .ref o47])), (o6, .inl (cI, 12, .inl fw7))]) (wr := []) (w1 := fun _ => [(o1, .inr (12, [.int v2, .ref o3, .int v5, .ref o6, .int v8, .ref o9, .ref o11, .int v13, .ref o14, .int v16, .ref o17, .int v19, .int v20, .int v21, .ref o22, .ref o24, .ref o26, .ref o28, .ref o30, .int v32, .ref o33, .ref o35, .ref o37, .int v39, .ref o40, .ref o42, .ref o44, .int v46, .ref o47])), (o6, .inl (cI, 12, .inl fw7))]) (wn := fun _ => [(o1, .inr (12, [.int v2, .ref o3, .int v5, .ref o6, .int v8, .ref o9, .ref o11, .int v13, .ref o14, .int v16, .ref o17, .int v19, .int v20, .int v21, .ref o22, .ref o24, .ref o26, .ref o28, .ref o30, .int v32, .ref o33, .ref o35, .ref o37, .int v39, .ref o40, .ref o42, .ref o44, .int v46, .ref o47])), (o6, .inl (cI, 12, .inl fw7))]) (fun hPc hDc => va_runV (As := [.int a1, .int a2, .int a3]) (rest := []) ⟨hx, hb, hml, hown, hts⟩ (kX12_parts_1 l dC dI cI c2 cZ o1 o3 o6 o9 o11 o14 o17 o22 o24 o26 o28 o30 o33 o35 o37 o40 o42 o44 o47 v2 v5 fw7 v8 v13 v16 v19 v20 v21 v32 v39 v46 a1 a2 a3 H.size v5_h fw7_b v8_h v13_h v16_h v19_h v32_h v39_h v46_h a1_h a2_h a3_h) (cwV 3 hts gX12_isPart_X12_parts rfl rfl rfl (by decide +kernel) ⟨Nat.le_of_ble_eq_true rfl, Nat.le_of_ble_eq_true rfl⟩) (pre_V hPc hK hDc hN (ci := 12) (q0 := 0) rfl rfl) rfl rfl hl.1 rfl (lv_room (Nat.le_of_ble_eq_true rfl)) dX12_isPart_20 ⟨Nat.le_of_ble_eq_true rfl, Nat.le_of_ble_eq_true rfl⟩) hP hD hS hA [0, 1] [] [0, 1] rfl rfl (by decide +kernel) (by decide +kernel) (by decide +kernel) (by decide +kernel) (fun _ => rfl) (fun x101 _ H locs hq hP hD hS => ?_)
      have x101_h := hq
      have hP : va_P (dC, dI) vwCl ([(o1, .inr (12, [.int v2, .ref o3, .int v5, .ref o6, .int v8, .ref o9, .ref o11, .int v13, .ref o14, .int v16, .ref o17, .int v19, .int v20, .int v21, .ref o22, .ref o24, .ref o26, .ref o28, .ref o30, .int v32, .ref o33, .ref o35, .ref o37, .int v39, .ref o40, .ref o42, .ref o44, .int v46, .ref o47])), (o6, .inl (cI, 12, .inl fw7))]) H := hP
      have hD : va_D A ([(o1, .inr (12, [.int v2, .ref o3, .int v5, .ref o6, .int v8, .ref o9, .ref o11, .int v13, .ref o14, .int v16, .ref o17, .int v19, .int v20, .int v21, .ref o22, .ref o24, .ref o26, .ref o28, .ref o30, .int v32, .ref o33, .ref o35, .ref o37, .int v39, .ref o40, .ref o42, .ref o44, .int v46, .ref o47])), (o6, .inl (cI, 12, .inl fw7))]) := hD
      refine lv_if_eq (tgt := 30) hx hb dX12_isPart_23 (by decide) (fun h102 => ?_) (fun h102 => ?_)
      ·
        have j103 : Iv 0 0 x101 := r_eq h102 ik_0
        refine lv_iconst (v := 0) hx hb dX12_isPart_30 (by decide) ?_
        refine lv_istore (lv' := [(4, .int 0), (0, .ref o1), (1, .int a1), (2, .int a2), (3, .int a3)]) hx hb dX12_isPart_31 hl (by decide) rfl (fun ls hl => ?_)
        refine lv_iconst (v := 0) hx hb dX12_isPart_33 (by decide) ?_
        refine lv_istore (lv' := [(5, .int 0), (4, .int 0), (0, .ref o1), (1, .int a1), (2, .int a2), (3, .int a3)]) hx hb dX12_isPart_34 hl (by decide) rfl (fun ls hl => ?_)
        have L3 : ∀ (N : Nat) (x142 : Int32) (H : Heap) (locs : List Loc) (ls : Array Slot), (12 - x142.toInt).toNat < N → Iv 0 12 x142 → va_P (dC, dI) vwCl ([(o1, .inr (12, [.int v2, .ref o3, .int v5, .ref o6, .int v8, .ref o9, .ref o11, .int v13, .ref o14, .int v16, .ref o17, .int v19, .int v20, .int v21, .ref o22, .ref o24, .ref o26, .ref o28, .ref o30, .int v32, .ref o33, .ref o35, .ref o37, .int v39, .ref o40, .ref o42, .ref o44, .int v46, .ref o47])), (o6, .inl (cI, 12, .inl fw7))]) H → va_D A ([(o1, .inr (12, [.int v2, .ref o3, .int v5, .ref o6, .int v8, .ref o9, .ref o11, .int v13, .ref o14, .int v16, .ref o17, .int v19, .int v20, .int v21, .ref o22, .ref o24, .ref o26, .ref o28, .ref o30, .int v32, .ref o33, .ref o35, .ref o37, .int v39, .ref o40, .ref o42, .ref o44, .int v46, .ref o47])), (o6, .inl (cI, 12, .inl fw7))]) → va_S A s.heap H locs → lv_has ls 6 [(5, .int x142), (4, .int 0), (0, .ref o1), (1, .int a1), (2, .int a2), (3, .int a3)] → W p l e ({ frames := 3, cells := 0, slots := 0, locals := 70 }) s m ([.ref o1, .int a1, .int a2, .int a3] : List Value).toArray below meth c H locs 0 0 Q (F0 m 36 ls []) := by
          intro N
          induction N with
          | zero =>
            intro x142 H locs ls hM
            exact absurd hM (Nat.not_lt_zero _)
          | succ N ih3 =>
            intro x142 H locs ls hM3 x142_h hP hD hS hl
            refine lv_iload hx hb dX12_isPart_36 (lv_at hl 0 rfl) ?_
            refine lv_aload_n hx hb dX12_isPart_38 rfl (lv_at hl 2 rfl) ?_
            refine va_get (D := (dC, dI)) (ci := 12) (v := .int v5) (C := RX12) (T := TX12) (N := 29) hx hb hts iw_X12_isPart_X12 hown hK hP 0 rfl rfl 2 (by decide) (hts (.fieldLink RX12 73 "HolelessHouseModel" "n" "I") hm_X12_isPart_1) (fun _ h9 => h9) rfl dX12_isPart_39 ?_
            refine lv_icmp_ge (tgt := 89) hx hb dX12_isPart_42 (by decide) (fun h143 => ?_) (fun h143 => ?_)
            ·
              have qh143 := le_i h143
              refine lv_iload hx hb dX12_isPart_89 (lv_at hl 1 rfl) ?_
              rw [hQ]
              exact W.zret (v := 0) (ty := .boolean) hx hb hr rfl (fun t ht hW => ⟨⟨0, (), rfl, (iv_w ik_0 (by decide)), by rw [ht]; exact hP, va_K.moved hW.alike hK, hD⟩, hS.F ht⟩) hS.2.2 dX12_isPart_91
            ·
              have qh143 := nle_i h143
              have j144 : Iv 0 11 x142 := r_ltl qh143 x142_h v5_h (by decide)
              have j145 : Iv 1 12 v5 := r_ltr qh143 x142_h v5_h (by decide)
              refine lv_iload hx hb dX12_isPart_45 (lv_at hl 1 rfl) ?_
              refine lv_if_eq (tgt := 80) hx hb dX12_isPart_47 (by decide) (fun _ => ?_) (fun h9 => absurd (by decide +kernel) h9)
              refine lv_iconst (v := 0) hx hb dX12_isPart_80 (by decide) ?_
              refine lv_istore (lv' := [(4, .int 0), (5, .int x142), (0, .ref o1), (1, .int a1), (2, .int a2), (3, .int a3)]) hx hb dX12_isPart_81 hl (by decide) rfl (fun ls hl => ?_)
              obtain ⟨x146, x146_e⟩ : ∃ z : Int32, z = x142 + 1 := ⟨_, rfl⟩
              have x146_h : Iv 1 12 x146 := iv_e x146_e (iv_add j144 ik_1 (by decide))
              refine lv_iinc (v := x146) (lv' := [(5, .int x146), (4, .int 0), (0, .ref o1), (1, .int a1), (2, .int a2), (3, .int a3)]) hx hb dX12_isPart_83 hl (k := 1) rfl (incN (by decide +kernel) x146_e) (by decide) rfl (fun ls hl => ?_)
              refine lv_goto (tgt := 36) hx hb dX12_isPart_86 (by decide) ?_
              exact ih3 x146 _ _ _ (ms_up x146_e j144 (by decide) hM3) (iv_w x146_h (by decide)) hP hD hS hl
        exact L3 _ 0 _ _ _ (Nat.lt_succ_self _) (iv_w ik_0 (by decide)) hP hD hS hl
      ·
        have j147 : Iv 1 1 x101 := r_nelo h102 x101_h ik_0 (by decide)
        refine lv_iconst (v := 1) hx hb dX12_isPart_26 (by decide) ?_
        refine lv_goto (tgt := 31) hx hb dX12_isPart_27 (by decide) ?_
        refine lv_istore (lv' := [(4, .int 1), (0, .ref o1), (1, .int a1), (2, .int a2), (3, .int a3)]) hx hb dX12_isPart_31 hl (by decide) rfl (fun ls hl => ?_)
        refine lv_iconst (v := 0) hx hb dX12_isPart_33 (by decide) ?_
        refine lv_istore (lv' := [(5, .int 0), (4, .int 1), (0, .ref o1), (1, .int a1), (2, .int a2), (3, .int a3)]) hx hb dX12_isPart_34 hl (by decide) rfl (fun ls hl => ?_)
        have L4 : ∀ (N : Nat) (x345 : Int32) (x346 : Int32) (H : Heap) (locs : List Loc) (ls : Array Slot), (12 - x345.toInt).toNat < N → Iv 0 12 x345 → Iv 0 1 x346 → va_P (dC, dI) vwCl ([(o1, .inr (12, [.int v2, .ref o3, .int v5, .ref o6, .int v8, .ref o9, .ref o11, .int v13, .ref o14, .int v16, .ref o17, .int v19, .int v20, .int v21, .ref o22, .ref o24, .ref o26, .ref o28, .ref o30, .int v32, .ref o33, .ref o35, .ref o37, .int v39, .ref o40, .ref o42, .ref o44, .int v46, .ref o47])), (o6, .inl (cI, 12, .inl fw7))]) H → va_D A ([(o1, .inr (12, [.int v2, .ref o3, .int v5, .ref o6, .int v8, .ref o9, .ref o11, .int v13, .ref o14, .int v16, .ref o17, .int v19, .int v20, .int v21, .ref o22, .ref o24, .ref o26, .ref o28, .ref o30, .int v32, .ref o33, .ref o35, .ref o37, .int v39, .ref o40, .ref o42, .ref o44, .int v46, .ref o47])), (o6, .inl (cI, 12, .inl fw7))]) → va_S A s.heap H locs → lv_has ls 6 [(5, .int x345), (4, .int x346), (0, .ref o1), (1, .int a1), (2, .int a2), (3, .int a3)] → W p l e ({ frames := 3, cells := 0, slots := 0, locals := 70 }) s m ([.ref o1, .int a1, .int a2, .int a3] : List Value).toArray below meth c H locs 0 0 Q (F0 m 36 ls []) := by
          intro N
          induction N with
          | zero =>
            intro x345 x346 H locs ls hM
            exact absurd hM (Nat.not_lt_zero _)
          | succ N ih4 =>
            intro x345 x346 H locs ls hM4 x345_h x346_h hP hD hS hl
            refine lv_iload hx hb dX12_isPart_36 (lv_at hl 0 rfl) ?_
            refine lv_aload_n hx hb dX12_isPart_38 rfl (lv_at hl 2 rfl) ?_
            refine va_get (D := (dC, dI)) (ci := 12) (v := .int v5) (C := RX12) (T := TX12) (N := 29) hx hb hts iw_X12_isPart_X12 hown hK hP 0 rfl rfl 2 (by decide) (hts (.fieldLink RX12 73 "HolelessHouseModel" "n" "I") hm_X12_isPart_1) (fun _ h9 => h9) rfl dX12_isPart_39 ?_
            refine lv_icmp_ge (tgt := 89) hx hb dX12_isPart_42 (by decide) (fun h347 => ?_) (fun h347 => ?_)
            ·
              have qh347 := le_i h347
              refine lv_iload hx hb dX12_isPart_89 (lv_at hl 1 rfl) ?_
              rw [hQ]
              exact W.zret (v := x346) (ty := .boolean) hx hb hr (nar_z x346_h) (fun t ht hW => ⟨⟨x346, (), rfl, x346_h, by rw [ht]; exact hP, va_K.moved hW.alike hK, hD⟩, hS.F ht⟩) hS.2.2 dX12_isPart_91
            ·
              have qh347 := nle_i h347
              have j348 : Iv 0 11 x345 := r_ltl qh347 x345_h v5_h (by decide)
              have j349 : Iv 1 12 v5 := r_ltr qh347 x345_h v5_h (by decide)
              refine lv_iload hx hb dX12_isPart_45 (lv_at hl 1 rfl) ?_
              refine lv_if_eq (tgt := 80) hx hb dX12_isPart_47 (by decide) (fun h350 => ?_) (fun h350 => ?_)
              ·
                have j351 : Iv 0 0 x346 := r_eq h350 ik_0
                refine lv_iconst (v := 0) hx hb dX12_isPart_80 (by decide) ?_
                refine lv_istore (lv' := [(4, .int 0), (5, .int x345), (0, .ref o1), (1, .int a1), (2, .int a2), (3, .int a3)]) hx hb dX12_isPart_81 hl (by decide) rfl (fun ls hl => ?_)
                obtain ⟨x352, x352_e⟩ : ∃ z : Int32, z = x345 + 1 := ⟨_, rfl⟩
                have x352_h : Iv 1 12 x352 := iv_e x352_e (iv_add j348 ik_1 (by decide))
                refine lv_iinc (v := x352) (lv' := [(5, .int x352), (4, .int 0), (0, .ref o1), (1, .int a1), (2, .int a2), (3, .int a3)]) hx hb dX12_isPart_83 hl (k := 1) rfl (incN (by decide +kernel) x352_e) (by decide) rfl (fun ls hl => ?_)
                refine lv_goto (tgt := 36) hx hb dX12_isPart_86 (by decide) ?_
                exact ih4 x352 0 _ _ _ (ms_up x352_e j348 (by decide) hM4) (iv_w x352_h (by decide)) (iv_w ik_0 (by decide)) hP hD hS hl
              ·
                have j353 : Iv 1 1 x346 := r_nelo h350 x346_h ik_0 (by decide)
                refine lv_iload_n hx hb dX12_isPart_50 rfl (lv_at hl 5 rfl) ?_
                refine lv_iload hx hb dX12_isPart_51 (lv_at hl 0 rfl) ?_
                refine kc_i (D := (dC, dI)) (S := Unit) (wc := []) (wr := [(o1, .inr (12, [.int v2, .ref o3, .int v5, .ref o6, .int v8, .ref o9, .ref o11, .int v13, .ref o14, .int v16, .ref o17, .int v19, .int v20, .int v21, .ref o22, .ref o24, .ref o26, .ref o28, .ref o30, .int v32, .ref o33, .ref o35, .ref o37, .int v39, .ref o40, .ref o42, .ref o44, .int v46, .ref o47])), (o6, .inl (cI, 12, .inl fw7))]) (w1 := fun _ => []) (wn := fun _ => [(o1, .inr (12, [.int v2, .ref o3, .int v5, .ref o6, .int v8, .ref o9, .ref o11, .int v13, .ref o14, .int v16, .ref o17, .int v19, .int v20, .int v21, .ref o22, .ref o24, .ref o26, .ref o28, .ref o30, .int v32, .ref o33, .ref o35, .ref o37, .int v39, .ref o40, .ref o42, .ref o44, .int v46, .ref o47])), (o6, .inl (cI, 12, .inl fw7))]) (fun hPc hDc => va_runS (As := [.int a3, .int x345]) (rest := []) ⟨hx, hb, hml, hown, hts⟩ (kX12_has_1 l dC dI cI c2 cZ a3 x345 H.size (iv_w j348 (by decide))) (va_cwS 2 hts gX12_isPart_X12_has rfl rfl rfl (by decide +kernel) ⟨Nat.le_of_ble_eq_true rfl, Nat.le_of_ble_eq_true rfl⟩) (pre_S hPc hK hDc hN) rfl rfl hl.1 rfl (lv_room (Nat.le_of_ble_eq_true rfl)) dX12_isPart_53 ⟨Nat.le_of_ble_eq_true rfl, Nat.le_of_ble_eq_true rfl⟩) hP hD hS hA [] [0, 1] [0, 1] rfl rfl (by decide +kernel) (by decide +kernel) (by decide +kernel) (by decide +kernel) (fun _ => rfl) (fun x354 _ H locs hq hP hD hS => ?_)
                obtain ⟨x354_h, e355⟩ := hq
                have hP : va_P (dC, dI) vwCl ([(o1, .inr (12, [.int v2, .ref o3, .int v5, .ref o6, .int v8, .ref o9, .ref o11, .int v13, .ref o14, .int v16, .ref o17, .int v19, .int v20, .int v21, .ref o22, .ref o24, .ref o26, .ref o28, .ref o30, .int v32, .ref o33, .ref o35, .ref o37, .int v39, .ref o40, .ref o42, .ref o44, .int v46, .ref o47])), (o6, .inl (cI, 12, .inl fw7))]) H := hP
                have hD : va_D A ([(o1, .inr (12, [.int v2, .ref o3, .int v5, .ref o6, .int v8, .ref o9, .ref o11, .int v13, .ref o14, .int v16, .ref o17, .int v19, .int v20, .int v21, .ref o22, .ref o24, .ref o26, .ref o28, .ref o30, .int v32, .ref o33, .ref o35, .ref o37, .int v39, .ref o40, .ref o42, .ref o44, .int v46, .ref o47])), (o6, .inl (cI, 12, .inl fw7))]) := hD
                refine lv_if_eq (tgt := 76) hx hb dX12_isPart_56 (by decide) (fun h356 => ?_) (fun h356 => ?_)
                ·
                  have j357 : Iv 0 0 x354 := r_eq h356 ik_0
                  have b358 : bt a3 (Int32.toNatClampNeg x345) = false := has_f e355 h356
                  refine lv_iconst (v := 1) hx hb dX12_isPart_76 (by decide) ?_
                  refine lv_goto (tgt := 81) hx hb dX12_isPart_77 (by decide) ?_
                  refine lv_istore (lv' := [(4, .int 1), (5, .int x345), (0, .ref o1), (1, .int a1), (2, .int a2), (3, .int a3)]) hx hb dX12_isPart_81 hl (by decide) rfl (fun ls hl => ?_)
                  obtain ⟨x359, x359_e⟩ : ∃ z : Int32, z = x345 + 1 := ⟨_, rfl⟩
                  have x359_h : Iv 1 12 x359 := iv_e x359_e (iv_add j348 ik_1 (by decide))
                  refine lv_iinc (v := x359) (lv' := [(5, .int x359), (4, .int 1), (0, .ref o1), (1, .int a1), (2, .int a2), (3, .int a3)]) hx hb dX12_isPart_83 hl (k := 1) rfl (incN (by decide +kernel) x359_e) (by decide) rfl (fun ls hl => ?_)
                  refine lv_goto (tgt := 36) hx hb dX12_isPart_86 (by decide) ?_
                  exact ih4 x359 1 _ _ _ (ms_up x359_e j348 (by decide) hM4) (iv_w x359_h (by decide)) (iv_w ik_1 (by decide)) hP hD hS hl
                ·
                  have j360 : Iv 1 1 x354 := r_nelo h356 x354_h ik_0 (by decide)
                  have b361 : bt a3 (Int32.toNatClampNeg x345) = true := has_t e355 h356
                  refine lv_aload_n hx hb dX12_isPart_59 rfl (lv_at hl 2 rfl) ?_
                  refine lv_iload_n hx hb dX12_isPart_60 rfl (lv_at hl 3 rfl) ?_
                  refine lv_iload_n hx hb dX12_isPart_61 rfl (lv_at hl 4 rfl) ?_
                  refine lv_iload_n hx hb dX12_isPart_62 rfl (lv_at hl 5 rfl) ?_
                  refine lv_iconst (v := 1) hx hb dX12_isPart_63 (by decide) ?_
                  refine lv_iload hx hb dX12_isPart_64 (lv_at hl 0 rfl) ?_
                  refine lv_ishl hx hb dX12_isPart_66 (lv_topi (fun x362 x362_e => ?_))
                  have x362_h : Iv 1 2048 x362 := iv_e x362_e (iv_shl1 j348 (by decide))
                  refine lv_iconst (v := (-1)) hx hb dX12_isPart_67 (by decide) ?_
                  refine lv_ixor hx hb dX12_isPart_68 (lv_topi (fun x363 x363_e => ?_))
                  refine lv_iand hx hb dX12_isPart_69 (lv_topi (fun x364 x364_e => ?_))
                  have x364_h : Iv 0 4095 x364 := iv_e x364_e (iv_andL _ a3_h (by decide))
                  refine kc_i (D := (dC, dI)) (S := Unit) (wc := [(o1, .inr (12, [.int v2, .ref o3, .int v5, .ref o6, .int v8, .ref o9, .ref o11, .int v13, .ref o14, .int v16, .ref o17, .int v19, .int v20, .int v21, .ref o22, .ref o24, .ref o26, .ref o28, .ref o30, .int v32, .ref o33, .ref o35, .ref o37, .int v39, .ref o40, .ref o42, .ref o44, .int v46, .ref o47])), (o6, .inl (cI, 12, .inl fw7))]) (wr := []) (w1 := fun _ => [(o1, .inr (12, [.int v2, .ref o3, .int v5, .ref o6, .int v8, .ref o9, .ref o11, .int v13, .ref o14, .int v16, .ref o17, .int v19, .int v20, .int v21, .ref o22, .ref o24, .ref o26, .ref o28, .ref o30, .int v32, .ref o33, .ref o35, .ref o37, .int v39, .ref o40, .ref o42, .ref o44, .int v46, .ref o47])), (o6, .inl (cI, 12, .inl fw7))]) (wn := fun _ => [(o1, .inr (12, [.int v2, .ref o3, .int v5, .ref o6, .int v8, .ref o9, .ref o11, .int v13, .ref o14, .int v16, .ref o17, .int v19, .int v20, .int v21, .ref o22, .ref o24, .ref o26, .ref o28, .ref o30, .int v32, .ref o33, .ref o35, .ref o37, .int v39, .ref o40, .ref o42, .ref o44, .int v46, .ref o47])), (o6, .inl (cI, 12, .inl fw7))]) (fun hPc hDc => va_runV (As := [.int a1, .int a2, .int x364]) (rest := []) ⟨hx, hb, hml, hown, hts⟩ (kX12_parts_1 l dC dI cI c2 cZ o1 o3 o6 o9 o11 o14 o17 o22 o24 o26 o28 o30 o33 o35 o37 o40 o42 o44 o47 v2 v5 fw7 v8 v13 v16 v19 v20 v21 v32 v39 v46 a1 a2 x364 H.size (iv_w j349 (by decide)) fw7_b v8_h v13_h v16_h v19_h v32_h v39_h v46_h a1_h a2_h x364_h) (cwV 3 hts gX12_isPart_X12_parts rfl rfl rfl (by decide +kernel) ⟨Nat.le_of_ble_eq_true rfl, Nat.le_of_ble_eq_true rfl⟩) (pre_V hPc hK hDc hN (ci := 12) (q0 := 0) rfl rfl) rfl rfl hl.1 rfl (lv_room (Nat.le_of_ble_eq_true rfl)) dX12_isPart_70 ⟨Nat.le_of_ble_eq_true rfl, Nat.le_of_ble_eq_true rfl⟩) hP hD hS hA [0, 1] [] [0, 1] rfl rfl (by decide +kernel) (by decide +kernel) (by decide +kernel) (by decide +kernel) (fun _ => rfl) (fun x365 _ H locs hq hP hD hS => ?_)
                  have x365_h := hq
                  have hP : va_P (dC, dI) vwCl ([(o1, .inr (12, [.int v2, .ref o3, .int v5, .ref o6, .int v8, .ref o9, .ref o11, .int v13, .ref o14, .int v16, .ref o17, .int v19, .int v20, .int v21, .ref o22, .ref o24, .ref o26, .ref o28, .ref o30, .int v32, .ref o33, .ref o35, .ref o37, .int v39, .ref o40, .ref o42, .ref o44, .int v46, .ref o47])), (o6, .inl (cI, 12, .inl fw7))]) H := hP
                  have hD : va_D A ([(o1, .inr (12, [.int v2, .ref o3, .int v5, .ref o6, .int v8, .ref o9, .ref o11, .int v13, .ref o14, .int v16, .ref o17, .int v19, .int v20, .int v21, .ref o22, .ref o24, .ref o26, .ref o28, .ref o30, .int v32, .ref o33, .ref o35, .ref o37, .int v39, .ref o40, .ref o42, .ref o44, .int v46, .ref o47])), (o6, .inl (cI, 12, .inl fw7))]) := hD
                  refine lv_if_ne (tgt := 80) hx hb dX12_isPart_73 (by decide) (fun h366 => ?_) (fun h366 => ?_)
                  ·
                    have j367 : Iv 1 1 x365 := r_nelo h366 x365_h ik_0 (by decide)
                    refine lv_iconst (v := 0) hx hb dX12_isPart_80 (by decide) ?_
                    refine lv_istore (lv' := [(4, .int 0), (5, .int x345), (0, .ref o1), (1, .int a1), (2, .int a2), (3, .int a3)]) hx hb dX12_isPart_81 hl (by decide) rfl (fun ls hl => ?_)
                    obtain ⟨x368, x368_e⟩ : ∃ z : Int32, z = x345 + 1 := ⟨_, rfl⟩
                    have x368_h : Iv 1 12 x368 := iv_e x368_e (iv_add j348 ik_1 (by decide))
                    refine lv_iinc (v := x368) (lv' := [(5, .int x368), (4, .int 0), (0, .ref o1), (1, .int a1), (2, .int a2), (3, .int a3)]) hx hb dX12_isPart_83 hl (k := 1) rfl (incN (by decide +kernel) x368_e) (by decide) rfl (fun ls hl => ?_)
                    refine lv_goto (tgt := 36) hx hb dX12_isPart_86 (by decide) ?_
                    exact ih4 x368 0 _ _ _ (ms_up x368_e j348 (by decide) hM4) (iv_w x368_h (by decide)) (iv_w ik_0 (by decide)) hP hD hS hl
                  ·
                    have j369 : Iv 0 0 x365 := r_eq h366 ik_0
                    refine lv_iconst (v := 1) hx hb dX12_isPart_76 (by decide) ?_
                    refine lv_goto (tgt := 81) hx hb dX12_isPart_77 (by decide) ?_
                    refine lv_istore (lv' := [(4, .int 1), (5, .int x345), (0, .ref o1), (1, .int a1), (2, .int a2), (3, .int a3)]) hx hb dX12_isPart_81 hl (by decide) rfl (fun ls hl => ?_)
                    obtain ⟨x370, x370_e⟩ : ∃ z : Int32, z = x345 + 1 := ⟨_, rfl⟩
                    have x370_h : Iv 1 12 x370 := iv_e x370_e (iv_add j348 ik_1 (by decide))
                    refine lv_iinc (v := x370) (lv' := [(5, .int x370), (4, .int 1), (0, .ref o1), (1, .int a1), (2, .int a2), (3, .int a3)]) hx hb dX12_isPart_83 hl (k := 1) rfl (incN (by decide +kernel) x370_e) (by decide) rfl (fun ls hl => ?_)
                    refine lv_goto (tgt := 36) hx hb dX12_isPart_86 (by decide) ?_
                    exact ih4 x370 1 _ _ _ (ms_up x370_e j348 (by decide) hM4) (iv_w x370_h (by decide)) (iv_w ik_1 (by decide)) hP hD hS hl
        exact L4 _ 0 1 _ _ _ (Nat.lt_succ_self _) (iv_w ik_0 (by decide)) (iv_w ik_1 (by decide)) hP hD hS hl
theorem iw_X12_part_X12 : ∀ w ∈ wsX120, w ∈ wsX12_part := fun _ h => List.mem_cons.mpr (Or.inr (List.mem_append.mpr (Or.inr h)))
set_option maxHeartbeats 4000000 in
set_option maxRecDepth 100000 in
theorem kX12_part_1 (l : Launch) (dC : Nat → ClassId) (dI : Nat → Nat → Nat) (cI c2 cZ : ClassId) (o1 : Nat) (o3 : Nat) (o6 : Nat) (o9 : Nat) (o11 : Nat) (o14 : Nat) (o17 : Nat) (o22 : Nat) (o24 : Nat) (o26 : Nat) (o28 : Nat) (o30 : Nat) (o33 : Nat) (o35 : Nat) (o37 : Nat) (o40 : Nat) (o42 : Nat) (o44 : Nat) (o47 : Nat) (v2 : Int32) (v5 : Int32) (fw7 : Nat → Int32) (v8 : Int32) (v13 : Int32) (v16 : Int32) (v19 : Int32) (v20 : Int32) (v21 : Int32) (v32 : Int32) (v39 : Int32) (v46 : Int32) (a1 : Int32) (a2 : Int32) (a3 : Int32) (sz : Nat) (v5_h : Iv 0 12 v5) (fw7_b : Bd 12 0 4095 fw7) (v8_h : Iv 0 8 v8) (v13_h : Iv 0 12 v13) (v16_h : Iv 0 12 v16) (v19_h : Iv (-9) 12 v19) (v32_h : Iv 0 99 v32) (v39_h : Iv 0 12 v39) (v46_h : Iv 0 12 v46) : Met l yX12_part wsX12_part ({ frames := 4, cells := 0, slots := 0, locals := 95 }) (va_Pc [.ref o1, .int a1, .int a2, .int a3] (wPre (dC, dI) [(cI, .int), (c2, .array .int), (cZ, .boolean)] ([(o1, .inr (12, [.int v2, .ref o3, .int v5, .ref o6, .int v8, .ref o9, .ref o11, .int v13, .ref o14, .int v16, .ref o17, .int v19, .int v20, .int v21, .ref o22, .ref o24, .ref o26, .ref o28, .ref o30, .int v32, .ref o33, .ref o35, .ref o37, .int v39, .ref o40, .ref o42, .ref o44, .int v46, .ref o47])), (o6, .inl (cI, 12, .inl fw7))]) sz)) (va_Qi (fun (r : Int32) (_ : Unit) => True) (fun _ t => wPost (dC, dI) [(cI, .int), (c2, .array .int), (cZ, .boolean)] (va_A ([(o1, .inr (12, [.int v2, .ref o3, .int v5, .ref o6, .int v8, .ref o9, .ref o11, .int v13, .ref o14, .int v16, .ref o17, .int v19, .int v20, .int v21, .ref o22, .ref o24, .ref o26, .ref o28, .ref o30, .int v32, .ref o33, .ref o35, .ref o37, .int v39, .ref o40, .ref o42, .ref o44, .int v46, .ref o47])), (o6, .inl (cI, 12, .inl fw7))]) sz) ([(o1, .inr (12, [.int v2, .ref o3, .int v5, .ref o6, .int v8, .ref o9, .ref o11, .int v13, .ref o14, .int v16, .ref o17, .int v19, .int v20, .int v21, .ref o22, .ref o24, .ref o26, .ref o28, .ref o30, .int v32, .ref o33, .ref o35, .ref o37, .int v39, .ref o40, .ref o42, .ref o44, .int v46, .ref o47])), (o6, .inl (cI, 12, .inl fw7))]) t) (va_A ([(o1, .inr (12, [.int v2, .ref o3, .int v5, .ref o6, .int v8, .ref o9, .ref o11, .int v13, .ref o14, .int v16, .ref o17, .int v19, .int v20, .int v21, .ref o22, .ref o24, .ref o26, .ref o28, .ref o30, .int v32, .ref o33, .ref o35, .ref o37, .int v39, .ref o40, .ref o42, .ref o44, .int v46, .ref o47])), (o6, .inl (cI, 12, .inl fw7))]) sz)) 0 0 (va_A ([(o1, .inr (12, [.int v2, .ref o3, .int v5, .ref o6, .int v8, .ref o9, .ref o11, .int v13, .ref o14, .int v16, .ref o17, .int v19, .int v20, .int v21, .ref o22, .ref o24, .ref o26, .ref o28, .ref o30, .int v32, .ref o33, .ref o35, .ref o37, .int v39, .ref o40, .ref o42, .ref o44, .int v46, .ref o47])), (o6, .inl (cI, 12, .inl fw7))]) sz) := by
  refine Met.ofW (cc := cX12_part) (maxL := 6) (ret := (some .int)) (by decide) rfl ?_
  intro p e s m args below meth c s₁ B hml hv
  obtain ⟨rfl, hsz, hP, hK, hD0, hN⟩ := hv
  have hx := B.exec
  have hb := B.bytes
  have hr := B.returns
  have hts := atoms_spec (ws := wsX12_part) B.pre
  have hown : s.vm.findClass RX12 = some m.cls := findClass_of_methodNamed B.named
  have hlocks := B.notSynchronized
  subst hsz
  have hD := hD0.self (sz := s.heap.size)
  generalize hAe : va_A ([(o1, .inr (12, [.int v2, .ref o3, .int v5, .ref o6, .int v8, .ref o9, .ref o11, .int v13, .ref o14, .int v16, .ref o17, .int v19, .int v20, .int v21, .ref o22, .ref o24, .ref o26, .ref o28, .ref o30, .int v32, .ref o33, .ref o35, .ref o37, .int v39, .ref o40, .ref o42, .ref o44, .int v46, .ref o47])), (o6, .inl (cI, 12, .inl fw7))]) s.heap.size = A at hD ⊢
  have hA : ∀ q : Nat, s.heap.size ≤ q → A q := fun q h => by rw [← hAe]; exact Or.inr h
  have hS : va_S A s.heap s.heap [] := va_S.rf
  have hP : va_P (dC, dI) vwCl ([(o1, .inr (12, [.int v2, .ref o3, .int v5, .ref o6, .int v8, .ref o9, .ref o11, .int v13, .ref o14, .int v16, .ref o17, .int v19, .int v20, .int v21, .ref o22, .ref o24, .ref o26, .ref o28, .ref o30, .int v32, .ref o33, .ref o35, .ref o37, .int v39, .ref o40, .ref o42, .ref o44, .int v46, .ref o47])), (o6, .inl (cI, 12, .inl fw7))]) s.heap := hP
  have hl := lv_entry ([.ref o1, .int a1, .int a2, .int a3]) (n := 6) (Nat.le_of_ble_eq_true rfl)
  rw [lg_entry_eq]
  generalize (lg_sl ([.ref o1, .int a1, .int a2, .int a3]) ++ List.replicate (6 - (lg_sl ([.ref o1, .int a1, .int a2, .int a3])).length) Slot.unset).toArray = ls at hl ⊢
  have hl : lv_has ls 6 [(0, .ref o1), (1, .int a1), (2, .int a2), (3, .int a3)] := hl
  refine gen_Q (fun Q hQ => ?_)
  refine lv_aload_n hx hb dX12_part_0 rfl (lv_at hl 0 rfl) ?_
  refine lv_iload_n hx hb dX12_part_1 rfl (lv_at hl 1 rfl) ?_
  refine kc_i (D := (dC, dI)) (S := Unit) (wc := [(o1, .inr (12, [.int v2, .ref o3, .int v5, .ref o6, .int v8, .ref o9, .ref o11, .int v13, .ref o14, .int v16, .ref o17, .int v19, .int v20, .int v21, .ref o22, .ref o24, .ref o26, .ref o28, .ref o30, .int v32, .ref o33, .ref o35, .ref o37, .int v39, .ref o40, .ref o42, .ref o44, .int v46, .ref o47]))]) (wr := [(o6, .inl (cI, 12, .inl fw7))]) (w1 := fun _ => [(o1, .inr (12, [.int v2, .ref o3, .int v5, .ref o6, .int v8, .ref o9, .ref o11, .int v13, .ref o14, .int v16, .ref o17, .int v19, .int v20, .int v21, .ref o22, .ref o24, .ref o26, .ref o28, .ref o30, .int v32, .ref o33, .ref o35, .ref o37, .int v39, .ref o40, .ref o42, .ref o44, .int v46, .ref o47]))]) (wn := fun _ => [(o1, .inr (12, [.int v2, .ref o3, .int v5, .ref o6, .int v8, .ref o9, .ref o11, .int v13, .ref o14, .int v16, .ref o17, .int v19, .int v20, .int v21, .ref o22, .ref o24, .ref o26, .ref o28, .ref o30, .int v32, .ref o33, .ref o35, .ref o37, .int v39, .ref o40, .ref o42, .ref o44, .int v46, .ref o47])), (o6, .inl (cI, 12, .inl fw7))]) (fun hPc hDc => va_runV (As := [.int a1]) (rest := []) ⟨hx, hb, hml, hown, hts⟩ (kX12_isNode_1 l dC dI cI c2 cZ o1 o3 o6 o9 o11 o14 o17 o22 o24 o26 o28 o30 o33 o35 o37 o40 o42 o44 o47 v2 v5 v8 v13 v16 v19 v20 v21 v32 v39 v46 a1 s.heap.size v5_h v8_h v13_h v16_h v19_h v32_h v39_h v46_h) (cwV 1 hts gX12_part_X12_isNode rfl rfl rfl (by decide +kernel) ⟨Nat.le_of_ble_eq_true rfl, Nat.le_of_ble_eq_true rfl⟩) (pre_V hPc hK hDc hN (ci := 12) (q0 := 0) rfl rfl) rfl rfl hl.1 rfl (lv_room (Nat.le_of_ble_eq_true rfl)) dX12_part_2 ⟨Nat.le_of_ble_eq_true rfl, Nat.le_of_ble_eq_true rfl⟩) hP hD hS hA [0] [1] [1, 0] rfl rfl (by decide +kernel) (by decide +kernel) (by decide +kernel) (by decide +kernel) (fun _ => rfl) (fun x1 _ H locs hq hP hD hS => ?_)
  obtain ⟨x1_h, i2, e3⟩ := hq
  have hP : va_P (dC, dI) vwCl ([(o1, .inr (12, [.int v2, .ref o3, .int v5, .ref o6, .int v8, .ref o9, .ref o11, .int v13, .ref o14, .int v16, .ref o17, .int v19, .int v20, .int v21, .ref o22, .ref o24, .ref o26, .ref o28, .ref o30, .int v32, .ref o33, .ref o35, .ref o37, .int v39, .ref o40, .ref o42, .ref o44, .int v46, .ref o47])), (o6, .inl (cI, 12, .inl fw7))]) H := hP
  have hD : va_D A ([(o1, .inr (12, [.int v2, .ref o3, .int v5, .ref o6, .int v8, .ref o9, .ref o11, .int v13, .ref o14, .int v16, .ref o17, .int v19, .int v20, .int v21, .ref o22, .ref o24, .ref o26, .ref o28, .ref o30, .int v32, .ref o33, .ref o35, .ref o37, .int v39, .ref o40, .ref o42, .ref o44, .int v46, .ref o47])), (o6, .inl (cI, 12, .inl fw7))]) := hD
  refine lv_if_eq (tgt := 21) hx hb dX12_part_5 (by decide) (fun h4 => ?_) (fun h4 => ?_)
  ·
    have j5 : Iv 0 0 x1 := r_eq h4 ik_0
    refine lv_iconst (v := (-1)) hx hb dX12_part_21 (by decide) ?_
    rw [hQ]
    exact W.iret (v := (-1)) hx hb hr (fun t ht hW => ⟨⟨(-1), (), rfl, trivial, by rw [ht]; exact hP, va_K.moved hW.alike hK, hD⟩, hS.F ht⟩) hS.2.2 dX12_part_22
  ·
    have j6 : Iv 1 1 x1 := r_nelo h4 x1_h ik_0 (by decide)
    have j7 : Iv 0 11 a1 := i2 h4
    have e8 := e3 h4
    refine lv_aload_n hx hb dX12_part_8 rfl (lv_at hl 0 rfl) ?_
    refine lv_iload_n hx hb dX12_part_9 rfl (lv_at hl 2 rfl) ?_
    refine kc_i (D := (dC, dI)) (S := Unit) (wc := [(o1, .inr (12, [.int v2, .ref o3, .int v5, .ref o6, .int v8, .ref o9, .ref o11, .int v13, .ref o14, .int v16, .ref o17, .int v19, .int v20, .int v21, .ref o22, .ref o24, .ref o26, .ref o28, .ref o30, .int v32, .ref o33, .ref o35, .ref o37, .int v39, .ref o40, .ref o42, .ref o44, .int v46, .ref o47]))]) (wr := [(o6, .inl (cI, 12, .inl fw7))]) (w1 := fun _ => [(o1, .inr (12, [.int v2, .ref o3, .int v5, .ref o6, .int v8, .ref o9, .ref o11, .int v13, .ref o14, .int v16, .ref o17, .int v19, .int v20, .int v21, .ref o22, .ref o24, .ref o26, .ref o28, .ref o30, .int v32, .ref o33, .ref o35, .ref o37, .int v39, .ref o40, .ref o42, .ref o44, .int v46, .ref o47]))]) (wn := fun _ => [(o1, .inr (12, [.int v2, .ref o3, .int v5, .ref o6, .int v8, .ref o9, .ref o11, .int v13, .ref o14, .int v16, .ref o17, .int v19, .int v20, .int v21, .ref o22, .ref o24, .ref o26, .ref o28, .ref o30, .int v32, .ref o33, .ref o35, .ref o37, .int v39, .ref o40, .ref o42, .ref o44, .int v46, .ref o47])), (o6, .inl (cI, 12, .inl fw7))]) (fun hPc hDc => va_runV (As := [.int a2]) (rest := []) ⟨hx, hb, hml, hown, hts⟩ (kX12_isNode_1 l dC dI cI c2 cZ o1 o3 o6 o9 o11 o14 o17 o22 o24 o26 o28 o30 o33 o35 o37 o40 o42 o44 o47 v2 v5 v8 v13 v16 v19 v20 v21 v32 v39 v46 a2 H.size v5_h v8_h v13_h v16_h v19_h v32_h v39_h v46_h) (cwV 1 hts gX12_part_X12_isNode rfl rfl rfl (by decide +kernel) ⟨Nat.le_of_ble_eq_true rfl, Nat.le_of_ble_eq_true rfl⟩) (pre_V hPc hK hDc hN (ci := 12) (q0 := 0) rfl rfl) rfl rfl hl.1 rfl (lv_room (Nat.le_of_ble_eq_true rfl)) dX12_part_10 ⟨Nat.le_of_ble_eq_true rfl, Nat.le_of_ble_eq_true rfl⟩) hP hD hS hA [0] [1] [1, 0] rfl rfl (by decide +kernel) (by decide +kernel) (by decide +kernel) (by decide +kernel) (fun _ => rfl) (fun x9 _ H locs hq hP hD hS => ?_)
    obtain ⟨x9_h, i10, e11⟩ := hq
    have hP : va_P (dC, dI) vwCl ([(o1, .inr (12, [.int v2, .ref o3, .int v5, .ref o6, .int v8, .ref o9, .ref o11, .int v13, .ref o14, .int v16, .ref o17, .int v19, .int v20, .int v21, .ref o22, .ref o24, .ref o26, .ref o28, .ref o30, .int v32, .ref o33, .ref o35, .ref o37, .int v39, .ref o40, .ref o42, .ref o44, .int v46, .ref o47])), (o6, .inl (cI, 12, .inl fw7))]) H := hP
    have hD : va_D A ([(o1, .inr (12, [.int v2, .ref o3, .int v5, .ref o6, .int v8, .ref o9, .ref o11, .int v13, .ref o14, .int v16, .ref o17, .int v19, .int v20, .int v21, .ref o22, .ref o24, .ref o26, .ref o28, .ref o30, .int v32, .ref o33, .ref o35, .ref o37, .int v39, .ref o40, .ref o42, .ref o44, .int v46, .ref o47])), (o6, .inl (cI, 12, .inl fw7))]) := hD
    refine lv_if_eq (tgt := 21) hx hb dX12_part_13 (by decide) (fun h12 => ?_) (fun h12 => ?_)
    ·
      have j13 : Iv 0 0 x9 := r_eq h12 ik_0
      refine lv_iconst (v := (-1)) hx hb dX12_part_21 (by decide) ?_
      rw [hQ]
      exact W.iret (v := (-1)) hx hb hr (fun t ht hW => ⟨⟨(-1), (), rfl, trivial, by rw [ht]; exact hP, va_K.moved hW.alike hK, hD⟩, hS.F ht⟩) hS.2.2 dX12_part_22
    ·
      have j14 : Iv 1 1 x9 := r_nelo h12 x9_h ik_0 (by decide)
      have j15 : Iv 0 11 a2 := i10 h12
      have e16 := e11 h12
      refine lv_iload_n hx hb dX12_part_16 rfl (lv_at hl 1 rfl) ?_
      refine lv_iload_n hx hb dX12_part_17 rfl (lv_at hl 2 rfl) ?_
      refine lv_icmp_ne (tgt := 23) hx hb dX12_part_18 (by decide) (fun h17 => ?_) (fun h17 => ?_)
      ·
        refine lv_aload_n hx hb dX12_part_23 rfl (lv_at hl 0 rfl) ?_
        refine va_get (D := (dC, dI)) (ci := 12) (v := .ref o6) (C := RX12) (T := TX12) (N := 29) hx hb hts iw_X12_part_X12 hown hK hP 0 rfl rfl 3 (by decide) (hts (.fieldLink RX12 13 "HolelessHouseModel" "near" "[I") hm_X12_part_1) (fun _ h9 => h9) rfl dX12_part_24 ?_
        refine lv_iload_n hx hb dX12_part_27 rfl (lv_at hl 1 rfl) ?_
        refine va_iald hx hb hK hP 1 0 rfl rfl (vin_iv j7 (by decide)) dX12_part_28 (lv_topi (fun x18 x18_e => ?_))
        have x18_h : Iv 0 4095 x18 := iv_e x18_e (bd_at fw7_b (vin_iv j7 (by decide)))
        refine lv_iload_n hx hb dX12_part_29 rfl (lv_at hl 2 rfl) ?_
        refine kc_i (D := (dC, dI)) (S := Unit) (wc := []) (wr := [(o1, .inr (12, [.int v2, .ref o3, .int v5, .ref o6, .int v8, .ref o9, .ref o11, .int v13, .ref o14, .int v16, .ref o17, .int v19, .int v20, .int v21, .ref o22, .ref o24, .ref o26, .ref o28, .ref o30, .int v32, .ref o33, .ref o35, .ref o37, .int v39, .ref o40, .ref o42, .ref o44, .int v46, .ref o47])), (o6, .inl (cI, 12, .inl fw7))]) (w1 := fun _ => []) (wn := fun _ => [(o1, .inr (12, [.int v2, .ref o3, .int v5, .ref o6, .int v8, .ref o9, .ref o11, .int v13, .ref o14, .int v16, .ref o17, .int v19, .int v20, .int v21, .ref o22, .ref o24, .ref o26, .ref o28, .ref o30, .int v32, .ref o33, .ref o35, .ref o37, .int v39, .ref o40, .ref o42, .ref o44, .int v46, .ref o47])), (o6, .inl (cI, 12, .inl fw7))]) (fun hPc hDc => va_runS (As := [.int x18, .int a2]) (rest := []) ⟨hx, hb, hml, hown, hts⟩ (kX12_has_1 l dC dI cI c2 cZ x18 a2 H.size (iv_w j15 (by decide))) (va_cwS 2 hts gX12_part_X12_has rfl rfl rfl (by decide +kernel) ⟨Nat.le_of_ble_eq_true rfl, Nat.le_of_ble_eq_true rfl⟩) (pre_S hPc hK hDc hN) rfl rfl hl.1 rfl (lv_room (Nat.le_of_ble_eq_true rfl)) dX12_part_30 ⟨Nat.le_of_ble_eq_true rfl, Nat.le_of_ble_eq_true rfl⟩) hP hD hS hA [] [0, 1] [0, 1] rfl rfl (by decide +kernel) (by decide +kernel) (by decide +kernel) (by decide +kernel) (fun _ => rfl) (fun x19 _ H locs hq hP hD hS => ?_)
        obtain ⟨x19_h, e20⟩ := hq
        have hP : va_P (dC, dI) vwCl ([(o1, .inr (12, [.int v2, .ref o3, .int v5, .ref o6, .int v8, .ref o9, .ref o11, .int v13, .ref o14, .int v16, .ref o17, .int v19, .int v20, .int v21, .ref o22, .ref o24, .ref o26, .ref o28, .ref o30, .int v32, .ref o33, .ref o35, .ref o37, .int v39, .ref o40, .ref o42, .ref o44, .int v46, .ref o47])), (o6, .inl (cI, 12, .inl fw7))]) H := hP
        have hD : va_D A ([(o1, .inr (12, [.int v2, .ref o3, .int v5, .ref o6, .int v8, .ref o9, .ref o11, .int v13, .ref o14, .int v16, .ref o17, .int v19, .int v20, .int v21, .ref o22, .ref o24, .ref o26, .ref o28, .ref o30, .int v32, .ref o33, .ref o35, .ref o37, .int v39, .ref o40, .ref o42, .ref o44, .int v46, .ref o47])), (o6, .inl (cI, 12, .inl fw7))]) := hD
        refine lv_if_eq (tgt := 39) hx hb dX12_part_33 (by decide) (fun h21 => ?_) (fun h21 => ?_)
        ·
          have j22 : Iv 0 0 x19 := r_eq h21 ik_0
          have b23 : bt x18 (Int32.toNatClampNeg a2) = false := has_f e20 h21
          refine lv_iconst (v := 0) hx hb dX12_part_39 (by decide) ?_
          refine lv_istore (lv' := [(4, .int 0), (0, .ref o1), (1, .int a1), (2, .int a2), (3, .int a3)]) hx hb dX12_part_40 hl (by decide) rfl (fun ls hl => ?_)
          refine lv_iconst (v := 0) hx hb dX12_part_42 (by decide) ?_
          refine lv_istore (lv' := [(5, .int 0), (4, .int 0), (0, .ref o1), (1, .int a1), (2, .int a2), (3, .int a3)]) hx hb dX12_part_43 hl (by decide) rfl (fun ls hl => ?_)
          have L1 : ∀ (N : Nat) (x415 : Int32) (x416 : Int32) (H : Heap) (locs : List Loc) (ls : Array Slot), (4096 - x415.toInt).toNat < N → Iv 0 4096 x415 → va_P (dC, dI) vwCl ([(o1, .inr (12, [.int v2, .ref o3, .int v5, .ref o6, .int v8, .ref o9, .ref o11, .int v13, .ref o14, .int v16, .ref o17, .int v19, .int v20, .int v21, .ref o22, .ref o24, .ref o26, .ref o28, .ref o30, .int v32, .ref o33, .ref o35, .ref o37, .int v39, .ref o40, .ref o42, .ref o44, .int v46, .ref o47])), (o6, .inl (cI, 12, .inl fw7))]) H → va_D A ([(o1, .inr (12, [.int v2, .ref o3, .int v5, .ref o6, .int v8, .ref o9, .ref o11, .int v13, .ref o14, .int v16, .ref o17, .int v19, .int v20, .int v21, .ref o22, .ref o24, .ref o26, .ref o28, .ref o30, .int v32, .ref o33, .ref o35, .ref o37, .int v39, .ref o40, .ref o42, .ref o44, .int v46, .ref o47])), (o6, .inl (cI, 12, .inl fw7))]) → va_S A s.heap H locs → lv_has ls 6 [(5, .int x415), (4, .int x416), (0, .ref o1), (1, .int a1), (2, .int a2), (3, .int a3)] → W p l e ({ frames := 4, cells := 0, slots := 0, locals := 95 }) s m ([.ref o1, .int a1, .int a2, .int a3] : List Value).toArray below meth c H locs 0 0 Q (F0 m 45 ls []) := by
            intro N
            induction N with
            | zero =>
              intro x415 x416 H locs ls hM
              exact absurd hM (Nat.not_lt_zero _)
            | succ N ih1 =>
              intro x415 x416 H locs ls hM1 x415_h hP hD hS hl
              refine lv_iload hx hb dX12_part_45 (lv_at hl 0 rfl) ?_
              refine lv_aload_n hx hb dX12_part_47 rfl (lv_at hl 2 rfl) ?_
              refine kc_i (D := (dC, dI)) (S := Unit) (wc := [(o1, .inr (12, [.int v2, .ref o3, .int v5, .ref o6, .int v8, .ref o9, .ref o11, .int v13, .ref o14, .int v16, .ref o17, .int v19, .int v20, .int v21, .ref o22, .ref o24, .ref o26, .ref o28, .ref o30, .int v32, .ref o33, .ref o35, .ref o37, .int v39, .ref o40, .ref o42, .ref o44, .int v46, .ref o47]))]) (wr := [(o6, .inl (cI, 12, .inl fw7))]) (w1 := fun _ => [(o1, .inr (12, [.int v2, .ref o3, .int v5, .ref o6, .int v8, .ref o9, .ref o11, .int v13, .ref o14, .int v16, .ref o17, .int v19, .int v20, .int v21, .ref o22, .ref o24, .ref o26, .ref o28, .ref o30, .int v32, .ref o33, .ref o35, .ref o37, .int v39, .ref o40, .ref o42, .ref o44, .int v46, .ref o47]))]) (wn := fun _ => [(o1, .inr (12, [.int v2, .ref o3, .int v5, .ref o6, .int v8, .ref o9, .ref o11, .int v13, .ref o14, .int v16, .ref o17, .int v19, .int v20, .int v21, .ref o22, .ref o24, .ref o26, .ref o28, .ref o30, .int v32, .ref o33, .ref o35, .ref o37, .int v39, .ref o40, .ref o42, .ref o44, .int v46, .ref o47])), (o6, .inl (cI, 12, .inl fw7))]) (fun hPc hDc => va_runV (As := []) (rest := [.int x415]) ⟨hx, hb, hml, hown, hts⟩ (kX12_all_1 l dC dI cI c2 cZ o1 o3 o6 o9 o11 o14 o17 o22 o24 o26 o28 o30 o33 o35 o37 o40 o42 o44 o47 v2 v5 v8 v13 v16 v19 v20 v21 v32 v39 v46 H.size v5_h v8_h v13_h v16_h v19_h v32_h v39_h v46_h) (cwV 0 hts gX12_part_X12_all rfl rfl rfl (by decide +kernel) ⟨Nat.le_of_ble_eq_true rfl, Nat.le_of_ble_eq_true rfl⟩) (pre_V hPc hK hDc hN (ci := 12) (q0 := 0) rfl rfl) rfl rfl hl.1 rfl (lv_room (Nat.le_of_ble_eq_true rfl)) dX12_part_48 ⟨Nat.le_of_ble_eq_true rfl, Nat.le_of_ble_eq_true rfl⟩) hP hD hS hA [0] [1] [1, 0] rfl rfl (by decide +kernel) (by decide +kernel) (by decide +kernel) (by decide +kernel) (fun _ => rfl) (fun x417 _ H locs hq hP hD hS => ?_)
              obtain ⟨x417_h, e418⟩ := hq
              have hP : va_P (dC, dI) vwCl ([(o1, .inr (12, [.int v2, .ref o3, .int v5, .ref o6, .int v8, .ref o9, .ref o11, .int v13, .ref o14, .int v16, .ref o17, .int v19, .int v20, .int v21, .ref o22, .ref o24, .ref o26, .ref o28, .ref o30, .int v32, .ref o33, .ref o35, .ref o37, .int v39, .ref o40, .ref o42, .ref o44, .int v46, .ref o47])), (o6, .inl (cI, 12, .inl fw7))]) H := hP
              have hD : va_D A ([(o1, .inr (12, [.int v2, .ref o3, .int v5, .ref o6, .int v8, .ref o9, .ref o11, .int v13, .ref o14, .int v16, .ref o17, .int v19, .int v20, .int v21, .ref o22, .ref o24, .ref o26, .ref o28, .ref o30, .int v32, .ref o33, .ref o35, .ref o37, .int v39, .ref o40, .ref o42, .ref o44, .int v46, .ref o47])), (o6, .inl (cI, 12, .inl fw7))]) := hD
              refine lv_icmp_gt (tgt := 83) hx hb dX12_part_51 (by decide) (fun h419 => ?_) (fun h419 => ?_)
              ·
                have qh419 := lt_i h419
                have j420 : Iv 1 4096 x415 := r_ltr qh419 x417_h x415_h (by decide)
                refine lv_iload_n hx hb dX12_part_83 rfl (lv_at hl 5 rfl) ?_
                refine lv_iconst (v := (-1)) hx hb dX12_part_84 (by decide) ?_
                refine lv_icmp_ne (tgt := 93) hx hb dX12_part_85 (by decide) (fun h421 => ?_) (fun h421 => ?_)
                ·
                  refine lv_bipush (v := (-9)) hx hb dX12_part_93 (by decide) ?_
                  rw [hQ]
                  exact W.iret (v := (-9)) hx hb hr (fun t ht hW => ⟨⟨(-9), (), rfl, trivial, by rw [ht]; exact hP, va_K.moved hW.alike hK, hD⟩, hS.F ht⟩) hS.2.2 dX12_part_95
                ·
                  have j422 : Iv (-1) (-1) a3 := r_eq h421 ikm_1
                  refine lv_iload hx hb dX12_part_88 (lv_at hl 1 rfl) ?_
                  refine lv_goto (tgt := 95) hx hb dX12_part_90 (by decide) ?_
                  rw [hQ]
                  exact W.iret (v := x416) hx hb hr (fun t ht hW => ⟨⟨x416, (), rfl, trivial, by rw [ht]; exact hP, va_K.moved hW.alike hK, hD⟩, hS.F ht⟩) hS.2.2 dX12_part_95
              ·
                have qh419 := nlt_i h419
                have j423 : Iv 0 4095 x415 := r_lel qh419 x415_h x417_h (by decide)
                refine lv_aload_n hx hb dX12_part_54 rfl (lv_at hl 2 rfl) ?_
                refine lv_iload_n hx hb dX12_part_55 rfl (lv_at hl 3 rfl) ?_
                refine lv_iload_n hx hb dX12_part_56 rfl (lv_at hl 4 rfl) ?_
                refine lv_iload hx hb dX12_part_57 (lv_at hl 0 rfl) ?_
                refine kc_i (D := (dC, dI)) (S := Unit) (wc := [(o1, .inr (12, [.int v2, .ref o3, .int v5, .ref o6, .int v8, .ref o9, .ref o11, .int v13, .ref o14, .int v16, .ref o17, .int v19, .int v20, .int v21, .ref o22, .ref o24, .ref o26, .ref o28, .ref o30, .int v32, .ref o33, .ref o35, .ref o37, .int v39, .ref o40, .ref o42, .ref o44, .int v46, .ref o47])), (o6, .inl (cI, 12, .inl fw7))]) (wr := []) (w1 := fun _ => [(o1, .inr (12, [.int v2, .ref o3, .int v5, .ref o6, .int v8, .ref o9, .ref o11, .int v13, .ref o14, .int v16, .ref o17, .int v19, .int v20, .int v21, .ref o22, .ref o24, .ref o26, .ref o28, .ref o30, .int v32, .ref o33, .ref o35, .ref o37, .int v39, .ref o40, .ref o42, .ref o44, .int v46, .ref o47])), (o6, .inl (cI, 12, .inl fw7))]) (wn := fun _ => [(o1, .inr (12, [.int v2, .ref o3, .int v5, .ref o6, .int v8, .ref o9, .ref o11, .int v13, .ref o14, .int v16, .ref o17, .int v19, .int v20, .int v21, .ref o22, .ref o24, .ref o26, .ref o28, .ref o30, .int v32, .ref o33, .ref o35, .ref o37, .int v39, .ref o40, .ref o42, .ref o44, .int v46, .ref o47])), (o6, .inl (cI, 12, .inl fw7))]) (fun hPc hDc => va_runV (As := [.int a1, .int a2, .int x415]) (rest := []) ⟨hx, hb, hml, hown, hts⟩ (kX12_isPart_1 l dC dI cI c2 cZ o1 o3 o6 o9 o11 o14 o17 o22 o24 o26 o28 o30 o33 o35 o37 o40 o42 o44 o47 v2 v5 fw7 v8 v13 v16 v19 v20 v21 v32 v39 v46 a1 a2 x415 H.size v5_h fw7_b v8_h v13_h v16_h v19_h v32_h v39_h v46_h j7 j15 j423) (cwV 3 hts gX12_part_X12_isPart rfl rfl rfl (by decide +kernel) ⟨Nat.le_of_ble_eq_true rfl, Nat.le_of_ble_eq_true rfl⟩) (pre_V hPc hK hDc hN (ci := 12) (q0 := 0) rfl rfl) rfl rfl hl.1 rfl (lv_room (Nat.le_of_ble_eq_true rfl)) dX12_part_59 ⟨Nat.le_of_ble_eq_true rfl, Nat.le_of_ble_eq_true rfl⟩) hP hD hS hA [0, 1] [] [0, 1] rfl rfl (by decide +kernel) (by decide +kernel) (by decide +kernel) (by decide +kernel) (fun _ => rfl) (fun x424 _ H locs hq hP hD hS => ?_)
                have x424_h := hq
                have hP : va_P (dC, dI) vwCl ([(o1, .inr (12, [.int v2, .ref o3, .int v5, .ref o6, .int v8, .ref o9, .ref o11, .int v13, .ref o14, .int v16, .ref o17, .int v19, .int v20, .int v21, .ref o22, .ref o24, .ref o26, .ref o28, .ref o30, .int v32, .ref o33, .ref o35, .ref o37, .int v39, .ref o40, .ref o42, .ref o44, .int v46, .ref o47])), (o6, .inl (cI, 12, .inl fw7))]) H := hP
                have hD : va_D A ([(o1, .inr (12, [.int v2, .ref o3, .int v5, .ref o6, .int v8, .ref o9, .ref o11, .int v13, .ref o14, .int v16, .ref o17, .int v19, .int v20, .int v21, .ref o22, .ref o24, .ref o26, .ref o28, .ref o30, .int v32, .ref o33, .ref o35, .ref o37, .int v39, .ref o40, .ref o42, .ref o44, .int v46, .ref o47])), (o6, .inl (cI, 12, .inl fw7))]) := hD
                refine lv_if_eq (tgt := 77) hx hb dX12_part_62 (by decide) (fun h425 => ?_) (fun h425 => ?_)
                ·
                  have j426 : Iv 0 0 x424 := r_eq h425 ik_0
                  obtain ⟨x427, x427_e⟩ : ∃ z : Int32, z = x415 + 1 := ⟨_, rfl⟩
                  have x427_h : Iv 1 4096 x427 := iv_e x427_e (iv_add j423 ik_1 (by decide))
                  refine lv_iinc (v := x427) (lv' := [(5, .int x427), (4, .int x416), (0, .ref o1), (1, .int a1), (2, .int a2), (3, .int a3)]) hx hb dX12_part_77 hl (k := 0) rfl (incN (by decide +kernel) x427_e) (by decide) rfl (fun ls hl => ?_)
                  refine lv_goto (tgt := 45) hx hb dX12_part_80 (by decide) ?_
                  exact ih1 x427 x416 _ _ _ (ms_up x427_e j423 (by decide) hM1) (iv_w x427_h (by decide)) hP hD hS hl
                ·
                  have j428 : Iv 1 1 x424 := r_nelo h425 x424_h ik_0 (by decide)
                  refine lv_iload hx hb dX12_part_65 (lv_at hl 1 rfl) ?_
                  refine lv_iload_n hx hb dX12_part_67 rfl (lv_at hl 5 rfl) ?_
                  refine lv_icmp_ne (tgt := 74) hx hb dX12_part_68 (by decide) (fun h429 => ?_) (fun h429 => ?_)
                  ·
                    obtain ⟨x430, x430_e⟩ : ∃ z : Int32, z = x416 + 1 := ⟨_, rfl⟩
                    refine lv_iinc (v := x430) (lv' := [(4, .int x430), (5, .int x415), (0, .ref o1), (1, .int a1), (2, .int a2), (3, .int a3)]) hx hb dX12_part_74 hl (k := 1) rfl (incN (by decide +kernel) x430_e) (by decide) rfl (fun ls hl => ?_)
                    obtain ⟨x431, x431_e⟩ : ∃ z : Int32, z = x415 + 1 := ⟨_, rfl⟩
                    have x431_h : Iv 1 4096 x431 := iv_e x431_e (iv_add j423 ik_1 (by decide))
                    refine lv_iinc (v := x431) (lv' := [(5, .int x431), (4, .int x430), (0, .ref o1), (1, .int a1), (2, .int a2), (3, .int a3)]) hx hb dX12_part_77 hl (k := 1) rfl (incN (by decide +kernel) x431_e) (by decide) rfl (fun ls hl => ?_)
                    refine lv_goto (tgt := 45) hx hb dX12_part_80 (by decide) ?_
                    exact ih1 x431 x430 _ _ _ (ms_up x431_e j423 (by decide) hM1) (iv_w x431_h (by decide)) hP hD hS hl
                  ·
                    refine lv_iload hx hb dX12_part_71 (lv_at hl 0 rfl) ?_
                    rw [hQ]
                    exact W.iret (v := x415) hx hb hr (fun t ht hW => ⟨⟨x415, (), rfl, trivial, by rw [ht]; exact hP, va_K.moved hW.alike hK, hD⟩, hS.F ht⟩) hS.2.2 dX12_part_73
          exact L1 _ 0 0 _ _ _ (Nat.lt_succ_self _) (iv_w ik_0 (by decide)) hP hD hS hl
        ·
          have j432 : Iv 1 1 x19 := r_nelo h21 x19_h ik_0 (by decide)
          have b433 : bt x18 (Int32.toNatClampNeg a2) = true := has_t e20 h21
          refine lv_bipush (v := (-4)) hx hb dX12_part_36 (by decide) ?_
          rw [hQ]
          exact W.iret (v := (-4)) hx hb hr (fun t ht hW => ⟨⟨(-4), (), rfl, trivial, by rw [ht]; exact hP, va_K.moved hW.alike hK, hD⟩, hS.F ht⟩) hS.2.2 dX12_part_38
      ·
        refine lv_iconst (v := (-1)) hx hb dX12_part_21 (by decide) ?_
        rw [hQ]
        exact W.iret (v := (-1)) hx hb hr (fun t ht hW => ⟨⟨(-1), (), rfl, trivial, by rw [ht]; exact hP, va_K.moved hW.alike hK, hD⟩, hS.F ht⟩) hS.2.2 dX12_part_22
theorem iw_X12_isWell_X12 : ∀ w ∈ wsX120, w ∈ wsX12_isWell := fun _ h => List.mem_cons.mpr (Or.inr (List.mem_append.mpr (Or.inr h)))
set_option maxHeartbeats 4000000 in
set_option maxRecDepth 100000 in
theorem kX12_isWell_1 (l : Launch) (dC : Nat → ClassId) (dI : Nat → Nat → Nat) (cI c2 cZ : ClassId) (o1 : Nat) (o3 : Nat) (o6 : Nat) (o9 : Nat) (o11 : Nat) (o14 : Nat) (o17 : Nat) (o22 : Nat) (o24 : Nat) (o26 : Nat) (o28 : Nat) (o30 : Nat) (o33 : Nat) (o35 : Nat) (o37 : Nat) (o40 : Nat) (o42 : Nat) (o44 : Nat) (o47 : Nat) (v2 : Int32) (v5 : Int32) (v8 : Int32) (v13 : Int32) (v16 : Int32) (v19 : Int32) (v20 : Int32) (v21 : Int32) (v32 : Int32) (fw38 : Nat → Int32) (v39 : Int32) (v46 : Int32) (a1 : Int32) (a2 : Int32) (sz : Nat) (v5_h : Iv 0 12 v5) (v8_h : Iv 0 8 v8) (v13_h : Iv 0 12 v13) (v16_h : Iv 0 12 v16) (v19_h : Iv (-9) 12 v19) (v32_h : Iv 0 99 v32) (v39_h : Iv 0 12 v39) (v46_h : Iv 0 12 v46) (a1_h : Iv 0 4095 a1) (a2_h : Iv 0 11 a2) : Met l yX12_isWell wsX12_isWell ({ frames := 1, cells := 0, slots := 0, locals := 21 }) (va_Pc [.ref o1, .int a1, .int a2] (wPre (dC, dI) [(cI, .int), (c2, .array .int), (cZ, .boolean)] ([(o1, .inr (12, [.int v2, .ref o3, .int v5, .ref o6, .int v8, .ref o9, .ref o11, .int v13, .ref o14, .int v16, .ref o17, .int v19, .int v20, .int v21, .ref o22, .ref o24, .ref o26, .ref o28, .ref o30, .int v32, .ref o33, .ref o35, .ref o37, .int v39, .ref o40, .ref o42, .ref o44, .int v46, .ref o47])), (o37, .inl (cI, 12, .inl fw38))]) sz)) (va_Qi (fun (r : Int32) (_ : Unit) => Iv 0 1 r) (fun _ t => wPost (dC, dI) [(cI, .int), (c2, .array .int), (cZ, .boolean)] (va_A ([(o1, .inr (12, [.int v2, .ref o3, .int v5, .ref o6, .int v8, .ref o9, .ref o11, .int v13, .ref o14, .int v16, .ref o17, .int v19, .int v20, .int v21, .ref o22, .ref o24, .ref o26, .ref o28, .ref o30, .int v32, .ref o33, .ref o35, .ref o37, .int v39, .ref o40, .ref o42, .ref o44, .int v46, .ref o47])), (o37, .inl (cI, 12, .inl fw38))]) sz) ([(o1, .inr (12, [.int v2, .ref o3, .int v5, .ref o6, .int v8, .ref o9, .ref o11, .int v13, .ref o14, .int v16, .ref o17, .int v19, .int v20, .int v21, .ref o22, .ref o24, .ref o26, .ref o28, .ref o30, .int v32, .ref o33, .ref o35, .ref o37, .int v39, .ref o40, .ref o42, .ref o44, .int v46, .ref o47])), (o37, .inl (cI, 12, .inl fw38))]) t) (va_A ([(o1, .inr (12, [.int v2, .ref o3, .int v5, .ref o6, .int v8, .ref o9, .ref o11, .int v13, .ref o14, .int v16, .ref o17, .int v19, .int v20, .int v21, .ref o22, .ref o24, .ref o26, .ref o28, .ref o30, .int v32, .ref o33, .ref o35, .ref o37, .int v39, .ref o40, .ref o42, .ref o44, .int v46, .ref o47])), (o37, .inl (cI, 12, .inl fw38))]) sz)) 0 0 (va_A ([(o1, .inr (12, [.int v2, .ref o3, .int v5, .ref o6, .int v8, .ref o9, .ref o11, .int v13, .ref o14, .int v16, .ref o17, .int v19, .int v20, .int v21, .ref o22, .ref o24, .ref o26, .ref o28, .ref o30, .int v32, .ref o33, .ref o35, .ref o37, .int v39, .ref o40, .ref o42, .ref o44, .int v46, .ref o47])), (o37, .inl (cI, 12, .inl fw38))]) sz) := by
  refine Met.ofW (cc := cX12_isWell) (maxL := 6) (ret := (some .boolean)) (by decide) rfl ?_
  intro p e s m args below meth c s₁ B hml hv
  obtain ⟨rfl, hsz, hP, hK, hD0, hN⟩ := hv
  have hx := B.exec
  have hb := B.bytes
  have hr := B.returns
  have hts := atoms_spec (ws := wsX12_isWell) B.pre
  have hown : s.vm.findClass RX12 = some m.cls := findClass_of_methodNamed B.named
  have hlocks := B.notSynchronized
  subst hsz
  have hD := hD0.self (sz := s.heap.size)
  generalize hAe : va_A ([(o1, .inr (12, [.int v2, .ref o3, .int v5, .ref o6, .int v8, .ref o9, .ref o11, .int v13, .ref o14, .int v16, .ref o17, .int v19, .int v20, .int v21, .ref o22, .ref o24, .ref o26, .ref o28, .ref o30, .int v32, .ref o33, .ref o35, .ref o37, .int v39, .ref o40, .ref o42, .ref o44, .int v46, .ref o47])), (o37, .inl (cI, 12, .inl fw38))]) s.heap.size = A at hD ⊢
  have hA : ∀ q : Nat, s.heap.size ≤ q → A q := fun q h => by rw [← hAe]; exact Or.inr h
  have hS : va_S A s.heap s.heap [] := va_S.rf
  have hP : va_P (dC, dI) vwCl ([(o1, .inr (12, [.int v2, .ref o3, .int v5, .ref o6, .int v8, .ref o9, .ref o11, .int v13, .ref o14, .int v16, .ref o17, .int v19, .int v20, .int v21, .ref o22, .ref o24, .ref o26, .ref o28, .ref o30, .int v32, .ref o33, .ref o35, .ref o37, .int v39, .ref o40, .ref o42, .ref o44, .int v46, .ref o47])), (o37, .inl (cI, 12, .inl fw38))]) s.heap := hP
  have hl := lv_entry ([.ref o1, .int a1, .int a2]) (n := 6) (Nat.le_of_ble_eq_true rfl)
  rw [lg_entry_eq]
  generalize (lg_sl ([.ref o1, .int a1, .int a2]) ++ List.replicate (6 - (lg_sl ([.ref o1, .int a1, .int a2])).length) Slot.unset).toArray = ls at hl ⊢
  have hl : lv_has ls 6 [(0, .ref o1), (1, .int a1), (2, .int a2)] := hl
  refine gen_Q (fun Q hQ => ?_)
  refine lv_iconst (v := 0) hx hb dX12_isWell_0 (by decide) ?_
  refine lv_istore_n (lv' := [(3, .int 0), (0, .ref o1), (1, .int a1), (2, .int a2)]) hx hb dX12_isWell_1 rfl hl (by decide) rfl (fun ls hl => ?_)
  refine lv_iconst (v := 0) hx hb dX12_isWell_2 (by decide) ?_
  refine lv_istore (lv' := [(4, .int 0), (3, .int 0), (0, .ref o1), (1, .int a1), (2, .int a2)]) hx hb dX12_isWell_3 hl (by decide) rfl (fun ls hl => ?_)
  refine lv_iconst (v := 0) hx hb dX12_isWell_5 (by decide) ?_
  refine lv_istore (lv' := [(5, .int 0), (4, .int 0), (3, .int 0), (0, .ref o1), (1, .int a1), (2, .int a2)]) hx hb dX12_isWell_6 hl (by decide) rfl (fun ls hl => ?_)
  have L1 : ∀ (N : Nat) (x148 : Int32) (x149 : Int32) (x150 : Int32) (H : Heap) (locs : List Loc) (ls : Array Slot), (12 - x148.toInt).toNat < N → Iv 0 12 x148 → va_P (dC, dI) vwCl ([(o1, .inr (12, [.int v2, .ref o3, .int v5, .ref o6, .int v8, .ref o9, .ref o11, .int v13, .ref o14, .int v16, .ref o17, .int v19, .int v20, .int v21, .ref o22, .ref o24, .ref o26, .ref o28, .ref o30, .int v32, .ref o33, .ref o35, .ref o37, .int v39, .ref o40, .ref o42, .ref o44, .int v46, .ref o47])), (o37, .inl (cI, 12, .inl fw38))]) H → va_D A ([(o1, .inr (12, [.int v2, .ref o3, .int v5, .ref o6, .int v8, .ref o9, .ref o11, .int v13, .ref o14, .int v16, .ref o17, .int v19, .int v20, .int v21, .ref o22, .ref o24, .ref o26, .ref o28, .ref o30, .int v32, .ref o33, .ref o35, .ref o37, .int v39, .ref o40, .ref o42, .ref o44, .int v46, .ref o47])), (o37, .inl (cI, 12, .inl fw38))]) → va_S A s.heap H locs → lv_has ls 6 [(5, .int x148), (4, .int x149), (3, .int x150), (0, .ref o1), (1, .int a1), (2, .int a2)] → W p l e ({ frames := 1, cells := 0, slots := 0, locals := 21 }) s m ([.ref o1, .int a1, .int a2] : List Value).toArray below meth c H locs 0 0 Q (F0 m 8 ls []) := by
    intro N
    induction N with
    | zero =>
      intro x148 x149 x150 H locs ls hM
      exact absurd hM (Nat.not_lt_zero _)
    | succ N ih1 =>
      intro x148 x149 x150 H locs ls hM1 x148_h hP hD hS hl
      refine lv_iload hx hb dX12_isWell_8 (lv_at hl 0 rfl) ?_
      refine lv_aload_n hx hb dX12_isWell_10 rfl (lv_at hl 3 rfl) ?_
      refine va_get (D := (dC, dI)) (ci := 12) (v := .int v39) (C := RX12) (T := TX12) (N := 29) hx hb hts iw_X12_isWell_X12 hown hK hP 0 rfl rfl 23 (by decide) (hts (.fieldLink RX12 191 "HolelessHouseModel" "thingMany" "I") hm_X12_isWell_1) (fun _ h9 => h9) rfl dX12_isWell_11 ?_
      refine lv_icmp_ge (tgt := 57) hx hb dX12_isWell_14 (by decide) (fun h151 => ?_) (fun h151 => ?_)
      ·
        have qh151 := le_i h151
        refine lv_iload_n hx hb dX12_isWell_57 rfl (lv_at hl 2 rfl) ?_
        refine lv_iload hx hb dX12_isWell_58 (lv_at hl 1 rfl) ?_
        refine lv_iand hx hb dX12_isWell_60 (lv_topi (fun x152 x152_e => ?_))
        refine lv_aload_n hx hb dX12_isWell_61 rfl (lv_at hl 3 rfl) ?_
        refine va_get (D := (dC, dI)) (ci := 12) (v := .ref o37) (C := RX12) (T := TX12) (N := 29) hx hb hts iw_X12_isWell_X12 hown hK hP 0 rfl rfl 22 (by decide) (hts (.fieldLink RX12 54 "HolelessHouseModel" "things" "[I") hm_X12_isWell_2) (fun _ h9 => h9) rfl dX12_isWell_62 ?_
        refine lv_iload_n hx hb dX12_isWell_65 rfl (lv_at hl 5 rfl) ?_
        refine va_iald hx hb hK hP 1 0 rfl rfl (vin_iv a2_h (by decide)) dX12_isWell_66 (lv_topi (fun x153 x153_e => ?_))
        refine lv_iconst (v := (-1)) hx hb dX12_isWell_67 (by decide) ?_
        refine lv_ixor hx hb dX12_isWell_68 (lv_topi (fun x154 x154_e => ?_))
        refine lv_iand hx hb dX12_isWell_69 (lv_topi (fun x155 x155_e => ?_))
        refine lv_if_ne (tgt := 77) hx hb dX12_isWell_70 (by decide) (fun h156 => ?_) (fun h156 => ?_)
        ·
          refine lv_iconst (v := 0) hx hb dX12_isWell_77 (by decide) ?_
          rw [hQ]
          exact W.zret (v := 0) (ty := .boolean) hx hb hr rfl (fun t ht hW => ⟨⟨0, (), rfl, (iv_w ik_0 (by decide)), by rw [ht]; exact hP, va_K.moved hW.alike hK, hD⟩, hS.F ht⟩) hS.2.2 dX12_isWell_78
        ·
          have j157 : Iv 0 0 x155 := r_eq h156 ik_0
          refine lv_iconst (v := 1) hx hb dX12_isWell_73 (by decide) ?_
          refine lv_goto (tgt := 78) hx hb dX12_isWell_74 (by decide) ?_
          rw [hQ]
          exact W.zret (v := 1) (ty := .boolean) hx hb hr rfl (fun t ht hW => ⟨⟨1, (), rfl, (iv_w ik_1 (by decide)), by rw [ht]; exact hP, va_K.moved hW.alike hK, hD⟩, hS.F ht⟩) hS.2.2 dX12_isWell_78
      ·
        have qh151 := nle_i h151
        have j158 : Iv 0 11 x148 := r_ltl qh151 x148_h v39_h (by decide)
        have j159 : Iv 1 12 v39 := r_ltr qh151 x148_h v39_h (by decide)
        refine lv_iload_n hx hb dX12_isWell_17 rfl (lv_at hl 4 rfl) ?_
        refine lv_iload hx hb dX12_isWell_18 (lv_at hl 0 rfl) ?_
        refine kc_i (D := (dC, dI)) (S := Unit) (wc := []) (wr := [(o1, .inr (12, [.int v2, .ref o3, .int v5, .ref o6, .int v8, .ref o9, .ref o11, .int v13, .ref o14, .int v16, .ref o17, .int v19, .int v20, .int v21, .ref o22, .ref o24, .ref o26, .ref o28, .ref o30, .int v32, .ref o33, .ref o35, .ref o37, .int v39, .ref o40, .ref o42, .ref o44, .int v46, .ref o47])), (o37, .inl (cI, 12, .inl fw38))]) (w1 := fun _ => []) (wn := fun _ => [(o1, .inr (12, [.int v2, .ref o3, .int v5, .ref o6, .int v8, .ref o9, .ref o11, .int v13, .ref o14, .int v16, .ref o17, .int v19, .int v20, .int v21, .ref o22, .ref o24, .ref o26, .ref o28, .ref o30, .int v32, .ref o33, .ref o35, .ref o37, .int v39, .ref o40, .ref o42, .ref o44, .int v46, .ref o47])), (o37, .inl (cI, 12, .inl fw38))]) (fun hPc hDc => va_runS (As := [.int a1, .int x148]) (rest := []) ⟨hx, hb, hml, hown, hts⟩ (kX12_has_1 l dC dI cI c2 cZ a1 x148 H.size (iv_w j158 (by decide))) (va_cwS 2 hts gX12_isWell_X12_has rfl rfl rfl (by decide +kernel) ⟨Nat.le_of_ble_eq_true rfl, Nat.le_of_ble_eq_true rfl⟩) (pre_S hPc hK hDc hN) rfl rfl hl.1 rfl (lv_room (Nat.le_of_ble_eq_true rfl)) dX12_isWell_20 ⟨Nat.le_of_ble_eq_true rfl, Nat.le_of_ble_eq_true rfl⟩) hP hD hS hA [] [0, 1] [0, 1] rfl rfl (by decide +kernel) (by decide +kernel) (by decide +kernel) (by decide +kernel) (fun _ => rfl) (fun x160 _ H locs hq hP hD hS => ?_)
        obtain ⟨x160_h, e161⟩ := hq
        have hP : va_P (dC, dI) vwCl ([(o1, .inr (12, [.int v2, .ref o3, .int v5, .ref o6, .int v8, .ref o9, .ref o11, .int v13, .ref o14, .int v16, .ref o17, .int v19, .int v20, .int v21, .ref o22, .ref o24, .ref o26, .ref o28, .ref o30, .int v32, .ref o33, .ref o35, .ref o37, .int v39, .ref o40, .ref o42, .ref o44, .int v46, .ref o47])), (o37, .inl (cI, 12, .inl fw38))]) H := hP
        have hD : va_D A ([(o1, .inr (12, [.int v2, .ref o3, .int v5, .ref o6, .int v8, .ref o9, .ref o11, .int v13, .ref o14, .int v16, .ref o17, .int v19, .int v20, .int v21, .ref o22, .ref o24, .ref o26, .ref o28, .ref o30, .int v32, .ref o33, .ref o35, .ref o37, .int v39, .ref o40, .ref o42, .ref o44, .int v46, .ref o47])), (o37, .inl (cI, 12, .inl fw38))]) := hD
        refine lv_if_eq (tgt := 39) hx hb dX12_isWell_23 (by decide) (fun h162 => ?_) (fun h162 => ?_)
        ·
          have j163 : Iv 0 0 x160 := r_eq h162 ik_0
          have b164 : bt a1 (Int32.toNatClampNeg x148) = false := has_f e161 h162
          refine lv_iload hx hb dX12_isWell_39 (lv_at hl 1 rfl) ?_
          refine lv_aload_n hx hb dX12_isWell_41 rfl (lv_at hl 3 rfl) ?_
          refine va_get (D := (dC, dI)) (ci := 12) (v := .ref o37) (C := RX12) (T := TX12) (N := 29) hx hb hts iw_X12_isWell_X12 hown hK hP 0 rfl rfl 22 (by decide) (hts (.fieldLink RX12 54 "HolelessHouseModel" "things" "[I") hm_X12_isWell_2) (fun _ h9 => h9) rfl dX12_isWell_42 ?_
          refine lv_iload hx hb dX12_isWell_45 (lv_at hl 0 rfl) ?_
          refine va_iald hx hb hK hP 1 0 rfl rfl (vin_iv j158 (by decide)) dX12_isWell_47 (lv_topi (fun x165 x165_e => ?_))
          refine lv_ior hx hb dX12_isWell_48 (lv_topi (fun x166 x166_e => ?_))
          refine lv_istore (lv' := [(4, .int x166), (5, .int x148), (3, .int x150), (0, .ref o1), (1, .int a1), (2, .int a2)]) hx hb dX12_isWell_49 hl (by decide) rfl (fun ls hl => ?_)
          obtain ⟨x167, x167_e⟩ : ∃ z : Int32, z = x148 + 1 := ⟨_, rfl⟩
          have x167_h : Iv 1 12 x167 := iv_e x167_e (iv_add j158 ik_1 (by decide))
          refine lv_iinc (v := x167) (lv' := [(5, .int x167), (4, .int x166), (3, .int x150), (0, .ref o1), (1, .int a1), (2, .int a2)]) hx hb dX12_isWell_51 hl (k := 1) rfl (incN (by decide +kernel) x167_e) (by decide) rfl (fun ls hl => ?_)
          refine lv_goto (tgt := 8) hx hb dX12_isWell_54 (by decide) ?_
          exact ih1 x167 x166 x150 _ _ _ (ms_up x167_e j158 (by decide) hM1) (iv_w x167_h (by decide)) hP hD hS hl
        ·
          have j168 : Iv 1 1 x160 := r_nelo h162 x160_h ik_0 (by decide)
          have b169 : bt a1 (Int32.toNatClampNeg x148) = true := has_t e161 h162
          refine lv_iload_n hx hb dX12_isWell_26 rfl (lv_at hl 2 rfl) ?_
          refine lv_aload_n hx hb dX12_isWell_27 rfl (lv_at hl 3 rfl) ?_
          refine va_get (D := (dC, dI)) (ci := 12) (v := .ref o37) (C := RX12) (T := TX12) (N := 29) hx hb hts iw_X12_isWell_X12 hown hK hP 0 rfl rfl 22 (by decide) (hts (.fieldLink RX12 54 "HolelessHouseModel" "things" "[I") hm_X12_isWell_2) (fun _ h9 => h9) rfl dX12_isWell_28 ?_
          refine lv_iload hx hb dX12_isWell_31 (lv_at hl 0 rfl) ?_
          refine va_iald hx hb hK hP 1 0 rfl rfl (vin_iv j158 (by decide)) dX12_isWell_33 (lv_topi (fun x170 x170_e => ?_))
          refine lv_ior hx hb dX12_isWell_34 (lv_topi (fun x171 x171_e => ?_))
          refine lv_istore_n (lv' := [(3, .int x171), (5, .int x148), (4, .int x149), (0, .ref o1), (1, .int a1), (2, .int a2)]) hx hb dX12_isWell_35 rfl hl (by decide) rfl (fun ls hl => ?_)
          refine lv_goto (tgt := 51) hx hb dX12_isWell_36 (by decide) ?_
          obtain ⟨x172, x172_e⟩ : ∃ z : Int32, z = x148 + 1 := ⟨_, rfl⟩
          have x172_h : Iv 1 12 x172 := iv_e x172_e (iv_add j158 ik_1 (by decide))
          refine lv_iinc (v := x172) (lv' := [(5, .int x172), (3, .int x171), (4, .int x149), (0, .ref o1), (1, .int a1), (2, .int a2)]) hx hb dX12_isWell_51 hl (k := 1) rfl (incN (by decide +kernel) x172_e) (by decide) rfl (fun ls hl => ?_)
          refine lv_goto (tgt := 8) hx hb dX12_isWell_54 (by decide) ?_
          exact ih1 x172 x149 x171 _ _ _ (ms_up x172_e j158 (by decide) hM1) (iv_w x172_h (by decide)) hP hD hS (lv_sub hl [0, 2, 1, 3, 4, 5] rfl)
  exact L1 _ 0 0 0 _ _ _ (Nat.lt_succ_self _) (iv_w ik_0 (by decide)) hP hD hS hl
theorem iw_X12_setLine_X12 : ∀ w ∈ wsX120, w ∈ wsX12_setLine := fun _ h => List.mem_cons.mpr (Or.inr (List.mem_append.mpr (Or.inr h)))
set_option maxHeartbeats 4000000 in
set_option maxRecDepth 100000 in
theorem kX12_setLine_1 (l : Launch) (dC : Nat → ClassId) (dI : Nat → Nat → Nat) (cI c2 cZ : ClassId) (o1 : Nat) (o3 : Nat) (o6 : Nat) (o9 : Nat) (o11 : Nat) (o14 : Nat) (o17 : Nat) (o22 : Nat) (o24 : Nat) (o26 : Nat) (o28 : Nat) (o30 : Nat) (o33 : Nat) (o35 : Nat) (o37 : Nat) (o40 : Nat) (o42 : Nat) (o44 : Nat) (o47 : Nat) (v2 : Int32) (v5 : Int32) (v8 : Int32) (v13 : Int32) (v16 : Int32) (v19 : Int32) (v20 : Int32) (v21 : Int32) (v32 : Int32) (fw38 : Nat → Int32) (v39 : Int32) (fw41 : Nat → Int32) (fw43 : Nat → Int32) (fw45 : Nat → Int32) (v46 : Int32) (sz : Nat) (v5_h : Iv 0 12 v5) (v8_h : Iv 0 8 v8) (v13_h : Iv 0 12 v13) (v16_h : Iv 0 12 v16) (v19_h : Iv (-9) 12 v19) (v32_h : Iv 0 99 v32) (v39_h : Iv 0 12 v39) (fw45_b : Bd 12 0 11 fw45) (v46_h : Iv 0 12 v46) : Met l yX12_setLine wsX12_setLine ({ frames := 2, cells := 0, slots := 0, locals := 46 }) (va_Pc [.ref o1] (wPre (dC, dI) [(cI, .int), (c2, .array .int), (cZ, .boolean)] ([(o1, .inr (12, [.int v2, .ref o3, .int v5, .ref o6, .int v8, .ref o9, .ref o11, .int v13, .ref o14, .int v16, .ref o17, .int v19, .int v20, .int v21, .ref o22, .ref o24, .ref o26, .ref o28, .ref o30, .int v32, .ref o33, .ref o35, .ref o37, .int v39, .ref o40, .ref o42, .ref o44, .int v46, .ref o47])), (o42, .inl (cI, 49152, .inl fw43)), (o40, .inl (cZ, 49152, .inl fw41)), (o37, .inl (cI, 12, .inl fw38)), (o44, .inl (cI, 12, .inl fw45))]) sz)) (va_Qv (fun (u : Int32 × (Nat → Int32) × (Nat → Int32) × (Nat → Int32)) => Iv 0 12 u.1 ∧ Bd 12 0 11 u.2.2.2) (fun u t => wPost (dC, dI) [(cI, .int), (c2, .array .int), (cZ, .boolean)] (va_A ([(o1, .inr (12, [.int v2, .ref o3, .int v5, .ref o6, .int v8, .ref o9, .ref o11, .int v13, .ref o14, .int v16, .ref o17, .int v19, .int v20, .int v21, .ref o22, .ref o24, .ref o26, .ref o28, .ref o30, .int v32, .ref o33, .ref o35, .ref o37, .int v39, .ref o40, .ref o42, .ref o44, .int v46, .ref o47])), (o42, .inl (cI, 49152, .inl fw43)), (o40, .inl (cZ, 49152, .inl fw41)), (o37, .inl (cI, 12, .inl fw38)), (o44, .inl (cI, 12, .inl fw45))]) sz) ([(o1, .inr (12, [.int v2, .ref o3, .int v5, .ref o6, .int v8, .ref o9, .ref o11, .int v13, .ref o14, .int v16, .ref o17, .int v19, .int v20, .int v21, .ref o22, .ref o24, .ref o26, .ref o28, .ref o30, .int v32, .ref o33, .ref o35, .ref o37, .int v39, .ref o40, .ref o42, .ref o44, .int u.1, .ref o47])), (o42, .inl (cI, 49152, .inl u.2.1)), (o40, .inl (cZ, 49152, .inl u.2.2.1)), (o37, .inl (cI, 12, .inl fw38)), (o44, .inl (cI, 12, .inl u.2.2.2))]) t) (va_A ([(o1, .inr (12, [.int v2, .ref o3, .int v5, .ref o6, .int v8, .ref o9, .ref o11, .int v13, .ref o14, .int v16, .ref o17, .int v19, .int v20, .int v21, .ref o22, .ref o24, .ref o26, .ref o28, .ref o30, .int v32, .ref o33, .ref o35, .ref o37, .int v39, .ref o40, .ref o42, .ref o44, .int v46, .ref o47])), (o42, .inl (cI, 49152, .inl fw43)), (o40, .inl (cZ, 49152, .inl fw41)), (o37, .inl (cI, 12, .inl fw38)), (o44, .inl (cI, 12, .inl fw45))]) sz)) 0 0 (va_A ([(o1, .inr (12, [.int v2, .ref o3, .int v5, .ref o6, .int v8, .ref o9, .ref o11, .int v13, .ref o14, .int v16, .ref o17, .int v19, .int v20, .int v21, .ref o22, .ref o24, .ref o26, .ref o28, .ref o30, .int v32, .ref o33, .ref o35, .ref o37, .int v39, .ref o40, .ref o42, .ref o44, .int v46, .ref o47])), (o42, .inl (cI, 49152, .inl fw43)), (o40, .inl (cZ, 49152, .inl fw41)), (o37, .inl (cI, 12, .inl fw38)), (o44, .inl (cI, 12, .inl fw45))]) sz) := by
  refine Met.ofW (cc := cX12_setLine) (maxL := 6) (ret := none) (by decide) rfl ?_
  intro p e s m args below meth c s₁ B hml hv
  obtain ⟨rfl, hsz, hP, hK, hD0, hN⟩ := hv
  have hx := B.exec
  have hb := B.bytes
  have hr := B.returns
  have hts := atoms_spec (ws := wsX12_setLine) B.pre
  have hown : s.vm.findClass RX12 = some m.cls := findClass_of_methodNamed B.named
  have hlocks := B.notSynchronized
  subst hsz
  have hD := hD0.self (sz := s.heap.size)
  generalize hAe : va_A ([(o1, .inr (12, [.int v2, .ref o3, .int v5, .ref o6, .int v8, .ref o9, .ref o11, .int v13, .ref o14, .int v16, .ref o17, .int v19, .int v20, .int v21, .ref o22, .ref o24, .ref o26, .ref o28, .ref o30, .int v32, .ref o33, .ref o35, .ref o37, .int v39, .ref o40, .ref o42, .ref o44, .int v46, .ref o47])), (o42, .inl (cI, 49152, .inl fw43)), (o40, .inl (cZ, 49152, .inl fw41)), (o37, .inl (cI, 12, .inl fw38)), (o44, .inl (cI, 12, .inl fw45))]) s.heap.size = A at hD ⊢
  have hA : ∀ q : Nat, s.heap.size ≤ q → A q := fun q h => by rw [← hAe]; exact Or.inr h
  have hS : va_S A s.heap s.heap [] := va_S.rf
  have hP : va_P (dC, dI) vwCl ([(o1, .inr (12, [.int v2, .ref o3, .int v5, .ref o6, .int v8, .ref o9, .ref o11, .int v13, .ref o14, .int v16, .ref o17, .int v19, .int v20, .int v21, .ref o22, .ref o24, .ref o26, .ref o28, .ref o30, .int v32, .ref o33, .ref o35, .ref o37, .int v39, .ref o40, .ref o42, .ref o44, .int v46, .ref o47])), (o42, .inl (cI, 49152, .inl fw43)), (o40, .inl (cZ, 49152, .inl fw41)), (o37, .inl (cI, 12, .inl fw38)), (o44, .inl (cI, 12, .inl fw45))]) s.heap := hP
  have hl := lv_entry ([.ref o1]) (n := 6) (Nat.le_of_ble_eq_true rfl)
  rw [lg_entry_eq]
  generalize (lg_sl ([.ref o1]) ++ List.replicate (6 - (lg_sl ([.ref o1])).length) Slot.unset).toArray = ls at hl ⊢
  have hl : lv_has ls 6 [(0, .ref o1)] := hl
  refine gen_Q (fun Q hQ => ?_)
  refine lv_iconst (v := 1) hx hb dX12_setLine_0 (by decide) ?_
  refine lv_aload_n hx hb dX12_setLine_1 rfl (lv_at hl 0 rfl) ?_
  refine va_get (D := (dC, dI)) (ci := 12) (v := .int v39) (C := RX12) (T := TX12) (N := 29) hx hb hts iw_X12_setLine_X12 hown hK hP 0 rfl rfl 23 (by decide) (hts (.fieldLink RX12 191 "HolelessHouseModel" "thingMany" "I") hm_X12_setLine_1) (fun _ h9 => h9) rfl dX12_setLine_2 ?_
  refine lv_ishl hx hb dX12_setLine_5 (lv_topi (fun x1 x1_e => ?_))
  have x1_h : Iv 1 4096 x1 := iv_e x1_e (iv_shl1 v39_h (by decide))
  refine lv_iconst (v := 1) hx hb dX12_setLine_6 (by decide) ?_
  refine lv_isub hx hb dX12_setLine_7 (lv_topi (fun x2 x2_e => ?_))
  have x2_h : Iv 0 4095 x2 := iv_e x2_e (iv_sub x1_h ik_1 (by decide))
  refine lv_istore_n (lv' := [(1, .int x2), (0, .ref o1)]) hx hb dX12_setLine_8 rfl hl (by decide) rfl (fun ls hl => ?_)
  refine lv_iload_n hx hb dX12_setLine_9 rfl (lv_at hl 0 rfl) ?_
  refine lv_istore_n (lv' := [(2, .int x2), (1, .int x2), (0, .ref o1)]) hx hb dX12_setLine_10 rfl hl (by decide) rfl (fun ls hl => ?_)
  have L30 : ∀ (N : Nat) (x6530 : Int32) (f6531 : Nat → Int32) (f6532 : Nat → Int32) (H : Heap) (locs : List Loc) (ls : Array Slot), (x6530.toInt - 0).toNat < N → Iv 0 4095 x6530 → va_P (dC, dI) vwCl ([(o1, .inr (12, [.int v2, .ref o3, .int v5, .ref o6, .int v8, .ref o9, .ref o11, .int v13, .ref o14, .int v16, .ref o17, .int v19, .int v20, .int v21, .ref o22, .ref o24, .ref o26, .ref o28, .ref o30, .int v32, .ref o33, .ref o35, .ref o37, .int v39, .ref o40, .ref o42, .ref o44, .int v46, .ref o47])), (o42, .inl (cI, 49152, .inl f6532)), (o40, .inl (cZ, 49152, .inl f6531)), (o37, .inl (cI, 12, .inl fw38)), (o44, .inl (cI, 12, .inl fw45))]) H → va_D A ([(o1, .inr (12, [.int v2, .ref o3, .int v5, .ref o6, .int v8, .ref o9, .ref o11, .int v13, .ref o14, .int v16, .ref o17, .int v19, .int v20, .int v21, .ref o22, .ref o24, .ref o26, .ref o28, .ref o30, .int v32, .ref o33, .ref o35, .ref o37, .int v39, .ref o40, .ref o42, .ref o44, .int v46, .ref o47])), (o42, .inl (cI, 49152, .inl f6532)), (o40, .inl (cZ, 49152, .inl f6531)), (o37, .inl (cI, 12, .inl fw38)), (o44, .inl (cI, 12, .inl fw45))]) → va_S A s.heap H locs → lv_has ls 6 [(2, .int x6530), (1, .int x2), (0, .ref o1)] → W p l e ({ frames := 2, cells := 0, slots := 0, locals := 46 }) s m ([.ref o1] : List Value).toArray below meth c H locs 0 0 Q (F0 m 11 ls []) := by
    intro N
    induction N with
    | zero =>
      intro x6530 f6531 f6532 H locs ls hM
      exact absurd hM (Nat.not_lt_zero _)
    | succ N ih30 =>
      intro x6530 f6531 f6532 H locs ls hM30 x6530_h hP hD hS hl
      refine lv_iload_n hx hb dX12_setLine_11 rfl (lv_at hl 0 rfl) ?_
      refine lv_if_le (tgt := 167) hx hb dX12_setLine_12 (by decide) (fun h6533 => ?_) (fun h6533 => ?_)
      ·
        have qh6533 := le_i h6533
        have j6534 : Iv 0 0 x6530 := r_lel qh6533 x6530_h ik_0 (by decide)
        refine lv_aload_n hx hb dX12_setLine_167 rfl (lv_at hl 2 rfl) ?_
        refine lv_iconst (v := 0) hx hb dX12_setLine_168 (by decide) ?_
        refine va_put (D := (dC, dI)) (ci := 12) (v := .int 0) (ty := .int) (C := RX12) (T := TX12) (N := 29) hx hb hts iw_X12_setLine_X12 tyX12 tyX12_ok nmX12 hown hK hP hD hS 0 rfl rfl 27 (by decide) (hts (.fieldLink RX12 197 "HolelessHouseModel" "lined" "I") hm_X12_setLine_4) (fun _ h9 => h9) rfl (by decide +kernel) rfl rfl (Nat.le_of_ble_eq_true rfl) dX12_setLine_169 (fun H locs hP hD hS => ?_)
        have hP : va_P (dC, dI) vwCl ([(o1, .inr (12, [.int v2, .ref o3, .int v5, .ref o6, .int v8, .ref o9, .ref o11, .int v13, .ref o14, .int v16, .ref o17, .int v19, .int v20, .int v21, .ref o22, .ref o24, .ref o26, .ref o28, .ref o30, .int v32, .ref o33, .ref o35, .ref o37, .int v39, .ref o40, .ref o42, .ref o44, .int 0, .ref o47])), (o42, .inl (cI, 49152, .inl f6532)), (o40, .inl (cZ, 49152, .inl f6531)), (o37, .inl (cI, 12, .inl fw38)), (o44, .inl (cI, 12, .inl fw45))]) H := hP
        have hD : va_D A ([(o1, .inr (12, [.int v2, .ref o3, .int v5, .ref o6, .int v8, .ref o9, .ref o11, .int v13, .ref o14, .int v16, .ref o17, .int v19, .int v20, .int v21, .ref o22, .ref o24, .ref o26, .ref o28, .ref o30, .int v32, .ref o33, .ref o35, .ref o37, .int v39, .ref o40, .ref o42, .ref o44, .int 0, .ref o47])), (o42, .inl (cI, 49152, .inl f6532)), (o40, .inl (cZ, 49152, .inl f6531)), (o37, .inl (cI, 12, .inl fw38)), (o44, .inl (cI, 12, .inl fw45))]) := hD
        refine lv_iconst (v := 0) hx hb dX12_setLine_172 (by decide) ?_
        refine lv_istore_n (lv' := [(2, .int 0), (1, .int x2), (0, .ref o1)]) hx hb dX12_setLine_173 rfl hl (by decide) rfl (fun ls hl => ?_)
        refine lv_aload_n hx hb dX12_setLine_174 rfl (lv_at hl 2 rfl) ?_
        refine va_get (D := (dC, dI)) (ci := 12) (v := .int v39) (C := RX12) (T := TX12) (N := 29) hx hb hts iw_X12_setLine_X12 hown hK hP 0 rfl rfl 23 (by decide) (hts (.fieldLink RX12 191 "HolelessHouseModel" "thingMany" "I") hm_X12_setLine_1) (fun _ h9 => h9) rfl dX12_setLine_175 ?_
        refine lv_if_le (tgt := 185) hx hb dX12_setLine_178 (by decide) (fun h6535 => ?_) (fun h6535 => ?_)
        ·
          have qh6535 := le_i h6535
          have j6536 : Iv 0 0 v39 := r_lel qh6535 v39_h ik_0 (by decide)
          refine lv_iconst (v := 0) hx hb dX12_setLine_185 (by decide) ?_
          refine lv_istore_n (lv' := [(3, .int 0), (2, .int 0), (1, .int x2), (0, .ref o1)]) hx hb dX12_setLine_186 rfl hl (by decide) rfl (fun ls hl => ?_)
          refine lv_iload_n hx hb dX12_setLine_187 rfl (lv_at hl 0 rfl) ?_
          refine lv_if_eq (tgt := 277) hx hb dX12_setLine_188 (by decide) (fun _ => ?_) (fun h9 => absurd (by decide +kernel) h9)
          rw [hQ]
          exact W.vret hx hb hr (fun t ht hW => ⟨⟨(0, f6532, f6531, fw45), rfl, ⟨(iv_w ik_0 (by decide)), fw45_b⟩, by rw [ht]; exact hP, va_K.moved hW.alike hK, hD⟩, hS.F ht⟩) hS.2.2 dX12_setLine_277
        ·
          have qh6535 := nle_i h6535
          have j6537 : Iv 1 12 v39 := r_ltr qh6535 ik_0 v39_h (by decide)
          refine lv_iconst (v := 1) hx hb dX12_setLine_181 (by decide) ?_
          refine lv_goto (tgt := 186) hx hb dX12_setLine_182 (by decide) ?_
          refine lv_istore_n (lv' := [(3, .int 1), (2, .int 0), (1, .int x2), (0, .ref o1)]) hx hb dX12_setLine_186 rfl hl (by decide) rfl (fun ls hl => ?_)
          have L33 : ∀ (N : Nat) (x7095 : Int32) (x7096 : Int32) (f7097 : Nat → Int32) (x7098 : Int32) (H : Heap) (locs : List Loc) (ls : Array Slot), (2 * (4095 - Int32.toInt x7096) + Int32.toInt x7095).toNat < N → Iv 0 1 x7095 → Iv 0 4095 x7096 → Bd 12 0 11 f7097 → Iv 0 12 x7098 → (Int32.toInt x7098 = (ct x7096 12 : Int)) → va_P (dC, dI) vwCl ([(o1, .inr (12, [.int v2, .ref o3, .int v5, .ref o6, .int v8, .ref o9, .ref o11, .int v13, .ref o14, .int v16, .ref o17, .int v19, .int v20, .int v21, .ref o22, .ref o24, .ref o26, .ref o28, .ref o30, .int v32, .ref o33, .ref o35, .ref o37, .int v39, .ref o40, .ref o42, .ref o44, .int x7098, .ref o47])), (o42, .inl (cI, 49152, .inl f6532)), (o40, .inl (cZ, 49152, .inl f6531)), (o37, .inl (cI, 12, .inl fw38)), (o44, .inl (cI, 12, .inl f7097))]) H → va_D A ([(o1, .inr (12, [.int v2, .ref o3, .int v5, .ref o6, .int v8, .ref o9, .ref o11, .int v13, .ref o14, .int v16, .ref o17, .int v19, .int v20, .int v21, .ref o22, .ref o24, .ref o26, .ref o28, .ref o30, .int v32, .ref o33, .ref o35, .ref o37, .int v39, .ref o40, .ref o42, .ref o44, .int x7098, .ref o47])), (o42, .inl (cI, 49152, .inl f6532)), (o40, .inl (cZ, 49152, .inl f6531)), (o37, .inl (cI, 12, .inl fw38)), (o44, .inl (cI, 12, .inl f7097))]) → va_S A s.heap H locs → lv_has ls 6 [(3, .int x7095), (2, .int x7096), (1, .int x2), (0, .ref o1)] → W p l e ({ frames := 2, cells := 0, slots := 0, locals := 46 }) s m ([.ref o1] : List Value).toArray below meth c H locs 0 0 Q (F0 m 187 ls []) := by
            intro N
            induction N with
            | zero =>
              intro x7095 x7096 f7097 x7098 H locs ls hM
              exact absurd hM (Nat.not_lt_zero _)
            | succ N ih33 =>
              intro x7095 x7096 f7097 x7098 H locs ls hM33 x7095_h x7096_h f7097_b x7098_h iv33_0 hP hD hS hl
              refine lv_iload_n hx hb dX12_setLine_187 rfl (lv_at hl 0 rfl) ?_
              refine lv_if_eq (tgt := 277) hx hb dX12_setLine_188 (by decide) (fun h7099 => ?_) (fun h7099 => ?_)
              ·
                have j7100 : Iv 0 0 x7095 := r_eq h7099 ik_0
                rw [hQ]
                exact W.vret hx hb hr (fun t ht hW => ⟨⟨(x7098, f6532, f6531, f7097), rfl, ⟨x7098_h, f7097_b⟩, by rw [ht]; exact hP, va_K.moved hW.alike hK, hD⟩, hS.F ht⟩) hS.2.2 dX12_setLine_277
              ·
                have j7101 : Iv 1 1 x7095 := r_nelo h7099 x7095_h ik_0 (by decide)
                refine lv_iconst (v := 0) hx hb dX12_setLine_191 (by decide) ?_
                refine lv_istore_n (lv' := [(3, .int 0), (2, .int x7096), (1, .int x2), (0, .ref o1)]) hx hb dX12_setLine_192 rfl hl (by decide) rfl (fun ls hl => ?_)
                refine lv_iconst (v := 0) hx hb dX12_setLine_193 (by decide) ?_
                refine lv_istore (lv' := [(4, .int 0), (3, .int 0), (2, .int x7096), (1, .int x2), (0, .ref o1)]) hx hb dX12_setLine_194 hl (by decide) rfl (fun ls hl => ?_)
                have L34 : ∀ (N : Nat) (x7350 : Int32) (x7351 : Int32) (x7352 : Int32) (f7353 : Nat → Int32) (x7354 : Int32) (H : Heap) (locs : List Loc) (ls : Array Slot), (12 - x7350.toInt).toNat < N → Iv 0 12 x7350 → Iv 0 1 x7351 → Iv 0 4095 x7352 → Bd 12 0 11 f7353 → Iv 0 12 x7354 → (Int32.toInt x7354 = (ct x7352 12 : Int)) → (2 * (4095 - Int32.toInt x7352) + Int32.toInt x7351 ≤ 2 * (4095 - Int32.toInt x7096)) → va_P (dC, dI) vwCl ([(o1, .inr (12, [.int v2, .ref o3, .int v5, .ref o6, .int v8, .ref o9, .ref o11, .int v13, .ref o14, .int v16, .ref o17, .int v19, .int v20, .int v21, .ref o22, .ref o24, .ref o26, .ref o28, .ref o30, .int v32, .ref o33, .ref o35, .ref o37, .int v39, .ref o40, .ref o42, .ref o44, .int x7354, .ref o47])), (o42, .inl (cI, 49152, .inl f6532)), (o40, .inl (cZ, 49152, .inl f6531)), (o37, .inl (cI, 12, .inl fw38)), (o44, .inl (cI, 12, .inl f7353))]) H → va_D A ([(o1, .inr (12, [.int v2, .ref o3, .int v5, .ref o6, .int v8, .ref o9, .ref o11, .int v13, .ref o14, .int v16, .ref o17, .int v19, .int v20, .int v21, .ref o22, .ref o24, .ref o26, .ref o28, .ref o30, .int v32, .ref o33, .ref o35, .ref o37, .int v39, .ref o40, .ref o42, .ref o44, .int x7354, .ref o47])), (o42, .inl (cI, 49152, .inl f6532)), (o40, .inl (cZ, 49152, .inl f6531)), (o37, .inl (cI, 12, .inl fw38)), (o44, .inl (cI, 12, .inl f7353))]) → va_S A s.heap H locs → lv_has ls 6 [(4, .int x7350), (3, .int x7351), (2, .int x7352), (1, .int x2), (0, .ref o1)] → W p l e ({ frames := 2, cells := 0, slots := 0, locals := 46 }) s m ([.ref o1] : List Value).toArray below meth c H locs 0 0 Q (F0 m 196 ls []) := by
                  intro N
                  induction N with
                  | zero =>
                    intro x7350 x7351 x7352 f7353 x7354 H locs ls hM
                    exact absurd hM (Nat.not_lt_zero _)
                  | succ N ih34 =>
                    intro x7350 x7351 x7352 f7353 x7354 H locs ls hM34 x7350_h x7351_h x7352_h f7353_b x7354_h iv34_0 iv34_1 hP hD hS hl
                    refine lv_iload hx hb dX12_setLine_196 (lv_at hl 0 rfl) ?_
                    refine lv_aload_n hx hb dX12_setLine_198 rfl (lv_at hl 4 rfl) ?_
                    refine va_get (D := (dC, dI)) (ci := 12) (v := .int v39) (C := RX12) (T := TX12) (N := 29) hx hb hts iw_X12_setLine_X12 hown hK hP 0 rfl rfl 23 (by decide) (hts (.fieldLink RX12 191 "HolelessHouseModel" "thingMany" "I") hm_X12_setLine_1) (fun _ h9 => h9) rfl dX12_setLine_199 ?_
                    refine lv_icmp_ge (tgt := 274) hx hb dX12_setLine_202 (by decide) (fun h7355 => ?_) (fun h7355 => ?_)
                    ·
                      have qh7355 := le_i h7355
                      have j7356 : Iv 1 12 x7350 := r_ler qh7355 j6537 x7350_h (by decide)
                      refine lv_goto (tgt := 187) hx hb dX12_setLine_274 (by decide) ?_
                      exact ih33 x7351 x7352 f7353 x7354 _ _ _ (by have a0 := iv34_1; have a1 := (show _ ≤ _ ∧ _ ≤ _ from j7101); have a2 := (show _ ≤ _ ∧ _ ≤ _ from x7352_h); have a3 := hM33; have a4 := (show _ ≤ _ ∧ _ ≤ _ from x7351_h); omega) x7351_h x7352_h f7353_b x7354_h iv34_0 hP hD hS (lv_sub hl [1, 2, 3, 4] rfl)
                    ·
                      have qh7355 := nle_i h7355
                      have j7357 : Iv 0 11 x7350 := r_ltl qh7355 x7350_h j6537 (by decide)
                      refine lv_iload_n hx hb dX12_setLine_205 rfl (lv_at hl 1 rfl) ?_
                      refine lv_if_ne (tgt := 274) hx hb dX12_setLine_206 (by decide) (fun h7358 => ?_) (fun h7358 => ?_)
                      ·
                        have j7359 : Iv 1 1 x7351 := r_nelo h7358 x7351_h ik_0 (by decide)
                        refine lv_goto (tgt := 187) hx hb dX12_setLine_274 (by decide) ?_
                        exact ih33 x7351 x7352 f7353 x7354 _ _ _ (by have a0 := iv34_1; have a1 := (show _ ≤ _ ∧ _ ≤ _ from j7101); have a2 := (show _ ≤ _ ∧ _ ≤ _ from x7352_h); have a3 := hM33; have a4 := (show _ ≤ _ ∧ _ ≤ _ from j7359); omega) (iv_w j7359 (by decide)) x7352_h f7353_b x7354_h iv34_0 hP hD hS (lv_sub hl [1, 2, 3, 4] rfl)
                      ·
                        have j7360 : Iv 0 0 x7351 := r_eq h7358 ik_0
                        refine lv_iload_n hx hb dX12_setLine_209 rfl (lv_at hl 2 rfl) ?_
                        refine lv_iload hx hb dX12_setLine_210 (lv_at hl 0 rfl) ?_
                        refine kc_i (D := (dC, dI)) (S := Unit) (wc := []) (wr := [(o1, .inr (12, [.int v2, .ref o3, .int v5, .ref o6, .int v8, .ref o9, .ref o11, .int v13, .ref o14, .int v16, .ref o17, .int v19, .int v20, .int v21, .ref o22, .ref o24, .ref o26, .ref o28, .ref o30, .int v32, .ref o33, .ref o35, .ref o37, .int v39, .ref o40, .ref o42, .ref o44, .int x7354, .ref o47])), (o42, .inl (cI, 49152, .inl f6532)), (o40, .inl (cZ, 49152, .inl f6531)), (o37, .inl (cI, 12, .inl fw38)), (o44, .inl (cI, 12, .inl f7353))]) (w1 := fun _ => []) (wn := fun _ => [(o1, .inr (12, [.int v2, .ref o3, .int v5, .ref o6, .int v8, .ref o9, .ref o11, .int v13, .ref o14, .int v16, .ref o17, .int v19, .int v20, .int v21, .ref o22, .ref o24, .ref o26, .ref o28, .ref o30, .int v32, .ref o33, .ref o35, .ref o37, .int v39, .ref o40, .ref o42, .ref o44, .int x7354, .ref o47])), (o42, .inl (cI, 49152, .inl f6532)), (o40, .inl (cZ, 49152, .inl f6531)), (o37, .inl (cI, 12, .inl fw38)), (o44, .inl (cI, 12, .inl f7353))]) (fun hPc hDc => va_runS (As := [.int x7352, .int x7350]) (rest := []) ⟨hx, hb, hml, hown, hts⟩ (kX12_has_1 l dC dI cI c2 cZ x7352 x7350 H.size (iv_w j7357 (by decide))) (va_cwS 2 hts gX12_setLine_X12_has rfl rfl rfl (by decide +kernel) ⟨Nat.le_of_ble_eq_true rfl, Nat.le_of_ble_eq_true rfl⟩) (pre_S hPc hK hDc hN) rfl rfl hl.1 rfl (lv_room (Nat.le_of_ble_eq_true rfl)) dX12_setLine_212 ⟨Nat.le_of_ble_eq_true rfl, Nat.le_of_ble_eq_true rfl⟩) hP hD hS hA [] [0, 1, 2, 3, 4] [0, 1, 2, 3, 4] rfl rfl (by decide +kernel) (by decide +kernel) (by decide +kernel) (by decide +kernel) (fun _ => rfl) (fun x7361 _ H locs hq hP hD hS => ?_)
                        obtain ⟨x7361_h, e7362⟩ := hq
                        have hP : va_P (dC, dI) vwCl ([(o1, .inr (12, [.int v2, .ref o3, .int v5, .ref o6, .int v8, .ref o9, .ref o11, .int v13, .ref o14, .int v16, .ref o17, .int v19, .int v20, .int v21, .ref o22, .ref o24, .ref o26, .ref o28, .ref o30, .int v32, .ref o33, .ref o35, .ref o37, .int v39, .ref o40, .ref o42, .ref o44, .int x7354, .ref o47])), (o42, .inl (cI, 49152, .inl f6532)), (o40, .inl (cZ, 49152, .inl f6531)), (o37, .inl (cI, 12, .inl fw38)), (o44, .inl (cI, 12, .inl f7353))]) H := hP
                        have hD : va_D A ([(o1, .inr (12, [.int v2, .ref o3, .int v5, .ref o6, .int v8, .ref o9, .ref o11, .int v13, .ref o14, .int v16, .ref o17, .int v19, .int v20, .int v21, .ref o22, .ref o24, .ref o26, .ref o28, .ref o30, .int v32, .ref o33, .ref o35, .ref o37, .int v39, .ref o40, .ref o42, .ref o44, .int x7354, .ref o47])), (o42, .inl (cI, 49152, .inl f6532)), (o40, .inl (cZ, 49152, .inl f6531)), (o37, .inl (cI, 12, .inl fw38)), (o44, .inl (cI, 12, .inl f7353))]) := hD
                        refine lv_if_ne (tgt := 268) hx hb dX12_setLine_215 (by decide) (fun h7363 => ?_) (fun h7363 => ?_)
                        ·
                          have j7364 : Iv 1 1 x7361 := r_nelo h7363 x7361_h ik_0 (by decide)
                          have b7365 : bt x7352 (Int32.toNatClampNeg x7350) = true := has_t e7362 h7363
                          obtain ⟨x7366, x7366_e⟩ : ∃ z : Int32, z = x7350 + 1 := ⟨_, rfl⟩
                          have x7366_h : Iv 1 12 x7366 := iv_e x7366_e (iv_add j7357 ik_1 (by decide))
                          refine lv_iinc (v := x7366) (lv' := [(4, .int x7366), (3, .int x7351), (2, .int x7352), (1, .int x2), (0, .ref o1)]) hx hb dX12_setLine_268 hl (k := 0) rfl (incN (by decide +kernel) x7366_e) (by decide) rfl (fun ls hl => ?_)
                          refine lv_goto (tgt := 196) hx hb dX12_setLine_271 (by decide) ?_
                          exact ih34 x7366 x7351 x7352 f7353 x7354 _ _ _ (ms_up x7366_e j7357 (by decide) hM34) (iv_w x7366_h (by decide)) (iv_w j7360 (by decide)) x7352_h f7353_b x7354_h iv34_0 iv34_1 hP hD hS hl
                        ·
                          have j7367 : Iv 0 0 x7361 := r_eq h7363 ik_0
                          have b7368 : bt x7352 (Int32.toNatClampNeg x7350) = false := has_f e7362 h7363
                          refine lv_aload_n hx hb dX12_setLine_218 rfl (lv_at hl 4 rfl) ?_
                          refine va_get (D := (dC, dI)) (ci := 12) (v := .ref o40) (C := RX12) (T := TX12) (N := 29) hx hb hts iw_X12_setLine_X12 hown hK hP 0 rfl rfl 24 (by decide) (hts (.fieldLink RX12 57 "HolelessHouseModel" "can" "[Z") hm_X12_setLine_3) (fun _ h9 => h9) rfl dX12_setLine_219 ?_
                          refine lv_bipush (v := 12) hx hb dX12_setLine_222 (by decide) ?_
                          refine lv_iload_n hx hb dX12_setLine_224 rfl (lv_at hl 2 rfl) ?_
                          refine lv_iconst (v := 1) hx hb dX12_setLine_225 (by decide) ?_
                          refine lv_iload hx hb dX12_setLine_226 (lv_at hl 0 rfl) ?_
                          refine lv_ishl hx hb dX12_setLine_228 (lv_topi (fun x7369 x7369_e => ?_))
                          have x7369_h : Iv 1 2048 x7369 := iv_e x7369_e (iv_shl1 j7357 (by decide))
                          refine lv_ior hx hb dX12_setLine_229 (lv_topi (fun x7370 x7370_e => ?_))
                          have x7370_h : Iv 0 4095 x7370 := iv_e x7370_e (iv_or 12 x7352_h x7369_h (by decide))
                          refine lv_imul hx hb dX12_setLine_230 (lv_topi (fun x7371 x7371_e => ?_))
                          have x7371_h : Iv 0 49140 x7371 := iv_e x7371_e (iv_mul ik_12 x7370_h (by decide))
                          refine lv_iload hx hb dX12_setLine_231 (lv_at hl 0 rfl) ?_
                          refine lv_iadd hx hb dX12_setLine_233 (lv_topi (fun x7372 x7372_e => ?_))
                          have x7372_h : Iv 0 49151 x7372 := iv_e x7372_e (iv_add x7371_h j7357 (by decide))
                          refine va_zald hx hb hK hP 2 2 rfl rfl (vin_iv x7372_h (by decide)) dX12_setLine_234 (lv_topi (fun x7373 x7373_e => ?_))
                          refine lv_if_eq (tgt := 268) hx hb dX12_setLine_235 (by decide) (fun h7374 => ?_) (fun h7374 => ?_)
                          ·
                            have j7375 : Iv 0 0 x7373 := r_eq h7374 ik_0
                            obtain ⟨x7376, x7376_e⟩ : ∃ z : Int32, z = x7350 + 1 := ⟨_, rfl⟩
                            have x7376_h : Iv 1 12 x7376 := iv_e x7376_e (iv_add j7357 ik_1 (by decide))
                            refine lv_iinc (v := x7376) (lv' := [(4, .int x7376), (3, .int x7351), (2, .int x7352), (1, .int x2), (0, .ref o1)]) hx hb dX12_setLine_268 hl (k := 0) rfl (incN (by decide +kernel) x7376_e) (by decide) rfl (fun ls hl => ?_)
                            refine lv_goto (tgt := 196) hx hb dX12_setLine_271 (by decide) ?_
                            exact ih34 x7376 x7351 x7352 f7353 x7354 _ _ _ (ms_up x7376_e j7357 (by decide) hM34) (iv_w x7376_h (by decide)) (iv_w j7360 (by decide)) x7352_h f7353_b x7354_h iv34_0 iv34_1 hP hD hS hl
                          ·
                            have j7377 : Iv 0 11 x7354 := ct_11 iv34_0 j7357 b7368 x7354_h
                            refine lv_aload_n hx hb dX12_setLine_238 rfl (lv_at hl 4 rfl) ?_
                            refine va_get (D := (dC, dI)) (ci := 12) (v := .ref o44) (C := RX12) (T := TX12) (N := 29) hx hb hts iw_X12_setLine_X12 hown hK hP 0 rfl rfl 26 (by decide) (hts (.fieldLink RX12 64 "HolelessHouseModel" "line" "[I") hm_X12_setLine_5) (fun _ h9 => h9) rfl dX12_setLine_239 ?_
                            refine lv_aload_n hx hb dX12_setLine_242 rfl (lv_at hl 4 rfl) ?_
                            refine va_get (D := (dC, dI)) (ci := 12) (v := .int x7354) (C := RX12) (T := TX12) (N := 29) hx hb hts iw_X12_setLine_X12 hown hK hP 0 rfl rfl 27 (by decide) (hts (.fieldLink RX12 197 "HolelessHouseModel" "lined" "I") hm_X12_setLine_4) (fun _ h9 => h9) rfl dX12_setLine_243 ?_
                            refine lv_iload hx hb dX12_setLine_246 (lv_at hl 0 rfl) ?_
                            refine k_iast hx hb hK hP hD hS 4 0 rfl rfl (vin_iv j7377 (by decide)) dX12_setLine_248 (fun f7378 H locs f7378_e hP hD hS => ?_)
                            have f7378_b : Bd 12 0 11 f7378 := bd_upd f7378_e f7353_b j7357 (by decide)
                            have hP : va_P (dC, dI) vwCl ([(o1, .inr (12, [.int v2, .ref o3, .int v5, .ref o6, .int v8, .ref o9, .ref o11, .int v13, .ref o14, .int v16, .ref o17, .int v19, .int v20, .int v21, .ref o22, .ref o24, .ref o26, .ref o28, .ref o30, .int v32, .ref o33, .ref o35, .ref o37, .int v39, .ref o40, .ref o42, .ref o44, .int x7354, .ref o47])), (o42, .inl (cI, 49152, .inl f6532)), (o40, .inl (cZ, 49152, .inl f6531)), (o37, .inl (cI, 12, .inl fw38)), (o44, .inl (cI, 12, .inl f7378))]) H := hP
                            have hD : va_D A ([(o1, .inr (12, [.int v2, .ref o3, .int v5, .ref o6, .int v8, .ref o9, .ref o11, .int v13, .ref o14, .int v16, .ref o17, .int v19, .int v20, .int v21, .ref o22, .ref o24, .ref o26, .ref o28, .ref o30, .int v32, .ref o33, .ref o35, .ref o37, .int v39, .ref o40, .ref o42, .ref o44, .int x7354, .ref o47])), (o42, .inl (cI, 49152, .inl f6532)), (o40, .inl (cZ, 49152, .inl f6531)), (o37, .inl (cI, 12, .inl fw38)), (o44, .inl (cI, 12, .inl f7378))]) := hD
                            refine lv_aload_n hx hb dX12_setLine_249 rfl (lv_at hl 4 rfl) ?_
                            refine lv_dup hx hb dX12_setLine_250 rfl ?_
                            refine va_get (D := (dC, dI)) (ci := 12) (v := .int x7354) (C := RX12) (T := TX12) (N := 29) hx hb hts iw_X12_setLine_X12 hown hK hP 0 rfl rfl 27 (by decide) (hts (.fieldLink RX12 197 "HolelessHouseModel" "lined" "I") hm_X12_setLine_4) (fun _ h9 => h9) rfl dX12_setLine_251 ?_
                            refine lv_iconst (v := 1) hx hb dX12_setLine_254 (by decide) ?_
                            refine lv_iadd hx hb dX12_setLine_255 (lv_topi (fun x7379 x7379_e => ?_))
                            have x7379_h : Iv 1 12 x7379 := iv_e x7379_e (iv_add j7377 ik_1 (by decide))
                            refine va_put (D := (dC, dI)) (ci := 12) (v := .int x7379) (ty := .int) (C := RX12) (T := TX12) (N := 29) hx hb hts iw_X12_setLine_X12 tyX12 tyX12_ok nmX12 hown hK hP hD hS 0 rfl rfl 27 (by decide) (hts (.fieldLink RX12 197 "HolelessHouseModel" "lined" "I") hm_X12_setLine_4) (fun _ h9 => h9) rfl (by decide +kernel) rfl rfl (Nat.le_of_ble_eq_true rfl) dX12_setLine_256 (fun H locs hP hD hS => ?_)
                            have hP : va_P (dC, dI) vwCl ([(o1, .inr (12, [.int v2, .ref o3, .int v5, .ref o6, .int v8, .ref o9, .ref o11, .int v13, .ref o14, .int v16, .ref o17, .int v19, .int v20, .int v21, .ref o22, .ref o24, .ref o26, .ref o28, .ref o30, .int v32, .ref o33, .ref o35, .ref o37, .int v39, .ref o40, .ref o42, .ref o44, .int x7379, .ref o47])), (o42, .inl (cI, 49152, .inl f6532)), (o40, .inl (cZ, 49152, .inl f6531)), (o37, .inl (cI, 12, .inl fw38)), (o44, .inl (cI, 12, .inl f7378))]) H := hP
                            have hD : va_D A ([(o1, .inr (12, [.int v2, .ref o3, .int v5, .ref o6, .int v8, .ref o9, .ref o11, .int v13, .ref o14, .int v16, .ref o17, .int v19, .int v20, .int v21, .ref o22, .ref o24, .ref o26, .ref o28, .ref o30, .int v32, .ref o33, .ref o35, .ref o37, .int v39, .ref o40, .ref o42, .ref o44, .int x7379, .ref o47])), (o42, .inl (cI, 49152, .inl f6532)), (o40, .inl (cZ, 49152, .inl f6531)), (o37, .inl (cI, 12, .inl fw38)), (o44, .inl (cI, 12, .inl f7378))]) := hD
                            refine lv_iload_n hx hb dX12_setLine_259 rfl (lv_at hl 2 rfl) ?_
                            refine lv_iconst (v := 1) hx hb dX12_setLine_260 (by decide) ?_
                            refine lv_iload hx hb dX12_setLine_261 (lv_at hl 0 rfl) ?_
                            refine lv_ishl hx hb dX12_setLine_263 (lv_topi (fun x7380 x7380_e => ?_))
                            have x7380_h : Iv 1 2048 x7380 := iv_e x7380_e (iv_shl1 j7357 (by decide))
                            refine lv_ior hx hb dX12_setLine_264 (lv_topi (fun x7381 x7381_e => ?_))
                            have x7381_h : Iv 0 4095 x7381 := iv_e x7381_e (iv_or 12 x7352_h x7380_h (by decide))
                            refine lv_istore_n (lv' := [(2, .int x7381), (4, .int x7350), (3, .int x7351), (1, .int x2), (0, .ref o1)]) hx hb dX12_setLine_265 rfl hl (by decide) rfl (fun ls hl => ?_)
                            refine lv_iconst (v := 1) hx hb dX12_setLine_266 (by decide) ?_
                            refine lv_istore_n (lv' := [(3, .int 1), (2, .int x7381), (4, .int x7350), (1, .int x2), (0, .ref o1)]) hx hb dX12_setLine_267 rfl hl (by decide) rfl (fun ls hl => ?_)
                            obtain ⟨x7382, x7382_e⟩ : ∃ z : Int32, z = x7350 + 1 := ⟨_, rfl⟩
                            have x7382_h : Iv 1 12 x7382 := iv_e x7382_e (iv_add j7357 ik_1 (by decide))
                            refine lv_iinc (v := x7382) (lv' := [(4, .int x7382), (3, .int 1), (2, .int x7381), (1, .int x2), (0, .ref o1)]) hx hb dX12_setLine_268 hl (k := 2) rfl (incN (by decide +kernel) x7382_e) (by decide) rfl (fun ls hl => ?_)
                            refine lv_goto (tgt := 196) hx hb dX12_setLine_271 (by decide) ?_
                            exact ih34 x7382 1 x7381 f7378 x7379 _ _ _ (ms_up x7382_e j7357 (by decide) hM34) (iv_w x7382_h (by decide)) (iv_w ik_1 (by decide)) x7381_h f7378_b (iv_w x7379_h (by decide)) (by have a0 := iv34_0; have a1 := ct_set1 (x := 0) j7357 x7380_e x7381_e b7368; have a2 := tia x7379_e j7377 ik_1 (by decide); omega) (by have a0 := iv34_1; have a1 := set_gt x7352_h x7381_h j7357 (by decide) x7380_e x7381_e b7368; have a2 := (show Int32.toInt 1 = 1 by decide +kernel); have a3 := (show _ ≤ _ ∧ _ ≤ _ from j7360); omega) hP hD hS hl
                exact L34 _ 0 0 x7096 f7097 x7098 _ _ _ (Nat.lt_succ_self _) (iv_w ik_0 (by decide)) (iv_w ik_0 (by decide)) x7096_h f7097_b x7098_h iv33_0 (by have a0 := (show Int32.toInt 0 = 0 by decide +kernel); omega) hP hD hS hl
          exact L33 _ 1 0 fw45 0 _ _ _ (Nat.lt_succ_self _) (iv_w ik_1 (by decide)) (iv_w ik_0 (by decide)) fw45_b (iv_w ik_0 (by decide)) (by rw [ct_0]; decide +kernel) hP hD hS hl
      ·
        have qh6533 := nle_i h6533
        have j7383 : Iv 1 4095 x6530 := r_ltr qh6533 ik_0 x6530_h (by decide)
        refine lv_iconst (v := 0) hx hb dX12_setLine_15 (by decide) ?_
        refine lv_istore_n (lv' := [(3, .int 0), (2, .int x6530), (1, .int x2), (0, .ref o1)]) hx hb dX12_setLine_16 rfl hl (by decide) rfl (fun ls hl => ?_)
        have L51 : ∀ (N : Nat) (x11157 : Int32) (f11158 : Nat → Int32) (f11159 : Nat → Int32) (H : Heap) (locs : List Loc) (ls : Array Slot), (12 - x11157.toInt).toNat < N → Iv 0 12 x11157 → va_P (dC, dI) vwCl ([(o1, .inr (12, [.int v2, .ref o3, .int v5, .ref o6, .int v8, .ref o9, .ref o11, .int v13, .ref o14, .int v16, .ref o17, .int v19, .int v20, .int v21, .ref o22, .ref o24, .ref o26, .ref o28, .ref o30, .int v32, .ref o33, .ref o35, .ref o37, .int v39, .ref o40, .ref o42, .ref o44, .int v46, .ref o47])), (o42, .inl (cI, 49152, .inl f11159)), (o40, .inl (cZ, 49152, .inl f11158)), (o37, .inl (cI, 12, .inl fw38)), (o44, .inl (cI, 12, .inl fw45))]) H → va_D A ([(o1, .inr (12, [.int v2, .ref o3, .int v5, .ref o6, .int v8, .ref o9, .ref o11, .int v13, .ref o14, .int v16, .ref o17, .int v19, .int v20, .int v21, .ref o22, .ref o24, .ref o26, .ref o28, .ref o30, .int v32, .ref o33, .ref o35, .ref o37, .int v39, .ref o40, .ref o42, .ref o44, .int v46, .ref o47])), (o42, .inl (cI, 49152, .inl f11159)), (o40, .inl (cZ, 49152, .inl f11158)), (o37, .inl (cI, 12, .inl fw38)), (o44, .inl (cI, 12, .inl fw45))]) → va_S A s.heap H locs → lv_has ls 6 [(3, .int x11157), (2, .int x6530), (1, .int x2), (0, .ref o1)] → W p l e ({ frames := 2, cells := 0, slots := 0, locals := 46 }) s m ([.ref o1] : List Value).toArray below meth c H locs 0 0 Q (F0 m 17 ls []) := by
          intro N
          induction N with
          | zero =>
            intro x11157 f11158 f11159 H locs ls hM
            exact absurd hM (Nat.not_lt_zero _)
          | succ N ih51 =>
            intro x11157 f11158 f11159 H locs ls hM51 x11157_h hP hD hS hl
            refine lv_iload_n hx hb dX12_setLine_17 rfl (lv_at hl 0 rfl) ?_
            refine lv_aload_n hx hb dX12_setLine_18 rfl (lv_at hl 3 rfl) ?_
            refine va_get (D := (dC, dI)) (ci := 12) (v := .int v39) (C := RX12) (T := TX12) (N := 29) hx hb hts iw_X12_setLine_X12 hown hK hP 0 rfl rfl 23 (by decide) (hts (.fieldLink RX12 191 "HolelessHouseModel" "thingMany" "I") hm_X12_setLine_1) (fun _ h9 => h9) rfl dX12_setLine_19 ?_
            refine lv_icmp_ge (tgt := 161) hx hb dX12_setLine_22 (by decide) (fun h11160 => ?_) (fun h11160 => ?_)
            ·
              have qh11160 := le_i h11160
              obtain ⟨x11161, x11161_e⟩ : ∃ z : Int32, z = x6530 + (-1) := ⟨_, rfl⟩
              have x11161_h : Iv 0 4094 x11161 := iv_e x11161_e (iv_add j7383 ikm_1 (by decide))
              refine lv_iinc (v := x11161) (lv' := [(2, .int x11161), (3, .int x11157), (1, .int x2), (0, .ref o1)]) hx hb dX12_setLine_161 hl (k := 1) rfl (incN (by decide +kernel) x11161_e) (by decide) rfl (fun ls hl => ?_)
              refine lv_goto (tgt := 11) hx hb dX12_setLine_164 (by decide) ?_
              exact ih30 x11161 f11158 f11159 _ _ _ (ms_dn x11161_e j7383 (by decide) hM30) (iv_w x11161_h (by decide)) hP hD hS (lv_sub hl [0, 2, 3] rfl)
            ·
              have qh11160 := nle_i h11160
              have j11162 : Iv 0 11 x11157 := r_ltl qh11160 x11157_h v39_h (by decide)
              have j11163 : Iv 1 12 v39 := r_ltr qh11160 x11157_h v39_h (by decide)
              refine lv_bipush (v := 12) hx hb dX12_setLine_25 (by decide) ?_
              refine lv_iload_n hx hb dX12_setLine_27 rfl (lv_at hl 1 rfl) ?_
              refine lv_imul hx hb dX12_setLine_28 (lv_topi (fun x11164 x11164_e => ?_))
              have x11164_h : Iv 0 49140 x11164 := iv_e x11164_e (iv_mul ik_12 j7383 (by decide))
              refine lv_iload_n hx hb dX12_setLine_29 rfl (lv_at hl 0 rfl) ?_
              refine lv_iadd hx hb dX12_setLine_30 (lv_topi (fun x11165 x11165_e => ?_))
              have x11165_h : Iv 0 49151 x11165 := iv_e x11165_e (iv_add x11164_h j11162 (by decide))
              refine lv_istore (lv' := [(4, .int x11165), (3, .int x11157), (2, .int x6530), (1, .int x2), (0, .ref o1)]) hx hb dX12_setLine_31 hl (by decide) rfl (fun ls hl => ?_)
              refine lv_aload_n hx hb dX12_setLine_33 rfl (lv_at hl 4 rfl) ?_
              refine va_get (D := (dC, dI)) (ci := 12) (v := .ref o42) (C := RX12) (T := TX12) (N := 29) hx hb hts iw_X12_setLine_X12 hown hK hP 0 rfl rfl 25 (by decide) (hts (.fieldLink RX12 61 "HolelessHouseModel" "counts" "[I") hm_X12_setLine_2) (fun _ h9 => h9) rfl dX12_setLine_34 ?_
              refine lv_iload hx hb dX12_setLine_37 (lv_at hl 0 rfl) ?_
              refine lv_iconst (v := 0) hx hb dX12_setLine_39 (by decide) ?_
              refine k_iast hx hb hK hP hD hS 1 0 rfl rfl (vin_iv x11165_h (by decide)) dX12_setLine_40 (fun f11166 H locs f11166_e hP hD hS => ?_)
              have hP : va_P (dC, dI) vwCl ([(o1, .inr (12, [.int v2, .ref o3, .int v5, .ref o6, .int v8, .ref o9, .ref o11, .int v13, .ref o14, .int v16, .ref o17, .int v19, .int v20, .int v21, .ref o22, .ref o24, .ref o26, .ref o28, .ref o30, .int v32, .ref o33, .ref o35, .ref o37, .int v39, .ref o40, .ref o42, .ref o44, .int v46, .ref o47])), (o42, .inl (cI, 49152, .inl f11166)), (o40, .inl (cZ, 49152, .inl f11158)), (o37, .inl (cI, 12, .inl fw38)), (o44, .inl (cI, 12, .inl fw45))]) H := hP
              have hD : va_D A ([(o1, .inr (12, [.int v2, .ref o3, .int v5, .ref o6, .int v8, .ref o9, .ref o11, .int v13, .ref o14, .int v16, .ref o17, .int v19, .int v20, .int v21, .ref o22, .ref o24, .ref o26, .ref o28, .ref o30, .int v32, .ref o33, .ref o35, .ref o37, .int v39, .ref o40, .ref o42, .ref o44, .int v46, .ref o47])), (o42, .inl (cI, 49152, .inl f11166)), (o40, .inl (cZ, 49152, .inl f11158)), (o37, .inl (cI, 12, .inl fw38)), (o44, .inl (cI, 12, .inl fw45))]) := hD
              refine lv_iload_n hx hb dX12_setLine_41 rfl (lv_at hl 2 rfl) ?_
              refine lv_iload_n hx hb dX12_setLine_42 rfl (lv_at hl 1 rfl) ?_
              refine kc_i (D := (dC, dI)) (S := Unit) (wc := []) (wr := [(o1, .inr (12, [.int v2, .ref o3, .int v5, .ref o6, .int v8, .ref o9, .ref o11, .int v13, .ref o14, .int v16, .ref o17, .int v19, .int v20, .int v21, .ref o22, .ref o24, .ref o26, .ref o28, .ref o30, .int v32, .ref o33, .ref o35, .ref o37, .int v39, .ref o40, .ref o42, .ref o44, .int v46, .ref o47])), (o42, .inl (cI, 49152, .inl f11166)), (o40, .inl (cZ, 49152, .inl f11158)), (o37, .inl (cI, 12, .inl fw38)), (o44, .inl (cI, 12, .inl fw45))]) (w1 := fun _ => []) (wn := fun _ => [(o1, .inr (12, [.int v2, .ref o3, .int v5, .ref o6, .int v8, .ref o9, .ref o11, .int v13, .ref o14, .int v16, .ref o17, .int v19, .int v20, .int v21, .ref o22, .ref o24, .ref o26, .ref o28, .ref o30, .int v32, .ref o33, .ref o35, .ref o37, .int v39, .ref o40, .ref o42, .ref o44, .int v46, .ref o47])), (o42, .inl (cI, 49152, .inl f11166)), (o40, .inl (cZ, 49152, .inl f11158)), (o37, .inl (cI, 12, .inl fw38)), (o44, .inl (cI, 12, .inl fw45))]) (fun hPc hDc => va_runS (As := [.int x6530, .int x11157]) (rest := []) ⟨hx, hb, hml, hown, hts⟩ (kX12_has_1 l dC dI cI c2 cZ x6530 x11157 H.size (iv_w j11162 (by decide))) (va_cwS 2 hts gX12_setLine_X12_has rfl rfl rfl (by decide +kernel) ⟨Nat.le_of_ble_eq_true rfl, Nat.le_of_ble_eq_true rfl⟩) (pre_S hPc hK hDc hN) rfl rfl hl.1 rfl (lv_room (Nat.le_of_ble_eq_true rfl)) dX12_setLine_43 ⟨Nat.le_of_ble_eq_true rfl, Nat.le_of_ble_eq_true rfl⟩) hP hD hS hA [] [0, 1, 2, 3, 4] [0, 1, 2, 3, 4] rfl rfl (by decide +kernel) (by decide +kernel) (by decide +kernel) (by decide +kernel) (fun _ => rfl) (fun x11167 _ H locs hq hP hD hS => ?_)
              obtain ⟨x11167_h, e11168⟩ := hq
              have hP : va_P (dC, dI) vwCl ([(o1, .inr (12, [.int v2, .ref o3, .int v5, .ref o6, .int v8, .ref o9, .ref o11, .int v13, .ref o14, .int v16, .ref o17, .int v19, .int v20, .int v21, .ref o22, .ref o24, .ref o26, .ref o28, .ref o30, .int v32, .ref o33, .ref o35, .ref o37, .int v39, .ref o40, .ref o42, .ref o44, .int v46, .ref o47])), (o42, .inl (cI, 49152, .inl f11166)), (o40, .inl (cZ, 49152, .inl f11158)), (o37, .inl (cI, 12, .inl fw38)), (o44, .inl (cI, 12, .inl fw45))]) H := hP
              have hD : va_D A ([(o1, .inr (12, [.int v2, .ref o3, .int v5, .ref o6, .int v8, .ref o9, .ref o11, .int v13, .ref o14, .int v16, .ref o17, .int v19, .int v20, .int v21, .ref o22, .ref o24, .ref o26, .ref o28, .ref o30, .int v32, .ref o33, .ref o35, .ref o37, .int v39, .ref o40, .ref o42, .ref o44, .int v46, .ref o47])), (o42, .inl (cI, 49152, .inl f11166)), (o40, .inl (cZ, 49152, .inl f11158)), (o37, .inl (cI, 12, .inl fw38)), (o44, .inl (cI, 12, .inl fw45))]) := hD
              refine lv_if_eq (tgt := 133) hx hb dX12_setLine_46 (by decide) (fun h11169 => ?_) (fun h11169 => ?_)
              ·
                have j11170 : Iv 0 0 x11167 := r_eq h11169 ik_0
                have b11171 : bt x6530 (Int32.toNatClampNeg x11157) = false := has_f e11168 h11169
                refine lv_aload_n hx hb dX12_setLine_133 rfl (lv_at hl 4 rfl) ?_
                refine va_get (D := (dC, dI)) (ci := 12) (v := .ref o40) (C := RX12) (T := TX12) (N := 29) hx hb hts iw_X12_setLine_X12 hown hK hP 0 rfl rfl 24 (by decide) (hts (.fieldLink RX12 57 "HolelessHouseModel" "can" "[Z") hm_X12_setLine_3) (fun _ h9 => h9) rfl dX12_setLine_134 ?_
                refine lv_iload hx hb dX12_setLine_137 (lv_at hl 0 rfl) ?_
                refine lv_aload_n hx hb dX12_setLine_139 rfl (lv_at hl 4 rfl) ?_
                refine va_get (D := (dC, dI)) (ci := 12) (v := .ref o42) (C := RX12) (T := TX12) (N := 29) hx hb hts iw_X12_setLine_X12 hown hK hP 0 rfl rfl 25 (by decide) (hts (.fieldLink RX12 61 "HolelessHouseModel" "counts" "[I") hm_X12_setLine_2) (fun _ h9 => h9) rfl dX12_setLine_140 ?_
                refine lv_iload hx hb dX12_setLine_143 (lv_at hl 0 rfl) ?_
                refine va_iald hx hb hK hP 1 0 rfl rfl (vin_iv x11165_h (by decide)) dX12_setLine_145 (lv_topi (fun x11172 x11172_e => ?_))
                refine lv_if_le (tgt := 153) hx hb dX12_setLine_146 (by decide) (fun h11173 => ?_) (fun h11173 => ?_)
                ·
                  have qh11173 := le_i h11173
                  have j11174 : Iv (-2147483648) 0 x11172 := r_lel qh11173 (iv_full x11172) ik_0 (by decide)
                  refine lv_iconst (v := 0) hx hb dX12_setLine_153 (by decide) ?_
                  refine k_zast hx hb hK hP hD hS 2 2 rfl rfl (vin_iv x11165_h (by decide)) dX12_setLine_154 (fun f11175 H locs f11175_e hP hD hS => ?_)
                  have hP : va_P (dC, dI) vwCl ([(o1, .inr (12, [.int v2, .ref o3, .int v5, .ref o6, .int v8, .ref o9, .ref o11, .int v13, .ref o14, .int v16, .ref o17, .int v19, .int v20, .int v21, .ref o22, .ref o24, .ref o26, .ref o28, .ref o30, .int v32, .ref o33, .ref o35, .ref o37, .int v39, .ref o40, .ref o42, .ref o44, .int v46, .ref o47])), (o42, .inl (cI, 49152, .inl f11166)), (o40, .inl (cZ, 49152, .inl f11175)), (o37, .inl (cI, 12, .inl fw38)), (o44, .inl (cI, 12, .inl fw45))]) H := hP
                  have hD : va_D A ([(o1, .inr (12, [.int v2, .ref o3, .int v5, .ref o6, .int v8, .ref o9, .ref o11, .int v13, .ref o14, .int v16, .ref o17, .int v19, .int v20, .int v21, .ref o22, .ref o24, .ref o26, .ref o28, .ref o30, .int v32, .ref o33, .ref o35, .ref o37, .int v39, .ref o40, .ref o42, .ref o44, .int v46, .ref o47])), (o42, .inl (cI, 49152, .inl f11166)), (o40, .inl (cZ, 49152, .inl f11175)), (o37, .inl (cI, 12, .inl fw38)), (o44, .inl (cI, 12, .inl fw45))]) := hD
                  obtain ⟨x11176, x11176_e⟩ : ∃ z : Int32, z = x11157 + 1 := ⟨_, rfl⟩
                  have x11176_h : Iv 1 12 x11176 := iv_e x11176_e (iv_add j11162 ik_1 (by decide))
                  refine lv_iinc (v := x11176) (lv' := [(3, .int x11176), (4, .int x11165), (2, .int x6530), (1, .int x2), (0, .ref o1)]) hx hb dX12_setLine_155 hl (k := 1) rfl (incN (by decide +kernel) x11176_e) (by decide) rfl (fun ls hl => ?_)
                  refine lv_goto (tgt := 17) hx hb dX12_setLine_158 (by decide) ?_
                  exact ih51 x11176 f11175 f11166 _ _ _ (ms_up x11176_e j11162 (by decide) hM51) (iv_w x11176_h (by decide)) hP hD hS (lv_sub hl [0, 2, 3, 4] rfl)
                ·
                  have qh11173 := nle_i h11173
                  have j11177 : Iv 1 2147483647 x11172 := r_ltr qh11173 ik_0 (iv_full x11172) (by decide)
                  refine lv_iconst (v := 1) hx hb dX12_setLine_149 (by decide) ?_
                  refine lv_goto (tgt := 154) hx hb dX12_setLine_150 (by decide) ?_
                  refine k_zast hx hb hK hP hD hS 2 2 rfl rfl (vin_iv x11165_h (by decide)) dX12_setLine_154 (fun f11178 H locs f11178_e hP hD hS => ?_)
                  have hP : va_P (dC, dI) vwCl ([(o1, .inr (12, [.int v2, .ref o3, .int v5, .ref o6, .int v8, .ref o9, .ref o11, .int v13, .ref o14, .int v16, .ref o17, .int v19, .int v20, .int v21, .ref o22, .ref o24, .ref o26, .ref o28, .ref o30, .int v32, .ref o33, .ref o35, .ref o37, .int v39, .ref o40, .ref o42, .ref o44, .int v46, .ref o47])), (o42, .inl (cI, 49152, .inl f11166)), (o40, .inl (cZ, 49152, .inl f11178)), (o37, .inl (cI, 12, .inl fw38)), (o44, .inl (cI, 12, .inl fw45))]) H := hP
                  have hD : va_D A ([(o1, .inr (12, [.int v2, .ref o3, .int v5, .ref o6, .int v8, .ref o9, .ref o11, .int v13, .ref o14, .int v16, .ref o17, .int v19, .int v20, .int v21, .ref o22, .ref o24, .ref o26, .ref o28, .ref o30, .int v32, .ref o33, .ref o35, .ref o37, .int v39, .ref o40, .ref o42, .ref o44, .int v46, .ref o47])), (o42, .inl (cI, 49152, .inl f11166)), (o40, .inl (cZ, 49152, .inl f11178)), (o37, .inl (cI, 12, .inl fw38)), (o44, .inl (cI, 12, .inl fw45))]) := hD
                  obtain ⟨x11179, x11179_e⟩ : ∃ z : Int32, z = x11157 + 1 := ⟨_, rfl⟩
                  have x11179_h : Iv 1 12 x11179 := iv_e x11179_e (iv_add j11162 ik_1 (by decide))
                  refine lv_iinc (v := x11179) (lv' := [(3, .int x11179), (4, .int x11165), (2, .int x6530), (1, .int x2), (0, .ref o1)]) hx hb dX12_setLine_155 hl (k := 1) rfl (incN (by decide +kernel) x11179_e) (by decide) rfl (fun ls hl => ?_)
                  refine lv_goto (tgt := 17) hx hb dX12_setLine_158 (by decide) ?_
                  exact ih51 x11179 f11178 f11166 _ _ _ (ms_up x11179_e j11162 (by decide) hM51) (iv_w x11179_h (by decide)) hP hD hS (lv_sub hl [0, 2, 3, 4] rfl)
              ·
                have j11180 : Iv 1 1 x11167 := r_nelo h11169 x11167_h ik_0 (by decide)
                have b11181 : bt x6530 (Int32.toNatClampNeg x11157) = true := has_t e11168 h11169
                refine lv_aload_n hx hb dX12_setLine_49 rfl (lv_at hl 4 rfl) ?_
                refine lv_iload_n hx hb dX12_setLine_50 rfl (lv_at hl 2 rfl) ?_
                refine lv_iload_n hx hb dX12_setLine_51 rfl (lv_at hl 1 rfl) ?_
                refine kc_i (D := (dC, dI)) (S := Unit) (wc := [(o1, .inr (12, [.int v2, .ref o3, .int v5, .ref o6, .int v8, .ref o9, .ref o11, .int v13, .ref o14, .int v16, .ref o17, .int v19, .int v20, .int v21, .ref o22, .ref o24, .ref o26, .ref o28, .ref o30, .int v32, .ref o33, .ref o35, .ref o37, .int v39, .ref o40, .ref o42, .ref o44, .int v46, .ref o47])), (o37, .inl (cI, 12, .inl fw38))]) (wr := [(o42, .inl (cI, 49152, .inl f11166)), (o40, .inl (cZ, 49152, .inl f11158)), (o44, .inl (cI, 12, .inl fw45))]) (w1 := fun _ => [(o1, .inr (12, [.int v2, .ref o3, .int v5, .ref o6, .int v8, .ref o9, .ref o11, .int v13, .ref o14, .int v16, .ref o17, .int v19, .int v20, .int v21, .ref o22, .ref o24, .ref o26, .ref o28, .ref o30, .int v32, .ref o33, .ref o35, .ref o37, .int v39, .ref o40, .ref o42, .ref o44, .int v46, .ref o47])), (o37, .inl (cI, 12, .inl fw38))]) (wn := fun _ => [(o1, .inr (12, [.int v2, .ref o3, .int v5, .ref o6, .int v8, .ref o9, .ref o11, .int v13, .ref o14, .int v16, .ref o17, .int v19, .int v20, .int v21, .ref o22, .ref o24, .ref o26, .ref o28, .ref o30, .int v32, .ref o33, .ref o35, .ref o37, .int v39, .ref o40, .ref o42, .ref o44, .int v46, .ref o47])), (o42, .inl (cI, 49152, .inl f11166)), (o40, .inl (cZ, 49152, .inl f11158)), (o37, .inl (cI, 12, .inl fw38)), (o44, .inl (cI, 12, .inl fw45))]) (fun hPc hDc => va_runV (As := [.int x6530, .int x11157]) (rest := []) ⟨hx, hb, hml, hown, hts⟩ (kX12_isWell_1 l dC dI cI c2 cZ o1 o3 o6 o9 o11 o14 o17 o22 o24 o26 o28 o30 o33 o35 o37 o40 o42 o44 o47 v2 v5 v8 v13 v16 v19 v20 v21 v32 fw38 v39 v46 x6530 x11157 H.size v5_h v8_h v13_h v16_h v19_h v32_h (iv_w j11163 (by decide)) v46_h (iv_w j7383 (by decide)) j11162) (cwV 2 hts gX12_setLine_X12_isWell rfl rfl rfl (by decide +kernel) ⟨Nat.le_of_ble_eq_true rfl, Nat.le_of_ble_eq_true rfl⟩) (pre_V hPc hK hDc hN (ci := 12) (q0 := 0) rfl rfl) rfl rfl hl.1 rfl (lv_room (Nat.le_of_ble_eq_true rfl)) dX12_setLine_52 ⟨Nat.le_of_ble_eq_true rfl, Nat.le_of_ble_eq_true rfl⟩) hP hD hS hA [0, 3] [1, 2, 4] [3, 0, 1, 4, 2] rfl rfl (by decide +kernel) (by decide +kernel) (by decide +kernel) (by decide +kernel) (fun _ => rfl) (fun x11182 _ H locs hq hP hD hS => ?_)
                have x11182_h := hq
                have hP : va_P (dC, dI) vwCl ([(o1, .inr (12, [.int v2, .ref o3, .int v5, .ref o6, .int v8, .ref o9, .ref o11, .int v13, .ref o14, .int v16, .ref o17, .int v19, .int v20, .int v21, .ref o22, .ref o24, .ref o26, .ref o28, .ref o30, .int v32, .ref o33, .ref o35, .ref o37, .int v39, .ref o40, .ref o42, .ref o44, .int v46, .ref o47])), (o42, .inl (cI, 49152, .inl f11166)), (o40, .inl (cZ, 49152, .inl f11158)), (o37, .inl (cI, 12, .inl fw38)), (o44, .inl (cI, 12, .inl fw45))]) H := hP
                have hD : va_D A ([(o1, .inr (12, [.int v2, .ref o3, .int v5, .ref o6, .int v8, .ref o9, .ref o11, .int v13, .ref o14, .int v16, .ref o17, .int v19, .int v20, .int v21, .ref o22, .ref o24, .ref o26, .ref o28, .ref o30, .int v32, .ref o33, .ref o35, .ref o37, .int v39, .ref o40, .ref o42, .ref o44, .int v46, .ref o47])), (o42, .inl (cI, 49152, .inl f11166)), (o40, .inl (cZ, 49152, .inl f11158)), (o37, .inl (cI, 12, .inl fw38)), (o44, .inl (cI, 12, .inl fw45))]) := hD
                refine lv_if_eq (tgt := 133) hx hb dX12_setLine_55 (by decide) (fun h11183 => ?_) (fun h11183 => ?_)
                ·
                  have j11184 : Iv 0 0 x11182 := r_eq h11183 ik_0
                  refine lv_aload_n hx hb dX12_setLine_133 rfl (lv_at hl 4 rfl) ?_
                  refine va_get (D := (dC, dI)) (ci := 12) (v := .ref o40) (C := RX12) (T := TX12) (N := 29) hx hb hts iw_X12_setLine_X12 hown hK hP 0 rfl rfl 24 (by decide) (hts (.fieldLink RX12 57 "HolelessHouseModel" "can" "[Z") hm_X12_setLine_3) (fun _ h9 => h9) rfl dX12_setLine_134 ?_
                  refine lv_iload hx hb dX12_setLine_137 (lv_at hl 0 rfl) ?_
                  refine lv_aload_n hx hb dX12_setLine_139 rfl (lv_at hl 4 rfl) ?_
                  refine va_get (D := (dC, dI)) (ci := 12) (v := .ref o42) (C := RX12) (T := TX12) (N := 29) hx hb hts iw_X12_setLine_X12 hown hK hP 0 rfl rfl 25 (by decide) (hts (.fieldLink RX12 61 "HolelessHouseModel" "counts" "[I") hm_X12_setLine_2) (fun _ h9 => h9) rfl dX12_setLine_140 ?_
                  refine lv_iload hx hb dX12_setLine_143 (lv_at hl 0 rfl) ?_
                  refine va_iald hx hb hK hP 1 0 rfl rfl (vin_iv x11165_h (by decide)) dX12_setLine_145 (lv_topi (fun x11185 x11185_e => ?_))
                  refine lv_if_le (tgt := 153) hx hb dX12_setLine_146 (by decide) (fun h11186 => ?_) (fun h11186 => ?_)
                  ·
                    have qh11186 := le_i h11186
                    have j11187 : Iv (-2147483648) 0 x11185 := r_lel qh11186 (iv_full x11185) ik_0 (by decide)
                    refine lv_iconst (v := 0) hx hb dX12_setLine_153 (by decide) ?_
                    refine k_zast hx hb hK hP hD hS 2 2 rfl rfl (vin_iv x11165_h (by decide)) dX12_setLine_154 (fun f11188 H locs f11188_e hP hD hS => ?_)
                    have hP : va_P (dC, dI) vwCl ([(o1, .inr (12, [.int v2, .ref o3, .int v5, .ref o6, .int v8, .ref o9, .ref o11, .int v13, .ref o14, .int v16, .ref o17, .int v19, .int v20, .int v21, .ref o22, .ref o24, .ref o26, .ref o28, .ref o30, .int v32, .ref o33, .ref o35, .ref o37, .int v39, .ref o40, .ref o42, .ref o44, .int v46, .ref o47])), (o42, .inl (cI, 49152, .inl f11166)), (o40, .inl (cZ, 49152, .inl f11188)), (o37, .inl (cI, 12, .inl fw38)), (o44, .inl (cI, 12, .inl fw45))]) H := hP
                    have hD : va_D A ([(o1, .inr (12, [.int v2, .ref o3, .int v5, .ref o6, .int v8, .ref o9, .ref o11, .int v13, .ref o14, .int v16, .ref o17, .int v19, .int v20, .int v21, .ref o22, .ref o24, .ref o26, .ref o28, .ref o30, .int v32, .ref o33, .ref o35, .ref o37, .int v39, .ref o40, .ref o42, .ref o44, .int v46, .ref o47])), (o42, .inl (cI, 49152, .inl f11166)), (o40, .inl (cZ, 49152, .inl f11188)), (o37, .inl (cI, 12, .inl fw38)), (o44, .inl (cI, 12, .inl fw45))]) := hD
                    obtain ⟨x11189, x11189_e⟩ : ∃ z : Int32, z = x11157 + 1 := ⟨_, rfl⟩
                    have x11189_h : Iv 1 12 x11189 := iv_e x11189_e (iv_add j11162 ik_1 (by decide))
                    refine lv_iinc (v := x11189) (lv' := [(3, .int x11189), (4, .int x11165), (2, .int x6530), (1, .int x2), (0, .ref o1)]) hx hb dX12_setLine_155 hl (k := 1) rfl (incN (by decide +kernel) x11189_e) (by decide) rfl (fun ls hl => ?_)
                    refine lv_goto (tgt := 17) hx hb dX12_setLine_158 (by decide) ?_
                    exact ih51 x11189 f11188 f11166 _ _ _ (ms_up x11189_e j11162 (by decide) hM51) (iv_w x11189_h (by decide)) hP hD hS (lv_sub hl [0, 2, 3, 4] rfl)
                  ·
                    have qh11186 := nle_i h11186
                    have j11190 : Iv 1 2147483647 x11185 := r_ltr qh11186 ik_0 (iv_full x11185) (by decide)
                    refine lv_iconst (v := 1) hx hb dX12_setLine_149 (by decide) ?_
                    refine lv_goto (tgt := 154) hx hb dX12_setLine_150 (by decide) ?_
                    refine k_zast hx hb hK hP hD hS 2 2 rfl rfl (vin_iv x11165_h (by decide)) dX12_setLine_154 (fun f11191 H locs f11191_e hP hD hS => ?_)
                    have hP : va_P (dC, dI) vwCl ([(o1, .inr (12, [.int v2, .ref o3, .int v5, .ref o6, .int v8, .ref o9, .ref o11, .int v13, .ref o14, .int v16, .ref o17, .int v19, .int v20, .int v21, .ref o22, .ref o24, .ref o26, .ref o28, .ref o30, .int v32, .ref o33, .ref o35, .ref o37, .int v39, .ref o40, .ref o42, .ref o44, .int v46, .ref o47])), (o42, .inl (cI, 49152, .inl f11166)), (o40, .inl (cZ, 49152, .inl f11191)), (o37, .inl (cI, 12, .inl fw38)), (o44, .inl (cI, 12, .inl fw45))]) H := hP
                    have hD : va_D A ([(o1, .inr (12, [.int v2, .ref o3, .int v5, .ref o6, .int v8, .ref o9, .ref o11, .int v13, .ref o14, .int v16, .ref o17, .int v19, .int v20, .int v21, .ref o22, .ref o24, .ref o26, .ref o28, .ref o30, .int v32, .ref o33, .ref o35, .ref o37, .int v39, .ref o40, .ref o42, .ref o44, .int v46, .ref o47])), (o42, .inl (cI, 49152, .inl f11166)), (o40, .inl (cZ, 49152, .inl f11191)), (o37, .inl (cI, 12, .inl fw38)), (o44, .inl (cI, 12, .inl fw45))]) := hD
                    obtain ⟨x11192, x11192_e⟩ : ∃ z : Int32, z = x11157 + 1 := ⟨_, rfl⟩
                    have x11192_h : Iv 1 12 x11192 := iv_e x11192_e (iv_add j11162 ik_1 (by decide))
                    refine lv_iinc (v := x11192) (lv' := [(3, .int x11192), (4, .int x11165), (2, .int x6530), (1, .int x2), (0, .ref o1)]) hx hb dX12_setLine_155 hl (k := 1) rfl (incN (by decide +kernel) x11192_e) (by decide) rfl (fun ls hl => ?_)
                    refine lv_goto (tgt := 17) hx hb dX12_setLine_158 (by decide) ?_
                    exact ih51 x11192 f11191 f11166 _ _ _ (ms_up x11192_e j11162 (by decide) hM51) (iv_w x11192_h (by decide)) hP hD hS (lv_sub hl [0, 2, 3, 4] rfl)
                ·
                  have j11193 : Iv 1 1 x11182 := r_nelo h11183 x11182_h ik_0 (by decide)
                  refine lv_aload_n hx hb dX12_setLine_58 rfl (lv_at hl 4 rfl) ?_
                  refine va_get (D := (dC, dI)) (ci := 12) (v := .ref o42) (C := RX12) (T := TX12) (N := 29) hx hb hts iw_X12_setLine_X12 hown hK hP 0 rfl rfl 25 (by decide) (hts (.fieldLink RX12 61 "HolelessHouseModel" "counts" "[I") hm_X12_setLine_2) (fun _ h9 => h9) rfl dX12_setLine_59 ?_
                  refine lv_iload hx hb dX12_setLine_62 (lv_at hl 0 rfl) ?_
                  refine lv_iload_n hx hb dX12_setLine_64 rfl (lv_at hl 2 rfl) ?_
                  refine lv_iload_n hx hb dX12_setLine_65 rfl (lv_at hl 3 rfl) ?_
                  refine lv_icmp_ne (tgt := 73) hx hb dX12_setLine_66 (by decide) (fun h11194 => ?_) (fun h11194 => ?_)
                  ·
                    refine lv_iconst (v := 0) hx hb dX12_setLine_73 (by decide) ?_
                    refine k_iast hx hb hK hP hD hS 1 0 rfl rfl (vin_iv x11165_h (by decide)) dX12_setLine_74 (fun f11195 H locs f11195_e hP hD hS => ?_)
                    have hP : va_P (dC, dI) vwCl ([(o1, .inr (12, [.int v2, .ref o3, .int v5, .ref o6, .int v8, .ref o9, .ref o11, .int v13, .ref o14, .int v16, .ref o17, .int v19, .int v20, .int v21, .ref o22, .ref o24, .ref o26, .ref o28, .ref o30, .int v32, .ref o33, .ref o35, .ref o37, .int v39, .ref o40, .ref o42, .ref o44, .int v46, .ref o47])), (o42, .inl (cI, 49152, .inl f11195)), (o40, .inl (cZ, 49152, .inl f11158)), (o37, .inl (cI, 12, .inl fw38)), (o44, .inl (cI, 12, .inl fw45))]) H := hP
                    have hD : va_D A ([(o1, .inr (12, [.int v2, .ref o3, .int v5, .ref o6, .int v8, .ref o9, .ref o11, .int v13, .ref o14, .int v16, .ref o17, .int v19, .int v20, .int v21, .ref o22, .ref o24, .ref o26, .ref o28, .ref o30, .int v32, .ref o33, .ref o35, .ref o37, .int v39, .ref o40, .ref o42, .ref o44, .int v46, .ref o47])), (o42, .inl (cI, 49152, .inl f11195)), (o40, .inl (cZ, 49152, .inl f11158)), (o37, .inl (cI, 12, .inl fw38)), (o44, .inl (cI, 12, .inl fw45))]) := hD
                    refine lv_iconst (v := 0) hx hb dX12_setLine_75 (by decide) ?_
                    refine lv_istore (lv' := [(5, .int 0), (4, .int x11165), (3, .int x11157), (2, .int x6530), (1, .int x2), (0, .ref o1)]) hx hb dX12_setLine_76 hl (by decide) rfl (fun ls hl => ?_)
                    have L52 : ∀ (N : Nat) (x11380 : Int32) (f11381 : Nat → Int32) (H : Heap) (locs : List Loc) (ls : Array Slot), (12 - x11380.toInt).toNat < N → Iv 0 12 x11380 → va_P (dC, dI) vwCl ([(o1, .inr (12, [.int v2, .ref o3, .int v5, .ref o6, .int v8, .ref o9, .ref o11, .int v13, .ref o14, .int v16, .ref o17, .int v19, .int v20, .int v21, .ref o22, .ref o24, .ref o26, .ref o28, .ref o30, .int v32, .ref o33, .ref o35, .ref o37, .int v39, .ref o40, .ref o42, .ref o44, .int v46, .ref o47])), (o42, .inl (cI, 49152, .inl f11381)), (o40, .inl (cZ, 49152, .inl f11158)), (o37, .inl (cI, 12, .inl fw38)), (o44, .inl (cI, 12, .inl fw45))]) H → va_D A ([(o1, .inr (12, [.int v2, .ref o3, .int v5, .ref o6, .int v8, .ref o9, .ref o11, .int v13, .ref o14, .int v16, .ref o17, .int v19, .int v20, .int v21, .ref o22, .ref o24, .ref o26, .ref o28, .ref o30, .int v32, .ref o33, .ref o35, .ref o37, .int v39, .ref o40, .ref o42, .ref o44, .int v46, .ref o47])), (o42, .inl (cI, 49152, .inl f11381)), (o40, .inl (cZ, 49152, .inl f11158)), (o37, .inl (cI, 12, .inl fw38)), (o44, .inl (cI, 12, .inl fw45))]) → va_S A s.heap H locs → lv_has ls 6 [(5, .int x11380), (4, .int x11165), (3, .int x11157), (2, .int x6530), (1, .int x2), (0, .ref o1)] → W p l e ({ frames := 2, cells := 0, slots := 0, locals := 46 }) s m ([.ref o1] : List Value).toArray below meth c H locs 0 0 Q (F0 m 78 ls []) := by
                      intro N
                      induction N with
                      | zero =>
                        intro x11380 f11381 H locs ls hM
                        exact absurd hM (Nat.not_lt_zero _)
                      | succ N ih52 =>
                        intro x11380 f11381 H locs ls hM52 x11380_h hP hD hS hl
                        refine lv_iload hx hb dX12_setLine_78 (lv_at hl 0 rfl) ?_
                        refine lv_aload_n hx hb dX12_setLine_80 rfl (lv_at hl 5 rfl) ?_
                        refine va_get (D := (dC, dI)) (ci := 12) (v := .int v39) (C := RX12) (T := TX12) (N := 29) hx hb hts iw_X12_setLine_X12 hown hK hP 0 rfl rfl 23 (by decide) (hts (.fieldLink RX12 191 "HolelessHouseModel" "thingMany" "I") hm_X12_setLine_1) (fun _ h9 => h9) rfl dX12_setLine_81 ?_
                        refine lv_icmp_ge (tgt := 133) hx hb dX12_setLine_84 (by decide) (fun h11382 => ?_) (fun h11382 => ?_)
                        ·
                          have qh11382 := le_i h11382
                          have j11383 : Iv 1 12 x11380 := r_ler qh11382 j11163 x11380_h (by decide)
                          refine lv_aload_n hx hb dX12_setLine_133 rfl (lv_at hl 5 rfl) ?_
                          refine va_get (D := (dC, dI)) (ci := 12) (v := .ref o40) (C := RX12) (T := TX12) (N := 29) hx hb hts iw_X12_setLine_X12 hown hK hP 0 rfl rfl 24 (by decide) (hts (.fieldLink RX12 57 "HolelessHouseModel" "can" "[Z") hm_X12_setLine_3) (fun _ h9 => h9) rfl dX12_setLine_134 ?_
                          refine lv_iload hx hb dX12_setLine_137 (lv_at hl 1 rfl) ?_
                          refine lv_aload_n hx hb dX12_setLine_139 rfl (lv_at hl 5 rfl) ?_
                          refine va_get (D := (dC, dI)) (ci := 12) (v := .ref o42) (C := RX12) (T := TX12) (N := 29) hx hb hts iw_X12_setLine_X12 hown hK hP 0 rfl rfl 25 (by decide) (hts (.fieldLink RX12 61 "HolelessHouseModel" "counts" "[I") hm_X12_setLine_2) (fun _ h9 => h9) rfl dX12_setLine_140 ?_
                          refine lv_iload hx hb dX12_setLine_143 (lv_at hl 1 rfl) ?_
                          refine va_iald hx hb hK hP 1 0 rfl rfl (vin_iv x11165_h (by decide)) dX12_setLine_145 (lv_topi (fun x11384 x11384_e => ?_))
                          refine lv_if_le (tgt := 153) hx hb dX12_setLine_146 (by decide) (fun h11385 => ?_) (fun h11385 => ?_)
                          ·
                            have qh11385 := le_i h11385
                            have j11386 : Iv (-2147483648) 0 x11384 := r_lel qh11385 (iv_full x11384) ik_0 (by decide)
                            refine lv_iconst (v := 0) hx hb dX12_setLine_153 (by decide) ?_
                            refine k_zast hx hb hK hP hD hS 2 2 rfl rfl (vin_iv x11165_h (by decide)) dX12_setLine_154 (fun f11387 H locs f11387_e hP hD hS => ?_)
                            have hP : va_P (dC, dI) vwCl ([(o1, .inr (12, [.int v2, .ref o3, .int v5, .ref o6, .int v8, .ref o9, .ref o11, .int v13, .ref o14, .int v16, .ref o17, .int v19, .int v20, .int v21, .ref o22, .ref o24, .ref o26, .ref o28, .ref o30, .int v32, .ref o33, .ref o35, .ref o37, .int v39, .ref o40, .ref o42, .ref o44, .int v46, .ref o47])), (o42, .inl (cI, 49152, .inl f11381)), (o40, .inl (cZ, 49152, .inl f11387)), (o37, .inl (cI, 12, .inl fw38)), (o44, .inl (cI, 12, .inl fw45))]) H := hP
                            have hD : va_D A ([(o1, .inr (12, [.int v2, .ref o3, .int v5, .ref o6, .int v8, .ref o9, .ref o11, .int v13, .ref o14, .int v16, .ref o17, .int v19, .int v20, .int v21, .ref o22, .ref o24, .ref o26, .ref o28, .ref o30, .int v32, .ref o33, .ref o35, .ref o37, .int v39, .ref o40, .ref o42, .ref o44, .int v46, .ref o47])), (o42, .inl (cI, 49152, .inl f11381)), (o40, .inl (cZ, 49152, .inl f11387)), (o37, .inl (cI, 12, .inl fw38)), (o44, .inl (cI, 12, .inl fw45))]) := hD
                            obtain ⟨x11388, x11388_e⟩ : ∃ z : Int32, z = x11157 + 1 := ⟨_, rfl⟩
                            have x11388_h : Iv 1 12 x11388 := iv_e x11388_e (iv_add j11162 ik_1 (by decide))
                            refine lv_iinc (v := x11388) (lv' := [(3, .int x11388), (5, .int x11380), (4, .int x11165), (2, .int x6530), (1, .int x2), (0, .ref o1)]) hx hb dX12_setLine_155 hl (k := 2) rfl (incN (by decide +kernel) x11388_e) (by decide) rfl (fun ls hl => ?_)
                            refine lv_goto (tgt := 17) hx hb dX12_setLine_158 (by decide) ?_
                            exact ih51 x11388 f11387 f11381 _ _ _ (ms_up x11388_e j11162 (by decide) hM51) (iv_w x11388_h (by decide)) hP hD hS (lv_sub hl [0, 3, 4, 5] rfl)
                          ·
                            have qh11385 := nle_i h11385
                            have j11389 : Iv 1 2147483647 x11384 := r_ltr qh11385 ik_0 (iv_full x11384) (by decide)
                            refine lv_iconst (v := 1) hx hb dX12_setLine_149 (by decide) ?_
                            refine lv_goto (tgt := 154) hx hb dX12_setLine_150 (by decide) ?_
                            refine k_zast hx hb hK hP hD hS 2 2 rfl rfl (vin_iv x11165_h (by decide)) dX12_setLine_154 (fun f11390 H locs f11390_e hP hD hS => ?_)
                            have hP : va_P (dC, dI) vwCl ([(o1, .inr (12, [.int v2, .ref o3, .int v5, .ref o6, .int v8, .ref o9, .ref o11, .int v13, .ref o14, .int v16, .ref o17, .int v19, .int v20, .int v21, .ref o22, .ref o24, .ref o26, .ref o28, .ref o30, .int v32, .ref o33, .ref o35, .ref o37, .int v39, .ref o40, .ref o42, .ref o44, .int v46, .ref o47])), (o42, .inl (cI, 49152, .inl f11381)), (o40, .inl (cZ, 49152, .inl f11390)), (o37, .inl (cI, 12, .inl fw38)), (o44, .inl (cI, 12, .inl fw45))]) H := hP
                            have hD : va_D A ([(o1, .inr (12, [.int v2, .ref o3, .int v5, .ref o6, .int v8, .ref o9, .ref o11, .int v13, .ref o14, .int v16, .ref o17, .int v19, .int v20, .int v21, .ref o22, .ref o24, .ref o26, .ref o28, .ref o30, .int v32, .ref o33, .ref o35, .ref o37, .int v39, .ref o40, .ref o42, .ref o44, .int v46, .ref o47])), (o42, .inl (cI, 49152, .inl f11381)), (o40, .inl (cZ, 49152, .inl f11390)), (o37, .inl (cI, 12, .inl fw38)), (o44, .inl (cI, 12, .inl fw45))]) := hD
                            obtain ⟨x11391, x11391_e⟩ : ∃ z : Int32, z = x11157 + 1 := ⟨_, rfl⟩
                            have x11391_h : Iv 1 12 x11391 := iv_e x11391_e (iv_add j11162 ik_1 (by decide))
                            refine lv_iinc (v := x11391) (lv' := [(3, .int x11391), (5, .int x11380), (4, .int x11165), (2, .int x6530), (1, .int x2), (0, .ref o1)]) hx hb dX12_setLine_155 hl (k := 2) rfl (incN (by decide +kernel) x11391_e) (by decide) rfl (fun ls hl => ?_)
                            refine lv_goto (tgt := 17) hx hb dX12_setLine_158 (by decide) ?_
                            exact ih51 x11391 f11390 f11381 _ _ _ (ms_up x11391_e j11162 (by decide) hM51) (iv_w x11391_h (by decide)) hP hD hS (lv_sub hl [0, 3, 4, 5] rfl)
                        ·
                          have qh11382 := nle_i h11382
                          have j11392 : Iv 0 11 x11380 := r_ltl qh11382 x11380_h j11163 (by decide)
                          refine lv_aload_n hx hb dX12_setLine_87 rfl (lv_at hl 5 rfl) ?_
                          refine va_get (D := (dC, dI)) (ci := 12) (v := .ref o42) (C := RX12) (T := TX12) (N := 29) hx hb hts iw_X12_setLine_X12 hown hK hP 0 rfl rfl 25 (by decide) (hts (.fieldLink RX12 61 "HolelessHouseModel" "counts" "[I") hm_X12_setLine_2) (fun _ h9 => h9) rfl dX12_setLine_88 ?_
                          refine lv_iload hx hb dX12_setLine_91 (lv_at hl 1 rfl) ?_
                          refine lv_dup2_11 hx hb dX12_setLine_93 rfl rfl ?_
                          refine va_iald hx hb hK hP 1 0 rfl rfl (vin_iv x11165_h (by decide)) dX12_setLine_94 (lv_topi (fun x11393 x11393_e => ?_))
                          refine lv_iload_n hx hb dX12_setLine_95 rfl (lv_at hl 3 rfl) ?_
                          refine lv_iload hx hb dX12_setLine_96 (lv_at hl 0 rfl) ?_
                          refine kc_i (D := (dC, dI)) (S := Unit) (wc := []) (wr := [(o1, .inr (12, [.int v2, .ref o3, .int v5, .ref o6, .int v8, .ref o9, .ref o11, .int v13, .ref o14, .int v16, .ref o17, .int v19, .int v20, .int v21, .ref o22, .ref o24, .ref o26, .ref o28, .ref o30, .int v32, .ref o33, .ref o35, .ref o37, .int v39, .ref o40, .ref o42, .ref o44, .int v46, .ref o47])), (o42, .inl (cI, 49152, .inl f11381)), (o40, .inl (cZ, 49152, .inl f11158)), (o37, .inl (cI, 12, .inl fw38)), (o44, .inl (cI, 12, .inl fw45))]) (w1 := fun _ => []) (wn := fun _ => [(o1, .inr (12, [.int v2, .ref o3, .int v5, .ref o6, .int v8, .ref o9, .ref o11, .int v13, .ref o14, .int v16, .ref o17, .int v19, .int v20, .int v21, .ref o22, .ref o24, .ref o26, .ref o28, .ref o30, .int v32, .ref o33, .ref o35, .ref o37, .int v39, .ref o40, .ref o42, .ref o44, .int v46, .ref o47])), (o42, .inl (cI, 49152, .inl f11381)), (o40, .inl (cZ, 49152, .inl f11158)), (o37, .inl (cI, 12, .inl fw38)), (o44, .inl (cI, 12, .inl fw45))]) (fun hPc hDc => va_runS (As := [.int x6530, .int x11380]) (rest := [.int x11393, .int x11165, .ref o42]) ⟨hx, hb, hml, hown, hts⟩ (kX12_has_1 l dC dI cI c2 cZ x6530 x11380 H.size (iv_w j11392 (by decide))) (va_cwS 2 hts gX12_setLine_X12_has rfl rfl rfl (by decide +kernel) ⟨Nat.le_of_ble_eq_true rfl, Nat.le_of_ble_eq_true rfl⟩) (pre_S hPc hK hDc hN) rfl rfl hl.1 rfl (lv_room (Nat.le_of_ble_eq_true rfl)) dX12_setLine_98 ⟨Nat.le_of_ble_eq_true rfl, Nat.le_of_ble_eq_true rfl⟩) hP hD hS hA [] [0, 1, 2, 3, 4] [0, 1, 2, 3, 4] rfl rfl (by decide +kernel) (by decide +kernel) (by decide +kernel) (by decide +kernel) (fun _ => rfl) (fun x11394 _ H locs hq hP hD hS => ?_)
                          obtain ⟨x11394_h, e11395⟩ := hq
                          have hP : va_P (dC, dI) vwCl ([(o1, .inr (12, [.int v2, .ref o3, .int v5, .ref o6, .int v8, .ref o9, .ref o11, .int v13, .ref o14, .int v16, .ref o17, .int v19, .int v20, .int v21, .ref o22, .ref o24, .ref o26, .ref o28, .ref o30, .int v32, .ref o33, .ref o35, .ref o37, .int v39, .ref o40, .ref o42, .ref o44, .int v46, .ref o47])), (o42, .inl (cI, 49152, .inl f11381)), (o40, .inl (cZ, 49152, .inl f11158)), (o37, .inl (cI, 12, .inl fw38)), (o44, .inl (cI, 12, .inl fw45))]) H := hP
                          have hD : va_D A ([(o1, .inr (12, [.int v2, .ref o3, .int v5, .ref o6, .int v8, .ref o9, .ref o11, .int v13, .ref o14, .int v16, .ref o17, .int v19, .int v20, .int v21, .ref o22, .ref o24, .ref o26, .ref o28, .ref o30, .int v32, .ref o33, .ref o35, .ref o37, .int v39, .ref o40, .ref o42, .ref o44, .int v46, .ref o47])), (o42, .inl (cI, 49152, .inl f11381)), (o40, .inl (cZ, 49152, .inl f11158)), (o37, .inl (cI, 12, .inl fw38)), (o44, .inl (cI, 12, .inl fw45))]) := hD
                          refine lv_if_eq (tgt := 108) hx hb dX12_setLine_101 (by decide) (fun h11396 => ?_) (fun h11396 => ?_)
                          ·
                            have j11397 : Iv 0 0 x11394 := r_eq h11396 ik_0
                            have b11398 : bt x6530 (Int32.toNatClampNeg x11380) = false := has_f e11395 h11396
                            refine lv_aload_n hx hb dX12_setLine_108 rfl (lv_at hl 5 rfl) ?_
                            refine va_get (D := (dC, dI)) (ci := 12) (v := .ref o42) (C := RX12) (T := TX12) (N := 29) hx hb hts iw_X12_setLine_X12 hown hK hP 0 rfl rfl 25 (by decide) (hts (.fieldLink RX12 61 "HolelessHouseModel" "counts" "[I") hm_X12_setLine_2) (fun _ h9 => h9) rfl dX12_setLine_109 ?_
                            refine lv_bipush (v := 12) hx hb dX12_setLine_112 (by decide) ?_
                            refine lv_iload_n hx hb dX12_setLine_114 rfl (lv_at hl 3 rfl) ?_
                            refine lv_iconst (v := 1) hx hb dX12_setLine_115 (by decide) ?_
                            refine lv_iload hx hb dX12_setLine_116 (lv_at hl 0 rfl) ?_
                            refine lv_ishl hx hb dX12_setLine_118 (lv_topi (fun x11399 x11399_e => ?_))
                            have x11399_h : Iv 1 2048 x11399 := iv_e x11399_e (iv_shl1 j11392 (by decide))
                            refine lv_ior hx hb dX12_setLine_119 (lv_topi (fun x11400 x11400_e => ?_))
                            have x11400_h : Iv 0 4095 x11400 := iv_e x11400_e (iv_or 12 j7383 x11399_h (by decide))
                            refine lv_imul hx hb dX12_setLine_120 (lv_topi (fun x11401 x11401_e => ?_))
                            have x11401_h : Iv 0 49140 x11401 := iv_e x11401_e (iv_mul ik_12 x11400_h (by decide))
                            refine lv_iload hx hb dX12_setLine_121 (lv_at hl 0 rfl) ?_
                            refine lv_iadd hx hb dX12_setLine_123 (lv_topi (fun x11402 x11402_e => ?_))
                            have x11402_h : Iv 0 49151 x11402 := iv_e x11402_e (iv_add x11401_h j11392 (by decide))
                            refine va_iald hx hb hK hP 1 0 rfl rfl (vin_iv x11402_h (by decide)) dX12_setLine_124 (lv_topi (fun x11403 x11403_e => ?_))
                            refine lv_iadd hx hb dX12_setLine_125 (lv_topi (fun x11404 x11404_e => ?_))
                            refine k_iast hx hb hK hP hD hS 1 0 rfl rfl (vin_iv x11165_h (by decide)) dX12_setLine_126 (fun f11405 H locs f11405_e hP hD hS => ?_)
                            have hP : va_P (dC, dI) vwCl ([(o1, .inr (12, [.int v2, .ref o3, .int v5, .ref o6, .int v8, .ref o9, .ref o11, .int v13, .ref o14, .int v16, .ref o17, .int v19, .int v20, .int v21, .ref o22, .ref o24, .ref o26, .ref o28, .ref o30, .int v32, .ref o33, .ref o35, .ref o37, .int v39, .ref o40, .ref o42, .ref o44, .int v46, .ref o47])), (o42, .inl (cI, 49152, .inl f11405)), (o40, .inl (cZ, 49152, .inl f11158)), (o37, .inl (cI, 12, .inl fw38)), (o44, .inl (cI, 12, .inl fw45))]) H := hP
                            have hD : va_D A ([(o1, .inr (12, [.int v2, .ref o3, .int v5, .ref o6, .int v8, .ref o9, .ref o11, .int v13, .ref o14, .int v16, .ref o17, .int v19, .int v20, .int v21, .ref o22, .ref o24, .ref o26, .ref o28, .ref o30, .int v32, .ref o33, .ref o35, .ref o37, .int v39, .ref o40, .ref o42, .ref o44, .int v46, .ref o47])), (o42, .inl (cI, 49152, .inl f11405)), (o40, .inl (cZ, 49152, .inl f11158)), (o37, .inl (cI, 12, .inl fw38)), (o44, .inl (cI, 12, .inl fw45))]) := hD
                            obtain ⟨x11406, x11406_e⟩ : ∃ z : Int32, z = x11380 + 1 := ⟨_, rfl⟩
                            have x11406_h : Iv 1 12 x11406 := iv_e x11406_e (iv_add j11392 ik_1 (by decide))
                            refine lv_iinc (v := x11406) (lv' := [(5, .int x11406), (4, .int x11165), (3, .int x11157), (2, .int x6530), (1, .int x2), (0, .ref o1)]) hx hb dX12_setLine_127 hl (k := 0) rfl (incN (by decide +kernel) x11406_e) (by decide) rfl (fun ls hl => ?_)
                            refine lv_goto (tgt := 78) hx hb dX12_setLine_130 (by decide) ?_
                            exact ih52 x11406 f11405 _ _ _ (ms_up x11406_e j11392 (by decide) hM52) (iv_w x11406_h (by decide)) hP hD hS hl
                          ·
                            have j11407 : Iv 1 1 x11394 := r_nelo h11396 x11394_h ik_0 (by decide)
                            have b11408 : bt x6530 (Int32.toNatClampNeg x11380) = true := has_t e11395 h11396
                            refine lv_iconst (v := 0) hx hb dX12_setLine_104 (by decide) ?_
                            refine lv_goto (tgt := 125) hx hb dX12_setLine_105 (by decide) ?_
                            refine lv_iadd hx hb dX12_setLine_125 (lv_topi (fun x11409 x11409_e => ?_))
                            refine k_iast hx hb hK hP hD hS 1 0 rfl rfl (vin_iv x11165_h (by decide)) dX12_setLine_126 (fun f11410 H locs f11410_e hP hD hS => ?_)
                            have hP : va_P (dC, dI) vwCl ([(o1, .inr (12, [.int v2, .ref o3, .int v5, .ref o6, .int v8, .ref o9, .ref o11, .int v13, .ref o14, .int v16, .ref o17, .int v19, .int v20, .int v21, .ref o22, .ref o24, .ref o26, .ref o28, .ref o30, .int v32, .ref o33, .ref o35, .ref o37, .int v39, .ref o40, .ref o42, .ref o44, .int v46, .ref o47])), (o42, .inl (cI, 49152, .inl f11410)), (o40, .inl (cZ, 49152, .inl f11158)), (o37, .inl (cI, 12, .inl fw38)), (o44, .inl (cI, 12, .inl fw45))]) H := hP
                            have hD : va_D A ([(o1, .inr (12, [.int v2, .ref o3, .int v5, .ref o6, .int v8, .ref o9, .ref o11, .int v13, .ref o14, .int v16, .ref o17, .int v19, .int v20, .int v21, .ref o22, .ref o24, .ref o26, .ref o28, .ref o30, .int v32, .ref o33, .ref o35, .ref o37, .int v39, .ref o40, .ref o42, .ref o44, .int v46, .ref o47])), (o42, .inl (cI, 49152, .inl f11410)), (o40, .inl (cZ, 49152, .inl f11158)), (o37, .inl (cI, 12, .inl fw38)), (o44, .inl (cI, 12, .inl fw45))]) := hD
                            obtain ⟨x11411, x11411_e⟩ : ∃ z : Int32, z = x11380 + 1 := ⟨_, rfl⟩
                            have x11411_h : Iv 1 12 x11411 := iv_e x11411_e (iv_add j11392 ik_1 (by decide))
                            refine lv_iinc (v := x11411) (lv' := [(5, .int x11411), (4, .int x11165), (3, .int x11157), (2, .int x6530), (1, .int x2), (0, .ref o1)]) hx hb dX12_setLine_127 hl (k := 0) rfl (incN (by decide +kernel) x11411_e) (by decide) rfl (fun ls hl => ?_)
                            refine lv_goto (tgt := 78) hx hb dX12_setLine_130 (by decide) ?_
                            exact ih52 x11411 f11410 _ _ _ (ms_up x11411_e j11392 (by decide) hM52) (iv_w x11411_h (by decide)) hP hD hS hl
                    exact L52 _ 0 f11195 _ _ _ (Nat.lt_succ_self _) (iv_w ik_0 (by decide)) hP hD hS hl
                  ·
                    have j11412 : Iv 1 4095 x2 := r_eq h11194.symm j7383
                    have j11413 : Iv 2 4096 x1 := ivb_sub x2_e x1_h ik_1 j11412 (by decide)
                    refine lv_iconst (v := 1) hx hb dX12_setLine_69 (by decide) ?_
                    refine lv_goto (tgt := 74) hx hb dX12_setLine_70 (by decide) ?_
                    refine k_iast hx hb hK hP hD hS 1 0 rfl rfl (vin_iv x11165_h (by decide)) dX12_setLine_74 (fun f11414 H locs f11414_e hP hD hS => ?_)
                    have hP : va_P (dC, dI) vwCl ([(o1, .inr (12, [.int v2, .ref o3, .int v5, .ref o6, .int v8, .ref o9, .ref o11, .int v13, .ref o14, .int v16, .ref o17, .int v19, .int v20, .int v21, .ref o22, .ref o24, .ref o26, .ref o28, .ref o30, .int v32, .ref o33, .ref o35, .ref o37, .int v39, .ref o40, .ref o42, .ref o44, .int v46, .ref o47])), (o42, .inl (cI, 49152, .inl f11414)), (o40, .inl (cZ, 49152, .inl f11158)), (o37, .inl (cI, 12, .inl fw38)), (o44, .inl (cI, 12, .inl fw45))]) H := hP
                    have hD : va_D A ([(o1, .inr (12, [.int v2, .ref o3, .int v5, .ref o6, .int v8, .ref o9, .ref o11, .int v13, .ref o14, .int v16, .ref o17, .int v19, .int v20, .int v21, .ref o22, .ref o24, .ref o26, .ref o28, .ref o30, .int v32, .ref o33, .ref o35, .ref o37, .int v39, .ref o40, .ref o42, .ref o44, .int v46, .ref o47])), (o42, .inl (cI, 49152, .inl f11414)), (o40, .inl (cZ, 49152, .inl f11158)), (o37, .inl (cI, 12, .inl fw38)), (o44, .inl (cI, 12, .inl fw45))]) := hD
                    refine lv_iconst (v := 0) hx hb dX12_setLine_75 (by decide) ?_
                    refine lv_istore (lv' := [(5, .int 0), (4, .int x11165), (3, .int x11157), (2, .int x6530), (1, .int x2), (0, .ref o1)]) hx hb dX12_setLine_76 hl (by decide) rfl (fun ls hl => ?_)
                    have L53 : ∀ (N : Nat) (x11599 : Int32) (f11600 : Nat → Int32) (H : Heap) (locs : List Loc) (ls : Array Slot), (12 - x11599.toInt).toNat < N → Iv 0 12 x11599 → va_P (dC, dI) vwCl ([(o1, .inr (12, [.int v2, .ref o3, .int v5, .ref o6, .int v8, .ref o9, .ref o11, .int v13, .ref o14, .int v16, .ref o17, .int v19, .int v20, .int v21, .ref o22, .ref o24, .ref o26, .ref o28, .ref o30, .int v32, .ref o33, .ref o35, .ref o37, .int v39, .ref o40, .ref o42, .ref o44, .int v46, .ref o47])), (o42, .inl (cI, 49152, .inl f11600)), (o40, .inl (cZ, 49152, .inl f11158)), (o37, .inl (cI, 12, .inl fw38)), (o44, .inl (cI, 12, .inl fw45))]) H → va_D A ([(o1, .inr (12, [.int v2, .ref o3, .int v5, .ref o6, .int v8, .ref o9, .ref o11, .int v13, .ref o14, .int v16, .ref o17, .int v19, .int v20, .int v21, .ref o22, .ref o24, .ref o26, .ref o28, .ref o30, .int v32, .ref o33, .ref o35, .ref o37, .int v39, .ref o40, .ref o42, .ref o44, .int v46, .ref o47])), (o42, .inl (cI, 49152, .inl f11600)), (o40, .inl (cZ, 49152, .inl f11158)), (o37, .inl (cI, 12, .inl fw38)), (o44, .inl (cI, 12, .inl fw45))]) → va_S A s.heap H locs → lv_has ls 6 [(5, .int x11599), (4, .int x11165), (3, .int x11157), (2, .int x6530), (1, .int x2), (0, .ref o1)] → W p l e ({ frames := 2, cells := 0, slots := 0, locals := 46 }) s m ([.ref o1] : List Value).toArray below meth c H locs 0 0 Q (F0 m 78 ls []) := by
                      intro N
                      induction N with
                      | zero =>
                        intro x11599 f11600 H locs ls hM
                        exact absurd hM (Nat.not_lt_zero _)
                      | succ N ih53 =>
                        intro x11599 f11600 H locs ls hM53 x11599_h hP hD hS hl
                        refine lv_iload hx hb dX12_setLine_78 (lv_at hl 0 rfl) ?_
                        refine lv_aload_n hx hb dX12_setLine_80 rfl (lv_at hl 5 rfl) ?_
                        refine va_get (D := (dC, dI)) (ci := 12) (v := .int v39) (C := RX12) (T := TX12) (N := 29) hx hb hts iw_X12_setLine_X12 hown hK hP 0 rfl rfl 23 (by decide) (hts (.fieldLink RX12 191 "HolelessHouseModel" "thingMany" "I") hm_X12_setLine_1) (fun _ h9 => h9) rfl dX12_setLine_81 ?_
                        refine lv_icmp_ge (tgt := 133) hx hb dX12_setLine_84 (by decide) (fun h11601 => ?_) (fun h11601 => ?_)
                        ·
                          have qh11601 := le_i h11601
                          have j11602 : Iv 1 12 x11599 := r_ler qh11601 j11163 x11599_h (by decide)
                          refine lv_aload_n hx hb dX12_setLine_133 rfl (lv_at hl 5 rfl) ?_
                          refine va_get (D := (dC, dI)) (ci := 12) (v := .ref o40) (C := RX12) (T := TX12) (N := 29) hx hb hts iw_X12_setLine_X12 hown hK hP 0 rfl rfl 24 (by decide) (hts (.fieldLink RX12 57 "HolelessHouseModel" "can" "[Z") hm_X12_setLine_3) (fun _ h9 => h9) rfl dX12_setLine_134 ?_
                          refine lv_iload hx hb dX12_setLine_137 (lv_at hl 1 rfl) ?_
                          refine lv_aload_n hx hb dX12_setLine_139 rfl (lv_at hl 5 rfl) ?_
                          refine va_get (D := (dC, dI)) (ci := 12) (v := .ref o42) (C := RX12) (T := TX12) (N := 29) hx hb hts iw_X12_setLine_X12 hown hK hP 0 rfl rfl 25 (by decide) (hts (.fieldLink RX12 61 "HolelessHouseModel" "counts" "[I") hm_X12_setLine_2) (fun _ h9 => h9) rfl dX12_setLine_140 ?_
                          refine lv_iload hx hb dX12_setLine_143 (lv_at hl 1 rfl) ?_
                          refine va_iald hx hb hK hP 1 0 rfl rfl (vin_iv x11165_h (by decide)) dX12_setLine_145 (lv_topi (fun x11603 x11603_e => ?_))
                          refine lv_if_le (tgt := 153) hx hb dX12_setLine_146 (by decide) (fun h11604 => ?_) (fun h11604 => ?_)
                          ·
                            have qh11604 := le_i h11604
                            have j11605 : Iv (-2147483648) 0 x11603 := r_lel qh11604 (iv_full x11603) ik_0 (by decide)
                            refine lv_iconst (v := 0) hx hb dX12_setLine_153 (by decide) ?_
                            refine k_zast hx hb hK hP hD hS 2 2 rfl rfl (vin_iv x11165_h (by decide)) dX12_setLine_154 (fun f11606 H locs f11606_e hP hD hS => ?_)
                            have hP : va_P (dC, dI) vwCl ([(o1, .inr (12, [.int v2, .ref o3, .int v5, .ref o6, .int v8, .ref o9, .ref o11, .int v13, .ref o14, .int v16, .ref o17, .int v19, .int v20, .int v21, .ref o22, .ref o24, .ref o26, .ref o28, .ref o30, .int v32, .ref o33, .ref o35, .ref o37, .int v39, .ref o40, .ref o42, .ref o44, .int v46, .ref o47])), (o42, .inl (cI, 49152, .inl f11600)), (o40, .inl (cZ, 49152, .inl f11606)), (o37, .inl (cI, 12, .inl fw38)), (o44, .inl (cI, 12, .inl fw45))]) H := hP
                            have hD : va_D A ([(o1, .inr (12, [.int v2, .ref o3, .int v5, .ref o6, .int v8, .ref o9, .ref o11, .int v13, .ref o14, .int v16, .ref o17, .int v19, .int v20, .int v21, .ref o22, .ref o24, .ref o26, .ref o28, .ref o30, .int v32, .ref o33, .ref o35, .ref o37, .int v39, .ref o40, .ref o42, .ref o44, .int v46, .ref o47])), (o42, .inl (cI, 49152, .inl f11600)), (o40, .inl (cZ, 49152, .inl f11606)), (o37, .inl (cI, 12, .inl fw38)), (o44, .inl (cI, 12, .inl fw45))]) := hD
                            obtain ⟨x11607, x11607_e⟩ : ∃ z : Int32, z = x11157 + 1 := ⟨_, rfl⟩
                            have x11607_h : Iv 1 12 x11607 := iv_e x11607_e (iv_add j11162 ik_1 (by decide))
                            refine lv_iinc (v := x11607) (lv' := [(3, .int x11607), (5, .int x11599), (4, .int x11165), (2, .int x6530), (1, .int x2), (0, .ref o1)]) hx hb dX12_setLine_155 hl (k := 2) rfl (incN (by decide +kernel) x11607_e) (by decide) rfl (fun ls hl => ?_)
                            refine lv_goto (tgt := 17) hx hb dX12_setLine_158 (by decide) ?_
                            exact ih51 x11607 f11606 f11600 _ _ _ (ms_up x11607_e j11162 (by decide) hM51) (iv_w x11607_h (by decide)) hP hD hS (lv_sub hl [0, 3, 4, 5] rfl)
                          ·
                            have qh11604 := nle_i h11604
                            have j11608 : Iv 1 2147483647 x11603 := r_ltr qh11604 ik_0 (iv_full x11603) (by decide)
                            refine lv_iconst (v := 1) hx hb dX12_setLine_149 (by decide) ?_
                            refine lv_goto (tgt := 154) hx hb dX12_setLine_150 (by decide) ?_
                            refine k_zast hx hb hK hP hD hS 2 2 rfl rfl (vin_iv x11165_h (by decide)) dX12_setLine_154 (fun f11609 H locs f11609_e hP hD hS => ?_)
                            have hP : va_P (dC, dI) vwCl ([(o1, .inr (12, [.int v2, .ref o3, .int v5, .ref o6, .int v8, .ref o9, .ref o11, .int v13, .ref o14, .int v16, .ref o17, .int v19, .int v20, .int v21, .ref o22, .ref o24, .ref o26, .ref o28, .ref o30, .int v32, .ref o33, .ref o35, .ref o37, .int v39, .ref o40, .ref o42, .ref o44, .int v46, .ref o47])), (o42, .inl (cI, 49152, .inl f11600)), (o40, .inl (cZ, 49152, .inl f11609)), (o37, .inl (cI, 12, .inl fw38)), (o44, .inl (cI, 12, .inl fw45))]) H := hP
                            have hD : va_D A ([(o1, .inr (12, [.int v2, .ref o3, .int v5, .ref o6, .int v8, .ref o9, .ref o11, .int v13, .ref o14, .int v16, .ref o17, .int v19, .int v20, .int v21, .ref o22, .ref o24, .ref o26, .ref o28, .ref o30, .int v32, .ref o33, .ref o35, .ref o37, .int v39, .ref o40, .ref o42, .ref o44, .int v46, .ref o47])), (o42, .inl (cI, 49152, .inl f11600)), (o40, .inl (cZ, 49152, .inl f11609)), (o37, .inl (cI, 12, .inl fw38)), (o44, .inl (cI, 12, .inl fw45))]) := hD
                            obtain ⟨x11610, x11610_e⟩ : ∃ z : Int32, z = x11157 + 1 := ⟨_, rfl⟩
                            have x11610_h : Iv 1 12 x11610 := iv_e x11610_e (iv_add j11162 ik_1 (by decide))
                            refine lv_iinc (v := x11610) (lv' := [(3, .int x11610), (5, .int x11599), (4, .int x11165), (2, .int x6530), (1, .int x2), (0, .ref o1)]) hx hb dX12_setLine_155 hl (k := 2) rfl (incN (by decide +kernel) x11610_e) (by decide) rfl (fun ls hl => ?_)
                            refine lv_goto (tgt := 17) hx hb dX12_setLine_158 (by decide) ?_
                            exact ih51 x11610 f11609 f11600 _ _ _ (ms_up x11610_e j11162 (by decide) hM51) (iv_w x11610_h (by decide)) hP hD hS (lv_sub hl [0, 3, 4, 5] rfl)
                        ·
                          have qh11601 := nle_i h11601
                          have j11611 : Iv 0 11 x11599 := r_ltl qh11601 x11599_h j11163 (by decide)
                          refine lv_aload_n hx hb dX12_setLine_87 rfl (lv_at hl 5 rfl) ?_
                          refine va_get (D := (dC, dI)) (ci := 12) (v := .ref o42) (C := RX12) (T := TX12) (N := 29) hx hb hts iw_X12_setLine_X12 hown hK hP 0 rfl rfl 25 (by decide) (hts (.fieldLink RX12 61 "HolelessHouseModel" "counts" "[I") hm_X12_setLine_2) (fun _ h9 => h9) rfl dX12_setLine_88 ?_
                          refine lv_iload hx hb dX12_setLine_91 (lv_at hl 1 rfl) ?_
                          refine lv_dup2_11 hx hb dX12_setLine_93 rfl rfl ?_
                          refine va_iald hx hb hK hP 1 0 rfl rfl (vin_iv x11165_h (by decide)) dX12_setLine_94 (lv_topi (fun x11612 x11612_e => ?_))
                          refine lv_iload_n hx hb dX12_setLine_95 rfl (lv_at hl 3 rfl) ?_
                          refine lv_iload hx hb dX12_setLine_96 (lv_at hl 0 rfl) ?_
                          refine kc_i (D := (dC, dI)) (S := Unit) (wc := []) (wr := [(o1, .inr (12, [.int v2, .ref o3, .int v5, .ref o6, .int v8, .ref o9, .ref o11, .int v13, .ref o14, .int v16, .ref o17, .int v19, .int v20, .int v21, .ref o22, .ref o24, .ref o26, .ref o28, .ref o30, .int v32, .ref o33, .ref o35, .ref o37, .int v39, .ref o40, .ref o42, .ref o44, .int v46, .ref o47])), (o42, .inl (cI, 49152, .inl f11600)), (o40, .inl (cZ, 49152, .inl f11158)), (o37, .inl (cI, 12, .inl fw38)), (o44, .inl (cI, 12, .inl fw45))]) (w1 := fun _ => []) (wn := fun _ => [(o1, .inr (12, [.int v2, .ref o3, .int v5, .ref o6, .int v8, .ref o9, .ref o11, .int v13, .ref o14, .int v16, .ref o17, .int v19, .int v20, .int v21, .ref o22, .ref o24, .ref o26, .ref o28, .ref o30, .int v32, .ref o33, .ref o35, .ref o37, .int v39, .ref o40, .ref o42, .ref o44, .int v46, .ref o47])), (o42, .inl (cI, 49152, .inl f11600)), (o40, .inl (cZ, 49152, .inl f11158)), (o37, .inl (cI, 12, .inl fw38)), (o44, .inl (cI, 12, .inl fw45))]) (fun hPc hDc => va_runS (As := [.int x6530, .int x11599]) (rest := [.int x11612, .int x11165, .ref o42]) ⟨hx, hb, hml, hown, hts⟩ (kX12_has_1 l dC dI cI c2 cZ x6530 x11599 H.size (iv_w j11611 (by decide))) (va_cwS 2 hts gX12_setLine_X12_has rfl rfl rfl (by decide +kernel) ⟨Nat.le_of_ble_eq_true rfl, Nat.le_of_ble_eq_true rfl⟩) (pre_S hPc hK hDc hN) rfl rfl hl.1 rfl (lv_room (Nat.le_of_ble_eq_true rfl)) dX12_setLine_98 ⟨Nat.le_of_ble_eq_true rfl, Nat.le_of_ble_eq_true rfl⟩) hP hD hS hA [] [0, 1, 2, 3, 4] [0, 1, 2, 3, 4] rfl rfl (by decide +kernel) (by decide +kernel) (by decide +kernel) (by decide +kernel) (fun _ => rfl) (fun x11613 _ H locs hq hP hD hS => ?_)
                          obtain ⟨x11613_h, e11614⟩ := hq
                          have hP : va_P (dC, dI) vwCl ([(o1, .inr (12, [.int v2, .ref o3, .int v5, .ref o6, .int v8, .ref o9, .ref o11, .int v13, .ref o14, .int v16, .ref o17, .int v19, .int v20, .int v21, .ref o22, .ref o24, .ref o26, .ref o28, .ref o30, .int v32, .ref o33, .ref o35, .ref o37, .int v39, .ref o40, .ref o42, .ref o44, .int v46, .ref o47])), (o42, .inl (cI, 49152, .inl f11600)), (o40, .inl (cZ, 49152, .inl f11158)), (o37, .inl (cI, 12, .inl fw38)), (o44, .inl (cI, 12, .inl fw45))]) H := hP
                          have hD : va_D A ([(o1, .inr (12, [.int v2, .ref o3, .int v5, .ref o6, .int v8, .ref o9, .ref o11, .int v13, .ref o14, .int v16, .ref o17, .int v19, .int v20, .int v21, .ref o22, .ref o24, .ref o26, .ref o28, .ref o30, .int v32, .ref o33, .ref o35, .ref o37, .int v39, .ref o40, .ref o42, .ref o44, .int v46, .ref o47])), (o42, .inl (cI, 49152, .inl f11600)), (o40, .inl (cZ, 49152, .inl f11158)), (o37, .inl (cI, 12, .inl fw38)), (o44, .inl (cI, 12, .inl fw45))]) := hD
                          refine lv_if_eq (tgt := 108) hx hb dX12_setLine_101 (by decide) (fun h11615 => ?_) (fun h11615 => ?_)
                          ·
                            have j11616 : Iv 0 0 x11613 := r_eq h11615 ik_0
                            have b11617 : bt x6530 (Int32.toNatClampNeg x11599) = false := has_f e11614 h11615
                            refine lv_aload_n hx hb dX12_setLine_108 rfl (lv_at hl 5 rfl) ?_
                            refine va_get (D := (dC, dI)) (ci := 12) (v := .ref o42) (C := RX12) (T := TX12) (N := 29) hx hb hts iw_X12_setLine_X12 hown hK hP 0 rfl rfl 25 (by decide) (hts (.fieldLink RX12 61 "HolelessHouseModel" "counts" "[I") hm_X12_setLine_2) (fun _ h9 => h9) rfl dX12_setLine_109 ?_
                            refine lv_bipush (v := 12) hx hb dX12_setLine_112 (by decide) ?_
                            refine lv_iload_n hx hb dX12_setLine_114 rfl (lv_at hl 3 rfl) ?_
                            refine lv_iconst (v := 1) hx hb dX12_setLine_115 (by decide) ?_
                            refine lv_iload hx hb dX12_setLine_116 (lv_at hl 0 rfl) ?_
                            refine lv_ishl hx hb dX12_setLine_118 (lv_topi (fun x11618 x11618_e => ?_))
                            have x11618_h : Iv 1 2048 x11618 := iv_e x11618_e (iv_shl1 j11611 (by decide))
                            refine lv_ior hx hb dX12_setLine_119 (lv_topi (fun x11619 x11619_e => ?_))
                            have x11619_h : Iv 0 4095 x11619 := iv_e x11619_e (iv_or 12 j7383 x11618_h (by decide))
                            refine lv_imul hx hb dX12_setLine_120 (lv_topi (fun x11620 x11620_e => ?_))
                            have x11620_h : Iv 0 49140 x11620 := iv_e x11620_e (iv_mul ik_12 x11619_h (by decide))
                            refine lv_iload hx hb dX12_setLine_121 (lv_at hl 0 rfl) ?_
                            refine lv_iadd hx hb dX12_setLine_123 (lv_topi (fun x11621 x11621_e => ?_))
                            have x11621_h : Iv 0 49151 x11621 := iv_e x11621_e (iv_add x11620_h j11611 (by decide))
                            refine va_iald hx hb hK hP 1 0 rfl rfl (vin_iv x11621_h (by decide)) dX12_setLine_124 (lv_topi (fun x11622 x11622_e => ?_))
                            refine lv_iadd hx hb dX12_setLine_125 (lv_topi (fun x11623 x11623_e => ?_))
                            refine k_iast hx hb hK hP hD hS 1 0 rfl rfl (vin_iv x11165_h (by decide)) dX12_setLine_126 (fun f11624 H locs f11624_e hP hD hS => ?_)
                            have hP : va_P (dC, dI) vwCl ([(o1, .inr (12, [.int v2, .ref o3, .int v5, .ref o6, .int v8, .ref o9, .ref o11, .int v13, .ref o14, .int v16, .ref o17, .int v19, .int v20, .int v21, .ref o22, .ref o24, .ref o26, .ref o28, .ref o30, .int v32, .ref o33, .ref o35, .ref o37, .int v39, .ref o40, .ref o42, .ref o44, .int v46, .ref o47])), (o42, .inl (cI, 49152, .inl f11624)), (o40, .inl (cZ, 49152, .inl f11158)), (o37, .inl (cI, 12, .inl fw38)), (o44, .inl (cI, 12, .inl fw45))]) H := hP
                            have hD : va_D A ([(o1, .inr (12, [.int v2, .ref o3, .int v5, .ref o6, .int v8, .ref o9, .ref o11, .int v13, .ref o14, .int v16, .ref o17, .int v19, .int v20, .int v21, .ref o22, .ref o24, .ref o26, .ref o28, .ref o30, .int v32, .ref o33, .ref o35, .ref o37, .int v39, .ref o40, .ref o42, .ref o44, .int v46, .ref o47])), (o42, .inl (cI, 49152, .inl f11624)), (o40, .inl (cZ, 49152, .inl f11158)), (o37, .inl (cI, 12, .inl fw38)), (o44, .inl (cI, 12, .inl fw45))]) := hD
                            obtain ⟨x11625, x11625_e⟩ : ∃ z : Int32, z = x11599 + 1 := ⟨_, rfl⟩
                            have x11625_h : Iv 1 12 x11625 := iv_e x11625_e (iv_add j11611 ik_1 (by decide))
                            refine lv_iinc (v := x11625) (lv' := [(5, .int x11625), (4, .int x11165), (3, .int x11157), (2, .int x6530), (1, .int x2), (0, .ref o1)]) hx hb dX12_setLine_127 hl (k := 0) rfl (incN (by decide +kernel) x11625_e) (by decide) rfl (fun ls hl => ?_)
                            refine lv_goto (tgt := 78) hx hb dX12_setLine_130 (by decide) ?_
                            exact ih53 x11625 f11624 _ _ _ (ms_up x11625_e j11611 (by decide) hM53) (iv_w x11625_h (by decide)) hP hD hS hl
                          ·
                            have j11626 : Iv 1 1 x11613 := r_nelo h11615 x11613_h ik_0 (by decide)
                            have b11627 : bt x6530 (Int32.toNatClampNeg x11599) = true := has_t e11614 h11615
                            refine lv_iconst (v := 0) hx hb dX12_setLine_104 (by decide) ?_
                            refine lv_goto (tgt := 125) hx hb dX12_setLine_105 (by decide) ?_
                            refine lv_iadd hx hb dX12_setLine_125 (lv_topi (fun x11628 x11628_e => ?_))
                            refine k_iast hx hb hK hP hD hS 1 0 rfl rfl (vin_iv x11165_h (by decide)) dX12_setLine_126 (fun f11629 H locs f11629_e hP hD hS => ?_)
                            have hP : va_P (dC, dI) vwCl ([(o1, .inr (12, [.int v2, .ref o3, .int v5, .ref o6, .int v8, .ref o9, .ref o11, .int v13, .ref o14, .int v16, .ref o17, .int v19, .int v20, .int v21, .ref o22, .ref o24, .ref o26, .ref o28, .ref o30, .int v32, .ref o33, .ref o35, .ref o37, .int v39, .ref o40, .ref o42, .ref o44, .int v46, .ref o47])), (o42, .inl (cI, 49152, .inl f11629)), (o40, .inl (cZ, 49152, .inl f11158)), (o37, .inl (cI, 12, .inl fw38)), (o44, .inl (cI, 12, .inl fw45))]) H := hP
                            have hD : va_D A ([(o1, .inr (12, [.int v2, .ref o3, .int v5, .ref o6, .int v8, .ref o9, .ref o11, .int v13, .ref o14, .int v16, .ref o17, .int v19, .int v20, .int v21, .ref o22, .ref o24, .ref o26, .ref o28, .ref o30, .int v32, .ref o33, .ref o35, .ref o37, .int v39, .ref o40, .ref o42, .ref o44, .int v46, .ref o47])), (o42, .inl (cI, 49152, .inl f11629)), (o40, .inl (cZ, 49152, .inl f11158)), (o37, .inl (cI, 12, .inl fw38)), (o44, .inl (cI, 12, .inl fw45))]) := hD
                            obtain ⟨x11630, x11630_e⟩ : ∃ z : Int32, z = x11599 + 1 := ⟨_, rfl⟩
                            have x11630_h : Iv 1 12 x11630 := iv_e x11630_e (iv_add j11611 ik_1 (by decide))
                            refine lv_iinc (v := x11630) (lv' := [(5, .int x11630), (4, .int x11165), (3, .int x11157), (2, .int x6530), (1, .int x2), (0, .ref o1)]) hx hb dX12_setLine_127 hl (k := 0) rfl (incN (by decide +kernel) x11630_e) (by decide) rfl (fun ls hl => ?_)
                            refine lv_goto (tgt := 78) hx hb dX12_setLine_130 (by decide) ?_
                            exact ih53 x11630 f11629 _ _ _ (ms_up x11630_e j11611 (by decide) hM53) (iv_w x11630_h (by decide)) hP hD hS hl
                    exact L53 _ 0 f11414 _ _ _ (Nat.lt_succ_self _) (iv_w ik_0 (by decide)) hP hD hS hl
        exact L51 _ 0 f6531 f6532 _ _ _ (Nat.lt_succ_self _) (iv_w ik_0 (by decide)) hP hD hS hl
  exact L30 _ x2 fw41 fw43 _ _ _ (Nat.lt_succ_self _) x2_h hP hD hS hl
