theorem hm_X12_setCliques_1 : (.fieldLink RX12 164 "HolelessHouseModel" "cliqueMany" "I" : Cond) ∈ wsX12_setCliques := List.mem_of_getElem? (i := 1) rfl
theorem hm_X12_setCliques_2 : (.fieldLink RX12 45 "HolelessHouseModel" "cliques" "[I" : Cond) ∈ wsX12_setCliques := List.mem_of_getElem? (i := 2) rfl
theorem hm_X12_clique_1 : (.fieldLink RX12 164 "HolelessHouseModel" "cliqueMany" "I" : Cond) ∈ wsX12_clique := List.mem_of_getElem? (i := 1) rfl
theorem hm_X12_clique_2 : (.fieldLink RX12 45 "HolelessHouseModel" "cliques" "[I" : Cond) ∈ wsX12_clique := List.mem_of_getElem? (i := 2) rfl
theorem hm_X12_greatest_1 : (.fieldLink RX12 164 "HolelessHouseModel" "cliqueMany" "I" : Cond) ∈ wsX12_greatest := List.mem_of_getElem? (i := 1) rfl
theorem hm_X12_greatest_2 : (.fieldLink RX12 45 "HolelessHouseModel" "cliques" "[I" : Cond) ∈ wsX12_greatest := List.mem_of_getElem? (i := 2) rfl
theorem hm_X12_isApart_1 : (.fieldLink RX12 73 "HolelessHouseModel" "n" "I" : Cond) ∈ wsX12_isApart := List.mem_of_getElem? (i := 1) rfl
theorem hm_X12_isApart_2 : (.fieldLink RX12 13 "HolelessHouseModel" "near" "[I" : Cond) ∈ wsX12_isApart := List.mem_of_getElem? (i := 2) rfl
theorem hm_X12_isColoured_1 : (.fieldLink RX12 73 "HolelessHouseModel" "n" "I" : Cond) ∈ wsX12_isColoured := List.mem_of_getElem? (i := 1) rfl
theorem hm_X12_isColoured_3 : (.fieldLink RX12 48 "HolelessHouseModel" "colours" "[I" : Cond) ∈ wsX12_isColoured := List.mem_of_getElem? (i := 3) rfl
theorem hm_X12_isColoured_2 : (.fieldLink RX12 13 "HolelessHouseModel" "near" "[I" : Cond) ∈ wsX12_isColoured := List.mem_of_getElem? (i := 2) rfl
theorem iw_X12_setCliques_X12 : ∀ w ∈ wsX120, w ∈ wsX12_setCliques := fun _ h => List.mem_cons.mpr (Or.inr (List.mem_append.mpr (Or.inr h)))
set_option maxHeartbeats 4000000 in
set_option maxRecDepth 100000 in
theorem kX12_setCliques_1 (l : Launch) (dC : Nat → ClassId) (dI : Nat → Nat → Nat) (cI c2 cZ : ClassId) (o1 : Nat) (o3 : Nat) (o6 : Nat) (o9 : Nat) (o11 : Nat) (o14 : Nat) (o17 : Nat) (o22 : Nat) (o24 : Nat) (o26 : Nat) (o28 : Nat) (o30 : Nat) (o33 : Nat) (o35 : Nat) (o37 : Nat) (o40 : Nat) (o42 : Nat) (o44 : Nat) (o47 : Nat) (v2 : Int32) (v5 : Int32) (fw7 : Nat → Int32) (v8 : Int32) (v13 : Int32) (v16 : Int32) (v19 : Int32) (v20 : Int32) (v21 : Int32) (fw31 : Nat → Int32) (v32 : Int32) (v39 : Int32) (v46 : Int32) (sz : Nat) (v5_h : Iv 0 12 v5) (fw7_b : Bd 12 0 4095 fw7) (v8_h : Iv 0 8 v8) (v13_h : Iv 0 12 v13) (v16_h : Iv 0 12 v16) (v19_h : Iv (-9) 12 v19) (fw31_b : Bd 100 0 4095 fw31) (v32_h : Iv 0 99 v32) (v39_h : Iv 0 12 v39) (v46_h : Iv 0 12 v46) : Met l yX12_setCliques wsX12_setCliques ({ frames := 3, cells := 0, slots := 0, locals := 67 }) (va_Pc [.ref o1] (wPre (dC, dI) [(cI, .int), (c2, .array .int), (cZ, .boolean)] ([(o1, .inr (12, [.int v2, .ref o3, .int v5, .ref o6, .int v8, .ref o9, .ref o11, .int v13, .ref o14, .int v16, .ref o17, .int v19, .int v20, .int v21, .ref o22, .ref o24, .ref o26, .ref o28, .ref o30, .int v32, .ref o33, .ref o35, .ref o37, .int v39, .ref o40, .ref o42, .ref o44, .int v46, .ref o47])), (o6, .inl (cI, 12, .inl fw7)), (o30, .inl (cI, 100, .inl fw31))]) sz)) (va_Qv (fun (u : Int32 × (Nat → Int32)) => Iv 0 99 u.1 ∧ Bd 100 0 4095 u.2 ∧ CL fw7 (Int32.toNatClampNeg v5) u.2 (Int32.toNatClampNeg u.1) 4096) (fun u t => wPost (dC, dI) [(cI, .int), (c2, .array .int), (cZ, .boolean)] (va_A ([(o1, .inr (12, [.int v2, .ref o3, .int v5, .ref o6, .int v8, .ref o9, .ref o11, .int v13, .ref o14, .int v16, .ref o17, .int v19, .int v20, .int v21, .ref o22, .ref o24, .ref o26, .ref o28, .ref o30, .int v32, .ref o33, .ref o35, .ref o37, .int v39, .ref o40, .ref o42, .ref o44, .int v46, .ref o47])), (o6, .inl (cI, 12, .inl fw7)), (o30, .inl (cI, 100, .inl fw31))]) sz) ([(o1, .inr (12, [.int v2, .ref o3, .int v5, .ref o6, .int v8, .ref o9, .ref o11, .int v13, .ref o14, .int v16, .ref o17, .int v19, .int v20, .int v21, .ref o22, .ref o24, .ref o26, .ref o28, .ref o30, .int u.1, .ref o33, .ref o35, .ref o37, .int v39, .ref o40, .ref o42, .ref o44, .int v46, .ref o47])), (o6, .inl (cI, 12, .inl fw7)), (o30, .inl (cI, 100, .inl u.2))]) t) (va_A ([(o1, .inr (12, [.int v2, .ref o3, .int v5, .ref o6, .int v8, .ref o9, .ref o11, .int v13, .ref o14, .int v16, .ref o17, .int v19, .int v20, .int v21, .ref o22, .ref o24, .ref o26, .ref o28, .ref o30, .int v32, .ref o33, .ref o35, .ref o37, .int v39, .ref o40, .ref o42, .ref o44, .int v46, .ref o47])), (o6, .inl (cI, 12, .inl fw7)), (o30, .inl (cI, 100, .inl fw31))]) sz)) 0 0 (va_A ([(o1, .inr (12, [.int v2, .ref o3, .int v5, .ref o6, .int v8, .ref o9, .ref o11, .int v13, .ref o14, .int v16, .ref o17, .int v19, .int v20, .int v21, .ref o22, .ref o24, .ref o26, .ref o28, .ref o30, .int v32, .ref o33, .ref o35, .ref o37, .int v39, .ref o40, .ref o42, .ref o44, .int v46, .ref o47])), (o6, .inl (cI, 12, .inl fw7)), (o30, .inl (cI, 100, .inl fw31))]) sz) := by
  refine Met.ofW (cc := cX12_setCliques) (maxL := 2) (ret := none) (by decide) rfl ?_
  intro p e s m args below meth c s₁ B hml hv
  obtain ⟨rfl, hsz, hP, hK, hD0, hN⟩ := hv
  have hx := B.exec
  have hb := B.bytes
  have hr := B.returns
  have hts := atoms_spec (ws := wsX12_setCliques) B.pre
  have hown : s.vm.findClass RX12 = some m.cls := findClass_of_methodNamed B.named
  have hlocks := B.notSynchronized
  subst hsz
  have hD := hD0.self (sz := s.heap.size)
  generalize hAe : va_A ([(o1, .inr (12, [.int v2, .ref o3, .int v5, .ref o6, .int v8, .ref o9, .ref o11, .int v13, .ref o14, .int v16, .ref o17, .int v19, .int v20, .int v21, .ref o22, .ref o24, .ref o26, .ref o28, .ref o30, .int v32, .ref o33, .ref o35, .ref o37, .int v39, .ref o40, .ref o42, .ref o44, .int v46, .ref o47])), (o6, .inl (cI, 12, .inl fw7)), (o30, .inl (cI, 100, .inl fw31))]) s.heap.size = A at hD ⊢
  have hA : ∀ q : Nat, s.heap.size ≤ q → A q := fun q h => by rw [← hAe]; exact Or.inr h
  have hS : va_S A s.heap s.heap [] := va_S.rf
  have hP : va_P (dC, dI) vwCl ([(o1, .inr (12, [.int v2, .ref o3, .int v5, .ref o6, .int v8, .ref o9, .ref o11, .int v13, .ref o14, .int v16, .ref o17, .int v19, .int v20, .int v21, .ref o22, .ref o24, .ref o26, .ref o28, .ref o30, .int v32, .ref o33, .ref o35, .ref o37, .int v39, .ref o40, .ref o42, .ref o44, .int v46, .ref o47])), (o6, .inl (cI, 12, .inl fw7)), (o30, .inl (cI, 100, .inl fw31))]) s.heap := hP
  have hl := lv_entry ([.ref o1]) (n := 2) (Nat.le_of_ble_eq_true rfl)
  rw [lg_entry_eq]
  generalize (lg_sl ([.ref o1]) ++ List.replicate (2 - (lg_sl ([.ref o1])).length) Slot.unset).toArray = ls at hl ⊢
  have hl : lv_has ls 2 [(0, .ref o1)] := hl
  refine gen_Q (fun Q hQ => ?_)
  refine lv_aload_n hx hb dX12_setCliques_0 rfl (lv_at hl 0 rfl) ?_
  refine lv_iconst (v := 0) hx hb dX12_setCliques_1 (by decide) ?_
  refine va_put (D := (dC, dI)) (ci := 12) (v := .int 0) (ty := .int) (C := RX12) (T := TX12) (N := 29) hx hb hts iw_X12_setCliques_X12 tyX12 tyX12_ok nmX12 hown hK hP hD hS 0 rfl rfl 19 (by decide) (hts (.fieldLink RX12 164 "HolelessHouseModel" "cliqueMany" "I") hm_X12_setCliques_1) (fun _ h9 => h9) rfl (by decide +kernel) rfl rfl (Nat.le_of_ble_eq_true rfl) dX12_setCliques_2 (fun H locs hP hD hS => ?_)
  have hP : va_P (dC, dI) vwCl ([(o1, .inr (12, [.int v2, .ref o3, .int v5, .ref o6, .int v8, .ref o9, .ref o11, .int v13, .ref o14, .int v16, .ref o17, .int v19, .int v20, .int v21, .ref o22, .ref o24, .ref o26, .ref o28, .ref o30, .int 0, .ref o33, .ref o35, .ref o37, .int v39, .ref o40, .ref o42, .ref o44, .int v46, .ref o47])), (o6, .inl (cI, 12, .inl fw7)), (o30, .inl (cI, 100, .inl fw31))]) H := hP
  have hD : va_D A ([(o1, .inr (12, [.int v2, .ref o3, .int v5, .ref o6, .int v8, .ref o9, .ref o11, .int v13, .ref o14, .int v16, .ref o17, .int v19, .int v20, .int v21, .ref o22, .ref o24, .ref o26, .ref o28, .ref o30, .int 0, .ref o33, .ref o35, .ref o37, .int v39, .ref o40, .ref o42, .ref o44, .int v46, .ref o47])), (o6, .inl (cI, 12, .inl fw7)), (o30, .inl (cI, 100, .inl fw31))]) := hD
  refine lv_iconst (v := 1) hx hb dX12_setCliques_5 (by decide) ?_
  refine lv_istore_n (lv' := [(1, .int 1), (0, .ref o1)]) hx hb dX12_setCliques_6 rfl hl (by decide) rfl (fun ls hl => ?_)
  have L1 : ∀ (N : Nat) (x375 : Int32) (x376 : Int32) (f377 : Nat → Int32) (H : Heap) (locs : List Loc) (ls : Array Slot), (4096 - x376.toInt).toNat < N → Iv 0 81 x375 → Iv 1 4096 x376 → Bd 100 0 4095 f377 → (CL fw7 (Int32.toNatClampNeg v5) f377 (Int32.toNatClampNeg x375) (Int32.toInt x376)) → va_P (dC, dI) vwCl ([(o1, .inr (12, [.int v2, .ref o3, .int v5, .ref o6, .int v8, .ref o9, .ref o11, .int v13, .ref o14, .int v16, .ref o17, .int v19, .int v20, .int v21, .ref o22, .ref o24, .ref o26, .ref o28, .ref o30, .int x375, .ref o33, .ref o35, .ref o37, .int v39, .ref o40, .ref o42, .ref o44, .int v46, .ref o47])), (o6, .inl (cI, 12, .inl fw7)), (o30, .inl (cI, 100, .inl f377))]) H → va_D A ([(o1, .inr (12, [.int v2, .ref o3, .int v5, .ref o6, .int v8, .ref o9, .ref o11, .int v13, .ref o14, .int v16, .ref o17, .int v19, .int v20, .int v21, .ref o22, .ref o24, .ref o26, .ref o28, .ref o30, .int x375, .ref o33, .ref o35, .ref o37, .int v39, .ref o40, .ref o42, .ref o44, .int v46, .ref o47])), (o6, .inl (cI, 12, .inl fw7)), (o30, .inl (cI, 100, .inl f377))]) → va_S A s.heap H locs → lv_has ls 2 [(1, .int x376), (0, .ref o1)] → W p l e ({ frames := 3, cells := 0, slots := 0, locals := 67 }) s m ([.ref o1] : List Value).toArray below meth c H locs 0 0 Q (F0 m 7 ls []) := by
    intro N
    induction N with
    | zero =>
      intro x375 x376 f377 H locs ls hM
      exact absurd hM (Nat.not_lt_zero _)
    | succ N ih1 =>
      intro x375 x376 f377 H locs ls hM1 x375_h x376_h f377_b iv1_0 hP hD hS hl
      refine lv_iload_n hx hb dX12_setCliques_7 rfl (lv_at hl 0 rfl) ?_
      refine lv_aload_n hx hb dX12_setCliques_8 rfl (lv_at hl 1 rfl) ?_
      refine kc_i (D := (dC, dI)) (S := Unit) (wc := [(o1, .inr (12, [.int v2, .ref o3, .int v5, .ref o6, .int v8, .ref o9, .ref o11, .int v13, .ref o14, .int v16, .ref o17, .int v19, .int v20, .int v21, .ref o22, .ref o24, .ref o26, .ref o28, .ref o30, .int x375, .ref o33, .ref o35, .ref o37, .int v39, .ref o40, .ref o42, .ref o44, .int v46, .ref o47]))]) (wr := [(o6, .inl (cI, 12, .inl fw7)), (o30, .inl (cI, 100, .inl f377))]) (w1 := fun _ => [(o1, .inr (12, [.int v2, .ref o3, .int v5, .ref o6, .int v8, .ref o9, .ref o11, .int v13, .ref o14, .int v16, .ref o17, .int v19, .int v20, .int v21, .ref o22, .ref o24, .ref o26, .ref o28, .ref o30, .int x375, .ref o33, .ref o35, .ref o37, .int v39, .ref o40, .ref o42, .ref o44, .int v46, .ref o47]))]) (wn := fun _ => [(o1, .inr (12, [.int v2, .ref o3, .int v5, .ref o6, .int v8, .ref o9, .ref o11, .int v13, .ref o14, .int v16, .ref o17, .int v19, .int v20, .int v21, .ref o22, .ref o24, .ref o26, .ref o28, .ref o30, .int x375, .ref o33, .ref o35, .ref o37, .int v39, .ref o40, .ref o42, .ref o44, .int v46, .ref o47])), (o6, .inl (cI, 12, .inl fw7)), (o30, .inl (cI, 100, .inl f377))]) (fun hPc hDc => va_runV (As := []) (rest := [.int x376]) ⟨hx, hb, hml, hown, hts⟩ (kX12_all_1 l dC dI cI c2 cZ o1 o3 o6 o9 o11 o14 o17 o22 o24 o26 o28 o30 o33 o35 o37 o40 o42 o44 o47 v2 v5 v8 v13 v16 v19 v20 v21 x375 v39 v46 H.size v5_h v8_h v13_h v16_h v19_h (iv_w x375_h (by decide)) v39_h v46_h) (cwV 0 hts gX12_setCliques_X12_all rfl rfl rfl (by decide +kernel) ⟨Nat.le_of_ble_eq_true rfl, Nat.le_of_ble_eq_true rfl⟩) (pre_V hPc hK hDc hN (ci := 12) (q0 := 0) rfl rfl) rfl rfl hl.1 rfl (lv_room (Nat.le_of_ble_eq_true rfl)) dX12_setCliques_9 ⟨Nat.le_of_ble_eq_true rfl, Nat.le_of_ble_eq_true rfl⟩) hP hD hS hA [0] [1, 2] [2, 0, 1] rfl rfl (by decide +kernel) (by decide +kernel) (by decide +kernel) (by decide +kernel) (fun _ => rfl) (fun x378 _ H locs hq hP hD hS => ?_)
      obtain ⟨x378_h, e379⟩ := hq
      have hP : va_P (dC, dI) vwCl ([(o1, .inr (12, [.int v2, .ref o3, .int v5, .ref o6, .int v8, .ref o9, .ref o11, .int v13, .ref o14, .int v16, .ref o17, .int v19, .int v20, .int v21, .ref o22, .ref o24, .ref o26, .ref o28, .ref o30, .int x375, .ref o33, .ref o35, .ref o37, .int v39, .ref o40, .ref o42, .ref o44, .int v46, .ref o47])), (o6, .inl (cI, 12, .inl fw7)), (o30, .inl (cI, 100, .inl f377))]) H := hP
      have hD : va_D A ([(o1, .inr (12, [.int v2, .ref o3, .int v5, .ref o6, .int v8, .ref o9, .ref o11, .int v13, .ref o14, .int v16, .ref o17, .int v19, .int v20, .int v21, .ref o22, .ref o24, .ref o26, .ref o28, .ref o30, .int x375, .ref o33, .ref o35, .ref o37, .int v39, .ref o40, .ref o42, .ref o44, .int v46, .ref o47])), (o6, .inl (cI, 12, .inl fw7)), (o30, .inl (cI, 100, .inl f377))]) := hD
      refine lv_icmp_gt (tgt := 49) hx hb dX12_setCliques_12 (by decide) (fun h380 => ?_) (fun h380 => ?_)
      ·
        have qh380 := lt_i h380
        rw [hQ]
        exact W.vret hx hb hr (fun t ht hW => ⟨⟨(x375, f377), rfl, ⟨(iv_w x375_h (by decide)), f377_b, (CL_top iv1_0)⟩, by rw [ht]; exact hP, va_K.moved hW.alike hK, hD⟩, hS.F ht⟩) hS.2.2 dX12_setCliques_49
      ·
        have qh380 := nlt_i h380
        have j381 : Iv 1 4095 x376 := r_lel qh380 x376_h x378_h (by decide)
        have j382 : Iv 1 4095 x378 := r_ler qh380 x376_h x378_h (by decide)
        refine lv_aload_n hx hb dX12_setCliques_15 rfl (lv_at hl 1 rfl) ?_
        refine lv_iload_n hx hb dX12_setCliques_16 rfl (lv_at hl 0 rfl) ?_
        refine kc_i (D := (dC, dI)) (S := Unit) (wc := [(o1, .inr (12, [.int v2, .ref o3, .int v5, .ref o6, .int v8, .ref o9, .ref o11, .int v13, .ref o14, .int v16, .ref o17, .int v19, .int v20, .int v21, .ref o22, .ref o24, .ref o26, .ref o28, .ref o30, .int x375, .ref o33, .ref o35, .ref o37, .int v39, .ref o40, .ref o42, .ref o44, .int v46, .ref o47])), (o6, .inl (cI, 12, .inl fw7))]) (wr := [(o30, .inl (cI, 100, .inl f377))]) (w1 := fun _ => [(o1, .inr (12, [.int v2, .ref o3, .int v5, .ref o6, .int v8, .ref o9, .ref o11, .int v13, .ref o14, .int v16, .ref o17, .int v19, .int v20, .int v21, .ref o22, .ref o24, .ref o26, .ref o28, .ref o30, .int x375, .ref o33, .ref o35, .ref o37, .int v39, .ref o40, .ref o42, .ref o44, .int v46, .ref o47])), (o6, .inl (cI, 12, .inl fw7))]) (wn := fun _ => [(o1, .inr (12, [.int v2, .ref o3, .int v5, .ref o6, .int v8, .ref o9, .ref o11, .int v13, .ref o14, .int v16, .ref o17, .int v19, .int v20, .int v21, .ref o22, .ref o24, .ref o26, .ref o28, .ref o30, .int x375, .ref o33, .ref o35, .ref o37, .int v39, .ref o40, .ref o42, .ref o44, .int v46, .ref o47])), (o6, .inl (cI, 12, .inl fw7)), (o30, .inl (cI, 100, .inl f377))]) (fun hPc hDc => va_runV (As := [.int x376]) (rest := []) ⟨hx, hb, hml, hown, hts⟩ (kX12_isGreat_1 l dC dI cI c2 cZ o1 o3 o6 o9 o11 o14 o17 o22 o24 o26 o28 o30 o33 o35 o37 o40 o42 o44 o47 v2 v5 fw7 v8 v13 v16 v19 v20 v21 x375 v39 v46 x376 H.size v5_h fw7_b v8_h v13_h v16_h v19_h (iv_w x375_h (by decide)) v39_h v46_h (iv_w j381 (by decide))) (cwV 1 hts gX12_setCliques_X12_isGreat rfl rfl rfl (by decide +kernel) ⟨Nat.le_of_ble_eq_true rfl, Nat.le_of_ble_eq_true rfl⟩) (pre_V hPc hK hDc hN (ci := 12) (q0 := 0) rfl rfl) rfl rfl hl.1 rfl (lv_room (Nat.le_of_ble_eq_true rfl)) dX12_setCliques_17 ⟨Nat.le_of_ble_eq_true rfl, Nat.le_of_ble_eq_true rfl⟩) hP hD hS hA [0, 1] [2] [1, 2, 0] rfl rfl (by decide +kernel) (by decide +kernel) (by decide +kernel) (by decide +kernel) (fun _ => rfl) (fun x383 _ H locs hq hP hD hS => ?_)
        obtain ⟨x383_h, i384, e385⟩ := hq
        have hP : va_P (dC, dI) vwCl ([(o1, .inr (12, [.int v2, .ref o3, .int v5, .ref o6, .int v8, .ref o9, .ref o11, .int v13, .ref o14, .int v16, .ref o17, .int v19, .int v20, .int v21, .ref o22, .ref o24, .ref o26, .ref o28, .ref o30, .int x375, .ref o33, .ref o35, .ref o37, .int v39, .ref o40, .ref o42, .ref o44, .int v46, .ref o47])), (o6, .inl (cI, 12, .inl fw7)), (o30, .inl (cI, 100, .inl f377))]) H := hP
        have hD : va_D A ([(o1, .inr (12, [.int v2, .ref o3, .int v5, .ref o6, .int v8, .ref o9, .ref o11, .int v13, .ref o14, .int v16, .ref o17, .int v19, .int v20, .int v21, .ref o22, .ref o24, .ref o26, .ref o28, .ref o30, .int x375, .ref o33, .ref o35, .ref o37, .int v39, .ref o40, .ref o42, .ref o44, .int v46, .ref o47])), (o6, .inl (cI, 12, .inl fw7)), (o30, .inl (cI, 100, .inl f377))]) := hD
        refine lv_if_eq (tgt := 43) hx hb dX12_setCliques_20 (by decide) (fun h386 => ?_) (fun h386 => ?_)
        ·
          have j387 : Iv 0 0 x383 := r_eq h386 ik_0
          obtain ⟨x388, x388_e⟩ : ∃ z : Int32, z = x376 + 1 := ⟨_, rfl⟩
          have x388_h : Iv 2 4096 x388 := iv_e x388_e (iv_add j381 ik_1 (by decide))
          refine lv_iinc (v := x388) (lv' := [(1, .int x388), (0, .ref o1)]) hx hb dX12_setCliques_43 hl (k := 0) rfl (incN (by decide +kernel) x388_e) (by decide) rfl (fun ls hl => ?_)
          refine lv_goto (tgt := 7) hx hb dX12_setCliques_46 (by decide) ?_
          exact ih1 x375 x388 f377 _ _ _ (ms_up x388_e j381 (by decide) hM1) x375_h (iv_w x388_h (by decide)) f377_b (CL_up iv1_0 (Int.le_of_lt (by have a0 := tia x388_e j381 ik_1 (by decide); omega))) hP hD hS hl
        ·
          have j389 : Iv 1 1 x383 := r_nelo h386 x383_h ik_0 (by decide)
          refine lv_aload_n hx hb dX12_setCliques_23 rfl (lv_at hl 1 rfl) ?_
          refine va_get (D := (dC, dI)) (ci := 12) (v := .ref o30) (C := RX12) (T := TX12) (N := 29) hx hb hts iw_X12_setCliques_X12 hown hK hP 0 rfl rfl 18 (by decide) (hts (.fieldLink RX12 45 "HolelessHouseModel" "cliques" "[I") hm_X12_setCliques_2) (fun _ h9 => h9) rfl dX12_setCliques_24 ?_
          refine lv_aload_n hx hb dX12_setCliques_27 rfl (lv_at hl 1 rfl) ?_
          refine va_get (D := (dC, dI)) (ci := 12) (v := .int x375) (C := RX12) (T := TX12) (N := 29) hx hb hts iw_X12_setCliques_X12 hown hK hP 0 rfl rfl 19 (by decide) (hts (.fieldLink RX12 164 "HolelessHouseModel" "cliqueMany" "I") hm_X12_setCliques_1) (fun _ h9 => h9) rfl dX12_setCliques_28 ?_
          refine lv_iload_n hx hb dX12_setCliques_31 rfl (lv_at hl 0 rfl) ?_
          refine k_iast hx hb hK hP hD hS 2 0 rfl rfl (vin_iv x375_h (by decide)) dX12_setCliques_32 (fun f390 H locs f390_e hP hD hS => ?_)
          have f390_b : Bd 100 0 4095 f390 := bd_upd f390_e f377_b j381 (by decide)
          have hP : va_P (dC, dI) vwCl ([(o1, .inr (12, [.int v2, .ref o3, .int v5, .ref o6, .int v8, .ref o9, .ref o11, .int v13, .ref o14, .int v16, .ref o17, .int v19, .int v20, .int v21, .ref o22, .ref o24, .ref o26, .ref o28, .ref o30, .int x375, .ref o33, .ref o35, .ref o37, .int v39, .ref o40, .ref o42, .ref o44, .int v46, .ref o47])), (o6, .inl (cI, 12, .inl fw7)), (o30, .inl (cI, 100, .inl f390))]) H := hP
          have hD : va_D A ([(o1, .inr (12, [.int v2, .ref o3, .int v5, .ref o6, .int v8, .ref o9, .ref o11, .int v13, .ref o14, .int v16, .ref o17, .int v19, .int v20, .int v21, .ref o22, .ref o24, .ref o26, .ref o28, .ref o30, .int x375, .ref o33, .ref o35, .ref o37, .int v39, .ref o40, .ref o42, .ref o44, .int v46, .ref o47])), (o6, .inl (cI, 12, .inl fw7)), (o30, .inl (cI, 100, .inl f390))]) := hD
          refine lv_aload_n hx hb dX12_setCliques_33 rfl (lv_at hl 1 rfl) ?_
          refine lv_dup hx hb dX12_setCliques_34 rfl ?_
          refine va_get (D := (dC, dI)) (ci := 12) (v := .int x375) (C := RX12) (T := TX12) (N := 29) hx hb hts iw_X12_setCliques_X12 hown hK hP 0 rfl rfl 19 (by decide) (hts (.fieldLink RX12 164 "HolelessHouseModel" "cliqueMany" "I") hm_X12_setCliques_1) (fun _ h9 => h9) rfl dX12_setCliques_35 ?_
          refine lv_iconst (v := 1) hx hb dX12_setCliques_38 (by decide) ?_
          refine lv_iadd hx hb dX12_setCliques_39 (lv_topi (fun x391 x391_e => ?_))
          have x391_h : Iv 1 82 x391 := iv_e x391_e (iv_add x375_h ik_1 (by decide))
          refine va_put (D := (dC, dI)) (ci := 12) (v := .int x391) (ty := .int) (C := RX12) (T := TX12) (N := 29) hx hb hts iw_X12_setCliques_X12 tyX12 tyX12_ok nmX12 hown hK hP hD hS 0 rfl rfl 19 (by decide) (hts (.fieldLink RX12 164 "HolelessHouseModel" "cliqueMany" "I") hm_X12_setCliques_1) (fun _ h9 => h9) rfl (by decide +kernel) rfl rfl (Nat.le_of_ble_eq_true rfl) dX12_setCliques_40 (fun H locs hP hD hS => ?_)
          have hP : va_P (dC, dI) vwCl ([(o1, .inr (12, [.int v2, .ref o3, .int v5, .ref o6, .int v8, .ref o9, .ref o11, .int v13, .ref o14, .int v16, .ref o17, .int v19, .int v20, .int v21, .ref o22, .ref o24, .ref o26, .ref o28, .ref o30, .int x391, .ref o33, .ref o35, .ref o37, .int v39, .ref o40, .ref o42, .ref o44, .int v46, .ref o47])), (o6, .inl (cI, 12, .inl fw7)), (o30, .inl (cI, 100, .inl f390))]) H := hP
          have hD : va_D A ([(o1, .inr (12, [.int v2, .ref o3, .int v5, .ref o6, .int v8, .ref o9, .ref o11, .int v13, .ref o14, .int v16, .ref o17, .int v19, .int v20, .int v21, .ref o22, .ref o24, .ref o26, .ref o28, .ref o30, .int x391, .ref o33, .ref o35, .ref o37, .int v39, .ref o40, .ref o42, .ref o44, .int v46, .ref o47])), (o6, .inl (cI, 12, .inl fw7)), (o30, .inl (cI, 100, .inl f390))]) := hD
          obtain ⟨x392, x392_e⟩ : ∃ z : Int32, z = x376 + 1 := ⟨_, rfl⟩
          have x392_h : Iv 2 4096 x392 := iv_e x392_e (iv_add j381 ik_1 (by decide))
          refine lv_iinc (v := x392) (lv' := [(1, .int x392), (0, .ref o1)]) hx hb dX12_setCliques_43 hl (k := 0) rfl (incN (by decide +kernel) x392_e) (by decide) rfl (fun ls hl => ?_)
          refine lv_goto (tgt := 7) hx hb dX12_setCliques_46 (by decide) ?_
          exact ih1 x391 x392 f390 _ _ _ (ms_up x392_e j381 (by decide) hM1) (CL_81 (CL_s (b := 0) (top := Int32.toInt x392) iv1_0 (iv_w (c := 0) (d := 4095) x375_h (by decide)) x391_e f390_e (e385 h386) (iv_w (c := 0) (d := 4095) j381 (by decide)) (bel_le e379 (iv_w (c := 0) (d := 4095) j381 (by decide)) qh380) (by have a0 := tia x392_e j381 ik_1 (by decide); omega)) (cl_b v5_h (by decide)) x391_h (by decide)) (iv_w x392_h (by decide)) f390_b (CL_s (b := 0) (top := Int32.toInt x392) iv1_0 (iv_w (c := 0) (d := 4095) x375_h (by decide)) x391_e f390_e (e385 h386) (iv_w (c := 0) (d := 4095) j381 (by decide)) (bel_le e379 (iv_w (c := 0) (d := 4095) j381 (by decide)) qh380) (by have a0 := tia x392_e j381 ik_1 (by decide); omega)) hP hD hS hl
  exact L1 _ 0 1 fw31 _ _ _ (Nat.lt_succ_self _) (iv_w ik_0 (by decide)) (iv_w ik_1 (by decide)) fw31_b CL_0 hP hD hS hl
set_option maxHeartbeats 4000000 in
set_option maxRecDepth 100000 in
theorem kX12_in_7 (l : Launch) (dC : Nat → ClassId) (dI : Nat → Nat → Nat) (cI c2 cZ : ClassId) (a0 : Int32) (a1 : Int32) (a2 : Int32) (sz : Nat) (a1_h : Iv 0 0 a1) (a2_h : Iv (-1) 98 a2) : Met l yX12_in wsX12_in ({ frames := 0, cells := 0, slots := 0, locals := 0 }) (va_Pc [.int a0, .int a1, .int a2] (wPre (dC, dI) [(cI, .int), (c2, .array .int), (cZ, .boolean)] ([]) sz)) (va_Qi (fun (r : Int32) (_ : Unit) => Iv 0 1 r ∧ (¬ r = 0 → Iv 0 98 a0) ∧ (¬ r = 0 → Iv 0 98 a2) ∧ (¬ r = 0 → Int32.toInt a1 ≤ Int32.toInt a0 ∧ Int32.toInt a0 ≤ Int32.toInt a2)) (fun _ t => wPost (dC, dI) [(cI, .int), (c2, .array .int), (cZ, .boolean)] (va_A ([]) sz) ([]) t) (va_A ([]) sz)) 0 0 (va_A ([]) sz) := by
  refine Met.ofW (cc := cX12_in) (maxL := 3) (ret := (some .boolean)) (by decide) rfl ?_
  intro p e s m args below meth c s₁ B hml hv
  obtain ⟨rfl, hsz, hP, hK, hD0, hN⟩ := hv
  have hx := B.exec
  have hb := B.bytes
  have hr := B.returns
  have hts := atoms_spec (ws := wsX12_in) B.pre
  have hown : s.vm.findClass RX12 = some m.cls := findClass_of_methodNamed B.named
  have hlocks := B.notSynchronized
  subst hsz
  have hD := hD0.self (sz := s.heap.size)
  generalize hAe : va_A ([]) s.heap.size = A at hD ⊢
  have hA : ∀ q : Nat, s.heap.size ≤ q → A q := fun q h => by rw [← hAe]; exact Or.inr h
  have hS : va_S A s.heap s.heap [] := va_S.rf
  have hP : va_P (dC, dI) vwCl ([]) s.heap := hP
  have hl := lv_entry ([.int a0, .int a1, .int a2]) (n := 3) (Nat.le_of_ble_eq_true rfl)
  rw [lg_entry_eq]
  generalize (lg_sl ([.int a0, .int a1, .int a2]) ++ List.replicate (3 - (lg_sl ([.int a0, .int a1, .int a2])).length) Slot.unset).toArray = ls at hl ⊢
  have hl : lv_has ls 3 [(0, .int a0), (1, .int a1), (2, .int a2)] := hl
  refine gen_Q (fun Q hQ => ?_)
  refine lv_iload_n hx hb dX12_in_0 rfl (lv_at hl 0 rfl) ?_
  refine lv_iload_n hx hb dX12_in_1 rfl (lv_at hl 1 rfl) ?_
  refine lv_icmp_lt (tgt := 14) hx hb dX12_in_2 (by decide) (fun h1 => ?_) (fun h1 => ?_)
  ·
    have qh1 := lt_i h1
    have j2 : Iv (-2147483648) (-1) a0 := r_ltl qh1 (iv_full a0) a1_h (by decide)
    refine lv_iconst (v := 0) hx hb dX12_in_14 (by decide) ?_
    rw [hQ]
    exact W.zret (v := 0) (ty := .boolean) hx hb hr rfl (fun t ht hW => ⟨⟨0, (), rfl, ⟨(iv_w ik_0 (by decide)), (fun h8 => absurd rfl h8), (fun h8 => absurd rfl h8), (fun h8 => absurd rfl h8)⟩, by rw [ht]; exact hP, va_K.moved hW.alike hK, hD⟩, hS.F ht⟩) hS.2.2 dX12_in_15
  ·
    have qh1 := nlt_i h1
    have j3 : Iv 0 2147483647 a0 := r_ler qh1 a1_h (iv_full a0) (by decide)
    refine lv_iload_n hx hb dX12_in_5 rfl (lv_at hl 0 rfl) ?_
    refine lv_iload_n hx hb dX12_in_6 rfl (lv_at hl 2 rfl) ?_
    refine lv_icmp_gt (tgt := 14) hx hb dX12_in_7 (by decide) (fun h4 => ?_) (fun h4 => ?_)
    ·
      have qh4 := lt_i h4
      refine lv_iconst (v := 0) hx hb dX12_in_14 (by decide) ?_
      rw [hQ]
      exact W.zret (v := 0) (ty := .boolean) hx hb hr rfl (fun t ht hW => ⟨⟨0, (), rfl, ⟨(iv_w ik_0 (by decide)), (fun h8 => absurd rfl h8), (fun h8 => absurd rfl h8), (fun h8 => absurd rfl h8)⟩, by rw [ht]; exact hP, va_K.moved hW.alike hK, hD⟩, hS.F ht⟩) hS.2.2 dX12_in_15
    ·
      have qh4 := nlt_i h4
      have j5 : Iv 0 98 a0 := r_lel qh4 j3 a2_h (by decide)
      have j6 : Iv 0 98 a2 := r_ler qh4 j3 a2_h (by decide)
      refine lv_iconst (v := 1) hx hb dX12_in_10 (by decide) ?_
      refine lv_goto (tgt := 15) hx hb dX12_in_11 (by decide) ?_
      rw [hQ]
      exact W.zret (v := 1) (ty := .boolean) hx hb hr rfl (fun t ht hW => ⟨⟨1, (), rfl, ⟨(iv_w ik_1 (by decide)), (fun _ => j5), (fun _ => j6), (fun _ => ⟨qh1, qh4⟩)⟩, by rw [ht]; exact hP, va_K.moved hW.alike hK, hD⟩, hS.F ht⟩) hS.2.2 dX12_in_15
theorem iw_X12_clique_X12 : ∀ w ∈ wsX120, w ∈ wsX12_clique := fun _ h => List.mem_cons.mpr (Or.inr (List.mem_append.mpr (Or.inr h)))
set_option maxHeartbeats 4000000 in
set_option maxRecDepth 100000 in
theorem kX12_clique_1 (l : Launch) (dC : Nat → ClassId) (dI : Nat → Nat → Nat) (cI c2 cZ : ClassId) (o1 : Nat) (o3 : Nat) (o6 : Nat) (o9 : Nat) (o11 : Nat) (o14 : Nat) (o17 : Nat) (o22 : Nat) (o24 : Nat) (o26 : Nat) (o28 : Nat) (o30 : Nat) (o33 : Nat) (o35 : Nat) (o37 : Nat) (o40 : Nat) (o42 : Nat) (o44 : Nat) (o47 : Nat) (v2 : Int32) (v5 : Int32) (fw7 : Nat → Int32) (v8 : Int32) (v13 : Int32) (v16 : Int32) (v19 : Int32) (v20 : Int32) (v21 : Int32) (fw31 : Nat → Int32) (v32 : Int32) (v39 : Int32) (v46 : Int32) (a1 : Int32) (sz : Nat) (v5_h : Iv 0 12 v5) (fw7_b : Bd 12 0 4095 fw7) (v8_h : Iv 0 8 v8) (v13_h : Iv 0 12 v13) (v16_h : Iv 0 12 v16) (v19_h : Iv (-9) 12 v19) (fw31_b : Bd 100 0 4095 fw31) (v32_h : Iv 0 99 v32) (v39_h : Iv 0 12 v39) (v46_h : Iv 0 12 v46) : Met l yX12_clique wsX12_clique ({ frames := 4, cells := 0, slots := 0, locals := 88 }) (va_Pc [.ref o1, .int a1] (wPre (dC, dI) [(cI, .int), (c2, .array .int), (cZ, .boolean)] ([(o1, .inr (12, [.int v2, .ref o3, .int v5, .ref o6, .int v8, .ref o9, .ref o11, .int v13, .ref o14, .int v16, .ref o17, .int v19, .int v20, .int v21, .ref o22, .ref o24, .ref o26, .ref o28, .ref o30, .int v32, .ref o33, .ref o35, .ref o37, .int v39, .ref o40, .ref o42, .ref o44, .int v46, .ref o47])), (o6, .inl (cI, 12, .inl fw7)), (o30, .inl (cI, 100, .inl fw31))]) sz)) (va_Qi (fun (r : Int32) (u : Int32 × (Nat → Int32)) => Iv (-9) 4095 r ∧ Iv 0 99 u.1 ∧ Bd 100 0 4095 u.2) (fun u t => wPost (dC, dI) [(cI, .int), (c2, .array .int), (cZ, .boolean)] (va_A ([(o1, .inr (12, [.int v2, .ref o3, .int v5, .ref o6, .int v8, .ref o9, .ref o11, .int v13, .ref o14, .int v16, .ref o17, .int v19, .int v20, .int v21, .ref o22, .ref o24, .ref o26, .ref o28, .ref o30, .int v32, .ref o33, .ref o35, .ref o37, .int v39, .ref o40, .ref o42, .ref o44, .int v46, .ref o47])), (o6, .inl (cI, 12, .inl fw7)), (o30, .inl (cI, 100, .inl fw31))]) sz) ([(o1, .inr (12, [.int v2, .ref o3, .int v5, .ref o6, .int v8, .ref o9, .ref o11, .int v13, .ref o14, .int v16, .ref o17, .int v19, .int v20, .int v21, .ref o22, .ref o24, .ref o26, .ref o28, .ref o30, .int u.1, .ref o33, .ref o35, .ref o37, .int v39, .ref o40, .ref o42, .ref o44, .int v46, .ref o47])), (o6, .inl (cI, 12, .inl fw7)), (o30, .inl (cI, 100, .inl u.2))]) t) (va_A ([(o1, .inr (12, [.int v2, .ref o3, .int v5, .ref o6, .int v8, .ref o9, .ref o11, .int v13, .ref o14, .int v16, .ref o17, .int v19, .int v20, .int v21, .ref o22, .ref o24, .ref o26, .ref o28, .ref o30, .int v32, .ref o33, .ref o35, .ref o37, .int v39, .ref o40, .ref o42, .ref o44, .int v46, .ref o47])), (o6, .inl (cI, 12, .inl fw7)), (o30, .inl (cI, 100, .inl fw31))]) sz)) 0 0 (va_A ([(o1, .inr (12, [.int v2, .ref o3, .int v5, .ref o6, .int v8, .ref o9, .ref o11, .int v13, .ref o14, .int v16, .ref o17, .int v19, .int v20, .int v21, .ref o22, .ref o24, .ref o26, .ref o28, .ref o30, .int v32, .ref o33, .ref o35, .ref o37, .int v39, .ref o40, .ref o42, .ref o44, .int v46, .ref o47])), (o6, .inl (cI, 12, .inl fw7)), (o30, .inl (cI, 100, .inl fw31))]) sz) := by
  refine Met.ofW (cc := cX12_clique) (maxL := 2) (ret := (some .int)) (by decide) rfl ?_
  intro p e s m args below meth c s₁ B hml hv
  obtain ⟨rfl, hsz, hP, hK, hD0, hN⟩ := hv
  have hx := B.exec
  have hb := B.bytes
  have hr := B.returns
  have hts := atoms_spec (ws := wsX12_clique) B.pre
  have hown : s.vm.findClass RX12 = some m.cls := findClass_of_methodNamed B.named
  have hlocks := B.notSynchronized
  subst hsz
  have hD := hD0.self (sz := s.heap.size)
  generalize hAe : va_A ([(o1, .inr (12, [.int v2, .ref o3, .int v5, .ref o6, .int v8, .ref o9, .ref o11, .int v13, .ref o14, .int v16, .ref o17, .int v19, .int v20, .int v21, .ref o22, .ref o24, .ref o26, .ref o28, .ref o30, .int v32, .ref o33, .ref o35, .ref o37, .int v39, .ref o40, .ref o42, .ref o44, .int v46, .ref o47])), (o6, .inl (cI, 12, .inl fw7)), (o30, .inl (cI, 100, .inl fw31))]) s.heap.size = A at hD ⊢
  have hA : ∀ q : Nat, s.heap.size ≤ q → A q := fun q h => by rw [← hAe]; exact Or.inr h
  have hS : va_S A s.heap s.heap [] := va_S.rf
  have hP : va_P (dC, dI) vwCl ([(o1, .inr (12, [.int v2, .ref o3, .int v5, .ref o6, .int v8, .ref o9, .ref o11, .int v13, .ref o14, .int v16, .ref o17, .int v19, .int v20, .int v21, .ref o22, .ref o24, .ref o26, .ref o28, .ref o30, .int v32, .ref o33, .ref o35, .ref o37, .int v39, .ref o40, .ref o42, .ref o44, .int v46, .ref o47])), (o6, .inl (cI, 12, .inl fw7)), (o30, .inl (cI, 100, .inl fw31))]) s.heap := hP
  have hl := lv_entry ([.ref o1, .int a1]) (n := 2) (Nat.le_of_ble_eq_true rfl)
  rw [lg_entry_eq]
  generalize (lg_sl ([.ref o1, .int a1]) ++ List.replicate (2 - (lg_sl ([.ref o1, .int a1])).length) Slot.unset).toArray = ls at hl ⊢
  have hl : lv_has ls 2 [(0, .ref o1), (1, .int a1)] := hl
  refine gen_Q (fun Q hQ => ?_)
  refine lv_aload_n hx hb dX12_clique_0 rfl (lv_at hl 0 rfl) ?_
  refine kc_v (D := (dC, dI)) (S := Int32 × (Nat → Int32)) (wc := [(o1, .inr (12, [.int v2, .ref o3, .int v5, .ref o6, .int v8, .ref o9, .ref o11, .int v13, .ref o14, .int v16, .ref o17, .int v19, .int v20, .int v21, .ref o22, .ref o24, .ref o26, .ref o28, .ref o30, .int v32, .ref o33, .ref o35, .ref o37, .int v39, .ref o40, .ref o42, .ref o44, .int v46, .ref o47])), (o6, .inl (cI, 12, .inl fw7)), (o30, .inl (cI, 100, .inl fw31))]) (wr := []) (w1 := fun u => [(o1, .inr (12, [.int v2, .ref o3, .int v5, .ref o6, .int v8, .ref o9, .ref o11, .int v13, .ref o14, .int v16, .ref o17, .int v19, .int v20, .int v21, .ref o22, .ref o24, .ref o26, .ref o28, .ref o30, .int u.1, .ref o33, .ref o35, .ref o37, .int v39, .ref o40, .ref o42, .ref o44, .int v46, .ref o47])), (o6, .inl (cI, 12, .inl fw7)), (o30, .inl (cI, 100, .inl u.2))]) (wn := fun u => [(o1, .inr (12, [.int v2, .ref o3, .int v5, .ref o6, .int v8, .ref o9, .ref o11, .int v13, .ref o14, .int v16, .ref o17, .int v19, .int v20, .int v21, .ref o22, .ref o24, .ref o26, .ref o28, .ref o30, .int u.1, .ref o33, .ref o35, .ref o37, .int v39, .ref o40, .ref o42, .ref o44, .int v46, .ref o47])), (o6, .inl (cI, 12, .inl fw7)), (o30, .inl (cI, 100, .inl u.2))]) (fun hPc hDc => va_runV (As := []) (rest := []) ⟨hx, hb, hml, hown, hts⟩ (kX12_setCliques_1 l dC dI cI c2 cZ o1 o3 o6 o9 o11 o14 o17 o22 o24 o26 o28 o30 o33 o35 o37 o40 o42 o44 o47 v2 v5 fw7 v8 v13 v16 v19 v20 v21 fw31 v32 v39 v46 s.heap.size v5_h fw7_b v8_h v13_h v16_h v19_h fw31_b v32_h v39_h v46_h) (cwV 0 hts gX12_clique_X12_setCliques rfl rfl rfl (by decide +kernel) ⟨Nat.le_of_ble_eq_true rfl, Nat.le_of_ble_eq_true rfl⟩) (pre_V hPc hK hDc hN (ci := 12) (q0 := 0) rfl rfl) rfl rfl hl.1 rfl (lv_room (Nat.le_of_ble_eq_true rfl)) dX12_clique_1 ⟨Nat.le_of_ble_eq_true rfl, Nat.le_of_ble_eq_true rfl⟩) hP hD hS hA [0, 1, 2] [] [0, 1, 2] rfl rfl (by decide +kernel) (by decide +kernel) (by decide +kernel) (by decide +kernel) (fun _ => rfl) (fun u H locs hq hP hD hS => ?_)
  obtain ⟨y1, f2⟩ := u
  obtain ⟨y1_h, f2_b, e3⟩ := hq
  have y1_h : Iv 0 99 y1 := y1_h
  have f2_b : Bd 100 0 4095 f2 := f2_b
  have e3 : CL fw7 (Int32.toNatClampNeg v5) f2 (Int32.toNatClampNeg y1) 4096 := e3
  have hP : va_P (dC, dI) vwCl ([(o1, .inr (12, [.int v2, .ref o3, .int v5, .ref o6, .int v8, .ref o9, .ref o11, .int v13, .ref o14, .int v16, .ref o17, .int v19, .int v20, .int v21, .ref o22, .ref o24, .ref o26, .ref o28, .ref o30, .int y1, .ref o33, .ref o35, .ref o37, .int v39, .ref o40, .ref o42, .ref o44, .int v46, .ref o47])), (o6, .inl (cI, 12, .inl fw7)), (o30, .inl (cI, 100, .inl f2))]) H := hP
  have hD : va_D A ([(o1, .inr (12, [.int v2, .ref o3, .int v5, .ref o6, .int v8, .ref o9, .ref o11, .int v13, .ref o14, .int v16, .ref o17, .int v19, .int v20, .int v21, .ref o22, .ref o24, .ref o26, .ref o28, .ref o30, .int y1, .ref o33, .ref o35, .ref o37, .int v39, .ref o40, .ref o42, .ref o44, .int v46, .ref o47])), (o6, .inl (cI, 12, .inl fw7)), (o30, .inl (cI, 100, .inl f2))]) := hD
  refine lv_iload_n hx hb dX12_clique_4 rfl (lv_at hl 1 rfl) ?_
  refine lv_iconst (v := (-1)) hx hb dX12_clique_5 (by decide) ?_
  refine lv_icmp_ne (tgt := 16) hx hb dX12_clique_6 (by decide) (fun h4 => ?_) (fun h4 => ?_)
  ·
    refine lv_iload_n hx hb dX12_clique_16 rfl (lv_at hl 1 rfl) ?_
    refine lv_iconst (v := 0) hx hb dX12_clique_17 (by decide) ?_
    refine lv_aload_n hx hb dX12_clique_18 rfl (lv_at hl 0 rfl) ?_
    refine va_get (D := (dC, dI)) (ci := 12) (v := .int y1) (C := RX12) (T := TX12) (N := 29) hx hb hts iw_X12_clique_X12 hown hK hP 0 rfl rfl 19 (by decide) (hts (.fieldLink RX12 164 "HolelessHouseModel" "cliqueMany" "I") hm_X12_clique_1) (fun _ h9 => h9) rfl dX12_clique_19 ?_
    refine lv_iconst (v := 1) hx hb dX12_clique_22 (by decide) ?_
    refine lv_isub hx hb dX12_clique_23 (lv_topi (fun x5 x5_e => ?_))
    have x5_h : Iv (-1) 98 x5 := iv_e x5_e (iv_sub y1_h ik_1 (by decide))
    refine kc_i (D := (dC, dI)) (S := Unit) (wc := []) (wr := [(o1, .inr (12, [.int v2, .ref o3, .int v5, .ref o6, .int v8, .ref o9, .ref o11, .int v13, .ref o14, .int v16, .ref o17, .int v19, .int v20, .int v21, .ref o22, .ref o24, .ref o26, .ref o28, .ref o30, .int y1, .ref o33, .ref o35, .ref o37, .int v39, .ref o40, .ref o42, .ref o44, .int v46, .ref o47])), (o6, .inl (cI, 12, .inl fw7)), (o30, .inl (cI, 100, .inl f2))]) (w1 := fun _ => []) (wn := fun _ => [(o1, .inr (12, [.int v2, .ref o3, .int v5, .ref o6, .int v8, .ref o9, .ref o11, .int v13, .ref o14, .int v16, .ref o17, .int v19, .int v20, .int v21, .ref o22, .ref o24, .ref o26, .ref o28, .ref o30, .int y1, .ref o33, .ref o35, .ref o37, .int v39, .ref o40, .ref o42, .ref o44, .int v46, .ref o47])), (o6, .inl (cI, 12, .inl fw7)), (o30, .inl (cI, 100, .inl f2))]) (fun hPc hDc => va_runS (As := [.int a1, .int 0, .int x5]) (rest := []) ⟨hx, hb, hml, hown, hts⟩ (kX12_in_7 l dC dI cI c2 cZ a1 0 x5 H.size ik_0 x5_h) (va_cwS 3 hts gX12_clique_X12_in rfl rfl rfl (by decide +kernel) ⟨Nat.le_of_ble_eq_true rfl, Nat.le_of_ble_eq_true rfl⟩) (pre_S hPc hK hDc hN) rfl rfl hl.1 rfl (lv_room (Nat.le_of_ble_eq_true rfl)) dX12_clique_24 ⟨Nat.le_of_ble_eq_true rfl, Nat.le_of_ble_eq_true rfl⟩) hP hD hS hA [] [0, 1, 2] [0, 1, 2] rfl rfl (by decide +kernel) (by decide +kernel) (by decide +kernel) (by decide +kernel) (fun _ => rfl) (fun x6 _ H locs hq hP hD hS => ?_)
    obtain ⟨x6_h, i7, i8, e9⟩ := hq
    have hP : va_P (dC, dI) vwCl ([(o1, .inr (12, [.int v2, .ref o3, .int v5, .ref o6, .int v8, .ref o9, .ref o11, .int v13, .ref o14, .int v16, .ref o17, .int v19, .int v20, .int v21, .ref o22, .ref o24, .ref o26, .ref o28, .ref o30, .int y1, .ref o33, .ref o35, .ref o37, .int v39, .ref o40, .ref o42, .ref o44, .int v46, .ref o47])), (o6, .inl (cI, 12, .inl fw7)), (o30, .inl (cI, 100, .inl f2))]) H := hP
    have hD : va_D A ([(o1, .inr (12, [.int v2, .ref o3, .int v5, .ref o6, .int v8, .ref o9, .ref o11, .int v13, .ref o14, .int v16, .ref o17, .int v19, .int v20, .int v21, .ref o22, .ref o24, .ref o26, .ref o28, .ref o30, .int y1, .ref o33, .ref o35, .ref o37, .int v39, .ref o40, .ref o42, .ref o44, .int v46, .ref o47])), (o6, .inl (cI, 12, .inl fw7)), (o30, .inl (cI, 100, .inl f2))]) := hD
    refine lv_if_eq (tgt := 39) hx hb dX12_clique_27 (by decide) (fun h10 => ?_) (fun h10 => ?_)
    ·
      have j11 : Iv 0 0 x6 := r_eq h10 ik_0
      refine lv_bipush (v := (-9)) hx hb dX12_clique_39 (by decide) ?_
      rw [hQ]
      exact W.iret (v := (-9)) hx hb hr (fun t ht hW => ⟨⟨(-9), (y1, f2), rfl, ⟨(iv_w ikm_9 (by decide)), y1_h, f2_b⟩, by rw [ht]; exact hP, va_K.moved hW.alike hK, hD⟩, hS.F ht⟩) hS.2.2 dX12_clique_41
    ·
      have j12 : Iv 1 1 x6 := r_nelo h10 x6_h ik_0 (by decide)
      have j13 : Iv 0 98 a1 := i7 h10
      have j14 : Iv 0 98 x5 := i8 h10
      have j15 : Iv 1 99 y1 := ivb_sub x5_e y1_h ik_1 j14 (by decide)
      refine lv_aload_n hx hb dX12_clique_30 rfl (lv_at hl 0 rfl) ?_
      refine va_get (D := (dC, dI)) (ci := 12) (v := .ref o30) (C := RX12) (T := TX12) (N := 29) hx hb hts iw_X12_clique_X12 hown hK hP 0 rfl rfl 18 (by decide) (hts (.fieldLink RX12 45 "HolelessHouseModel" "cliques" "[I") hm_X12_clique_2) (fun _ h9 => h9) rfl dX12_clique_31 ?_
      refine lv_iload_n hx hb dX12_clique_34 rfl (lv_at hl 1 rfl) ?_
      refine va_iald hx hb hK hP 2 0 rfl rfl (vin_iv j13 (by decide)) dX12_clique_35 (lv_topi (fun x16 x16_e => ?_))
      have x16_h : Iv 0 4095 x16 := iv_e x16_e (bd_at f2_b (vin_iv j13 (by decide)))
      refine lv_goto (tgt := 41) hx hb dX12_clique_36 (by decide) ?_
      rw [hQ]
      exact W.iret (v := x16) hx hb hr (fun t ht hW => ⟨⟨x16, (y1, f2), rfl, ⟨(iv_w x16_h (by decide)), (iv_w j15 (by decide)), f2_b⟩, by rw [ht]; exact hP, va_K.moved hW.alike hK, hD⟩, hS.F ht⟩) hS.2.2 dX12_clique_41
  ·
    have j17 : Iv (-1) (-1) a1 := r_eq h4 ikm_1
    refine lv_aload_n hx hb dX12_clique_9 rfl (lv_at hl 0 rfl) ?_
    refine va_get (D := (dC, dI)) (ci := 12) (v := .int y1) (C := RX12) (T := TX12) (N := 29) hx hb hts iw_X12_clique_X12 hown hK hP 0 rfl rfl 19 (by decide) (hts (.fieldLink RX12 164 "HolelessHouseModel" "cliqueMany" "I") hm_X12_clique_1) (fun _ h9 => h9) rfl dX12_clique_10 ?_
    refine lv_goto (tgt := 41) hx hb dX12_clique_13 (by decide) ?_
    rw [hQ]
    exact W.iret (v := y1) hx hb hr (fun t ht hW => ⟨⟨y1, (y1, f2), rfl, ⟨(iv_w y1_h (by decide)), y1_h, f2_b⟩, by rw [ht]; exact hP, va_K.moved hW.alike hK, hD⟩, hS.F ht⟩) hS.2.2 dX12_clique_41
theorem iw_X12_greatest_X12 : ∀ w ∈ wsX120, w ∈ wsX12_greatest := fun _ h => List.mem_cons.mpr (Or.inr (List.mem_append.mpr (Or.inr h)))
set_option maxHeartbeats 4000000 in
set_option maxRecDepth 100000 in
theorem kX12_greatest_1 (l : Launch) (dC : Nat → ClassId) (dI : Nat → Nat → Nat) (cI c2 cZ : ClassId) (o1 : Nat) (o3 : Nat) (o6 : Nat) (o9 : Nat) (o11 : Nat) (o14 : Nat) (o17 : Nat) (o22 : Nat) (o24 : Nat) (o26 : Nat) (o28 : Nat) (o30 : Nat) (o33 : Nat) (o35 : Nat) (o37 : Nat) (o40 : Nat) (o42 : Nat) (o44 : Nat) (o47 : Nat) (v2 : Int32) (v5 : Int32) (fw7 : Nat → Int32) (v8 : Int32) (v13 : Int32) (v16 : Int32) (v19 : Int32) (v20 : Int32) (v21 : Int32) (fw31 : Nat → Int32) (v32 : Int32) (v39 : Int32) (v46 : Int32) (sz : Nat) (v5_h : Iv 0 12 v5) (fw7_b : Bd 12 0 4095 fw7) (v8_h : Iv 0 8 v8) (v13_h : Iv 0 12 v13) (v16_h : Iv 0 12 v16) (v19_h : Iv (-9) 12 v19) (fw31_b : Bd 100 0 4095 fw31) (v32_h : Iv 0 99 v32) (v39_h : Iv 0 12 v39) (v46_h : Iv 0 12 v46) : Met l yX12_greatest wsX12_greatest ({ frames := 4, cells := 0, slots := 0, locals := 88 }) (va_Pc [.ref o1] (wPre (dC, dI) [(cI, .int), (c2, .array .int), (cZ, .boolean)] ([(o1, .inr (12, [.int v2, .ref o3, .int v5, .ref o6, .int v8, .ref o9, .ref o11, .int v13, .ref o14, .int v16, .ref o17, .int v19, .int v20, .int v21, .ref o22, .ref o24, .ref o26, .ref o28, .ref o30, .int v32, .ref o33, .ref o35, .ref o37, .int v39, .ref o40, .ref o42, .ref o44, .int v46, .ref o47])), (o6, .inl (cI, 12, .inl fw7)), (o30, .inl (cI, 100, .inl fw31))]) sz)) (va_Qi (fun (r : Int32) (u : Int32 × (Nat → Int32)) => Iv 0 13 r ∧ Iv 0 99 u.1 ∧ Bd 100 0 4095 u.2) (fun u t => wPost (dC, dI) [(cI, .int), (c2, .array .int), (cZ, .boolean)] (va_A ([(o1, .inr (12, [.int v2, .ref o3, .int v5, .ref o6, .int v8, .ref o9, .ref o11, .int v13, .ref o14, .int v16, .ref o17, .int v19, .int v20, .int v21, .ref o22, .ref o24, .ref o26, .ref o28, .ref o30, .int v32, .ref o33, .ref o35, .ref o37, .int v39, .ref o40, .ref o42, .ref o44, .int v46, .ref o47])), (o6, .inl (cI, 12, .inl fw7)), (o30, .inl (cI, 100, .inl fw31))]) sz) ([(o1, .inr (12, [.int v2, .ref o3, .int v5, .ref o6, .int v8, .ref o9, .ref o11, .int v13, .ref o14, .int v16, .ref o17, .int v19, .int v20, .int v21, .ref o22, .ref o24, .ref o26, .ref o28, .ref o30, .int u.1, .ref o33, .ref o35, .ref o37, .int v39, .ref o40, .ref o42, .ref o44, .int v46, .ref o47])), (o6, .inl (cI, 12, .inl fw7)), (o30, .inl (cI, 100, .inl u.2))]) t) (va_A ([(o1, .inr (12, [.int v2, .ref o3, .int v5, .ref o6, .int v8, .ref o9, .ref o11, .int v13, .ref o14, .int v16, .ref o17, .int v19, .int v20, .int v21, .ref o22, .ref o24, .ref o26, .ref o28, .ref o30, .int v32, .ref o33, .ref o35, .ref o37, .int v39, .ref o40, .ref o42, .ref o44, .int v46, .ref o47])), (o6, .inl (cI, 12, .inl fw7)), (o30, .inl (cI, 100, .inl fw31))]) sz)) 0 0 (va_A ([(o1, .inr (12, [.int v2, .ref o3, .int v5, .ref o6, .int v8, .ref o9, .ref o11, .int v13, .ref o14, .int v16, .ref o17, .int v19, .int v20, .int v21, .ref o22, .ref o24, .ref o26, .ref o28, .ref o30, .int v32, .ref o33, .ref o35, .ref o37, .int v39, .ref o40, .ref o42, .ref o44, .int v46, .ref o47])), (o6, .inl (cI, 12, .inl fw7)), (o30, .inl (cI, 100, .inl fw31))]) sz) := by
  refine Met.ofW (cc := cX12_greatest) (maxL := 3) (ret := (some .int)) (by decide) rfl ?_
  intro p e s m args below meth c s₁ B hml hv
  obtain ⟨rfl, hsz, hP, hK, hD0, hN⟩ := hv
  have hx := B.exec
  have hb := B.bytes
  have hr := B.returns
  have hts := atoms_spec (ws := wsX12_greatest) B.pre
  have hown : s.vm.findClass RX12 = some m.cls := findClass_of_methodNamed B.named
  have hlocks := B.notSynchronized
  subst hsz
  have hD := hD0.self (sz := s.heap.size)
  generalize hAe : va_A ([(o1, .inr (12, [.int v2, .ref o3, .int v5, .ref o6, .int v8, .ref o9, .ref o11, .int v13, .ref o14, .int v16, .ref o17, .int v19, .int v20, .int v21, .ref o22, .ref o24, .ref o26, .ref o28, .ref o30, .int v32, .ref o33, .ref o35, .ref o37, .int v39, .ref o40, .ref o42, .ref o44, .int v46, .ref o47])), (o6, .inl (cI, 12, .inl fw7)), (o30, .inl (cI, 100, .inl fw31))]) s.heap.size = A at hD ⊢
  have hA : ∀ q : Nat, s.heap.size ≤ q → A q := fun q h => by rw [← hAe]; exact Or.inr h
  have hS : va_S A s.heap s.heap [] := va_S.rf
  have hP : va_P (dC, dI) vwCl ([(o1, .inr (12, [.int v2, .ref o3, .int v5, .ref o6, .int v8, .ref o9, .ref o11, .int v13, .ref o14, .int v16, .ref o17, .int v19, .int v20, .int v21, .ref o22, .ref o24, .ref o26, .ref o28, .ref o30, .int v32, .ref o33, .ref o35, .ref o37, .int v39, .ref o40, .ref o42, .ref o44, .int v46, .ref o47])), (o6, .inl (cI, 12, .inl fw7)), (o30, .inl (cI, 100, .inl fw31))]) s.heap := hP
  have hl := lv_entry ([.ref o1]) (n := 3) (Nat.le_of_ble_eq_true rfl)
  rw [lg_entry_eq]
  generalize (lg_sl ([.ref o1]) ++ List.replicate (3 - (lg_sl ([.ref o1])).length) Slot.unset).toArray = ls at hl ⊢
  have hl : lv_has ls 3 [(0, .ref o1)] := hl
  refine gen_Q (fun Q hQ => ?_)
  refine lv_aload_n hx hb dX12_greatest_0 rfl (lv_at hl 0 rfl) ?_
  refine kc_v (D := (dC, dI)) (S := Int32 × (Nat → Int32)) (wc := [(o1, .inr (12, [.int v2, .ref o3, .int v5, .ref o6, .int v8, .ref o9, .ref o11, .int v13, .ref o14, .int v16, .ref o17, .int v19, .int v20, .int v21, .ref o22, .ref o24, .ref o26, .ref o28, .ref o30, .int v32, .ref o33, .ref o35, .ref o37, .int v39, .ref o40, .ref o42, .ref o44, .int v46, .ref o47])), (o6, .inl (cI, 12, .inl fw7)), (o30, .inl (cI, 100, .inl fw31))]) (wr := []) (w1 := fun u => [(o1, .inr (12, [.int v2, .ref o3, .int v5, .ref o6, .int v8, .ref o9, .ref o11, .int v13, .ref o14, .int v16, .ref o17, .int v19, .int v20, .int v21, .ref o22, .ref o24, .ref o26, .ref o28, .ref o30, .int u.1, .ref o33, .ref o35, .ref o37, .int v39, .ref o40, .ref o42, .ref o44, .int v46, .ref o47])), (o6, .inl (cI, 12, .inl fw7)), (o30, .inl (cI, 100, .inl u.2))]) (wn := fun u => [(o1, .inr (12, [.int v2, .ref o3, .int v5, .ref o6, .int v8, .ref o9, .ref o11, .int v13, .ref o14, .int v16, .ref o17, .int v19, .int v20, .int v21, .ref o22, .ref o24, .ref o26, .ref o28, .ref o30, .int u.1, .ref o33, .ref o35, .ref o37, .int v39, .ref o40, .ref o42, .ref o44, .int v46, .ref o47])), (o6, .inl (cI, 12, .inl fw7)), (o30, .inl (cI, 100, .inl u.2))]) (fun hPc hDc => va_runV (As := []) (rest := []) ⟨hx, hb, hml, hown, hts⟩ (kX12_setCliques_1 l dC dI cI c2 cZ o1 o3 o6 o9 o11 o14 o17 o22 o24 o26 o28 o30 o33 o35 o37 o40 o42 o44 o47 v2 v5 fw7 v8 v13 v16 v19 v20 v21 fw31 v32 v39 v46 s.heap.size v5_h fw7_b v8_h v13_h v16_h v19_h fw31_b v32_h v39_h v46_h) (cwV 0 hts gX12_greatest_X12_setCliques rfl rfl rfl (by decide +kernel) ⟨Nat.le_of_ble_eq_true rfl, Nat.le_of_ble_eq_true rfl⟩) (pre_V hPc hK hDc hN (ci := 12) (q0 := 0) rfl rfl) rfl rfl hl.1 rfl (lv_room (Nat.le_of_ble_eq_true rfl)) dX12_greatest_1 ⟨Nat.le_of_ble_eq_true rfl, Nat.le_of_ble_eq_true rfl⟩) hP hD hS hA [0, 1, 2] [] [0, 1, 2] rfl rfl (by decide +kernel) (by decide +kernel) (by decide +kernel) (by decide +kernel) (fun _ => rfl) (fun u H locs hq hP hD hS => ?_)
  obtain ⟨y1, f2⟩ := u
  obtain ⟨y1_h, f2_b, e3⟩ := hq
  have y1_h : Iv 0 99 y1 := y1_h
  have f2_b : Bd 100 0 4095 f2 := f2_b
  have e3 : CL fw7 (Int32.toNatClampNeg v5) f2 (Int32.toNatClampNeg y1) 4096 := e3
  have hP : va_P (dC, dI) vwCl ([(o1, .inr (12, [.int v2, .ref o3, .int v5, .ref o6, .int v8, .ref o9, .ref o11, .int v13, .ref o14, .int v16, .ref o17, .int v19, .int v20, .int v21, .ref o22, .ref o24, .ref o26, .ref o28, .ref o30, .int y1, .ref o33, .ref o35, .ref o37, .int v39, .ref o40, .ref o42, .ref o44, .int v46, .ref o47])), (o6, .inl (cI, 12, .inl fw7)), (o30, .inl (cI, 100, .inl f2))]) H := hP
  have hD : va_D A ([(o1, .inr (12, [.int v2, .ref o3, .int v5, .ref o6, .int v8, .ref o9, .ref o11, .int v13, .ref o14, .int v16, .ref o17, .int v19, .int v20, .int v21, .ref o22, .ref o24, .ref o26, .ref o28, .ref o30, .int y1, .ref o33, .ref o35, .ref o37, .int v39, .ref o40, .ref o42, .ref o44, .int v46, .ref o47])), (o6, .inl (cI, 12, .inl fw7)), (o30, .inl (cI, 100, .inl f2))]) := hD
  refine lv_iconst (v := 0) hx hb dX12_greatest_4 (by decide) ?_
  refine lv_istore_n (lv' := [(1, .int 0), (0, .ref o1)]) hx hb dX12_greatest_5 rfl hl (by decide) rfl (fun ls hl => ?_)
  refine lv_iconst (v := 0) hx hb dX12_greatest_6 (by decide) ?_
  refine lv_istore_n (lv' := [(2, .int 0), (1, .int 0), (0, .ref o1)]) hx hb dX12_greatest_7 rfl hl (by decide) rfl (fun ls hl => ?_)
  have L1 : ∀ (N : Nat) (x240 : Int32) (x241 : Int32) (H : Heap) (locs : List Loc) (ls : Array Slot), (99 - x240.toInt).toNat < N → Iv 0 99 x240 → Iv 0 13 x241 → va_P (dC, dI) vwCl ([(o1, .inr (12, [.int v2, .ref o3, .int v5, .ref o6, .int v8, .ref o9, .ref o11, .int v13, .ref o14, .int v16, .ref o17, .int v19, .int v20, .int v21, .ref o22, .ref o24, .ref o26, .ref o28, .ref o30, .int y1, .ref o33, .ref o35, .ref o37, .int v39, .ref o40, .ref o42, .ref o44, .int v46, .ref o47])), (o6, .inl (cI, 12, .inl fw7)), (o30, .inl (cI, 100, .inl f2))]) H → va_D A ([(o1, .inr (12, [.int v2, .ref o3, .int v5, .ref o6, .int v8, .ref o9, .ref o11, .int v13, .ref o14, .int v16, .ref o17, .int v19, .int v20, .int v21, .ref o22, .ref o24, .ref o26, .ref o28, .ref o30, .int y1, .ref o33, .ref o35, .ref o37, .int v39, .ref o40, .ref o42, .ref o44, .int v46, .ref o47])), (o6, .inl (cI, 12, .inl fw7)), (o30, .inl (cI, 100, .inl f2))]) → va_S A s.heap H locs → lv_has ls 3 [(2, .int x240), (1, .int x241), (0, .ref o1)] → W p l e ({ frames := 4, cells := 0, slots := 0, locals := 88 }) s m ([.ref o1] : List Value).toArray below meth c H locs 0 0 Q (F0 m 8 ls []) := by
    intro N
    induction N with
    | zero =>
      intro x240 x241 H locs ls hM
      exact absurd hM (Nat.not_lt_zero _)
    | succ N ih1 =>
      intro x240 x241 H locs ls hM1 x240_h x241_h hP hD hS hl
      refine lv_iload_n hx hb dX12_greatest_8 rfl (lv_at hl 0 rfl) ?_
      refine lv_aload_n hx hb dX12_greatest_9 rfl (lv_at hl 2 rfl) ?_
      refine va_get (D := (dC, dI)) (ci := 12) (v := .int y1) (C := RX12) (T := TX12) (N := 29) hx hb hts iw_X12_greatest_X12 hown hK hP 0 rfl rfl 19 (by decide) (hts (.fieldLink RX12 164 "HolelessHouseModel" "cliqueMany" "I") hm_X12_greatest_1) (fun _ h9 => h9) rfl dX12_greatest_10 ?_
      refine lv_icmp_ge (tgt := 49) hx hb dX12_greatest_13 (by decide) (fun h242 => ?_) (fun h242 => ?_)
      ·
        have qh242 := le_i h242
        refine lv_iload_n hx hb dX12_greatest_49 rfl (lv_at hl 1 rfl) ?_
        rw [hQ]
        exact W.iret (v := x241) hx hb hr (fun t ht hW => ⟨⟨x241, (y1, f2), rfl, ⟨x241_h, y1_h, f2_b⟩, by rw [ht]; exact hP, va_K.moved hW.alike hK, hD⟩, hS.F ht⟩) hS.2.2 dX12_greatest_50
      ·
        have qh242 := nle_i h242
        have j243 : Iv 0 98 x240 := r_ltl qh242 x240_h y1_h (by decide)
        have j244 : Iv 1 99 y1 := r_ltr qh242 x240_h y1_h (by decide)
        refine lv_aload_n hx hb dX12_greatest_16 rfl (lv_at hl 2 rfl) ?_
        refine va_get (D := (dC, dI)) (ci := 12) (v := .ref o30) (C := RX12) (T := TX12) (N := 29) hx hb hts iw_X12_greatest_X12 hown hK hP 0 rfl rfl 18 (by decide) (hts (.fieldLink RX12 45 "HolelessHouseModel" "cliques" "[I") hm_X12_greatest_2) (fun _ h9 => h9) rfl dX12_greatest_17 ?_
        refine lv_iload_n hx hb dX12_greatest_20 rfl (lv_at hl 0 rfl) ?_
        refine va_iald hx hb hK hP 2 0 rfl rfl (vin_iv j243 (by decide)) dX12_greatest_21 (lv_topi (fun x245 x245_e => ?_))
        have x245_h : Iv 0 4095 x245 := iv_e x245_e (bd_at f2_b (vin_iv j243 (by decide)))
        refine kc_i (D := (dC, dI)) (S := Unit) (wc := []) (wr := [(o1, .inr (12, [.int v2, .ref o3, .int v5, .ref o6, .int v8, .ref o9, .ref o11, .int v13, .ref o14, .int v16, .ref o17, .int v19, .int v20, .int v21, .ref o22, .ref o24, .ref o26, .ref o28, .ref o30, .int y1, .ref o33, .ref o35, .ref o37, .int v39, .ref o40, .ref o42, .ref o44, .int v46, .ref o47])), (o6, .inl (cI, 12, .inl fw7)), (o30, .inl (cI, 100, .inl f2))]) (w1 := fun _ => []) (wn := fun _ => [(o1, .inr (12, [.int v2, .ref o3, .int v5, .ref o6, .int v8, .ref o9, .ref o11, .int v13, .ref o14, .int v16, .ref o17, .int v19, .int v20, .int v21, .ref o22, .ref o24, .ref o26, .ref o28, .ref o30, .int y1, .ref o33, .ref o35, .ref o37, .int v39, .ref o40, .ref o42, .ref o44, .int v46, .ref o47])), (o6, .inl (cI, 12, .inl fw7)), (o30, .inl (cI, 100, .inl f2))]) (fun hPc hDc => va_runS (As := [.int x245]) (rest := []) ⟨hx, hb, hml, hown, hts⟩ (kX12_bits_1 l dC dI cI c2 cZ x245 H.size) (va_cwS 1 hts gX12_greatest_X12_bits rfl rfl rfl (by decide +kernel) ⟨Nat.le_of_ble_eq_true rfl, Nat.le_of_ble_eq_true rfl⟩) (pre_S hPc hK hDc hN) rfl rfl hl.1 rfl (lv_room (Nat.le_of_ble_eq_true rfl)) dX12_greatest_22 ⟨Nat.le_of_ble_eq_true rfl, Nat.le_of_ble_eq_true rfl⟩) hP hD hS hA [] [0, 1, 2] [0, 1, 2] rfl rfl (by decide +kernel) (by decide +kernel) (by decide +kernel) (by decide +kernel) (fun _ => rfl) (fun x246 _ H locs hq hP hD hS => ?_)
        obtain ⟨x246_h, e247⟩ := hq
        have hP : va_P (dC, dI) vwCl ([(o1, .inr (12, [.int v2, .ref o3, .int v5, .ref o6, .int v8, .ref o9, .ref o11, .int v13, .ref o14, .int v16, .ref o17, .int v19, .int v20, .int v21, .ref o22, .ref o24, .ref o26, .ref o28, .ref o30, .int y1, .ref o33, .ref o35, .ref o37, .int v39, .ref o40, .ref o42, .ref o44, .int v46, .ref o47])), (o6, .inl (cI, 12, .inl fw7)), (o30, .inl (cI, 100, .inl f2))]) H := hP
        have hD : va_D A ([(o1, .inr (12, [.int v2, .ref o3, .int v5, .ref o6, .int v8, .ref o9, .ref o11, .int v13, .ref o14, .int v16, .ref o17, .int v19, .int v20, .int v21, .ref o22, .ref o24, .ref o26, .ref o28, .ref o30, .int y1, .ref o33, .ref o35, .ref o37, .int v39, .ref o40, .ref o42, .ref o44, .int v46, .ref o47])), (o6, .inl (cI, 12, .inl fw7)), (o30, .inl (cI, 100, .inl f2))]) := hD
        refine lv_iload_n hx hb dX12_greatest_25 rfl (lv_at hl 1 rfl) ?_
        refine lv_icmp_le (tgt := 41) hx hb dX12_greatest_26 (by decide) (fun h248 => ?_) (fun h248 => ?_)
        ·
          have qh248 := le_i h248
          refine lv_iload_n hx hb dX12_greatest_41 rfl (lv_at hl 1 rfl) ?_
          refine lv_istore_n (lv' := [(1, .int x241), (2, .int x240), (0, .ref o1)]) hx hb dX12_greatest_42 rfl hl (by decide) rfl (fun ls hl => ?_)
          obtain ⟨x249, x249_e⟩ : ∃ z : Int32, z = x240 + 1 := ⟨_, rfl⟩
          have x249_h : Iv 1 99 x249 := iv_e x249_e (iv_add j243 ik_1 (by decide))
          refine lv_iinc (v := x249) (lv' := [(2, .int x249), (1, .int x241), (0, .ref o1)]) hx hb dX12_greatest_43 hl (k := 1) rfl (incN (by decide +kernel) x249_e) (by decide) rfl (fun ls hl => ?_)
          refine lv_goto (tgt := 8) hx hb dX12_greatest_46 (by decide) ?_
          exact ih1 x249 x241 _ _ _ (ms_up x249_e j243 (by decide) hM1) (iv_w x249_h (by decide)) x241_h hP hD hS hl
        ·
          have qh248 := nle_i h248
          have j250 : Iv 0 12 x241 := r_ltl qh248 x241_h x246_h (by decide)
          have j251 : Iv 1 13 x246 := r_ltr qh248 x241_h x246_h (by decide)
          refine lv_aload_n hx hb dX12_greatest_29 rfl (lv_at hl 2 rfl) ?_
          refine va_get (D := (dC, dI)) (ci := 12) (v := .ref o30) (C := RX12) (T := TX12) (N := 29) hx hb hts iw_X12_greatest_X12 hown hK hP 0 rfl rfl 18 (by decide) (hts (.fieldLink RX12 45 "HolelessHouseModel" "cliques" "[I") hm_X12_greatest_2) (fun _ h9 => h9) rfl dX12_greatest_30 ?_
          refine lv_iload_n hx hb dX12_greatest_33 rfl (lv_at hl 0 rfl) ?_
          refine va_iald hx hb hK hP 2 0 rfl rfl (vin_iv j243 (by decide)) dX12_greatest_34 (lv_topi (fun x252 x252_e => ?_))
          have x252_h : Iv 0 4095 x252 := iv_e x252_e (bd_at f2_b (vin_iv j243 (by decide)))
          refine kc_i (D := (dC, dI)) (S := Unit) (wc := []) (wr := [(o1, .inr (12, [.int v2, .ref o3, .int v5, .ref o6, .int v8, .ref o9, .ref o11, .int v13, .ref o14, .int v16, .ref o17, .int v19, .int v20, .int v21, .ref o22, .ref o24, .ref o26, .ref o28, .ref o30, .int y1, .ref o33, .ref o35, .ref o37, .int v39, .ref o40, .ref o42, .ref o44, .int v46, .ref o47])), (o6, .inl (cI, 12, .inl fw7)), (o30, .inl (cI, 100, .inl f2))]) (w1 := fun _ => []) (wn := fun _ => [(o1, .inr (12, [.int v2, .ref o3, .int v5, .ref o6, .int v8, .ref o9, .ref o11, .int v13, .ref o14, .int v16, .ref o17, .int v19, .int v20, .int v21, .ref o22, .ref o24, .ref o26, .ref o28, .ref o30, .int y1, .ref o33, .ref o35, .ref o37, .int v39, .ref o40, .ref o42, .ref o44, .int v46, .ref o47])), (o6, .inl (cI, 12, .inl fw7)), (o30, .inl (cI, 100, .inl f2))]) (fun hPc hDc => va_runS (As := [.int x252]) (rest := []) ⟨hx, hb, hml, hown, hts⟩ (kX12_bits_1 l dC dI cI c2 cZ x252 H.size) (va_cwS 1 hts gX12_greatest_X12_bits rfl rfl rfl (by decide +kernel) ⟨Nat.le_of_ble_eq_true rfl, Nat.le_of_ble_eq_true rfl⟩) (pre_S hPc hK hDc hN) rfl rfl hl.1 rfl (lv_room (Nat.le_of_ble_eq_true rfl)) dX12_greatest_35 ⟨Nat.le_of_ble_eq_true rfl, Nat.le_of_ble_eq_true rfl⟩) hP hD hS hA [] [0, 1, 2] [0, 1, 2] rfl rfl (by decide +kernel) (by decide +kernel) (by decide +kernel) (by decide +kernel) (fun _ => rfl) (fun x253 _ H locs hq hP hD hS => ?_)
          obtain ⟨x253_h, e254⟩ := hq
          have hP : va_P (dC, dI) vwCl ([(o1, .inr (12, [.int v2, .ref o3, .int v5, .ref o6, .int v8, .ref o9, .ref o11, .int v13, .ref o14, .int v16, .ref o17, .int v19, .int v20, .int v21, .ref o22, .ref o24, .ref o26, .ref o28, .ref o30, .int y1, .ref o33, .ref o35, .ref o37, .int v39, .ref o40, .ref o42, .ref o44, .int v46, .ref o47])), (o6, .inl (cI, 12, .inl fw7)), (o30, .inl (cI, 100, .inl f2))]) H := hP
          have hD : va_D A ([(o1, .inr (12, [.int v2, .ref o3, .int v5, .ref o6, .int v8, .ref o9, .ref o11, .int v13, .ref o14, .int v16, .ref o17, .int v19, .int v20, .int v21, .ref o22, .ref o24, .ref o26, .ref o28, .ref o30, .int y1, .ref o33, .ref o35, .ref o37, .int v39, .ref o40, .ref o42, .ref o44, .int v46, .ref o47])), (o6, .inl (cI, 12, .inl fw7)), (o30, .inl (cI, 100, .inl f2))]) := hD
          refine lv_goto (tgt := 42) hx hb dX12_greatest_38 (by decide) ?_
          refine lv_istore_n (lv' := [(1, .int x253), (2, .int x240), (0, .ref o1)]) hx hb dX12_greatest_42 rfl hl (by decide) rfl (fun ls hl => ?_)
          obtain ⟨x255, x255_e⟩ : ∃ z : Int32, z = x240 + 1 := ⟨_, rfl⟩
          have x255_h : Iv 1 99 x255 := iv_e x255_e (iv_add j243 ik_1 (by decide))
          refine lv_iinc (v := x255) (lv' := [(2, .int x255), (1, .int x253), (0, .ref o1)]) hx hb dX12_greatest_43 hl (k := 1) rfl (incN (by decide +kernel) x255_e) (by decide) rfl (fun ls hl => ?_)
          refine lv_goto (tgt := 8) hx hb dX12_greatest_46 (by decide) ?_
          exact ih1 x255 x253 _ _ _ (ms_up x255_e j243 (by decide) hM1) (iv_w x255_h (by decide)) x253_h hP hD hS hl
  exact L1 _ 0 0 _ _ _ (Nat.lt_succ_self _) (iv_w ik_0 (by decide)) (iv_w ik_0 (by decide)) hP hD hS hl
theorem iw_X12_isApart_X12 : ∀ w ∈ wsX120, w ∈ wsX12_isApart := fun _ h => List.mem_cons.mpr (Or.inr (List.mem_append.mpr (Or.inr h)))
set_option maxHeartbeats 4000000 in
set_option maxRecDepth 100000 in
theorem kX12_isApart_1 (l : Launch) (dC : Nat → ClassId) (dI : Nat → Nat → Nat) (cI c2 cZ : ClassId) (o1 : Nat) (o3 : Nat) (o6 : Nat) (o9 : Nat) (o11 : Nat) (o14 : Nat) (o17 : Nat) (o22 : Nat) (o24 : Nat) (o26 : Nat) (o28 : Nat) (o30 : Nat) (o33 : Nat) (o35 : Nat) (o37 : Nat) (o40 : Nat) (o42 : Nat) (o44 : Nat) (o47 : Nat) (v2 : Int32) (v5 : Int32) (fw7 : Nat → Int32) (v8 : Int32) (v13 : Int32) (v16 : Int32) (v19 : Int32) (v20 : Int32) (v21 : Int32) (v32 : Int32) (v39 : Int32) (v46 : Int32) (a1 : Int32) (sz : Nat) (v5_h : Iv 0 12 v5) (fw7_b : Bd 12 0 4095 fw7) (v8_h : Iv 0 8 v8) (v13_h : Iv 0 12 v13) (v16_h : Iv 0 12 v16) (v19_h : Iv (-9) 12 v19) (v32_h : Iv 0 99 v32) (v39_h : Iv 0 12 v39) (v46_h : Iv 0 12 v46) : Met l yX12_isApart wsX12_isApart ({ frames := 1, cells := 0, slots := 0, locals := 21 }) (va_Pc [.ref o1, .int a1] (wPre (dC, dI) [(cI, .int), (c2, .array .int), (cZ, .boolean)] ([(o1, .inr (12, [.int v2, .ref o3, .int v5, .ref o6, .int v8, .ref o9, .ref o11, .int v13, .ref o14, .int v16, .ref o17, .int v19, .int v20, .int v21, .ref o22, .ref o24, .ref o26, .ref o28, .ref o30, .int v32, .ref o33, .ref o35, .ref o37, .int v39, .ref o40, .ref o42, .ref o44, .int v46, .ref o47])), (o6, .inl (cI, 12, .inl fw7))]) sz)) (va_Qi (fun (r : Int32) (_ : Unit) => Iv 0 1 r) (fun _ t => wPost (dC, dI) [(cI, .int), (c2, .array .int), (cZ, .boolean)] (va_A ([(o1, .inr (12, [.int v2, .ref o3, .int v5, .ref o6, .int v8, .ref o9, .ref o11, .int v13, .ref o14, .int v16, .ref o17, .int v19, .int v20, .int v21, .ref o22, .ref o24, .ref o26, .ref o28, .ref o30, .int v32, .ref o33, .ref o35, .ref o37, .int v39, .ref o40, .ref o42, .ref o44, .int v46, .ref o47])), (o6, .inl (cI, 12, .inl fw7))]) sz) ([(o1, .inr (12, [.int v2, .ref o3, .int v5, .ref o6, .int v8, .ref o9, .ref o11, .int v13, .ref o14, .int v16, .ref o17, .int v19, .int v20, .int v21, .ref o22, .ref o24, .ref o26, .ref o28, .ref o30, .int v32, .ref o33, .ref o35, .ref o37, .int v39, .ref o40, .ref o42, .ref o44, .int v46, .ref o47])), (o6, .inl (cI, 12, .inl fw7))]) t) (va_A ([(o1, .inr (12, [.int v2, .ref o3, .int v5, .ref o6, .int v8, .ref o9, .ref o11, .int v13, .ref o14, .int v16, .ref o17, .int v19, .int v20, .int v21, .ref o22, .ref o24, .ref o26, .ref o28, .ref o30, .int v32, .ref o33, .ref o35, .ref o37, .int v39, .ref o40, .ref o42, .ref o44, .int v46, .ref o47])), (o6, .inl (cI, 12, .inl fw7))]) sz)) 0 0 (va_A ([(o1, .inr (12, [.int v2, .ref o3, .int v5, .ref o6, .int v8, .ref o9, .ref o11, .int v13, .ref o14, .int v16, .ref o17, .int v19, .int v20, .int v21, .ref o22, .ref o24, .ref o26, .ref o28, .ref o30, .int v32, .ref o33, .ref o35, .ref o37, .int v39, .ref o40, .ref o42, .ref o44, .int v46, .ref o47])), (o6, .inl (cI, 12, .inl fw7))]) sz) := by
  refine Met.ofW (cc := cX12_isApart) (maxL := 4) (ret := (some .boolean)) (by decide) rfl ?_
  intro p e s m args below meth c s₁ B hml hv
  obtain ⟨rfl, hsz, hP, hK, hD0, hN⟩ := hv
  have hx := B.exec
  have hb := B.bytes
  have hr := B.returns
  have hts := atoms_spec (ws := wsX12_isApart) B.pre
  have hown : s.vm.findClass RX12 = some m.cls := findClass_of_methodNamed B.named
  have hlocks := B.notSynchronized
  subst hsz
  have hD := hD0.self (sz := s.heap.size)
  generalize hAe : va_A ([(o1, .inr (12, [.int v2, .ref o3, .int v5, .ref o6, .int v8, .ref o9, .ref o11, .int v13, .ref o14, .int v16, .ref o17, .int v19, .int v20, .int v21, .ref o22, .ref o24, .ref o26, .ref o28, .ref o30, .int v32, .ref o33, .ref o35, .ref o37, .int v39, .ref o40, .ref o42, .ref o44, .int v46, .ref o47])), (o6, .inl (cI, 12, .inl fw7))]) s.heap.size = A at hD ⊢
  have hA : ∀ q : Nat, s.heap.size ≤ q → A q := fun q h => by rw [← hAe]; exact Or.inr h
  have hS : va_S A s.heap s.heap [] := va_S.rf
  have hP : va_P (dC, dI) vwCl ([(o1, .inr (12, [.int v2, .ref o3, .int v5, .ref o6, .int v8, .ref o9, .ref o11, .int v13, .ref o14, .int v16, .ref o17, .int v19, .int v20, .int v21, .ref o22, .ref o24, .ref o26, .ref o28, .ref o30, .int v32, .ref o33, .ref o35, .ref o37, .int v39, .ref o40, .ref o42, .ref o44, .int v46, .ref o47])), (o6, .inl (cI, 12, .inl fw7))]) s.heap := hP
  have hl := lv_entry ([.ref o1, .int a1]) (n := 4) (Nat.le_of_ble_eq_true rfl)
  rw [lg_entry_eq]
  generalize (lg_sl ([.ref o1, .int a1]) ++ List.replicate (4 - (lg_sl ([.ref o1, .int a1])).length) Slot.unset).toArray = ls at hl ⊢
  have hl : lv_has ls 4 [(0, .ref o1), (1, .int a1)] := hl
  refine gen_Q (fun Q hQ => ?_)
  refine lv_iconst (v := 1) hx hb dX12_isApart_0 (by decide) ?_
  refine lv_istore_n (lv' := [(2, .int 1), (0, .ref o1), (1, .int a1)]) hx hb dX12_isApart_1 rfl hl (by decide) rfl (fun ls hl => ?_)
  refine lv_iconst (v := 0) hx hb dX12_isApart_2 (by decide) ?_
  refine lv_istore_n (lv' := [(3, .int 0), (2, .int 1), (0, .ref o1), (1, .int a1)]) hx hb dX12_isApart_3 rfl hl (by decide) rfl (fun ls hl => ?_)
  have L1 : ∀ (N : Nat) (x184 : Int32) (x185 : Int32) (H : Heap) (locs : List Loc) (ls : Array Slot), (12 - x184.toInt).toNat < N → Iv 0 12 x184 → Iv 0 1 x185 → va_P (dC, dI) vwCl ([(o1, .inr (12, [.int v2, .ref o3, .int v5, .ref o6, .int v8, .ref o9, .ref o11, .int v13, .ref o14, .int v16, .ref o17, .int v19, .int v20, .int v21, .ref o22, .ref o24, .ref o26, .ref o28, .ref o30, .int v32, .ref o33, .ref o35, .ref o37, .int v39, .ref o40, .ref o42, .ref o44, .int v46, .ref o47])), (o6, .inl (cI, 12, .inl fw7))]) H → va_D A ([(o1, .inr (12, [.int v2, .ref o3, .int v5, .ref o6, .int v8, .ref o9, .ref o11, .int v13, .ref o14, .int v16, .ref o17, .int v19, .int v20, .int v21, .ref o22, .ref o24, .ref o26, .ref o28, .ref o30, .int v32, .ref o33, .ref o35, .ref o37, .int v39, .ref o40, .ref o42, .ref o44, .int v46, .ref o47])), (o6, .inl (cI, 12, .inl fw7))]) → va_S A s.heap H locs → lv_has ls 4 [(3, .int x184), (2, .int x185), (0, .ref o1), (1, .int a1)] → W p l e ({ frames := 1, cells := 0, slots := 0, locals := 21 }) s m ([.ref o1, .int a1] : List Value).toArray below meth c H locs 0 0 Q (F0 m 4 ls []) := by
    intro N
    induction N with
    | zero =>
      intro x184 x185 H locs ls hM
      exact absurd hM (Nat.not_lt_zero _)
    | succ N ih1 =>
      intro x184 x185 H locs ls hM1 x184_h x185_h hP hD hS hl
      refine lv_iload_n hx hb dX12_isApart_4 rfl (lv_at hl 0 rfl) ?_
      refine lv_aload_n hx hb dX12_isApart_5 rfl (lv_at hl 2 rfl) ?_
      refine va_get (D := (dC, dI)) (ci := 12) (v := .int v5) (C := RX12) (T := TX12) (N := 29) hx hb hts iw_X12_isApart_X12 hown hK hP 0 rfl rfl 2 (by decide) (hts (.fieldLink RX12 73 "HolelessHouseModel" "n" "I") hm_X12_isApart_1) (fun _ h9 => h9) rfl dX12_isApart_6 ?_
      refine lv_icmp_ge (tgt := 47) hx hb dX12_isApart_9 (by decide) (fun h186 => ?_) (fun h186 => ?_)
      ·
        have qh186 := le_i h186
        refine lv_iload_n hx hb dX12_isApart_47 rfl (lv_at hl 1 rfl) ?_
        rw [hQ]
        exact W.zret (v := x185) (ty := .boolean) hx hb hr (nar_z x185_h) (fun t ht hW => ⟨⟨x185, (), rfl, x185_h, by rw [ht]; exact hP, va_K.moved hW.alike hK, hD⟩, hS.F ht⟩) hS.2.2 dX12_isApart_48
      ·
        have qh186 := nle_i h186
        have j187 : Iv 0 11 x184 := r_ltl qh186 x184_h v5_h (by decide)
        have j188 : Iv 1 12 v5 := r_ltr qh186 x184_h v5_h (by decide)
        refine lv_iload_n hx hb dX12_isApart_12 rfl (lv_at hl 1 rfl) ?_
        refine lv_if_eq (tgt := 39) hx hb dX12_isApart_13 (by decide) (fun h189 => ?_) (fun h189 => ?_)
        ·
          have j190 : Iv 0 0 x185 := r_eq h189 ik_0
          refine lv_iconst (v := 0) hx hb dX12_isApart_39 (by decide) ?_
          refine lv_istore_n (lv' := [(2, .int 0), (3, .int x184), (0, .ref o1), (1, .int a1)]) hx hb dX12_isApart_40 rfl hl (by decide) rfl (fun ls hl => ?_)
          obtain ⟨x191, x191_e⟩ : ∃ z : Int32, z = x184 + 1 := ⟨_, rfl⟩
          have x191_h : Iv 1 12 x191 := iv_e x191_e (iv_add j187 ik_1 (by decide))
          refine lv_iinc (v := x191) (lv' := [(3, .int x191), (2, .int 0), (0, .ref o1), (1, .int a1)]) hx hb dX12_isApart_41 hl (k := 1) rfl (incN (by decide +kernel) x191_e) (by decide) rfl (fun ls hl => ?_)
          refine lv_goto (tgt := 4) hx hb dX12_isApart_44 (by decide) ?_
          exact ih1 x191 0 _ _ _ (ms_up x191_e j187 (by decide) hM1) (iv_w x191_h (by decide)) (iv_w ik_0 (by decide)) hP hD hS hl
        ·
          have j192 : Iv 1 1 x185 := r_nelo h189 x185_h ik_0 (by decide)
          refine lv_iload_n hx hb dX12_isApart_16 rfl (lv_at hl 3 rfl) ?_
          refine lv_iload_n hx hb dX12_isApart_17 rfl (lv_at hl 0 rfl) ?_
          refine kc_i (D := (dC, dI)) (S := Unit) (wc := []) (wr := [(o1, .inr (12, [.int v2, .ref o3, .int v5, .ref o6, .int v8, .ref o9, .ref o11, .int v13, .ref o14, .int v16, .ref o17, .int v19, .int v20, .int v21, .ref o22, .ref o24, .ref o26, .ref o28, .ref o30, .int v32, .ref o33, .ref o35, .ref o37, .int v39, .ref o40, .ref o42, .ref o44, .int v46, .ref o47])), (o6, .inl (cI, 12, .inl fw7))]) (w1 := fun _ => []) (wn := fun _ => [(o1, .inr (12, [.int v2, .ref o3, .int v5, .ref o6, .int v8, .ref o9, .ref o11, .int v13, .ref o14, .int v16, .ref o17, .int v19, .int v20, .int v21, .ref o22, .ref o24, .ref o26, .ref o28, .ref o30, .int v32, .ref o33, .ref o35, .ref o37, .int v39, .ref o40, .ref o42, .ref o44, .int v46, .ref o47])), (o6, .inl (cI, 12, .inl fw7))]) (fun hPc hDc => va_runS (As := [.int a1, .int x184]) (rest := []) ⟨hx, hb, hml, hown, hts⟩ (kX12_has_1 l dC dI cI c2 cZ a1 x184 H.size (iv_w j187 (by decide))) (va_cwS 2 hts gX12_isApart_X12_has rfl rfl rfl (by decide +kernel) ⟨Nat.le_of_ble_eq_true rfl, Nat.le_of_ble_eq_true rfl⟩) (pre_S hPc hK hDc hN) rfl rfl hl.1 rfl (lv_room (Nat.le_of_ble_eq_true rfl)) dX12_isApart_18 ⟨Nat.le_of_ble_eq_true rfl, Nat.le_of_ble_eq_true rfl⟩) hP hD hS hA [] [0, 1] [0, 1] rfl rfl (by decide +kernel) (by decide +kernel) (by decide +kernel) (by decide +kernel) (fun _ => rfl) (fun x193 _ H locs hq hP hD hS => ?_)
          obtain ⟨x193_h, e194⟩ := hq
          have hP : va_P (dC, dI) vwCl ([(o1, .inr (12, [.int v2, .ref o3, .int v5, .ref o6, .int v8, .ref o9, .ref o11, .int v13, .ref o14, .int v16, .ref o17, .int v19, .int v20, .int v21, .ref o22, .ref o24, .ref o26, .ref o28, .ref o30, .int v32, .ref o33, .ref o35, .ref o37, .int v39, .ref o40, .ref o42, .ref o44, .int v46, .ref o47])), (o6, .inl (cI, 12, .inl fw7))]) H := hP
          have hD : va_D A ([(o1, .inr (12, [.int v2, .ref o3, .int v5, .ref o6, .int v8, .ref o9, .ref o11, .int v13, .ref o14, .int v16, .ref o17, .int v19, .int v20, .int v21, .ref o22, .ref o24, .ref o26, .ref o28, .ref o30, .int v32, .ref o33, .ref o35, .ref o37, .int v39, .ref o40, .ref o42, .ref o44, .int v46, .ref o47])), (o6, .inl (cI, 12, .inl fw7))]) := hD
          refine lv_if_eq (tgt := 35) hx hb dX12_isApart_21 (by decide) (fun h195 => ?_) (fun h195 => ?_)
          ·
            have j196 : Iv 0 0 x193 := r_eq h195 ik_0
            have b197 : bt a1 (Int32.toNatClampNeg x184) = false := has_f e194 h195
            refine lv_iconst (v := 1) hx hb dX12_isApart_35 (by decide) ?_
            refine lv_goto (tgt := 40) hx hb dX12_isApart_36 (by decide) ?_
            refine lv_istore_n (lv' := [(2, .int 1), (3, .int x184), (0, .ref o1), (1, .int a1)]) hx hb dX12_isApart_40 rfl hl (by decide) rfl (fun ls hl => ?_)
            obtain ⟨x198, x198_e⟩ : ∃ z : Int32, z = x184 + 1 := ⟨_, rfl⟩
            have x198_h : Iv 1 12 x198 := iv_e x198_e (iv_add j187 ik_1 (by decide))
            refine lv_iinc (v := x198) (lv' := [(3, .int x198), (2, .int 1), (0, .ref o1), (1, .int a1)]) hx hb dX12_isApart_41 hl (k := 1) rfl (incN (by decide +kernel) x198_e) (by decide) rfl (fun ls hl => ?_)
            refine lv_goto (tgt := 4) hx hb dX12_isApart_44 (by decide) ?_
            exact ih1 x198 1 _ _ _ (ms_up x198_e j187 (by decide) hM1) (iv_w x198_h (by decide)) (iv_w ik_1 (by decide)) hP hD hS hl
          ·
            have j199 : Iv 1 1 x193 := r_nelo h195 x193_h ik_0 (by decide)
            have b200 : bt a1 (Int32.toNatClampNeg x184) = true := has_t e194 h195
            refine lv_iload_n hx hb dX12_isApart_24 rfl (lv_at hl 3 rfl) ?_
            refine lv_aload_n hx hb dX12_isApart_25 rfl (lv_at hl 2 rfl) ?_
            refine va_get (D := (dC, dI)) (ci := 12) (v := .ref o6) (C := RX12) (T := TX12) (N := 29) hx hb hts iw_X12_isApart_X12 hown hK hP 0 rfl rfl 3 (by decide) (hts (.fieldLink RX12 13 "HolelessHouseModel" "near" "[I") hm_X12_isApart_2) (fun _ h9 => h9) rfl dX12_isApart_26 ?_
            refine lv_iload_n hx hb dX12_isApart_29 rfl (lv_at hl 0 rfl) ?_
            refine va_iald hx hb hK hP 1 0 rfl rfl (vin_iv j187 (by decide)) dX12_isApart_30 (lv_topi (fun x201 x201_e => ?_))
            have x201_h : Iv 0 4095 x201 := iv_e x201_e (bd_at fw7_b (vin_iv j187 (by decide)))
            refine lv_iand hx hb dX12_isApart_31 (lv_topi (fun x202 x202_e => ?_))
            have x202_h : Iv 0 4095 x202 := iv_e x202_e (iv_andR _ x201_h (by decide))
            refine lv_if_ne (tgt := 39) hx hb dX12_isApart_32 (by decide) (fun h203 => ?_) (fun h203 => ?_)
            ·
              have j204 : Iv 1 4095 x202 := r_nelo h203 x202_h ik_0 (by decide)
              refine lv_iconst (v := 0) hx hb dX12_isApart_39 (by decide) ?_
              refine lv_istore_n (lv' := [(2, .int 0), (3, .int x184), (0, .ref o1), (1, .int a1)]) hx hb dX12_isApart_40 rfl hl (by decide) rfl (fun ls hl => ?_)
              obtain ⟨x205, x205_e⟩ : ∃ z : Int32, z = x184 + 1 := ⟨_, rfl⟩
              have x205_h : Iv 1 12 x205 := iv_e x205_e (iv_add j187 ik_1 (by decide))
              refine lv_iinc (v := x205) (lv' := [(3, .int x205), (2, .int 0), (0, .ref o1), (1, .int a1)]) hx hb dX12_isApart_41 hl (k := 1) rfl (incN (by decide +kernel) x205_e) (by decide) rfl (fun ls hl => ?_)
              refine lv_goto (tgt := 4) hx hb dX12_isApart_44 (by decide) ?_
              exact ih1 x205 0 _ _ _ (ms_up x205_e j187 (by decide) hM1) (iv_w x205_h (by decide)) (iv_w ik_0 (by decide)) hP hD hS hl
            ·
              have j206 : Iv 0 0 x202 := r_eq h203 ik_0
              refine lv_iconst (v := 1) hx hb dX12_isApart_35 (by decide) ?_
              refine lv_goto (tgt := 40) hx hb dX12_isApart_36 (by decide) ?_
              refine lv_istore_n (lv' := [(2, .int 1), (3, .int x184), (0, .ref o1), (1, .int a1)]) hx hb dX12_isApart_40 rfl hl (by decide) rfl (fun ls hl => ?_)
              obtain ⟨x207, x207_e⟩ : ∃ z : Int32, z = x184 + 1 := ⟨_, rfl⟩
              have x207_h : Iv 1 12 x207 := iv_e x207_e (iv_add j187 ik_1 (by decide))
              refine lv_iinc (v := x207) (lv' := [(3, .int x207), (2, .int 1), (0, .ref o1), (1, .int a1)]) hx hb dX12_isApart_41 hl (k := 1) rfl (incN (by decide +kernel) x207_e) (by decide) rfl (fun ls hl => ?_)
              refine lv_goto (tgt := 4) hx hb dX12_isApart_44 (by decide) ?_
              exact ih1 x207 1 _ _ _ (ms_up x207_e j187 (by decide) hM1) (iv_w x207_h (by decide)) (iv_w ik_1 (by decide)) hP hD hS hl
  exact L1 _ 0 1 _ _ _ (Nat.lt_succ_self _) (iv_w ik_0 (by decide)) (iv_w ik_1 (by decide)) hP hD hS hl
set_option maxHeartbeats 4000000 in
set_option maxRecDepth 100000 in
theorem kX12_sort_1 (l : Launch) (dC : Nat → ClassId) (dI : Nat → Nat → Nat) (cI c2 cZ : ClassId) (o1 : Nat) (o3 : Nat) (o6 : Nat) (o9 : Nat) (o11 : Nat) (o14 : Nat) (o17 : Nat) (o22 : Nat) (o24 : Nat) (o26 : Nat) (o28 : Nat) (o30 : Nat) (o33 : Nat) (o35 : Nat) (o37 : Nat) (o40 : Nat) (o42 : Nat) (o44 : Nat) (o47 : Nat) (v2 : Int32) (v5 : Int32) (fw7 : Nat → Int32) (v8 : Int32) (v13 : Int32) (v16 : Int32) (v19 : Int32) (v20 : Int32) (v21 : Int32) (v32 : Int32) (v39 : Int32) (v46 : Int32) (a1 : Int32) (sz : Nat) (v5_h : Iv 0 12 v5) (fw7_b : Bd 12 0 4095 fw7) (v8_h : Iv 0 8 v8) (v13_h : Iv 0 12 v13) (v16_h : Iv 0 12 v16) (v19_h : Iv (-9) 12 v19) (v32_h : Iv 0 99 v32) (v39_h : Iv 0 12 v39) (v46_h : Iv 0 12 v46) : Met l yX12_sort wsX12_sort ({ frames := 2, cells := 0, slots := 0, locals := 44 }) (va_Pc [.ref o1, .int a1] (wPre (dC, dI) [(cI, .int), (c2, .array .int), (cZ, .boolean)] ([(o1, .inr (12, [.int v2, .ref o3, .int v5, .ref o6, .int v8, .ref o9, .ref o11, .int v13, .ref o14, .int v16, .ref o17, .int v19, .int v20, .int v21, .ref o22, .ref o24, .ref o26, .ref o28, .ref o30, .int v32, .ref o33, .ref o35, .ref o37, .int v39, .ref o40, .ref o42, .ref o44, .int v46, .ref o47])), (o6, .inl (cI, 12, .inl fw7))]) sz)) (va_Qi (fun (r : Int32) (_ : Unit) => Iv (-1) 3 r) (fun _ t => wPost (dC, dI) [(cI, .int), (c2, .array .int), (cZ, .boolean)] (va_A ([(o1, .inr (12, [.int v2, .ref o3, .int v5, .ref o6, .int v8, .ref o9, .ref o11, .int v13, .ref o14, .int v16, .ref o17, .int v19, .int v20, .int v21, .ref o22, .ref o24, .ref o26, .ref o28, .ref o30, .int v32, .ref o33, .ref o35, .ref o37, .int v39, .ref o40, .ref o42, .ref o44, .int v46, .ref o47])), (o6, .inl (cI, 12, .inl fw7))]) sz) ([(o1, .inr (12, [.int v2, .ref o3, .int v5, .ref o6, .int v8, .ref o9, .ref o11, .int v13, .ref o14, .int v16, .ref o17, .int v19, .int v20, .int v21, .ref o22, .ref o24, .ref o26, .ref o28, .ref o30, .int v32, .ref o33, .ref o35, .ref o37, .int v39, .ref o40, .ref o42, .ref o44, .int v46, .ref o47])), (o6, .inl (cI, 12, .inl fw7))]) t) (va_A ([(o1, .inr (12, [.int v2, .ref o3, .int v5, .ref o6, .int v8, .ref o9, .ref o11, .int v13, .ref o14, .int v16, .ref o17, .int v19, .int v20, .int v21, .ref o22, .ref o24, .ref o26, .ref o28, .ref o30, .int v32, .ref o33, .ref o35, .ref o37, .int v39, .ref o40, .ref o42, .ref o44, .int v46, .ref o47])), (o6, .inl (cI, 12, .inl fw7))]) sz)) 0 0 (va_A ([(o1, .inr (12, [.int v2, .ref o3, .int v5, .ref o6, .int v8, .ref o9, .ref o11, .int v13, .ref o14, .int v16, .ref o17, .int v19, .int v20, .int v21, .ref o22, .ref o24, .ref o26, .ref o28, .ref o30, .int v32, .ref o33, .ref o35, .ref o37, .int v39, .ref o40, .ref o42, .ref o44, .int v46, .ref o47])), (o6, .inl (cI, 12, .inl fw7))]) sz) := by
  refine Met.ofW (cc := cX12_sort) (maxL := 2) (ret := (some .int)) (by decide) rfl ?_
  intro p e s m args below meth c s₁ B hml hv
  obtain ⟨rfl, hsz, hP, hK, hD0, hN⟩ := hv
  have hx := B.exec
  have hb := B.bytes
  have hr := B.returns
  have hts := atoms_spec (ws := wsX12_sort) B.pre
  have hown : s.vm.findClass RX12 = some m.cls := findClass_of_methodNamed B.named
  have hlocks := B.notSynchronized
  subst hsz
  have hD := hD0.self (sz := s.heap.size)
  generalize hAe : va_A ([(o1, .inr (12, [.int v2, .ref o3, .int v5, .ref o6, .int v8, .ref o9, .ref o11, .int v13, .ref o14, .int v16, .ref o17, .int v19, .int v20, .int v21, .ref o22, .ref o24, .ref o26, .ref o28, .ref o30, .int v32, .ref o33, .ref o35, .ref o37, .int v39, .ref o40, .ref o42, .ref o44, .int v46, .ref o47])), (o6, .inl (cI, 12, .inl fw7))]) s.heap.size = A at hD ⊢
  have hA : ∀ q : Nat, s.heap.size ≤ q → A q := fun q h => by rw [← hAe]; exact Or.inr h
  have hS : va_S A s.heap s.heap [] := va_S.rf
  have hP : va_P (dC, dI) vwCl ([(o1, .inr (12, [.int v2, .ref o3, .int v5, .ref o6, .int v8, .ref o9, .ref o11, .int v13, .ref o14, .int v16, .ref o17, .int v19, .int v20, .int v21, .ref o22, .ref o24, .ref o26, .ref o28, .ref o30, .int v32, .ref o33, .ref o35, .ref o37, .int v39, .ref o40, .ref o42, .ref o44, .int v46, .ref o47])), (o6, .inl (cI, 12, .inl fw7))]) s.heap := hP
  have hl := lv_entry ([.ref o1, .int a1]) (n := 2) (Nat.le_of_ble_eq_true rfl)
  rw [lg_entry_eq]
  generalize (lg_sl ([.ref o1, .int a1]) ++ List.replicate (2 - (lg_sl ([.ref o1, .int a1])).length) Slot.unset).toArray = ls at hl ⊢
  have hl : lv_has ls 2 [(0, .ref o1), (1, .int a1)] := hl
  refine gen_Q (fun Q hQ => ?_)
  refine lv_iload_n hx hb dX12_sort_0 rfl (lv_at hl 1 rfl) ?_
  refine lv_if_le (tgt := 15) hx hb dX12_sort_1 (by decide) (fun h1 => ?_) (fun h1 => ?_)
  ·
    have qh1 := le_i h1
    have j2 : Iv (-2147483648) 0 a1 := r_lel qh1 (iv_full a1) ik_0 (by decide)
    refine lv_iconst (v := (-1)) hx hb dX12_sort_15 (by decide) ?_
    rw [hQ]
    exact W.iret (v := (-1)) hx hb hr (fun t ht hW => ⟨⟨(-1), (), rfl, (iv_w ikm_1 (by decide)), by rw [ht]; exact hP, va_K.moved hW.alike hK, hD⟩, hS.F ht⟩) hS.2.2 dX12_sort_16
  ·
    have qh1 := nle_i h1
    have j3 : Iv 1 2147483647 a1 := r_ltr qh1 ik_0 (iv_full a1) (by decide)
    refine lv_iload_n hx hb dX12_sort_4 rfl (lv_at hl 1 rfl) ?_
    refine lv_aload_n hx hb dX12_sort_5 rfl (lv_at hl 0 rfl) ?_
    refine kc_i (D := (dC, dI)) (S := Unit) (wc := [(o1, .inr (12, [.int v2, .ref o3, .int v5, .ref o6, .int v8, .ref o9, .ref o11, .int v13, .ref o14, .int v16, .ref o17, .int v19, .int v20, .int v21, .ref o22, .ref o24, .ref o26, .ref o28, .ref o30, .int v32, .ref o33, .ref o35, .ref o37, .int v39, .ref o40, .ref o42, .ref o44, .int v46, .ref o47]))]) (wr := [(o6, .inl (cI, 12, .inl fw7))]) (w1 := fun _ => [(o1, .inr (12, [.int v2, .ref o3, .int v5, .ref o6, .int v8, .ref o9, .ref o11, .int v13, .ref o14, .int v16, .ref o17, .int v19, .int v20, .int v21, .ref o22, .ref o24, .ref o26, .ref o28, .ref o30, .int v32, .ref o33, .ref o35, .ref o37, .int v39, .ref o40, .ref o42, .ref o44, .int v46, .ref o47]))]) (wn := fun _ => [(o1, .inr (12, [.int v2, .ref o3, .int v5, .ref o6, .int v8, .ref o9, .ref o11, .int v13, .ref o14, .int v16, .ref o17, .int v19, .int v20, .int v21, .ref o22, .ref o24, .ref o26, .ref o28, .ref o30, .int v32, .ref o33, .ref o35, .ref o37, .int v39, .ref o40, .ref o42, .ref o44, .int v46, .ref o47])), (o6, .inl (cI, 12, .inl fw7))]) (fun hPc hDc => va_runV (As := []) (rest := [.int a1]) ⟨hx, hb, hml, hown, hts⟩ (kX12_all_1 l dC dI cI c2 cZ o1 o3 o6 o9 o11 o14 o17 o22 o24 o26 o28 o30 o33 o35 o37 o40 o42 o44 o47 v2 v5 v8 v13 v16 v19 v20 v21 v32 v39 v46 s.heap.size v5_h v8_h v13_h v16_h v19_h v32_h v39_h v46_h) (cwV 0 hts gX12_sort_X12_all rfl rfl rfl (by decide +kernel) ⟨Nat.le_of_ble_eq_true rfl, Nat.le_of_ble_eq_true rfl⟩) (pre_V hPc hK hDc hN (ci := 12) (q0 := 0) rfl rfl) rfl rfl hl.1 rfl (lv_room (Nat.le_of_ble_eq_true rfl)) dX12_sort_6 ⟨Nat.le_of_ble_eq_true rfl, Nat.le_of_ble_eq_true rfl⟩) hP hD hS hA [0] [1] [1, 0] rfl rfl (by decide +kernel) (by decide +kernel) (by decide +kernel) (by decide +kernel) (fun _ => rfl) (fun x4 _ H locs hq hP hD hS => ?_)
    obtain ⟨x4_h, e5⟩ := hq
    have hP : va_P (dC, dI) vwCl ([(o1, .inr (12, [.int v2, .ref o3, .int v5, .ref o6, .int v8, .ref o9, .ref o11, .int v13, .ref o14, .int v16, .ref o17, .int v19, .int v20, .int v21, .ref o22, .ref o24, .ref o26, .ref o28, .ref o30, .int v32, .ref o33, .ref o35, .ref o37, .int v39, .ref o40, .ref o42, .ref o44, .int v46, .ref o47])), (o6, .inl (cI, 12, .inl fw7))]) H := hP
    have hD : va_D A ([(o1, .inr (12, [.int v2, .ref o3, .int v5, .ref o6, .int v8, .ref o9, .ref o11, .int v13, .ref o14, .int v16, .ref o17, .int v19, .int v20, .int v21, .ref o22, .ref o24, .ref o26, .ref o28, .ref o30, .int v32, .ref o33, .ref o35, .ref o37, .int v39, .ref o40, .ref o42, .ref o44, .int v46, .ref o47])), (o6, .inl (cI, 12, .inl fw7))]) := hD
    refine lv_iconst (v := (-1)) hx hb dX12_sort_9 (by decide) ?_
    refine lv_ixor hx hb dX12_sort_10 (lv_topi (fun x6 x6_e => ?_))
    refine lv_iand hx hb dX12_sort_11 (lv_topi (fun x7 x7_e => ?_))
    have x7_h : Iv 0 2147483647 x7 := iv_e x7_e (iv_andL _ j3 (by decide))
    refine lv_if_eq (tgt := 17) hx hb dX12_sort_12 (by decide) (fun h8 => ?_) (fun h8 => ?_)
    ·
      have j9 : Iv 0 0 x7 := r_eq h8 ik_0
      refine lv_iload_n hx hb dX12_sort_17 rfl (lv_at hl 1 rfl) ?_
      refine kc_i (D := (dC, dI)) (S := Unit) (wc := []) (wr := [(o1, .inr (12, [.int v2, .ref o3, .int v5, .ref o6, .int v8, .ref o9, .ref o11, .int v13, .ref o14, .int v16, .ref o17, .int v19, .int v20, .int v21, .ref o22, .ref o24, .ref o26, .ref o28, .ref o30, .int v32, .ref o33, .ref o35, .ref o37, .int v39, .ref o40, .ref o42, .ref o44, .int v46, .ref o47])), (o6, .inl (cI, 12, .inl fw7))]) (w1 := fun _ => []) (wn := fun _ => [(o1, .inr (12, [.int v2, .ref o3, .int v5, .ref o6, .int v8, .ref o9, .ref o11, .int v13, .ref o14, .int v16, .ref o17, .int v19, .int v20, .int v21, .ref o22, .ref o24, .ref o26, .ref o28, .ref o30, .int v32, .ref o33, .ref o35, .ref o37, .int v39, .ref o40, .ref o42, .ref o44, .int v46, .ref o47])), (o6, .inl (cI, 12, .inl fw7))]) (fun hPc hDc => va_runS (As := [.int a1]) (rest := []) ⟨hx, hb, hml, hown, hts⟩ (kX12_bits_1 l dC dI cI c2 cZ a1 H.size) (va_cwS 1 hts gX12_sort_X12_bits rfl rfl rfl (by decide +kernel) ⟨Nat.le_of_ble_eq_true rfl, Nat.le_of_ble_eq_true rfl⟩) (pre_S hPc hK hDc hN) rfl rfl hl.1 rfl (lv_room (Nat.le_of_ble_eq_true rfl)) dX12_sort_18 ⟨Nat.le_of_ble_eq_true rfl, Nat.le_of_ble_eq_true rfl⟩) hP hD hS hA [] [0, 1] [0, 1] rfl rfl (by decide +kernel) (by decide +kernel) (by decide +kernel) (by decide +kernel) (fun _ => rfl) (fun x10 _ H locs hq hP hD hS => ?_)
      obtain ⟨x10_h, e11⟩ := hq
      have hP : va_P (dC, dI) vwCl ([(o1, .inr (12, [.int v2, .ref o3, .int v5, .ref o6, .int v8, .ref o9, .ref o11, .int v13, .ref o14, .int v16, .ref o17, .int v19, .int v20, .int v21, .ref o22, .ref o24, .ref o26, .ref o28, .ref o30, .int v32, .ref o33, .ref o35, .ref o37, .int v39, .ref o40, .ref o42, .ref o44, .int v46, .ref o47])), (o6, .inl (cI, 12, .inl fw7))]) H := hP
      have hD : va_D A ([(o1, .inr (12, [.int v2, .ref o3, .int v5, .ref o6, .int v8, .ref o9, .ref o11, .int v13, .ref o14, .int v16, .ref o17, .int v19, .int v20, .int v21, .ref o22, .ref o24, .ref o26, .ref o28, .ref o30, .int v32, .ref o33, .ref o35, .ref o37, .int v39, .ref o40, .ref o42, .ref o44, .int v46, .ref o47])), (o6, .inl (cI, 12, .inl fw7))]) := hD
      refine lv_iconst (v := 1) hx hb dX12_sort_21 (by decide) ?_
      refine lv_icmp_ne (tgt := 29) hx hb dX12_sort_22 (by decide) (fun h12 => ?_) (fun h12 => ?_)
      ·
        refine lv_aload_n hx hb dX12_sort_29 rfl (lv_at hl 0 rfl) ?_
        refine lv_iload_n hx hb dX12_sort_30 rfl (lv_at hl 1 rfl) ?_
        refine kc_i (D := (dC, dI)) (S := Unit) (wc := [(o1, .inr (12, [.int v2, .ref o3, .int v5, .ref o6, .int v8, .ref o9, .ref o11, .int v13, .ref o14, .int v16, .ref o17, .int v19, .int v20, .int v21, .ref o22, .ref o24, .ref o26, .ref o28, .ref o30, .int v32, .ref o33, .ref o35, .ref o37, .int v39, .ref o40, .ref o42, .ref o44, .int v46, .ref o47])), (o6, .inl (cI, 12, .inl fw7))]) (wr := []) (w1 := fun _ => [(o1, .inr (12, [.int v2, .ref o3, .int v5, .ref o6, .int v8, .ref o9, .ref o11, .int v13, .ref o14, .int v16, .ref o17, .int v19, .int v20, .int v21, .ref o22, .ref o24, .ref o26, .ref o28, .ref o30, .int v32, .ref o33, .ref o35, .ref o37, .int v39, .ref o40, .ref o42, .ref o44, .int v46, .ref o47])), (o6, .inl (cI, 12, .inl fw7))]) (wn := fun _ => [(o1, .inr (12, [.int v2, .ref o3, .int v5, .ref o6, .int v8, .ref o9, .ref o11, .int v13, .ref o14, .int v16, .ref o17, .int v19, .int v20, .int v21, .ref o22, .ref o24, .ref o26, .ref o28, .ref o30, .int v32, .ref o33, .ref o35, .ref o37, .int v39, .ref o40, .ref o42, .ref o44, .int v46, .ref o47])), (o6, .inl (cI, 12, .inl fw7))]) (fun hPc hDc => va_runV (As := [.int a1]) (rest := []) ⟨hx, hb, hml, hown, hts⟩ (kX12_isClique_1 l dC dI cI c2 cZ o1 o3 o6 o9 o11 o14 o17 o22 o24 o26 o28 o30 o33 o35 o37 o40 o42 o44 o47 v2 v5 fw7 v8 v13 v16 v19 v20 v21 v32 v39 v46 a1 H.size v5_h fw7_b v8_h v13_h v16_h v19_h v32_h v39_h v46_h) (cwV 1 hts gX12_sort_X12_isClique rfl rfl rfl (by decide +kernel) ⟨Nat.le_of_ble_eq_true rfl, Nat.le_of_ble_eq_true rfl⟩) (pre_V hPc hK hDc hN (ci := 12) (q0 := 0) rfl rfl) rfl rfl hl.1 rfl (lv_room (Nat.le_of_ble_eq_true rfl)) dX12_sort_31 ⟨Nat.le_of_ble_eq_true rfl, Nat.le_of_ble_eq_true rfl⟩) hP hD hS hA [0, 1] [] [0, 1] rfl rfl (by decide +kernel) (by decide +kernel) (by decide +kernel) (by decide +kernel) (fun _ => rfl) (fun x13 _ H locs hq hP hD hS => ?_)
        obtain ⟨x13_h, e14⟩ := hq
        have hP : va_P (dC, dI) vwCl ([(o1, .inr (12, [.int v2, .ref o3, .int v5, .ref o6, .int v8, .ref o9, .ref o11, .int v13, .ref o14, .int v16, .ref o17, .int v19, .int v20, .int v21, .ref o22, .ref o24, .ref o26, .ref o28, .ref o30, .int v32, .ref o33, .ref o35, .ref o37, .int v39, .ref o40, .ref o42, .ref o44, .int v46, .ref o47])), (o6, .inl (cI, 12, .inl fw7))]) H := hP
        have hD : va_D A ([(o1, .inr (12, [.int v2, .ref o3, .int v5, .ref o6, .int v8, .ref o9, .ref o11, .int v13, .ref o14, .int v16, .ref o17, .int v19, .int v20, .int v21, .ref o22, .ref o24, .ref o26, .ref o28, .ref o30, .int v32, .ref o33, .ref o35, .ref o37, .int v39, .ref o40, .ref o42, .ref o44, .int v46, .ref o47])), (o6, .inl (cI, 12, .inl fw7))]) := hD
        refine lv_if_eq (tgt := 41) hx hb dX12_sort_34 (by decide) (fun h15 => ?_) (fun h15 => ?_)
        ·
          have j16 : Iv 0 0 x13 := r_eq h15 ik_0
          refine lv_aload_n hx hb dX12_sort_41 rfl (lv_at hl 0 rfl) ?_
          refine lv_iload_n hx hb dX12_sort_42 rfl (lv_at hl 1 rfl) ?_
          refine kc_i (D := (dC, dI)) (S := Unit) (wc := [(o1, .inr (12, [.int v2, .ref o3, .int v5, .ref o6, .int v8, .ref o9, .ref o11, .int v13, .ref o14, .int v16, .ref o17, .int v19, .int v20, .int v21, .ref o22, .ref o24, .ref o26, .ref o28, .ref o30, .int v32, .ref o33, .ref o35, .ref o37, .int v39, .ref o40, .ref o42, .ref o44, .int v46, .ref o47])), (o6, .inl (cI, 12, .inl fw7))]) (wr := []) (w1 := fun _ => [(o1, .inr (12, [.int v2, .ref o3, .int v5, .ref o6, .int v8, .ref o9, .ref o11, .int v13, .ref o14, .int v16, .ref o17, .int v19, .int v20, .int v21, .ref o22, .ref o24, .ref o26, .ref o28, .ref o30, .int v32, .ref o33, .ref o35, .ref o37, .int v39, .ref o40, .ref o42, .ref o44, .int v46, .ref o47])), (o6, .inl (cI, 12, .inl fw7))]) (wn := fun _ => [(o1, .inr (12, [.int v2, .ref o3, .int v5, .ref o6, .int v8, .ref o9, .ref o11, .int v13, .ref o14, .int v16, .ref o17, .int v19, .int v20, .int v21, .ref o22, .ref o24, .ref o26, .ref o28, .ref o30, .int v32, .ref o33, .ref o35, .ref o37, .int v39, .ref o40, .ref o42, .ref o44, .int v46, .ref o47])), (o6, .inl (cI, 12, .inl fw7))]) (fun hPc hDc => va_runV (As := [.int a1]) (rest := []) ⟨hx, hb, hml, hown, hts⟩ (kX12_isApart_1 l dC dI cI c2 cZ o1 o3 o6 o9 o11 o14 o17 o22 o24 o26 o28 o30 o33 o35 o37 o40 o42 o44 o47 v2 v5 fw7 v8 v13 v16 v19 v20 v21 v32 v39 v46 a1 H.size v5_h fw7_b v8_h v13_h v16_h v19_h v32_h v39_h v46_h) (cwV 1 hts gX12_sort_X12_isApart rfl rfl rfl (by decide +kernel) ⟨Nat.le_of_ble_eq_true rfl, Nat.le_of_ble_eq_true rfl⟩) (pre_V hPc hK hDc hN (ci := 12) (q0 := 0) rfl rfl) rfl rfl hl.1 rfl (lv_room (Nat.le_of_ble_eq_true rfl)) dX12_sort_43 ⟨Nat.le_of_ble_eq_true rfl, Nat.le_of_ble_eq_true rfl⟩) hP hD hS hA [0, 1] [] [0, 1] rfl rfl (by decide +kernel) (by decide +kernel) (by decide +kernel) (by decide +kernel) (fun _ => rfl) (fun x17 _ H locs hq hP hD hS => ?_)
          have x17_h := hq
          have hP : va_P (dC, dI) vwCl ([(o1, .inr (12, [.int v2, .ref o3, .int v5, .ref o6, .int v8, .ref o9, .ref o11, .int v13, .ref o14, .int v16, .ref o17, .int v19, .int v20, .int v21, .ref o22, .ref o24, .ref o26, .ref o28, .ref o30, .int v32, .ref o33, .ref o35, .ref o37, .int v39, .ref o40, .ref o42, .ref o44, .int v46, .ref o47])), (o6, .inl (cI, 12, .inl fw7))]) H := hP
          have hD : va_D A ([(o1, .inr (12, [.int v2, .ref o3, .int v5, .ref o6, .int v8, .ref o9, .ref o11, .int v13, .ref o14, .int v16, .ref o17, .int v19, .int v20, .int v21, .ref o22, .ref o24, .ref o26, .ref o28, .ref o30, .int v32, .ref o33, .ref o35, .ref o37, .int v39, .ref o40, .ref o42, .ref o44, .int v46, .ref o47])), (o6, .inl (cI, 12, .inl fw7))]) := hD
          refine lv_if_eq (tgt := 53) hx hb dX12_sort_46 (by decide) (fun h18 => ?_) (fun h18 => ?_)
          ·
            have j19 : Iv 0 0 x17 := r_eq h18 ik_0
            refine lv_iconst (v := 0) hx hb dX12_sort_53 (by decide) ?_
            rw [hQ]
            exact W.iret (v := 0) hx hb hr (fun t ht hW => ⟨⟨0, (), rfl, (iv_w ik_0 (by decide)), by rw [ht]; exact hP, va_K.moved hW.alike hK, hD⟩, hS.F ht⟩) hS.2.2 dX12_sort_54
          ·
            have j20 : Iv 1 1 x17 := r_nelo h18 x17_h ik_0 (by decide)
            refine lv_iconst (v := 2) hx hb dX12_sort_49 (by decide) ?_
            refine lv_goto (tgt := 54) hx hb dX12_sort_50 (by decide) ?_
            rw [hQ]
            exact W.iret (v := 2) hx hb hr (fun t ht hW => ⟨⟨2, (), rfl, (iv_w ik_2 (by decide)), by rw [ht]; exact hP, va_K.moved hW.alike hK, hD⟩, hS.F ht⟩) hS.2.2 dX12_sort_54
        ·
          have j21 : Iv 1 1 x13 := r_nelo h15 x13_h ik_0 (by decide)
          refine lv_iconst (v := 1) hx hb dX12_sort_37 (by decide) ?_
          refine lv_goto (tgt := 54) hx hb dX12_sort_38 (by decide) ?_
          rw [hQ]
          exact W.iret (v := 1) hx hb hr (fun t ht hW => ⟨⟨1, (), rfl, (iv_w ik_1 (by decide)), by rw [ht]; exact hP, va_K.moved hW.alike hK, hD⟩, hS.F ht⟩) hS.2.2 dX12_sort_54
      ·
        have j22 : Iv 1 1 x10 := r_eq h12 ik_1
        refine lv_iconst (v := 3) hx hb dX12_sort_25 (by decide) ?_
        refine lv_goto (tgt := 54) hx hb dX12_sort_26 (by decide) ?_
        rw [hQ]
        exact W.iret (v := 3) hx hb hr (fun t ht hW => ⟨⟨3, (), rfl, (iv_w ik_3 (by decide)), by rw [ht]; exact hP, va_K.moved hW.alike hK, hD⟩, hS.F ht⟩) hS.2.2 dX12_sort_54
    ·
      have j23 : Iv 1 2147483647 x7 := r_nelo h8 x7_h ik_0 (by decide)
      refine lv_iconst (v := (-1)) hx hb dX12_sort_15 (by decide) ?_
      rw [hQ]
      exact W.iret (v := (-1)) hx hb hr (fun t ht hW => ⟨⟨(-1), (), rfl, (iv_w ikm_1 (by decide)), by rw [ht]; exact hP, va_K.moved hW.alike hK, hD⟩, hS.F ht⟩) hS.2.2 dX12_sort_16
theorem iw_X12_isColoured_X12 : ∀ w ∈ wsX120, w ∈ wsX12_isColoured := fun _ h => List.mem_cons.mpr (Or.inr (List.mem_append.mpr (Or.inr h)))
set_option maxHeartbeats 4000000 in
set_option maxRecDepth 100000 in
theorem kX12_isColoured_1 (l : Launch) (dC : Nat → ClassId) (dI : Nat → Nat → Nat) (cI c2 cZ : ClassId) (o1 : Nat) (o3 : Nat) (o6 : Nat) (o9 : Nat) (o11 : Nat) (o14 : Nat) (o17 : Nat) (o22 : Nat) (o24 : Nat) (o26 : Nat) (o28 : Nat) (o30 : Nat) (o33 : Nat) (o35 : Nat) (o37 : Nat) (o40 : Nat) (o42 : Nat) (o44 : Nat) (o47 : Nat) (v2 : Int32) (v5 : Int32) (fw7 : Nat → Int32) (v8 : Int32) (v13 : Int32) (v16 : Int32) (v19 : Int32) (v20 : Int32) (v21 : Int32) (v32 : Int32) (fw34 : Nat → Int32) (v39 : Int32) (v46 : Int32) (a2 : Int32) (sz : Nat) (v5_h : Iv 12 12 v5) (fw7_b : Bd 12 0 4095 fw7) (v8_h : Iv 0 8 v8) (v13_h : Iv 0 12 v13) (v16_h : Iv 0 12 v16) (v19_h : Iv (-9) 12 v19) (v32_h : Iv 0 99 v32) (fw34_b : Bd 12 0 11 fw34) (v39_h : Iv 0 12 v39) (v46_h : Iv 0 12 v46) (a2_h : Iv 0 12 a2) : Met l yX12_isColoured wsX12_isColoured ({ frames := 0, cells := 0, slots := 0, locals := 0 }) (va_Pc [.ref o1, .int 12, .int a2] (wPre (dC, dI) [(cI, .int), (c2, .array .int), (cZ, .boolean)] ([(o1, .inr (12, [.int v2, .ref o3, .int v5, .ref o6, .int v8, .ref o9, .ref o11, .int v13, .ref o14, .int v16, .ref o17, .int v19, .int v20, .int v21, .ref o22, .ref o24, .ref o26, .ref o28, .ref o30, .int v32, .ref o33, .ref o35, .ref o37, .int v39, .ref o40, .ref o42, .ref o44, .int v46, .ref o47])), (o33, .inl (cI, 12, .inl fw34)), (o6, .inl (cI, 12, .inl fw7))]) sz)) (va_Qi (fun (r : Int32) (_ : Unit) => Iv 1 1 r ∧ (∀ i8, i8 < 12 → fw34 i8 = fw34 i8) ∧ (Int32.toInt v5 ≤ Int32.toInt a2 → ¬ r = 0)) (fun _ t => wPost (dC, dI) [(cI, .int), (c2, .array .int), (cZ, .boolean)] (va_A ([(o1, .inr (12, [.int v2, .ref o3, .int v5, .ref o6, .int v8, .ref o9, .ref o11, .int v13, .ref o14, .int v16, .ref o17, .int v19, .int v20, .int v21, .ref o22, .ref o24, .ref o26, .ref o28, .ref o30, .int v32, .ref o33, .ref o35, .ref o37, .int v39, .ref o40, .ref o42, .ref o44, .int v46, .ref o47])), (o33, .inl (cI, 12, .inl fw34)), (o6, .inl (cI, 12, .inl fw7))]) sz) ([(o1, .inr (12, [.int v2, .ref o3, .int v5, .ref o6, .int v8, .ref o9, .ref o11, .int v13, .ref o14, .int v16, .ref o17, .int v19, .int v20, .int v21, .ref o22, .ref o24, .ref o26, .ref o28, .ref o30, .int v32, .ref o33, .ref o35, .ref o37, .int v39, .ref o40, .ref o42, .ref o44, .int v46, .ref o47])), (o33, .inl (cI, 12, .inl fw34)), (o6, .inl (cI, 12, .inl fw7))]) t) (va_A ([(o1, .inr (12, [.int v2, .ref o3, .int v5, .ref o6, .int v8, .ref o9, .ref o11, .int v13, .ref o14, .int v16, .ref o17, .int v19, .int v20, .int v21, .ref o22, .ref o24, .ref o26, .ref o28, .ref o30, .int v32, .ref o33, .ref o35, .ref o37, .int v39, .ref o40, .ref o42, .ref o44, .int v46, .ref o47])), (o33, .inl (cI, 12, .inl fw34)), (o6, .inl (cI, 12, .inl fw7))]) sz)) 0 0 (va_A ([(o1, .inr (12, [.int v2, .ref o3, .int v5, .ref o6, .int v8, .ref o9, .ref o11, .int v13, .ref o14, .int v16, .ref o17, .int v19, .int v20, .int v21, .ref o22, .ref o24, .ref o26, .ref o28, .ref o30, .int v32, .ref o33, .ref o35, .ref o37, .int v39, .ref o40, .ref o42, .ref o44, .int v46, .ref o47])), (o33, .inl (cI, 12, .inl fw34)), (o6, .inl (cI, 12, .inl fw7))]) sz) := by
  refine Met.ofW (cc := cX12_isColoured) (maxL := 6) (ret := (some .boolean)) (by decide) rfl ?_
  intro p e s m args below meth c s₁ B hml hv
  obtain ⟨rfl, hsz, hP, hK, hD0, hN⟩ := hv
  have hx := B.exec
  have hb := B.bytes
  have hr := B.returns
  have hts := atoms_spec (ws := wsX12_isColoured) B.pre
  have hown : s.vm.findClass RX12 = some m.cls := findClass_of_methodNamed B.named
  have hlocks := B.notSynchronized
  subst hsz
  have hD := hD0.self (sz := s.heap.size)
  generalize hAe : va_A ([(o1, .inr (12, [.int v2, .ref o3, .int v5, .ref o6, .int v8, .ref o9, .ref o11, .int v13, .ref o14, .int v16, .ref o17, .int v19, .int v20, .int v21, .ref o22, .ref o24, .ref o26, .ref o28, .ref o30, .int v32, .ref o33, .ref o35, .ref o37, .int v39, .ref o40, .ref o42, .ref o44, .int v46, .ref o47])), (o33, .inl (cI, 12, .inl fw34)), (o6, .inl (cI, 12, .inl fw7))]) s.heap.size = A at hD ⊢
  have hA : ∀ q : Nat, s.heap.size ≤ q → A q := fun q h => by rw [← hAe]; exact Or.inr h
  have hS : va_S A s.heap s.heap [] := va_S.rf
  have hP : va_P (dC, dI) vwCl ([(o1, .inr (12, [.int v2, .ref o3, .int v5, .ref o6, .int v8, .ref o9, .ref o11, .int v13, .ref o14, .int v16, .ref o17, .int v19, .int v20, .int v21, .ref o22, .ref o24, .ref o26, .ref o28, .ref o30, .int v32, .ref o33, .ref o35, .ref o37, .int v39, .ref o40, .ref o42, .ref o44, .int v46, .ref o47])), (o33, .inl (cI, 12, .inl fw34)), (o6, .inl (cI, 12, .inl fw7))]) s.heap := hP
  have hl := lv_entry ([.ref o1, .int 12, .int a2]) (n := 6) (Nat.le_of_ble_eq_true rfl)
  rw [lg_entry_eq]
  generalize (lg_sl ([.ref o1, .int 12, .int a2]) ++ List.replicate (6 - (lg_sl ([.ref o1, .int 12, .int a2])).length) Slot.unset).toArray = ls at hl ⊢
  have hl : lv_has ls 6 [(0, .ref o1), (1, .int 12), (2, .int a2)] := hl
  refine gen_Q (fun Q hQ => ?_)
  refine lv_iload_n hx hb dX12_isColoured_0 rfl (lv_at hl 1 rfl) ?_
  refine lv_aload_n hx hb dX12_isColoured_1 rfl (lv_at hl 0 rfl) ?_
  refine va_get (D := (dC, dI)) (ci := 12) (v := .int v5) (C := RX12) (T := TX12) (N := 29) hx hb hts iw_X12_isColoured_X12 hown hK hP 0 rfl rfl 2 (by decide) (hts (.fieldLink RX12 73 "HolelessHouseModel" "n" "I") hm_X12_isColoured_1) (fun _ h9 => h9) rfl dX12_isColoured_2 ?_
  refine lv_icmp_ne (tgt := 10) hx hb dX12_isColoured_5 (by decide) (fun h9 => absurd (d_eq ik_12 v5_h) h9) (fun _ => ?_)
  refine lv_iconst (v := 1) hx hb dX12_isColoured_8 (by decide) ?_
  rw [hQ]
  exact W.zret (v := 1) (ty := .boolean) hx hb hr rfl (fun t ht hW => ⟨⟨1, (), rfl, ⟨ik_1, (fun _ _ => rfl), (fun _ h8 => absurd h8 (by decide +kernel))⟩, by rw [ht]; exact hP, va_K.moved hW.alike hK, hD⟩, hS.F ht⟩) hS.2.2 dX12_isColoured_9
set_option maxHeartbeats 4000000 in
set_option maxRecDepth 100000 in
theorem kX12_isColoured_2 (l : Launch) (dC : Nat → ClassId) (dI : Nat → Nat → Nat) (cI c2 cZ : ClassId) (o1 : Nat) (o3 : Nat) (o6 : Nat) (o9 : Nat) (o11 : Nat) (o14 : Nat) (o17 : Nat) (o22 : Nat) (o24 : Nat) (o26 : Nat) (o28 : Nat) (o30 : Nat) (o33 : Nat) (o35 : Nat) (o37 : Nat) (o40 : Nat) (o42 : Nat) (o44 : Nat) (o47 : Nat) (v2 : Int32) (v5 : Int32) (fw7 : Nat → Int32) (v8 : Int32) (v13 : Int32) (v16 : Int32) (v19 : Int32) (v20 : Int32) (v21 : Int32) (v32 : Int32) (fw34 : Nat → Int32) (v39 : Int32) (v46 : Int32) (a2 : Int32) (sz : Nat) (v5_h : Iv 11 12 v5) (fw7_b : Bd 12 0 4095 fw7) (v8_h : Iv 0 8 v8) (v13_h : Iv 0 12 v13) (v16_h : Iv 0 12 v16) (v19_h : Iv (-9) 12 v19) (v32_h : Iv 0 99 v32) (fw34_b : Bd 12 0 11 fw34) (v39_h : Iv 0 12 v39) (v46_h : Iv 0 12 v46) (a2_h : Iv 0 12 a2) : Met l yX12_isColoured wsX12_isColoured ({ frames := 1, cells := 0, slots := 0, locals := 25 }) (va_Pc [.ref o1, .int 11, .int a2] (wPre (dC, dI) [(cI, .int), (c2, .array .int), (cZ, .boolean)] ([(o1, .inr (12, [.int v2, .ref o3, .int v5, .ref o6, .int v8, .ref o9, .ref o11, .int v13, .ref o14, .int v16, .ref o17, .int v19, .int v20, .int v21, .ref o22, .ref o24, .ref o26, .ref o28, .ref o30, .int v32, .ref o33, .ref o35, .ref o37, .int v39, .ref o40, .ref o42, .ref o44, .int v46, .ref o47])), (o6, .inl (cI, 12, .inl fw7)), (o33, .inl (cI, 12, .inl fw34))]) sz)) (va_Qi (fun (r : Int32) (u : (Nat → Int32)) => Iv 0 1 r ∧ Bd 12 0 11 u ∧ (∀ i8, i8 < 11 → u i8 = fw34 i8) ∧ (Int32.toInt v5 ≤ Int32.toInt a2 → ¬ r = 0)) (fun u t => wPost (dC, dI) [(cI, .int), (c2, .array .int), (cZ, .boolean)] (va_A ([(o1, .inr (12, [.int v2, .ref o3, .int v5, .ref o6, .int v8, .ref o9, .ref o11, .int v13, .ref o14, .int v16, .ref o17, .int v19, .int v20, .int v21, .ref o22, .ref o24, .ref o26, .ref o28, .ref o30, .int v32, .ref o33, .ref o35, .ref o37, .int v39, .ref o40, .ref o42, .ref o44, .int v46, .ref o47])), (o6, .inl (cI, 12, .inl fw7)), (o33, .inl (cI, 12, .inl fw34))]) sz) ([(o1, .inr (12, [.int v2, .ref o3, .int v5, .ref o6, .int v8, .ref o9, .ref o11, .int v13, .ref o14, .int v16, .ref o17, .int v19, .int v20, .int v21, .ref o22, .ref o24, .ref o26, .ref o28, .ref o30, .int v32, .ref o33, .ref o35, .ref o37, .int v39, .ref o40, .ref o42, .ref o44, .int v46, .ref o47])), (o6, .inl (cI, 12, .inl fw7)), (o33, .inl (cI, 12, .inl u))]) t) (va_A ([(o1, .inr (12, [.int v2, .ref o3, .int v5, .ref o6, .int v8, .ref o9, .ref o11, .int v13, .ref o14, .int v16, .ref o17, .int v19, .int v20, .int v21, .ref o22, .ref o24, .ref o26, .ref o28, .ref o30, .int v32, .ref o33, .ref o35, .ref o37, .int v39, .ref o40, .ref o42, .ref o44, .int v46, .ref o47])), (o6, .inl (cI, 12, .inl fw7)), (o33, .inl (cI, 12, .inl fw34))]) sz)) 0 0 (va_A ([(o1, .inr (12, [.int v2, .ref o3, .int v5, .ref o6, .int v8, .ref o9, .ref o11, .int v13, .ref o14, .int v16, .ref o17, .int v19, .int v20, .int v21, .ref o22, .ref o24, .ref o26, .ref o28, .ref o30, .int v32, .ref o33, .ref o35, .ref o37, .int v39, .ref o40, .ref o42, .ref o44, .int v46, .ref o47])), (o6, .inl (cI, 12, .inl fw7)), (o33, .inl (cI, 12, .inl fw34))]) sz) := by
  refine Met.ofW (cc := cX12_isColoured) (maxL := 6) (ret := (some .boolean)) (by decide) rfl ?_
  intro p e s m args below meth c s₁ B hml hv
  obtain ⟨rfl, hsz, hP, hK, hD0, hN⟩ := hv
  have hx := B.exec
  have hb := B.bytes
  have hr := B.returns
  have hts := atoms_spec (ws := wsX12_isColoured) B.pre
  have hown : s.vm.findClass RX12 = some m.cls := findClass_of_methodNamed B.named
  have hlocks := B.notSynchronized
  subst hsz
  have hD := hD0.self (sz := s.heap.size)
  generalize hAe : va_A ([(o1, .inr (12, [.int v2, .ref o3, .int v5, .ref o6, .int v8, .ref o9, .ref o11, .int v13, .ref o14, .int v16, .ref o17, .int v19, .int v20, .int v21, .ref o22, .ref o24, .ref o26, .ref o28, .ref o30, .int v32, .ref o33, .ref o35, .ref o37, .int v39, .ref o40, .ref o42, .ref o44, .int v46, .ref o47])), (o6, .inl (cI, 12, .inl fw7)), (o33, .inl (cI, 12, .inl fw34))]) s.heap.size = A at hD ⊢
  have hA : ∀ q : Nat, s.heap.size ≤ q → A q := fun q h => by rw [← hAe]; exact Or.inr h
  have hS : va_S A s.heap s.heap [] := va_S.rf
  have hP : va_P (dC, dI) vwCl ([(o1, .inr (12, [.int v2, .ref o3, .int v5, .ref o6, .int v8, .ref o9, .ref o11, .int v13, .ref o14, .int v16, .ref o17, .int v19, .int v20, .int v21, .ref o22, .ref o24, .ref o26, .ref o28, .ref o30, .int v32, .ref o33, .ref o35, .ref o37, .int v39, .ref o40, .ref o42, .ref o44, .int v46, .ref o47])), (o6, .inl (cI, 12, .inl fw7)), (o33, .inl (cI, 12, .inl fw34))]) s.heap := hP
  have hl := lv_entry ([.ref o1, .int 11, .int a2]) (n := 6) (Nat.le_of_ble_eq_true rfl)
  rw [lg_entry_eq]
  generalize (lg_sl ([.ref o1, .int 11, .int a2]) ++ List.replicate (6 - (lg_sl ([.ref o1, .int 11, .int a2])).length) Slot.unset).toArray = ls at hl ⊢
  have hl : lv_has ls 6 [(0, .ref o1), (1, .int 11), (2, .int a2)] := hl
  refine gen_Q (fun Q hQ => ?_)
  refine lv_iload_n hx hb dX12_isColoured_0 rfl (lv_at hl 1 rfl) ?_
  refine lv_aload_n hx hb dX12_isColoured_1 rfl (lv_at hl 0 rfl) ?_
  refine va_get (D := (dC, dI)) (ci := 12) (v := .int v5) (C := RX12) (T := TX12) (N := 29) hx hb hts iw_X12_isColoured_X12 hown hK hP 0 rfl rfl 2 (by decide) (hts (.fieldLink RX12 73 "HolelessHouseModel" "n" "I") hm_X12_isColoured_1) (fun _ h9 => h9) rfl dX12_isColoured_2 ?_
  refine lv_icmp_ne (tgt := 10) hx hb dX12_isColoured_5 (by decide) (fun h1 => ?_) (fun h1 => ?_)
  ·
    have j2 : Iv 12 12 v5 := r_nelo (fun q => h1 q.symm) v5_h ik_11 (by decide)
    refine lv_iconst (v := 0) hx hb dX12_isColoured_10 (by decide) ?_
    refine lv_istore_n (lv' := [(3, .int 0), (0, .ref o1), (1, .int 11), (2, .int a2)]) hx hb dX12_isColoured_11 rfl hl (by decide) rfl (fun ls hl => ?_)
    have L9 : ∀ (N : Nat) (x613 : Int32) (f614 : Nat → Int32) (H : Heap) (locs : List Loc) (ls : Array Slot), (12 - x613.toInt).toNat < N → Iv 0 12 x613 → Bd 12 0 11 f614 → (∀ i8, i8 < 11 → f614 i8 = fw34 i8) → (Int32.toInt v5 ≤ Int32.toInt a2 → CW fw34 11 (Int32.toNatClampNeg x613)) → va_P (dC, dI) vwCl ([(o1, .inr (12, [.int v2, .ref o3, .int v5, .ref o6, .int v8, .ref o9, .ref o11, .int v13, .ref o14, .int v16, .ref o17, .int v19, .int v20, .int v21, .ref o22, .ref o24, .ref o26, .ref o28, .ref o30, .int v32, .ref o33, .ref o35, .ref o37, .int v39, .ref o40, .ref o42, .ref o44, .int v46, .ref o47])), (o6, .inl (cI, 12, .inl fw7)), (o33, .inl (cI, 12, .inl f614))]) H → va_D A ([(o1, .inr (12, [.int v2, .ref o3, .int v5, .ref o6, .int v8, .ref o9, .ref o11, .int v13, .ref o14, .int v16, .ref o17, .int v19, .int v20, .int v21, .ref o22, .ref o24, .ref o26, .ref o28, .ref o30, .int v32, .ref o33, .ref o35, .ref o37, .int v39, .ref o40, .ref o42, .ref o44, .int v46, .ref o47])), (o6, .inl (cI, 12, .inl fw7)), (o33, .inl (cI, 12, .inl f614))]) → va_S A s.heap H locs → lv_has ls 6 [(3, .int x613), (0, .ref o1), (1, .int 11), (2, .int a2)] → W p l e ({ frames := 1, cells := 0, slots := 0, locals := 25 }) s m ([.ref o1, .int 11, .int a2] : List Value).toArray below meth c H locs 0 0 Q (F0 m 12 ls []) := by
      intro N
      induction N with
      | zero =>
        intro x613 f614 H locs ls hM
        exact absurd hM (Nat.not_lt_zero _)
      | succ N ih9 =>
        intro x613 f614 H locs ls hM9 x613_h f614_b iv9_0 iv9_1 hP hD hS hl
        refine lv_iload_n hx hb dX12_isColoured_12 rfl (lv_at hl 0 rfl) ?_
        refine lv_iload_n hx hb dX12_isColoured_13 rfl (lv_at hl 3 rfl) ?_
        refine lv_icmp_ge (tgt := 103) hx hb dX12_isColoured_14 (by decide) (fun h615 => ?_) (fun h615 => ?_)
        ·
          have qh615 := le_i h615
          refine lv_iconst (v := 0) hx hb dX12_isColoured_103 (by decide) ?_
          rw [hQ]
          exact W.zret (v := 0) (ty := .boolean) hx hb hr rfl (fun t ht hW => ⟨⟨0, f614, rfl, ⟨(iv_w ik_0 (by decide)), f614_b, iv9_0, (fun h8 => (co_no (iv9_1 h8) qh615 a2_h h8 (show (11 : Int) + 1 ≤ _ from (show _ ≤ _ ∧ _ ≤ _ from j2).1)).elim)⟩, by rw [ht]; exact hP, va_K.moved hW.alike hK, hD⟩, hS.F ht⟩) hS.2.2 dX12_isColoured_104
        ·
          have qh615 := nle_i h615
          have j616 : Iv 0 11 x613 := r_ltl qh615 x613_h a2_h (by decide)
          have j617 : Iv 1 12 a2 := r_ltr qh615 x613_h a2_h (by decide)
          refine lv_iconst (v := 1) hx hb dX12_isColoured_17 (by decide) ?_
          refine lv_istore (lv' := [(4, .int 1), (3, .int x613), (0, .ref o1), (1, .int 11), (2, .int a2)]) hx hb dX12_isColoured_18 hl (by decide) rfl (fun ls hl => ?_)
          refine lv_iconst (v := 0) hx hb dX12_isColoured_20 (by decide) ?_
          refine lv_istore (lv' := [(5, .int 0), (4, .int 1), (3, .int x613), (0, .ref o1), (1, .int 11), (2, .int a2)]) hx hb dX12_isColoured_21 hl (by decide) rfl (fun ls hl => ?_)
          have L10 : ∀ (N : Nat) (x657 : Int32) (x658 : Int32) (H : Heap) (locs : List Loc) (ls : Array Slot), (11 - x657.toInt).toNat < N → Iv 0 11 x657 → Iv 0 1 x658 → (x658 = 0 → ∃ q, q < (Int32.toNatClampNeg x657) ∧ f614 q = x613) → va_P (dC, dI) vwCl ([(o1, .inr (12, [.int v2, .ref o3, .int v5, .ref o6, .int v8, .ref o9, .ref o11, .int v13, .ref o14, .int v16, .ref o17, .int v19, .int v20, .int v21, .ref o22, .ref o24, .ref o26, .ref o28, .ref o30, .int v32, .ref o33, .ref o35, .ref o37, .int v39, .ref o40, .ref o42, .ref o44, .int v46, .ref o47])), (o6, .inl (cI, 12, .inl fw7)), (o33, .inl (cI, 12, .inl f614))]) H → va_D A ([(o1, .inr (12, [.int v2, .ref o3, .int v5, .ref o6, .int v8, .ref o9, .ref o11, .int v13, .ref o14, .int v16, .ref o17, .int v19, .int v20, .int v21, .ref o22, .ref o24, .ref o26, .ref o28, .ref o30, .int v32, .ref o33, .ref o35, .ref o37, .int v39, .ref o40, .ref o42, .ref o44, .int v46, .ref o47])), (o6, .inl (cI, 12, .inl fw7)), (o33, .inl (cI, 12, .inl f614))]) → va_S A s.heap H locs → lv_has ls 6 [(5, .int x657), (4, .int x658), (3, .int x613), (0, .ref o1), (1, .int 11), (2, .int a2)] → W p l e ({ frames := 1, cells := 0, slots := 0, locals := 25 }) s m ([.ref o1, .int 11, .int a2] : List Value).toArray below meth c H locs 0 0 Q (F0 m 23 ls []) := by
            intro N
            induction N with
            | zero =>
              intro x657 x658 H locs ls hM
              exact absurd hM (Nat.not_lt_zero _)
            | succ N ih10 =>
              intro x657 x658 H locs ls hM10 x657_h x658_h iv10_0 hP hD hS hl
              refine lv_iload hx hb dX12_isColoured_23 (lv_at hl 0 rfl) ?_
              refine lv_iload_n hx hb dX12_isColoured_25 rfl (lv_at hl 4 rfl) ?_
              refine lv_icmp_ge (tgt := 72) hx hb dX12_isColoured_26 (by decide) (fun h659 => ?_) (fun h659 => ?_)
              ·
                have qh659 := le_i h659
                have j660 : Iv 11 11 x657 := r_ler qh659 ik_11 x657_h (by decide)
                refine lv_aload_n hx hb dX12_isColoured_72 rfl (lv_at hl 3 rfl) ?_
                refine va_get (D := (dC, dI)) (ci := 12) (v := .ref o33) (C := RX12) (T := TX12) (N := 29) hx hb hts iw_X12_isColoured_X12 hown hK hP 0 rfl rfl 20 (by decide) (hts (.fieldLink RX12 48 "HolelessHouseModel" "colours" "[I") hm_X12_isColoured_3) (fun _ h9 => h9) rfl dX12_isColoured_73 ?_
                refine lv_iload_n hx hb dX12_isColoured_76 rfl (lv_at hl 4 rfl) ?_
                refine lv_iload_n hx hb dX12_isColoured_77 rfl (lv_at hl 2 rfl) ?_
                refine k_iast hx hb hK hP hD hS 2 0 rfl rfl (vin_iv ik_11 (by decide)) dX12_isColoured_78 (fun f661 H locs f661_e hP hD hS => ?_)
                have f661_b : Bd 12 0 11 f661 := bd_upd f661_e f614_b j616 (by decide)
                have hP : va_P (dC, dI) vwCl ([(o1, .inr (12, [.int v2, .ref o3, .int v5, .ref o6, .int v8, .ref o9, .ref o11, .int v13, .ref o14, .int v16, .ref o17, .int v19, .int v20, .int v21, .ref o22, .ref o24, .ref o26, .ref o28, .ref o30, .int v32, .ref o33, .ref o35, .ref o37, .int v39, .ref o40, .ref o42, .ref o44, .int v46, .ref o47])), (o6, .inl (cI, 12, .inl fw7)), (o33, .inl (cI, 12, .inl f661))]) H := hP
                have hD : va_D A ([(o1, .inr (12, [.int v2, .ref o3, .int v5, .ref o6, .int v8, .ref o9, .ref o11, .int v13, .ref o14, .int v16, .ref o17, .int v19, .int v20, .int v21, .ref o22, .ref o24, .ref o26, .ref o28, .ref o30, .int v32, .ref o33, .ref o35, .ref o37, .int v39, .ref o40, .ref o42, .ref o44, .int v46, .ref o47])), (o6, .inl (cI, 12, .inl fw7)), (o33, .inl (cI, 12, .inl f661))]) := hD
                refine lv_iload hx hb dX12_isColoured_79 (lv_at hl 1 rfl) ?_
                refine lv_if_eq (tgt := 97) hx hb dX12_isColoured_81 (by decide) (fun h662 => ?_) (fun h662 => ?_)
                ·
                  have j663 : Iv 0 0 x658 := r_eq h662 ik_0
                  obtain ⟨x664, x664_e⟩ : ∃ z : Int32, z = x613 + 1 := ⟨_, rfl⟩
                  have x664_h : Iv 1 12 x664 := iv_e x664_e (iv_add j616 ik_1 (by decide))
                  refine lv_iinc (v := x664) (lv' := [(3, .int x664), (5, .int x657), (4, .int x658), (0, .ref o1), (1, .int 11), (2, .int a2)]) hx hb dX12_isColoured_97 hl (k := 2) rfl (incN (by decide +kernel) x664_e) (by decide) rfl (fun ls hl => ?_)
                  refine lv_goto (tgt := 12) hx hb dX12_isColoured_100 (by decide) ?_
                  exact ih9 x664 f661 _ _ _ (ms_up x664_e j616 (by decide) hM9) (iv_w x664_h (by decide)) f661_b (co_k f661_e (by decide +kernel) iv9_0) (fun h8 => CW_s (iv9_1 h8) (iv_w (c := 0) (d := 4095) j616 (by decide)) x664_e (co_w3 (iv10_0 h662) (Nat.le_of_eq (by rw [d_eq j660 ik_11]; decide +kernel)) iv9_0)) hP hD hS (lv_sub hl [0, 3, 4, 5] rfl)
                ·
                  have j665 : Iv 1 1 x658 := r_nelo h662 x658_h ik_0 (by decide)
                  refine lv_aload_n hx hb dX12_isColoured_84 rfl (lv_at hl 3 rfl) ?_
                  refine lv_iload_n hx hb dX12_isColoured_85 rfl (lv_at hl 4 rfl) ?_
                  refine lv_iconst (v := 1) hx hb dX12_isColoured_86 (by decide) ?_
                  refine lv_iadd hx hb dX12_isColoured_87 (tk_i (v := 12) (by decide +kernel) ?_)
                  refine lv_iload_n hx hb dX12_isColoured_88 rfl (lv_at hl 5 rfl) ?_
                  refine kc_i (D := (dC, dI)) (S := Unit) (wc := [(o1, .inr (12, [.int v2, .ref o3, .int v5, .ref o6, .int v8, .ref o9, .ref o11, .int v13, .ref o14, .int v16, .ref o17, .int v19, .int v20, .int v21, .ref o22, .ref o24, .ref o26, .ref o28, .ref o30, .int v32, .ref o33, .ref o35, .ref o37, .int v39, .ref o40, .ref o42, .ref o44, .int v46, .ref o47])), (o33, .inl (cI, 12, .inl f661)), (o6, .inl (cI, 12, .inl fw7))]) (wr := []) (w1 := fun _ => [(o1, .inr (12, [.int v2, .ref o3, .int v5, .ref o6, .int v8, .ref o9, .ref o11, .int v13, .ref o14, .int v16, .ref o17, .int v19, .int v20, .int v21, .ref o22, .ref o24, .ref o26, .ref o28, .ref o30, .int v32, .ref o33, .ref o35, .ref o37, .int v39, .ref o40, .ref o42, .ref o44, .int v46, .ref o47])), (o33, .inl (cI, 12, .inl f661)), (o6, .inl (cI, 12, .inl fw7))]) (wn := fun _ => [(o1, .inr (12, [.int v2, .ref o3, .int v5, .ref o6, .int v8, .ref o9, .ref o11, .int v13, .ref o14, .int v16, .ref o17, .int v19, .int v20, .int v21, .ref o22, .ref o24, .ref o26, .ref o28, .ref o30, .int v32, .ref o33, .ref o35, .ref o37, .int v39, .ref o40, .ref o42, .ref o44, .int v46, .ref o47])), (o6, .inl (cI, 12, .inl fw7)), (o33, .inl (cI, 12, .inl f661))]) (fun hPc hDc => va_runV (As := [.int 12, .int a2]) (rest := []) ⟨hx, hb, hml, hown, hts⟩ (kX12_isColoured_1 l dC dI cI c2 cZ o1 o3 o6 o9 o11 o14 o17 o22 o24 o26 o28 o30 o33 o35 o37 o40 o42 o44 o47 v2 v5 fw7 v8 v13 v16 v19 v20 v21 v32 f661 v39 v46 a2 H.size j2 fw7_b v8_h v13_h v16_h v19_h v32_h f661_b v39_h v46_h (iv_w j617 (by decide))) (cwV 2 hts gX12_isColoured_X12_isColoured rfl rfl rfl (by decide +kernel) ⟨Nat.le_of_ble_eq_true rfl, Nat.le_of_ble_eq_true rfl⟩) (pre_V hPc hK hDc hN (ci := 12) (q0 := 0) rfl rfl) rfl rfl hl.1 rfl (lv_room (Nat.le_of_ble_eq_true rfl)) dX12_isColoured_89 ⟨Nat.le_of_ble_eq_true rfl, Nat.le_of_ble_eq_true rfl⟩) hP hD hS hA [0, 2, 1] [] [0, 2, 1] rfl rfl (by decide +kernel) (by decide +kernel) (by decide +kernel) (by decide +kernel) (fun _ => rfl) (fun x666 _ H locs hq hP hD hS => ?_)
                  obtain ⟨x666_h, e667, e668⟩ := hq
                  have hP : va_P (dC, dI) vwCl ([(o1, .inr (12, [.int v2, .ref o3, .int v5, .ref o6, .int v8, .ref o9, .ref o11, .int v13, .ref o14, .int v16, .ref o17, .int v19, .int v20, .int v21, .ref o22, .ref o24, .ref o26, .ref o28, .ref o30, .int v32, .ref o33, .ref o35, .ref o37, .int v39, .ref o40, .ref o42, .ref o44, .int v46, .ref o47])), (o6, .inl (cI, 12, .inl fw7)), (o33, .inl (cI, 12, .inl f661))]) H := hP
                  have hD : va_D A ([(o1, .inr (12, [.int v2, .ref o3, .int v5, .ref o6, .int v8, .ref o9, .ref o11, .int v13, .ref o14, .int v16, .ref o17, .int v19, .int v20, .int v21, .ref o22, .ref o24, .ref o26, .ref o28, .ref o30, .int v32, .ref o33, .ref o35, .ref o37, .int v39, .ref o40, .ref o42, .ref o44, .int v46, .ref o47])), (o6, .inl (cI, 12, .inl fw7)), (o33, .inl (cI, 12, .inl f661))]) := hD
                  refine lv_if_eq (tgt := 97) hx hb dX12_isColoured_92 (by decide) (fun h9 => absurd h9 (d_ne x666_h ik_0 (by decide))) (fun _ => ?_)
                  refine lv_iconst (v := 1) hx hb dX12_isColoured_95 (by decide) ?_
                  rw [hQ]
                  exact W.zret (v := 1) (ty := .boolean) hx hb hr rfl (fun t ht hW => ⟨⟨1, f661, rfl, ⟨(iv_w ik_1 (by decide)), f661_b, (co_k f661_e (by decide +kernel) iv9_0), (fun _ h8 => absurd h8 (by decide +kernel))⟩, by rw [ht]; exact hP, va_K.moved hW.alike hK, hD⟩, hS.F ht⟩) hS.2.2 dX12_isColoured_96
              ·
                have qh659 := nle_i h659
                have j669 : Iv 0 10 x657 := r_ltl qh659 x657_h ik_11 (by decide)
                refine lv_iload hx hb dX12_isColoured_29 (lv_at hl 1 rfl) ?_
                refine lv_if_eq (tgt := 63) hx hb dX12_isColoured_31 (by decide) (fun h670 => ?_) (fun h670 => ?_)
                ·
                  have j671 : Iv 0 0 x658 := r_eq h670 ik_0
                  refine lv_iconst (v := 0) hx hb dX12_isColoured_63 (by decide) ?_
                  refine lv_istore (lv' := [(4, .int 0), (5, .int x657), (3, .int x613), (0, .ref o1), (1, .int 11), (2, .int a2)]) hx hb dX12_isColoured_64 hl (by decide) rfl (fun ls hl => ?_)
                  obtain ⟨x672, x672_e⟩ : ∃ z : Int32, z = x657 + 1 := ⟨_, rfl⟩
                  have x672_h : Iv 1 11 x672 := iv_e x672_e (iv_add j669 ik_1 (by decide))
                  refine lv_iinc (v := x672) (lv' := [(5, .int x672), (4, .int 0), (3, .int x613), (0, .ref o1), (1, .int 11), (2, .int a2)]) hx hb dX12_isColoured_66 hl (k := 1) rfl (incN (by decide +kernel) x672_e) (by decide) rfl (fun ls hl => ?_)
                  refine lv_goto (tgt := 23) hx hb dX12_isColoured_69 (by decide) ?_
                  exact ih10 x672 0 _ _ _ (ms_up x672_e j669 (by decide) hM10) (iv_w x672_h (by decide)) (iv_w ik_0 (by decide)) (fun _ => co_w1 (iv10_0 h670) (iv_w (c := 0) (d := 4095) j669 (by decide)) x672_e) hP hD hS hl
                ·
                  have j673 : Iv 1 1 x658 := r_nelo h670 x658_h ik_0 (by decide)
                  refine lv_aload_n hx hb dX12_isColoured_34 rfl (lv_at hl 3 rfl) ?_
                  refine va_get (D := (dC, dI)) (ci := 12) (v := .ref o6) (C := RX12) (T := TX12) (N := 29) hx hb hts iw_X12_isColoured_X12 hown hK hP 0 rfl rfl 3 (by decide) (hts (.fieldLink RX12 13 "HolelessHouseModel" "near" "[I") hm_X12_isColoured_2) (fun _ h9 => h9) rfl dX12_isColoured_35 ?_
                  refine lv_iload_n hx hb dX12_isColoured_38 rfl (lv_at hl 4 rfl) ?_
                  refine va_iald hx hb hK hP 1 0 rfl rfl (vin_iv ik_11 (by decide)) dX12_isColoured_39 (lv_topi (fun x674 x674_e => ?_))
                  have x674_h : Iv 0 4095 x674 := iv_e x674_e (bd_at fw7_b (vin_iv ik_11 (by decide)))
                  refine lv_iload hx hb dX12_isColoured_40 (lv_at hl 0 rfl) ?_
                  refine kc_i (D := (dC, dI)) (S := Unit) (wc := []) (wr := [(o1, .inr (12, [.int v2, .ref o3, .int v5, .ref o6, .int v8, .ref o9, .ref o11, .int v13, .ref o14, .int v16, .ref o17, .int v19, .int v20, .int v21, .ref o22, .ref o24, .ref o26, .ref o28, .ref o30, .int v32, .ref o33, .ref o35, .ref o37, .int v39, .ref o40, .ref o42, .ref o44, .int v46, .ref o47])), (o6, .inl (cI, 12, .inl fw7)), (o33, .inl (cI, 12, .inl f614))]) (w1 := fun _ => []) (wn := fun _ => [(o1, .inr (12, [.int v2, .ref o3, .int v5, .ref o6, .int v8, .ref o9, .ref o11, .int v13, .ref o14, .int v16, .ref o17, .int v19, .int v20, .int v21, .ref o22, .ref o24, .ref o26, .ref o28, .ref o30, .int v32, .ref o33, .ref o35, .ref o37, .int v39, .ref o40, .ref o42, .ref o44, .int v46, .ref o47])), (o6, .inl (cI, 12, .inl fw7)), (o33, .inl (cI, 12, .inl f614))]) (fun hPc hDc => va_runS (As := [.int x674, .int x657]) (rest := []) ⟨hx, hb, hml, hown, hts⟩ (kX12_has_1 l dC dI cI c2 cZ x674 x657 H.size (iv_w j669 (by decide))) (va_cwS 2 hts gX12_isColoured_X12_has rfl rfl rfl (by decide +kernel) ⟨Nat.le_of_ble_eq_true rfl, Nat.le_of_ble_eq_true rfl⟩) (pre_S hPc hK hDc hN) rfl rfl hl.1 rfl (lv_room (Nat.le_of_ble_eq_true rfl)) dX12_isColoured_42 ⟨Nat.le_of_ble_eq_true rfl, Nat.le_of_ble_eq_true rfl⟩) hP hD hS hA [] [0, 1, 2] [0, 1, 2] rfl rfl (by decide +kernel) (by decide +kernel) (by decide +kernel) (by decide +kernel) (fun _ => rfl) (fun x675 _ H locs hq hP hD hS => ?_)
                  obtain ⟨x675_h, e676⟩ := hq
                  have hP : va_P (dC, dI) vwCl ([(o1, .inr (12, [.int v2, .ref o3, .int v5, .ref o6, .int v8, .ref o9, .ref o11, .int v13, .ref o14, .int v16, .ref o17, .int v19, .int v20, .int v21, .ref o22, .ref o24, .ref o26, .ref o28, .ref o30, .int v32, .ref o33, .ref o35, .ref o37, .int v39, .ref o40, .ref o42, .ref o44, .int v46, .ref o47])), (o6, .inl (cI, 12, .inl fw7)), (o33, .inl (cI, 12, .inl f614))]) H := hP
                  have hD : va_D A ([(o1, .inr (12, [.int v2, .ref o3, .int v5, .ref o6, .int v8, .ref o9, .ref o11, .int v13, .ref o14, .int v16, .ref o17, .int v19, .int v20, .int v21, .ref o22, .ref o24, .ref o26, .ref o28, .ref o30, .int v32, .ref o33, .ref o35, .ref o37, .int v39, .ref o40, .ref o42, .ref o44, .int v46, .ref o47])), (o6, .inl (cI, 12, .inl fw7)), (o33, .inl (cI, 12, .inl f614))]) := hD
                  refine lv_if_eq (tgt := 59) hx hb dX12_isColoured_45 (by decide) (fun h677 => ?_) (fun h677 => ?_)
                  ·
                    have j678 : Iv 0 0 x675 := r_eq h677 ik_0
                    have b679 : bt x674 (Int32.toNatClampNeg x657) = false := has_f e676 h677
                    refine lv_iconst (v := 1) hx hb dX12_isColoured_59 (by decide) ?_
                    refine lv_goto (tgt := 64) hx hb dX12_isColoured_60 (by decide) ?_
                    refine lv_istore (lv' := [(4, .int 1), (5, .int x657), (3, .int x613), (0, .ref o1), (1, .int 11), (2, .int a2)]) hx hb dX12_isColoured_64 hl (by decide) rfl (fun ls hl => ?_)
                    obtain ⟨x680, x680_e⟩ : ∃ z : Int32, z = x657 + 1 := ⟨_, rfl⟩
                    have x680_h : Iv 1 11 x680 := iv_e x680_e (iv_add j669 ik_1 (by decide))
                    refine lv_iinc (v := x680) (lv' := [(5, .int x680), (4, .int 1), (3, .int x613), (0, .ref o1), (1, .int 11), (2, .int a2)]) hx hb dX12_isColoured_66 hl (k := 1) rfl (incN (by decide +kernel) x680_e) (by decide) rfl (fun ls hl => ?_)
                    refine lv_goto (tgt := 23) hx hb dX12_isColoured_69 (by decide) ?_
                    exact ih10 x680 1 _ _ _ (ms_up x680_e j669 (by decide) hM10) (iv_w x680_h (by decide)) (iv_w ik_1 (by decide)) (fun h8 => absurd h8 (by decide +kernel)) hP hD hS hl
                  ·
                    have j681 : Iv 1 1 x675 := r_nelo h677 x675_h ik_0 (by decide)
                    have b682 : bt x674 (Int32.toNatClampNeg x657) = true := has_t e676 h677
                    refine lv_aload_n hx hb dX12_isColoured_48 rfl (lv_at hl 3 rfl) ?_
                    refine va_get (D := (dC, dI)) (ci := 12) (v := .ref o33) (C := RX12) (T := TX12) (N := 29) hx hb hts iw_X12_isColoured_X12 hown hK hP 0 rfl rfl 20 (by decide) (hts (.fieldLink RX12 48 "HolelessHouseModel" "colours" "[I") hm_X12_isColoured_3) (fun _ h9 => h9) rfl dX12_isColoured_49 ?_
                    refine lv_iload hx hb dX12_isColoured_52 (lv_at hl 0 rfl) ?_
                    refine va_iald hx hb hK hP 2 0 rfl rfl (vin_iv j669 (by decide)) dX12_isColoured_54 (lv_topi (fun x683 x683_e => ?_))
                    have x683_h : Iv 0 11 x683 := iv_e x683_e (bd_at f614_b (vin_iv j669 (by decide)))
                    refine lv_iload_n hx hb dX12_isColoured_55 rfl (lv_at hl 2 rfl) ?_
                    refine lv_icmp_eq (tgt := 63) hx hb dX12_isColoured_56 (by decide) (fun h684 => ?_) (fun h684 => ?_)
                    ·
                      refine lv_iconst (v := 0) hx hb dX12_isColoured_63 (by decide) ?_
                      refine lv_istore (lv' := [(4, .int 0), (5, .int x657), (3, .int x613), (0, .ref o1), (1, .int 11), (2, .int a2)]) hx hb dX12_isColoured_64 hl (by decide) rfl (fun ls hl => ?_)
                      obtain ⟨x685, x685_e⟩ : ∃ z : Int32, z = x657 + 1 := ⟨_, rfl⟩
                      have x685_h : Iv 1 11 x685 := iv_e x685_e (iv_add j669 ik_1 (by decide))
                      refine lv_iinc (v := x685) (lv' := [(5, .int x685), (4, .int 0), (3, .int x613), (0, .ref o1), (1, .int 11), (2, .int a2)]) hx hb dX12_isColoured_66 hl (k := 1) rfl (incN (by decide +kernel) x685_e) (by decide) rfl (fun ls hl => ?_)
                      refine lv_goto (tgt := 23) hx hb dX12_isColoured_69 (by decide) ?_
                      exact ih10 x685 0 _ _ _ (ms_up x685_e j669 (by decide) hM10) (iv_w x685_h (by decide)) (iv_w ik_0 (by decide)) (fun _ => co_w2 x683_e h684 (iv_w (c := 0) (d := 4095) j669 (by decide)) x685_e) hP hD hS hl
                    ·
                      refine lv_iconst (v := 1) hx hb dX12_isColoured_59 (by decide) ?_
                      refine lv_goto (tgt := 64) hx hb dX12_isColoured_60 (by decide) ?_
                      refine lv_istore (lv' := [(4, .int 1), (5, .int x657), (3, .int x613), (0, .ref o1), (1, .int 11), (2, .int a2)]) hx hb dX12_isColoured_64 hl (by decide) rfl (fun ls hl => ?_)
                      obtain ⟨x686, x686_e⟩ : ∃ z : Int32, z = x657 + 1 := ⟨_, rfl⟩
                      have x686_h : Iv 1 11 x686 := iv_e x686_e (iv_add j669 ik_1 (by decide))
                      refine lv_iinc (v := x686) (lv' := [(5, .int x686), (4, .int 1), (3, .int x613), (0, .ref o1), (1, .int 11), (2, .int a2)]) hx hb dX12_isColoured_66 hl (k := 1) rfl (incN (by decide +kernel) x686_e) (by decide) rfl (fun ls hl => ?_)
                      refine lv_goto (tgt := 23) hx hb dX12_isColoured_69 (by decide) ?_
                      exact ih10 x686 1 _ _ _ (ms_up x686_e j669 (by decide) hM10) (iv_w x686_h (by decide)) (iv_w ik_1 (by decide)) (fun h8 => absurd h8 (by decide +kernel)) hP hD hS hl
          exact L10 _ 0 1 _ _ _ (Nat.lt_succ_self _) (iv_w ik_0 (by decide)) (iv_w ik_1 (by decide)) co_w0 hP hD hS hl
    exact L9 _ 0 fw34 _ _ _ (Nat.lt_succ_self _) (iv_w ik_0 (by decide)) fw34_b (fun _ _ => rfl) (fun _ => CW_0) hP hD hS hl
  ·
    have j687 : Iv 11 11 v5 := r_eq h1.symm ik_11
    refine lv_iconst (v := 1) hx hb dX12_isColoured_8 (by decide) ?_
    rw [hQ]
    exact W.zret (v := 1) (ty := .boolean) hx hb hr rfl (fun t ht hW => ⟨⟨1, fw34, rfl, ⟨(iv_w ik_1 (by decide)), fw34_b, (fun _ _ => rfl), (fun _ h8 => absurd h8 (by decide +kernel))⟩, by rw [ht]; exact hP, va_K.moved hW.alike hK, hD⟩, hS.F ht⟩) hS.2.2 dX12_isColoured_9
set_option maxHeartbeats 4000000 in
set_option maxRecDepth 100000 in
theorem kX12_isColoured_3 (l : Launch) (dC : Nat → ClassId) (dI : Nat → Nat → Nat) (cI c2 cZ : ClassId) (o1 : Nat) (o3 : Nat) (o6 : Nat) (o9 : Nat) (o11 : Nat) (o14 : Nat) (o17 : Nat) (o22 : Nat) (o24 : Nat) (o26 : Nat) (o28 : Nat) (o30 : Nat) (o33 : Nat) (o35 : Nat) (o37 : Nat) (o40 : Nat) (o42 : Nat) (o44 : Nat) (o47 : Nat) (v2 : Int32) (v5 : Int32) (fw7 : Nat → Int32) (v8 : Int32) (v13 : Int32) (v16 : Int32) (v19 : Int32) (v20 : Int32) (v21 : Int32) (v32 : Int32) (fw34 : Nat → Int32) (v39 : Int32) (v46 : Int32) (a2 : Int32) (sz : Nat) (v5_h : Iv 10 12 v5) (fw7_b : Bd 12 0 4095 fw7) (v8_h : Iv 0 8 v8) (v13_h : Iv 0 12 v13) (v16_h : Iv 0 12 v16) (v19_h : Iv (-9) 12 v19) (v32_h : Iv 0 99 v32) (fw34_b : Bd 12 0 11 fw34) (v39_h : Iv 0 12 v39) (v46_h : Iv 0 12 v46) (a2_h : Iv 0 12 a2) : Met l yX12_isColoured wsX12_isColoured ({ frames := 2, cells := 0, slots := 0, locals := 50 }) (va_Pc [.ref o1, .int 10, .int a2] (wPre (dC, dI) [(cI, .int), (c2, .array .int), (cZ, .boolean)] ([(o1, .inr (12, [.int v2, .ref o3, .int v5, .ref o6, .int v8, .ref o9, .ref o11, .int v13, .ref o14, .int v16, .ref o17, .int v19, .int v20, .int v21, .ref o22, .ref o24, .ref o26, .ref o28, .ref o30, .int v32, .ref o33, .ref o35, .ref o37, .int v39, .ref o40, .ref o42, .ref o44, .int v46, .ref o47])), (o6, .inl (cI, 12, .inl fw7)), (o33, .inl (cI, 12, .inl fw34))]) sz)) (va_Qi (fun (r : Int32) (u : (Nat → Int32)) => Iv 0 1 r ∧ Bd 12 0 11 u ∧ (∀ i8, i8 < 10 → u i8 = fw34 i8) ∧ (Int32.toInt v5 ≤ Int32.toInt a2 → ¬ r = 0)) (fun u t => wPost (dC, dI) [(cI, .int), (c2, .array .int), (cZ, .boolean)] (va_A ([(o1, .inr (12, [.int v2, .ref o3, .int v5, .ref o6, .int v8, .ref o9, .ref o11, .int v13, .ref o14, .int v16, .ref o17, .int v19, .int v20, .int v21, .ref o22, .ref o24, .ref o26, .ref o28, .ref o30, .int v32, .ref o33, .ref o35, .ref o37, .int v39, .ref o40, .ref o42, .ref o44, .int v46, .ref o47])), (o6, .inl (cI, 12, .inl fw7)), (o33, .inl (cI, 12, .inl fw34))]) sz) ([(o1, .inr (12, [.int v2, .ref o3, .int v5, .ref o6, .int v8, .ref o9, .ref o11, .int v13, .ref o14, .int v16, .ref o17, .int v19, .int v20, .int v21, .ref o22, .ref o24, .ref o26, .ref o28, .ref o30, .int v32, .ref o33, .ref o35, .ref o37, .int v39, .ref o40, .ref o42, .ref o44, .int v46, .ref o47])), (o6, .inl (cI, 12, .inl fw7)), (o33, .inl (cI, 12, .inl u))]) t) (va_A ([(o1, .inr (12, [.int v2, .ref o3, .int v5, .ref o6, .int v8, .ref o9, .ref o11, .int v13, .ref o14, .int v16, .ref o17, .int v19, .int v20, .int v21, .ref o22, .ref o24, .ref o26, .ref o28, .ref o30, .int v32, .ref o33, .ref o35, .ref o37, .int v39, .ref o40, .ref o42, .ref o44, .int v46, .ref o47])), (o6, .inl (cI, 12, .inl fw7)), (o33, .inl (cI, 12, .inl fw34))]) sz)) 0 0 (va_A ([(o1, .inr (12, [.int v2, .ref o3, .int v5, .ref o6, .int v8, .ref o9, .ref o11, .int v13, .ref o14, .int v16, .ref o17, .int v19, .int v20, .int v21, .ref o22, .ref o24, .ref o26, .ref o28, .ref o30, .int v32, .ref o33, .ref o35, .ref o37, .int v39, .ref o40, .ref o42, .ref o44, .int v46, .ref o47])), (o6, .inl (cI, 12, .inl fw7)), (o33, .inl (cI, 12, .inl fw34))]) sz) := by
  refine Met.ofW (cc := cX12_isColoured) (maxL := 6) (ret := (some .boolean)) (by decide) rfl ?_
  intro p e s m args below meth c s₁ B hml hv
  obtain ⟨rfl, hsz, hP, hK, hD0, hN⟩ := hv
  have hx := B.exec
  have hb := B.bytes
  have hr := B.returns
  have hts := atoms_spec (ws := wsX12_isColoured) B.pre
  have hown : s.vm.findClass RX12 = some m.cls := findClass_of_methodNamed B.named
  have hlocks := B.notSynchronized
  subst hsz
  have hD := hD0.self (sz := s.heap.size)
  generalize hAe : va_A ([(o1, .inr (12, [.int v2, .ref o3, .int v5, .ref o6, .int v8, .ref o9, .ref o11, .int v13, .ref o14, .int v16, .ref o17, .int v19, .int v20, .int v21, .ref o22, .ref o24, .ref o26, .ref o28, .ref o30, .int v32, .ref o33, .ref o35, .ref o37, .int v39, .ref o40, .ref o42, .ref o44, .int v46, .ref o47])), (o6, .inl (cI, 12, .inl fw7)), (o33, .inl (cI, 12, .inl fw34))]) s.heap.size = A at hD ⊢
  have hA : ∀ q : Nat, s.heap.size ≤ q → A q := fun q h => by rw [← hAe]; exact Or.inr h
  have hS : va_S A s.heap s.heap [] := va_S.rf
  have hP : va_P (dC, dI) vwCl ([(o1, .inr (12, [.int v2, .ref o3, .int v5, .ref o6, .int v8, .ref o9, .ref o11, .int v13, .ref o14, .int v16, .ref o17, .int v19, .int v20, .int v21, .ref o22, .ref o24, .ref o26, .ref o28, .ref o30, .int v32, .ref o33, .ref o35, .ref o37, .int v39, .ref o40, .ref o42, .ref o44, .int v46, .ref o47])), (o6, .inl (cI, 12, .inl fw7)), (o33, .inl (cI, 12, .inl fw34))]) s.heap := hP
  have hl := lv_entry ([.ref o1, .int 10, .int a2]) (n := 6) (Nat.le_of_ble_eq_true rfl)
  rw [lg_entry_eq]
  generalize (lg_sl ([.ref o1, .int 10, .int a2]) ++ List.replicate (6 - (lg_sl ([.ref o1, .int 10, .int a2])).length) Slot.unset).toArray = ls at hl ⊢
  have hl : lv_has ls 6 [(0, .ref o1), (1, .int 10), (2, .int a2)] := hl
  refine gen_Q (fun Q hQ => ?_)
  refine lv_iload_n hx hb dX12_isColoured_0 rfl (lv_at hl 1 rfl) ?_
  refine lv_aload_n hx hb dX12_isColoured_1 rfl (lv_at hl 0 rfl) ?_
  refine va_get (D := (dC, dI)) (ci := 12) (v := .int v5) (C := RX12) (T := TX12) (N := 29) hx hb hts iw_X12_isColoured_X12 hown hK hP 0 rfl rfl 2 (by decide) (hts (.fieldLink RX12 73 "HolelessHouseModel" "n" "I") hm_X12_isColoured_1) (fun _ h9 => h9) rfl dX12_isColoured_2 ?_
  refine lv_icmp_ne (tgt := 10) hx hb dX12_isColoured_5 (by decide) (fun h1 => ?_) (fun h1 => ?_)
  ·
    have j2 : Iv 11 12 v5 := r_nelo (fun q => h1 q.symm) v5_h ik_10 (by decide)
    refine lv_iconst (v := 0) hx hb dX12_isColoured_10 (by decide) ?_
    refine lv_istore_n (lv' := [(3, .int 0), (0, .ref o1), (1, .int 10), (2, .int a2)]) hx hb dX12_isColoured_11 rfl hl (by decide) rfl (fun ls hl => ?_)
    have L9 : ∀ (N : Nat) (x652 : Int32) (f653 : Nat → Int32) (H : Heap) (locs : List Loc) (ls : Array Slot), (12 - x652.toInt).toNat < N → Iv 0 12 x652 → Bd 12 0 11 f653 → (∀ i8, i8 < 10 → f653 i8 = fw34 i8) → (Int32.toInt v5 ≤ Int32.toInt a2 → CW fw34 10 (Int32.toNatClampNeg x652)) → va_P (dC, dI) vwCl ([(o1, .inr (12, [.int v2, .ref o3, .int v5, .ref o6, .int v8, .ref o9, .ref o11, .int v13, .ref o14, .int v16, .ref o17, .int v19, .int v20, .int v21, .ref o22, .ref o24, .ref o26, .ref o28, .ref o30, .int v32, .ref o33, .ref o35, .ref o37, .int v39, .ref o40, .ref o42, .ref o44, .int v46, .ref o47])), (o6, .inl (cI, 12, .inl fw7)), (o33, .inl (cI, 12, .inl f653))]) H → va_D A ([(o1, .inr (12, [.int v2, .ref o3, .int v5, .ref o6, .int v8, .ref o9, .ref o11, .int v13, .ref o14, .int v16, .ref o17, .int v19, .int v20, .int v21, .ref o22, .ref o24, .ref o26, .ref o28, .ref o30, .int v32, .ref o33, .ref o35, .ref o37, .int v39, .ref o40, .ref o42, .ref o44, .int v46, .ref o47])), (o6, .inl (cI, 12, .inl fw7)), (o33, .inl (cI, 12, .inl f653))]) → va_S A s.heap H locs → lv_has ls 6 [(3, .int x652), (0, .ref o1), (1, .int 10), (2, .int a2)] → W p l e ({ frames := 2, cells := 0, slots := 0, locals := 50 }) s m ([.ref o1, .int 10, .int a2] : List Value).toArray below meth c H locs 0 0 Q (F0 m 12 ls []) := by
      intro N
      induction N with
      | zero =>
        intro x652 f653 H locs ls hM
        exact absurd hM (Nat.not_lt_zero _)
      | succ N ih9 =>
        intro x652 f653 H locs ls hM9 x652_h f653_b iv9_0 iv9_1 hP hD hS hl
        refine lv_iload_n hx hb dX12_isColoured_12 rfl (lv_at hl 0 rfl) ?_
        refine lv_iload_n hx hb dX12_isColoured_13 rfl (lv_at hl 3 rfl) ?_
        refine lv_icmp_ge (tgt := 103) hx hb dX12_isColoured_14 (by decide) (fun h654 => ?_) (fun h654 => ?_)
        ·
          have qh654 := le_i h654
          refine lv_iconst (v := 0) hx hb dX12_isColoured_103 (by decide) ?_
          rw [hQ]
          exact W.zret (v := 0) (ty := .boolean) hx hb hr rfl (fun t ht hW => ⟨⟨0, f653, rfl, ⟨(iv_w ik_0 (by decide)), f653_b, iv9_0, (fun h8 => (co_no (iv9_1 h8) qh654 a2_h h8 (show (10 : Int) + 1 ≤ _ from (show _ ≤ _ ∧ _ ≤ _ from j2).1)).elim)⟩, by rw [ht]; exact hP, va_K.moved hW.alike hK, hD⟩, hS.F ht⟩) hS.2.2 dX12_isColoured_104
        ·
          have qh654 := nle_i h654
          have j655 : Iv 0 11 x652 := r_ltl qh654 x652_h a2_h (by decide)
          have j656 : Iv 1 12 a2 := r_ltr qh654 x652_h a2_h (by decide)
          refine lv_iconst (v := 1) hx hb dX12_isColoured_17 (by decide) ?_
          refine lv_istore (lv' := [(4, .int 1), (3, .int x652), (0, .ref o1), (1, .int 10), (2, .int a2)]) hx hb dX12_isColoured_18 hl (by decide) rfl (fun ls hl => ?_)
          refine lv_iconst (v := 0) hx hb dX12_isColoured_20 (by decide) ?_
          refine lv_istore (lv' := [(5, .int 0), (4, .int 1), (3, .int x652), (0, .ref o1), (1, .int 10), (2, .int a2)]) hx hb dX12_isColoured_21 hl (by decide) rfl (fun ls hl => ?_)
          have L10 : ∀ (N : Nat) (x696 : Int32) (x697 : Int32) (H : Heap) (locs : List Loc) (ls : Array Slot), (10 - x696.toInt).toNat < N → Iv 0 10 x696 → Iv 0 1 x697 → (x697 = 0 → ∃ q, q < (Int32.toNatClampNeg x696) ∧ f653 q = x652) → va_P (dC, dI) vwCl ([(o1, .inr (12, [.int v2, .ref o3, .int v5, .ref o6, .int v8, .ref o9, .ref o11, .int v13, .ref o14, .int v16, .ref o17, .int v19, .int v20, .int v21, .ref o22, .ref o24, .ref o26, .ref o28, .ref o30, .int v32, .ref o33, .ref o35, .ref o37, .int v39, .ref o40, .ref o42, .ref o44, .int v46, .ref o47])), (o6, .inl (cI, 12, .inl fw7)), (o33, .inl (cI, 12, .inl f653))]) H → va_D A ([(o1, .inr (12, [.int v2, .ref o3, .int v5, .ref o6, .int v8, .ref o9, .ref o11, .int v13, .ref o14, .int v16, .ref o17, .int v19, .int v20, .int v21, .ref o22, .ref o24, .ref o26, .ref o28, .ref o30, .int v32, .ref o33, .ref o35, .ref o37, .int v39, .ref o40, .ref o42, .ref o44, .int v46, .ref o47])), (o6, .inl (cI, 12, .inl fw7)), (o33, .inl (cI, 12, .inl f653))]) → va_S A s.heap H locs → lv_has ls 6 [(5, .int x696), (4, .int x697), (3, .int x652), (0, .ref o1), (1, .int 10), (2, .int a2)] → W p l e ({ frames := 2, cells := 0, slots := 0, locals := 50 }) s m ([.ref o1, .int 10, .int a2] : List Value).toArray below meth c H locs 0 0 Q (F0 m 23 ls []) := by
            intro N
            induction N with
            | zero =>
              intro x696 x697 H locs ls hM
              exact absurd hM (Nat.not_lt_zero _)
            | succ N ih10 =>
              intro x696 x697 H locs ls hM10 x696_h x697_h iv10_0 hP hD hS hl
              refine lv_iload hx hb dX12_isColoured_23 (lv_at hl 0 rfl) ?_
              refine lv_iload_n hx hb dX12_isColoured_25 rfl (lv_at hl 4 rfl) ?_
              refine lv_icmp_ge (tgt := 72) hx hb dX12_isColoured_26 (by decide) (fun h698 => ?_) (fun h698 => ?_)
              ·
                have qh698 := le_i h698
                have j699 : Iv 10 10 x696 := r_ler qh698 ik_10 x696_h (by decide)
                refine lv_aload_n hx hb dX12_isColoured_72 rfl (lv_at hl 3 rfl) ?_
                refine va_get (D := (dC, dI)) (ci := 12) (v := .ref o33) (C := RX12) (T := TX12) (N := 29) hx hb hts iw_X12_isColoured_X12 hown hK hP 0 rfl rfl 20 (by decide) (hts (.fieldLink RX12 48 "HolelessHouseModel" "colours" "[I") hm_X12_isColoured_3) (fun _ h9 => h9) rfl dX12_isColoured_73 ?_
                refine lv_iload_n hx hb dX12_isColoured_76 rfl (lv_at hl 4 rfl) ?_
                refine lv_iload_n hx hb dX12_isColoured_77 rfl (lv_at hl 2 rfl) ?_
                refine k_iast hx hb hK hP hD hS 2 0 rfl rfl (vin_iv ik_10 (by decide)) dX12_isColoured_78 (fun f700 H locs f700_e hP hD hS => ?_)
                have f700_b : Bd 12 0 11 f700 := bd_upd f700_e f653_b j655 (by decide)
                have hP : va_P (dC, dI) vwCl ([(o1, .inr (12, [.int v2, .ref o3, .int v5, .ref o6, .int v8, .ref o9, .ref o11, .int v13, .ref o14, .int v16, .ref o17, .int v19, .int v20, .int v21, .ref o22, .ref o24, .ref o26, .ref o28, .ref o30, .int v32, .ref o33, .ref o35, .ref o37, .int v39, .ref o40, .ref o42, .ref o44, .int v46, .ref o47])), (o6, .inl (cI, 12, .inl fw7)), (o33, .inl (cI, 12, .inl f700))]) H := hP
                have hD : va_D A ([(o1, .inr (12, [.int v2, .ref o3, .int v5, .ref o6, .int v8, .ref o9, .ref o11, .int v13, .ref o14, .int v16, .ref o17, .int v19, .int v20, .int v21, .ref o22, .ref o24, .ref o26, .ref o28, .ref o30, .int v32, .ref o33, .ref o35, .ref o37, .int v39, .ref o40, .ref o42, .ref o44, .int v46, .ref o47])), (o6, .inl (cI, 12, .inl fw7)), (o33, .inl (cI, 12, .inl f700))]) := hD
                refine lv_iload hx hb dX12_isColoured_79 (lv_at hl 1 rfl) ?_
                refine lv_if_eq (tgt := 97) hx hb dX12_isColoured_81 (by decide) (fun h701 => ?_) (fun h701 => ?_)
                ·
                  have j702 : Iv 0 0 x697 := r_eq h701 ik_0
                  obtain ⟨x703, x703_e⟩ : ∃ z : Int32, z = x652 + 1 := ⟨_, rfl⟩
                  have x703_h : Iv 1 12 x703 := iv_e x703_e (iv_add j655 ik_1 (by decide))
                  refine lv_iinc (v := x703) (lv' := [(3, .int x703), (5, .int x696), (4, .int x697), (0, .ref o1), (1, .int 10), (2, .int a2)]) hx hb dX12_isColoured_97 hl (k := 2) rfl (incN (by decide +kernel) x703_e) (by decide) rfl (fun ls hl => ?_)
                  refine lv_goto (tgt := 12) hx hb dX12_isColoured_100 (by decide) ?_
                  exact ih9 x703 f700 _ _ _ (ms_up x703_e j655 (by decide) hM9) (iv_w x703_h (by decide)) f700_b (co_k f700_e (by decide +kernel) iv9_0) (fun h8 => CW_s (iv9_1 h8) (iv_w (c := 0) (d := 4095) j655 (by decide)) x703_e (co_w3 (iv10_0 h701) (Nat.le_of_eq (by rw [d_eq j699 ik_10]; decide +kernel)) iv9_0)) hP hD hS (lv_sub hl [0, 3, 4, 5] rfl)
                ·
                  have j704 : Iv 1 1 x697 := r_nelo h701 x697_h ik_0 (by decide)
                  refine lv_aload_n hx hb dX12_isColoured_84 rfl (lv_at hl 3 rfl) ?_
                  refine lv_iload_n hx hb dX12_isColoured_85 rfl (lv_at hl 4 rfl) ?_
                  refine lv_iconst (v := 1) hx hb dX12_isColoured_86 (by decide) ?_
                  refine lv_iadd hx hb dX12_isColoured_87 (tk_i (v := 11) (by decide +kernel) ?_)
                  refine lv_iload_n hx hb dX12_isColoured_88 rfl (lv_at hl 5 rfl) ?_
                  refine kc_i (D := (dC, dI)) (S := (Nat → Int32)) (wc := [(o1, .inr (12, [.int v2, .ref o3, .int v5, .ref o6, .int v8, .ref o9, .ref o11, .int v13, .ref o14, .int v16, .ref o17, .int v19, .int v20, .int v21, .ref o22, .ref o24, .ref o26, .ref o28, .ref o30, .int v32, .ref o33, .ref o35, .ref o37, .int v39, .ref o40, .ref o42, .ref o44, .int v46, .ref o47])), (o6, .inl (cI, 12, .inl fw7)), (o33, .inl (cI, 12, .inl f700))]) (wr := []) (w1 := fun u => [(o1, .inr (12, [.int v2, .ref o3, .int v5, .ref o6, .int v8, .ref o9, .ref o11, .int v13, .ref o14, .int v16, .ref o17, .int v19, .int v20, .int v21, .ref o22, .ref o24, .ref o26, .ref o28, .ref o30, .int v32, .ref o33, .ref o35, .ref o37, .int v39, .ref o40, .ref o42, .ref o44, .int v46, .ref o47])), (o6, .inl (cI, 12, .inl fw7)), (o33, .inl (cI, 12, .inl u))]) (wn := fun u => [(o1, .inr (12, [.int v2, .ref o3, .int v5, .ref o6, .int v8, .ref o9, .ref o11, .int v13, .ref o14, .int v16, .ref o17, .int v19, .int v20, .int v21, .ref o22, .ref o24, .ref o26, .ref o28, .ref o30, .int v32, .ref o33, .ref o35, .ref o37, .int v39, .ref o40, .ref o42, .ref o44, .int v46, .ref o47])), (o6, .inl (cI, 12, .inl fw7)), (o33, .inl (cI, 12, .inl u))]) (fun hPc hDc => va_runV (As := [.int 11, .int a2]) (rest := []) ⟨hx, hb, hml, hown, hts⟩ (kX12_isColoured_2 l dC dI cI c2 cZ o1 o3 o6 o9 o11 o14 o17 o22 o24 o26 o28 o30 o33 o35 o37 o40 o42 o44 o47 v2 v5 fw7 v8 v13 v16 v19 v20 v21 v32 f700 v39 v46 a2 H.size j2 fw7_b v8_h v13_h v16_h v19_h v32_h f700_b v39_h v46_h (iv_w j656 (by decide))) (cwV 2 hts gX12_isColoured_X12_isColoured rfl rfl rfl (by decide +kernel) ⟨Nat.le_of_ble_eq_true rfl, Nat.le_of_ble_eq_true rfl⟩) (pre_V hPc hK hDc hN (ci := 12) (q0 := 0) rfl rfl) rfl rfl hl.1 rfl (lv_room (Nat.le_of_ble_eq_true rfl)) dX12_isColoured_89 ⟨Nat.le_of_ble_eq_true rfl, Nat.le_of_ble_eq_true rfl⟩) hP hD hS hA [0, 1, 2] [] [0, 1, 2] rfl rfl (by decide +kernel) (by decide +kernel) (by decide +kernel) (by decide +kernel) (fun _ => rfl) (fun x706 f705 H locs hq hP hD hS => ?_)
                  obtain ⟨x706_h, f705_b, e707, e708⟩ := hq
                  have hP : va_P (dC, dI) vwCl ([(o1, .inr (12, [.int v2, .ref o3, .int v5, .ref o6, .int v8, .ref o9, .ref o11, .int v13, .ref o14, .int v16, .ref o17, .int v19, .int v20, .int v21, .ref o22, .ref o24, .ref o26, .ref o28, .ref o30, .int v32, .ref o33, .ref o35, .ref o37, .int v39, .ref o40, .ref o42, .ref o44, .int v46, .ref o47])), (o6, .inl (cI, 12, .inl fw7)), (o33, .inl (cI, 12, .inl f705))]) H := hP
                  have hD : va_D A ([(o1, .inr (12, [.int v2, .ref o3, .int v5, .ref o6, .int v8, .ref o9, .ref o11, .int v13, .ref o14, .int v16, .ref o17, .int v19, .int v20, .int v21, .ref o22, .ref o24, .ref o26, .ref o28, .ref o30, .int v32, .ref o33, .ref o35, .ref o37, .int v39, .ref o40, .ref o42, .ref o44, .int v46, .ref o47])), (o6, .inl (cI, 12, .inl fw7)), (o33, .inl (cI, 12, .inl f705))]) := hD
                  refine lv_if_eq (tgt := 97) hx hb dX12_isColoured_92 (by decide) (fun h709 => ?_) (fun h709 => ?_)
                  ·
                    have j710 : Iv 0 0 x706 := r_eq h709 ik_0
                    obtain ⟨x711, x711_e⟩ : ∃ z : Int32, z = x652 + 1 := ⟨_, rfl⟩
                    have x711_h : Iv 1 12 x711 := iv_e x711_e (iv_add j655 ik_1 (by decide))
                    refine lv_iinc (v := x711) (lv' := [(3, .int x711), (5, .int x696), (4, .int x697), (0, .ref o1), (1, .int 10), (2, .int a2)]) hx hb dX12_isColoured_97 hl (k := 2) rfl (incN (by decide +kernel) x711_e) (by decide) rfl (fun ls hl => ?_)
                    refine lv_goto (tgt := 12) hx hb dX12_isColoured_100 (by decide) ?_
                    exact ih9 x711 f705 _ _ _ (ms_up x711_e j655 (by decide) hM9) (iv_w x711_h (by decide)) f705_b (co_t e707 (by decide) (co_k f700_e (by decide +kernel) iv9_0)) (fun h8 => absurd h709 (e708 h8)) hP hD hS (lv_sub hl [0, 3, 4, 5] rfl)
                  ·
                    have j712 : Iv 1 1 x706 := r_nelo h709 x706_h ik_0 (by decide)
                    refine lv_iconst (v := 1) hx hb dX12_isColoured_95 (by decide) ?_
                    rw [hQ]
                    exact W.zret (v := 1) (ty := .boolean) hx hb hr rfl (fun t ht hW => ⟨⟨1, f705, rfl, ⟨(iv_w ik_1 (by decide)), f705_b, (co_t e707 (by decide) (co_k f700_e (by decide +kernel) iv9_0)), (fun _ h8 => absurd h8 (by decide +kernel))⟩, by rw [ht]; exact hP, va_K.moved hW.alike hK, hD⟩, hS.F ht⟩) hS.2.2 dX12_isColoured_96
              ·
                have qh698 := nle_i h698
                have j713 : Iv 0 9 x696 := r_ltl qh698 x696_h ik_10 (by decide)
                refine lv_iload hx hb dX12_isColoured_29 (lv_at hl 1 rfl) ?_
                refine lv_if_eq (tgt := 63) hx hb dX12_isColoured_31 (by decide) (fun h714 => ?_) (fun h714 => ?_)
                ·
                  have j715 : Iv 0 0 x697 := r_eq h714 ik_0
                  refine lv_iconst (v := 0) hx hb dX12_isColoured_63 (by decide) ?_
                  refine lv_istore (lv' := [(4, .int 0), (5, .int x696), (3, .int x652), (0, .ref o1), (1, .int 10), (2, .int a2)]) hx hb dX12_isColoured_64 hl (by decide) rfl (fun ls hl => ?_)
                  obtain ⟨x716, x716_e⟩ : ∃ z : Int32, z = x696 + 1 := ⟨_, rfl⟩
                  have x716_h : Iv 1 10 x716 := iv_e x716_e (iv_add j713 ik_1 (by decide))
                  refine lv_iinc (v := x716) (lv' := [(5, .int x716), (4, .int 0), (3, .int x652), (0, .ref o1), (1, .int 10), (2, .int a2)]) hx hb dX12_isColoured_66 hl (k := 1) rfl (incN (by decide +kernel) x716_e) (by decide) rfl (fun ls hl => ?_)
                  refine lv_goto (tgt := 23) hx hb dX12_isColoured_69 (by decide) ?_
                  exact ih10 x716 0 _ _ _ (ms_up x716_e j713 (by decide) hM10) (iv_w x716_h (by decide)) (iv_w ik_0 (by decide)) (fun _ => co_w1 (iv10_0 h714) (iv_w (c := 0) (d := 4095) j713 (by decide)) x716_e) hP hD hS hl
                ·
                  have j717 : Iv 1 1 x697 := r_nelo h714 x697_h ik_0 (by decide)
                  refine lv_aload_n hx hb dX12_isColoured_34 rfl (lv_at hl 3 rfl) ?_
                  refine va_get (D := (dC, dI)) (ci := 12) (v := .ref o6) (C := RX12) (T := TX12) (N := 29) hx hb hts iw_X12_isColoured_X12 hown hK hP 0 rfl rfl 3 (by decide) (hts (.fieldLink RX12 13 "HolelessHouseModel" "near" "[I") hm_X12_isColoured_2) (fun _ h9 => h9) rfl dX12_isColoured_35 ?_
                  refine lv_iload_n hx hb dX12_isColoured_38 rfl (lv_at hl 4 rfl) ?_
                  refine va_iald hx hb hK hP 1 0 rfl rfl (vin_iv ik_10 (by decide)) dX12_isColoured_39 (lv_topi (fun x718 x718_e => ?_))
                  have x718_h : Iv 0 4095 x718 := iv_e x718_e (bd_at fw7_b (vin_iv ik_10 (by decide)))
                  refine lv_iload hx hb dX12_isColoured_40 (lv_at hl 0 rfl) ?_
                  refine kc_i (D := (dC, dI)) (S := Unit) (wc := []) (wr := [(o1, .inr (12, [.int v2, .ref o3, .int v5, .ref o6, .int v8, .ref o9, .ref o11, .int v13, .ref o14, .int v16, .ref o17, .int v19, .int v20, .int v21, .ref o22, .ref o24, .ref o26, .ref o28, .ref o30, .int v32, .ref o33, .ref o35, .ref o37, .int v39, .ref o40, .ref o42, .ref o44, .int v46, .ref o47])), (o6, .inl (cI, 12, .inl fw7)), (o33, .inl (cI, 12, .inl f653))]) (w1 := fun _ => []) (wn := fun _ => [(o1, .inr (12, [.int v2, .ref o3, .int v5, .ref o6, .int v8, .ref o9, .ref o11, .int v13, .ref o14, .int v16, .ref o17, .int v19, .int v20, .int v21, .ref o22, .ref o24, .ref o26, .ref o28, .ref o30, .int v32, .ref o33, .ref o35, .ref o37, .int v39, .ref o40, .ref o42, .ref o44, .int v46, .ref o47])), (o6, .inl (cI, 12, .inl fw7)), (o33, .inl (cI, 12, .inl f653))]) (fun hPc hDc => va_runS (As := [.int x718, .int x696]) (rest := []) ⟨hx, hb, hml, hown, hts⟩ (kX12_has_1 l dC dI cI c2 cZ x718 x696 H.size (iv_w j713 (by decide))) (va_cwS 2 hts gX12_isColoured_X12_has rfl rfl rfl (by decide +kernel) ⟨Nat.le_of_ble_eq_true rfl, Nat.le_of_ble_eq_true rfl⟩) (pre_S hPc hK hDc hN) rfl rfl hl.1 rfl (lv_room (Nat.le_of_ble_eq_true rfl)) dX12_isColoured_42 ⟨Nat.le_of_ble_eq_true rfl, Nat.le_of_ble_eq_true rfl⟩) hP hD hS hA [] [0, 1, 2] [0, 1, 2] rfl rfl (by decide +kernel) (by decide +kernel) (by decide +kernel) (by decide +kernel) (fun _ => rfl) (fun x719 _ H locs hq hP hD hS => ?_)
                  obtain ⟨x719_h, e720⟩ := hq
                  have hP : va_P (dC, dI) vwCl ([(o1, .inr (12, [.int v2, .ref o3, .int v5, .ref o6, .int v8, .ref o9, .ref o11, .int v13, .ref o14, .int v16, .ref o17, .int v19, .int v20, .int v21, .ref o22, .ref o24, .ref o26, .ref o28, .ref o30, .int v32, .ref o33, .ref o35, .ref o37, .int v39, .ref o40, .ref o42, .ref o44, .int v46, .ref o47])), (o6, .inl (cI, 12, .inl fw7)), (o33, .inl (cI, 12, .inl f653))]) H := hP
                  have hD : va_D A ([(o1, .inr (12, [.int v2, .ref o3, .int v5, .ref o6, .int v8, .ref o9, .ref o11, .int v13, .ref o14, .int v16, .ref o17, .int v19, .int v20, .int v21, .ref o22, .ref o24, .ref o26, .ref o28, .ref o30, .int v32, .ref o33, .ref o35, .ref o37, .int v39, .ref o40, .ref o42, .ref o44, .int v46, .ref o47])), (o6, .inl (cI, 12, .inl fw7)), (o33, .inl (cI, 12, .inl f653))]) := hD
                  refine lv_if_eq (tgt := 59) hx hb dX12_isColoured_45 (by decide) (fun h721 => ?_) (fun h721 => ?_)
                  ·
                    have j722 : Iv 0 0 x719 := r_eq h721 ik_0
                    have b723 : bt x718 (Int32.toNatClampNeg x696) = false := has_f e720 h721
                    refine lv_iconst (v := 1) hx hb dX12_isColoured_59 (by decide) ?_
                    refine lv_goto (tgt := 64) hx hb dX12_isColoured_60 (by decide) ?_
                    refine lv_istore (lv' := [(4, .int 1), (5, .int x696), (3, .int x652), (0, .ref o1), (1, .int 10), (2, .int a2)]) hx hb dX12_isColoured_64 hl (by decide) rfl (fun ls hl => ?_)
                    obtain ⟨x724, x724_e⟩ : ∃ z : Int32, z = x696 + 1 := ⟨_, rfl⟩
                    have x724_h : Iv 1 10 x724 := iv_e x724_e (iv_add j713 ik_1 (by decide))
                    refine lv_iinc (v := x724) (lv' := [(5, .int x724), (4, .int 1), (3, .int x652), (0, .ref o1), (1, .int 10), (2, .int a2)]) hx hb dX12_isColoured_66 hl (k := 1) rfl (incN (by decide +kernel) x724_e) (by decide) rfl (fun ls hl => ?_)
                    refine lv_goto (tgt := 23) hx hb dX12_isColoured_69 (by decide) ?_
                    exact ih10 x724 1 _ _ _ (ms_up x724_e j713 (by decide) hM10) (iv_w x724_h (by decide)) (iv_w ik_1 (by decide)) (fun h8 => absurd h8 (by decide +kernel)) hP hD hS hl
                  ·
                    have j725 : Iv 1 1 x719 := r_nelo h721 x719_h ik_0 (by decide)
                    have b726 : bt x718 (Int32.toNatClampNeg x696) = true := has_t e720 h721
                    refine lv_aload_n hx hb dX12_isColoured_48 rfl (lv_at hl 3 rfl) ?_
                    refine va_get (D := (dC, dI)) (ci := 12) (v := .ref o33) (C := RX12) (T := TX12) (N := 29) hx hb hts iw_X12_isColoured_X12 hown hK hP 0 rfl rfl 20 (by decide) (hts (.fieldLink RX12 48 "HolelessHouseModel" "colours" "[I") hm_X12_isColoured_3) (fun _ h9 => h9) rfl dX12_isColoured_49 ?_
                    refine lv_iload hx hb dX12_isColoured_52 (lv_at hl 0 rfl) ?_
                    refine va_iald hx hb hK hP 2 0 rfl rfl (vin_iv j713 (by decide)) dX12_isColoured_54 (lv_topi (fun x727 x727_e => ?_))
                    have x727_h : Iv 0 11 x727 := iv_e x727_e (bd_at f653_b (vin_iv j713 (by decide)))
                    refine lv_iload_n hx hb dX12_isColoured_55 rfl (lv_at hl 2 rfl) ?_
                    refine lv_icmp_eq (tgt := 63) hx hb dX12_isColoured_56 (by decide) (fun h728 => ?_) (fun h728 => ?_)
                    ·
                      refine lv_iconst (v := 0) hx hb dX12_isColoured_63 (by decide) ?_
                      refine lv_istore (lv' := [(4, .int 0), (5, .int x696), (3, .int x652), (0, .ref o1), (1, .int 10), (2, .int a2)]) hx hb dX12_isColoured_64 hl (by decide) rfl (fun ls hl => ?_)
                      obtain ⟨x729, x729_e⟩ : ∃ z : Int32, z = x696 + 1 := ⟨_, rfl⟩
                      have x729_h : Iv 1 10 x729 := iv_e x729_e (iv_add j713 ik_1 (by decide))
                      refine lv_iinc (v := x729) (lv' := [(5, .int x729), (4, .int 0), (3, .int x652), (0, .ref o1), (1, .int 10), (2, .int a2)]) hx hb dX12_isColoured_66 hl (k := 1) rfl (incN (by decide +kernel) x729_e) (by decide) rfl (fun ls hl => ?_)
                      refine lv_goto (tgt := 23) hx hb dX12_isColoured_69 (by decide) ?_
                      exact ih10 x729 0 _ _ _ (ms_up x729_e j713 (by decide) hM10) (iv_w x729_h (by decide)) (iv_w ik_0 (by decide)) (fun _ => co_w2 x727_e h728 (iv_w (c := 0) (d := 4095) j713 (by decide)) x729_e) hP hD hS hl
                    ·
                      refine lv_iconst (v := 1) hx hb dX12_isColoured_59 (by decide) ?_
                      refine lv_goto (tgt := 64) hx hb dX12_isColoured_60 (by decide) ?_
                      refine lv_istore (lv' := [(4, .int 1), (5, .int x696), (3, .int x652), (0, .ref o1), (1, .int 10), (2, .int a2)]) hx hb dX12_isColoured_64 hl (by decide) rfl (fun ls hl => ?_)
                      obtain ⟨x730, x730_e⟩ : ∃ z : Int32, z = x696 + 1 := ⟨_, rfl⟩
                      have x730_h : Iv 1 10 x730 := iv_e x730_e (iv_add j713 ik_1 (by decide))
                      refine lv_iinc (v := x730) (lv' := [(5, .int x730), (4, .int 1), (3, .int x652), (0, .ref o1), (1, .int 10), (2, .int a2)]) hx hb dX12_isColoured_66 hl (k := 1) rfl (incN (by decide +kernel) x730_e) (by decide) rfl (fun ls hl => ?_)
                      refine lv_goto (tgt := 23) hx hb dX12_isColoured_69 (by decide) ?_
                      exact ih10 x730 1 _ _ _ (ms_up x730_e j713 (by decide) hM10) (iv_w x730_h (by decide)) (iv_w ik_1 (by decide)) (fun h8 => absurd h8 (by decide +kernel)) hP hD hS hl
          exact L10 _ 0 1 _ _ _ (Nat.lt_succ_self _) (iv_w ik_0 (by decide)) (iv_w ik_1 (by decide)) co_w0 hP hD hS hl
    exact L9 _ 0 fw34 _ _ _ (Nat.lt_succ_self _) (iv_w ik_0 (by decide)) fw34_b (fun _ _ => rfl) (fun _ => CW_0) hP hD hS hl
  ·
    have j731 : Iv 10 10 v5 := r_eq h1.symm ik_10
    refine lv_iconst (v := 1) hx hb dX12_isColoured_8 (by decide) ?_
    rw [hQ]
    exact W.zret (v := 1) (ty := .boolean) hx hb hr rfl (fun t ht hW => ⟨⟨1, fw34, rfl, ⟨(iv_w ik_1 (by decide)), fw34_b, (fun _ _ => rfl), (fun _ h8 => absurd h8 (by decide +kernel))⟩, by rw [ht]; exact hP, va_K.moved hW.alike hK, hD⟩, hS.F ht⟩) hS.2.2 dX12_isColoured_9
