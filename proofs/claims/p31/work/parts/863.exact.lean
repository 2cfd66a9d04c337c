set_option maxHeartbeats 4000000 in
set_option maxRecDepth 100000 in
theorem kxX12_in_12 (l : Launch) (dC : Nat → ClassId) (dI : Nat → Nat → Nat) (cI c2 cZ : ClassId) (a0 : Int32) (a1 : Int32) (a2 : Int32) (sz : Nat) (a1_h : Iv 0 0 a1) (a2_h : Iv 4 12 a2) : Met l yX12_in wsX12_in ({ frames := 0, cells := 0, slots := 0, locals := 0 }) (va_Pc [.int a0, .int a1, .int a2] (wPre (dC, dI) [(cI, .int), (c2, .array .int), (cZ, .boolean)] ([]) sz)) (va_Qi (fun (r : Int32) (_ : Unit) => Iv 0 1 r ∧ (¬ r = 0 → Iv 0 12 a0) ∧ (r : Int32) = if Int32.toInt a1 ≤ Int32.toInt a0 ∧ Int32.toInt a0 ≤ Int32.toInt a2 then 1 else 0) (fun _ t => wPost (dC, dI) [(cI, .int), (c2, .array .int), (cZ, .boolean)] (va_A ([]) sz) ([]) t) (va_A ([]) sz)) 0 0 (va_A ([]) sz) := by
  refine Met.ofW (cc := cX12_in) (maxL := 3) (ret := (some .boolean)) (by decide) rfl ?_
  intro p e s m args below meth c s₁ B hml hv
  obtain ⟨rfl, hsz, hP, hK, hD0, hN⟩ := hv
  have hx := B.exec
  have hb := B.bytes
  have hr := B.returns
  have hts := atoms_spec (ws := wsX12_in) B.pre
  have hown : s.vm.findClass RX12 = some m.cls := findClass_of_methodNamed B.named
  have hlocks := B.notSynchronized
  subst hsz
  have hD := hD0.self (sz := s.heap.size)
  generalize hAe : va_A ([]) s.heap.size = A at hD ⊢
  have hA : ∀ q : Nat, s.heap.size ≤ q → A q := fun q h => by rw [← hAe]; exact Or.inr h
  have hS : va_S A s.heap s.heap [] := va_S.rf
  have hP : va_P (dC, dI) vwCl ([]) s.heap := hP
  have hl := lv_entry ([.int a0, .int a1, .int a2]) (n := 3) (Nat.le_of_ble_eq_true rfl)
  rw [lg_entry_eq]
  generalize (lg_sl ([.int a0, .int a1, .int a2]) ++ List.replicate (3 - (lg_sl ([.int a0, .int a1, .int a2])).length) Slot.unset).toArray = ls at hl ⊢
  have hl : lv_has ls 3 [(0, .int a0), (1, .int a1), (2, .int a2)] := hl
  refine gen_Q (fun Q hQ => ?_)
  refine lv_iload_n hx hb dX12_in_0 rfl (lv_at hl 0 rfl) ?_
  refine lv_iload_n hx hb dX12_in_1 rfl (lv_at hl 1 rfl) ?_
  refine lv_icmp_lt (tgt := 14) hx hb dX12_in_2 (by decide) (fun h1 => ?_) (fun h1 => ?_)
  ·
    have qh1 := lt_i h1
    have j2 : Iv (-2147483648) (-1) a0 := r_ltl qh1 (iv_full a0) a1_h (by decide)
    refine lv_iconst (v := 0) hx hb dX12_in_14 (by decide) ?_
    rw [hQ]
    exact W.zret (v := 0) (ty := .boolean) hx hb hr rfl (fun t ht hW => ⟨⟨0, (), rfl, ⟨(iv_w ik_0 (by decide)), (fun h8 => absurd rfl h8), (inx_l qh1)⟩, by rw [ht]; exact hP, va_K.moved hW.alike hK, hD⟩, hS.F ht⟩) hS.2.2 dX12_in_15
  ·
    have qh1 := nlt_i h1
    have j3 : Iv 0 2147483647 a0 := r_ler qh1 a1_h (iv_full a0) (by decide)
    refine lv_iload_n hx hb dX12_in_5 rfl (lv_at hl 0 rfl) ?_
    refine lv_iload_n hx hb dX12_in_6 rfl (lv_at hl 2 rfl) ?_
    refine lv_icmp_gt (tgt := 14) hx hb dX12_in_7 (by decide) (fun h4 => ?_) (fun h4 => ?_)
    ·
      have qh4 := lt_i h4
      have j5 : Iv 5 2147483647 a0 := r_ltr qh4 a2_h j3 (by decide)
      refine lv_iconst (v := 0) hx hb dX12_in_14 (by decide) ?_
      rw [hQ]
      exact W.zret (v := 0) (ty := .boolean) hx hb hr rfl (fun t ht hW => ⟨⟨0, (), rfl, ⟨(iv_w ik_0 (by decide)), (fun h8 => absurd rfl h8), (inx_h qh4)⟩, by rw [ht]; exact hP, va_K.moved hW.alike hK, hD⟩, hS.F ht⟩) hS.2.2 dX12_in_15
    ·
      have qh4 := nlt_i h4
      have j6 : Iv 0 12 a0 := r_lel qh4 j3 a2_h (by decide)
      refine lv_iconst (v := 1) hx hb dX12_in_10 (by decide) ?_
      refine lv_goto (tgt := 15) hx hb dX12_in_11 (by decide) ?_
      rw [hQ]
      exact W.zret (v := 1) (ty := .boolean) hx hb hr rfl (fun t ht hW => ⟨⟨1, (), rfl, ⟨(iv_w ik_1 (by decide)), (fun _ => j6), (inx_t qh1 qh4)⟩, by rw [ht]; exact hP, va_K.moved hW.alike hK, hD⟩, hS.F ht⟩) hS.2.2 dX12_in_15
set_option maxHeartbeats 4000000 in
set_option maxRecDepth 100000 in
theorem kxX12_nodes_2 (l : Launch) (dC : Nat → ClassId) (dI : Nat → Nat → Nat) (cI c2 cZ : ClassId) (o1 : Nat) (o3 : Nat) (o6 : Nat) (o9 : Nat) (o11 : Nat) (o14 : Nat) (o17 : Nat) (o22 : Nat) (o24 : Nat) (o26 : Nat) (o28 : Nat) (o30 : Nat) (o33 : Nat) (o35 : Nat) (o37 : Nat) (o40 : Nat) (o42 : Nat) (o44 : Nat) (o47 : Nat) (v2 : Int32) (v5 : Int32) (fw7 : Nat → Int32) (v8 : Int32) (v13 : Int32) (fw15 : Nat → Int32) (v16 : Int32) (v19 : Int32) (v20 : Int32) (v21 : Int32) (v32 : Int32) (v39 : Int32) (v46 : Int32) (a1 : Int32) (sz : Nat) (v5_h : Iv 0 12 v5) (fw7_b : Bd 12 0 4095 fw7) (v8_h : Iv 0 8 v8) (v13_h : Iv 0 12 v13) (fw15_b : Bd 12 0 11 fw15) (v16_h : Iv 0 12 v16) (v19_h : Iv (-9) 12 v19) (v32_h : Iv 0 99 v32) (v39_h : Iv 0 12 v39) (v46_h : Iv 0 12 v46) (pre0 : DR v5 v16 fw15) : Met l yX12_nodes wsX12_nodes ({ frames := 1, cells := 0, slots := 0, locals := 22 }) (va_Pc [.ref o1, .int a1] (wPre (dC, dI) [(cI, .int), (c2, .array .int), (cZ, .boolean)] ([(o1, .inr (12, [.int v2, .ref o3, .int v5, .ref o6, .int v8, .ref o9, .ref o11, .int v13, .ref o14, .int v16, .ref o17, .int v19, .int v20, .int v21, .ref o22, .ref o24, .ref o26, .ref o28, .ref o30, .int v32, .ref o33, .ref o35, .ref o37, .int v39, .ref o40, .ref o42, .ref o44, .int v46, .ref o47])), (o6, .inl (cI, 12, .inl fw7)), (o14, .inl (cI, 12, .inl fw15))]) sz)) (va_Qi (fun (r : Int32) (u : Int32 × Int32 × Int32 × (Nat → Int32)) => Iv (-1) 12 r ∧ Iv 0 12 u.1 ∧ Iv 0 12 u.2.1 ∧ Iv (-9) 12 u.2.2.1 ∧ Bd 12 0 4095 u.2.2.2 ∧ (r : Int32) = nodeF a1 ∧ DR u.1 u.2.1 fw15) (fun u t => wPost (dC, dI) [(cI, .int), (c2, .array .int), (cZ, .boolean)] (va_A ([(o1, .inr (12, [.int v2, .ref o3, .int v5, .ref o6, .int v8, .ref o9, .ref o11, .int v13, .ref o14, .int v16, .ref o17, .int v19, .int v20, .int v21, .ref o22, .ref o24, .ref o26, .ref o28, .ref o30, .int v32, .ref o33, .ref o35, .ref o37, .int v39, .ref o40, .ref o42, .ref o44, .int v46, .ref o47])), (o6, .inl (cI, 12, .inl fw7)), (o14, .inl (cI, 12, .inl fw15))]) sz) ([(o1, .inr (12, [.int v2, .ref o3, .int u.1, .ref o6, .int v8, .ref o9, .ref o11, .int v13, .ref o14, .int u.2.1, .ref o17, .int u.2.2.1, .int v20, .int v21, .ref o22, .ref o24, .ref o26, .ref o28, .ref o30, .int v32, .ref o33, .ref o35, .ref o37, .int v39, .ref o40, .ref o42, .ref o44, .int v46, .ref o47])), (o6, .inl (cI, 12, .inl u.2.2.2)), (o14, .inl (cI, 12, .inl fw15))]) t) (va_A ([(o1, .inr (12, [.int v2, .ref o3, .int v5, .ref o6, .int v8, .ref o9, .ref o11, .int v13, .ref o14, .int v16, .ref o17, .int v19, .int v20, .int v21, .ref o22, .ref o24, .ref o26, .ref o28, .ref o30, .int v32, .ref o33, .ref o35, .ref o37, .int v39, .ref o40, .ref o42, .ref o44, .int v46, .ref o47])), (o6, .inl (cI, 12, .inl fw7)), (o14, .inl (cI, 12, .inl fw15))]) sz)) 0 0 (va_A ([(o1, .inr (12, [.int v2, .ref o3, .int v5, .ref o6, .int v8, .ref o9, .ref o11, .int v13, .ref o14, .int v16, .ref o17, .int v19, .int v20, .int v21, .ref o22, .ref o24, .ref o26, .ref o28, .ref o30, .int v32, .ref o33, .ref o35, .ref o37, .int v39, .ref o40, .ref o42, .ref o44, .int v46, .ref o47])), (o6, .inl (cI, 12, .inl fw7)), (o14, .inl (cI, 12, .inl fw15))]) sz) := by
  refine Met.ofW (cc := cX12_nodes) (maxL := 3) (ret := (some .int)) (by decide) rfl ?_
  intro p e s m args below meth c s₁ B hml hv
  obtain ⟨rfl, hsz, hP, hK, hD0, hN⟩ := hv
  have hx := B.exec
  have hb := B.bytes
  have hr := B.returns
  have hts := atoms_spec (ws := wsX12_nodes) B.pre
  have hown : s.vm.findClass RX12 = some m.cls := findClass_of_methodNamed B.named
  have hlocks := B.notSynchronized
  subst hsz
  have hD := hD0.self (sz := s.heap.size)
  generalize hAe : va_A ([(o1, .inr (12, [.int v2, .ref o3, .int v5, .ref o6, .int v8, .ref o9, .ref o11, .int v13, .ref o14, .int v16, .ref o17, .int v19, .int v20, .int v21, .ref o22, .ref o24, .ref o26, .ref o28, .ref o30, .int v32, .ref o33, .ref o35, .ref o37, .int v39, .ref o40, .ref o42, .ref o44, .int v46, .ref o47])), (o6, .inl (cI, 12, .inl fw7)), (o14, .inl (cI, 12, .inl fw15))]) s.heap.size = A at hD ⊢
  have hA : ∀ q : Nat, s.heap.size ≤ q → A q := fun q h => by rw [← hAe]; exact Or.inr h
  have hS : va_S A s.heap s.heap [] := va_S.rf
  have hP : va_P (dC, dI) vwCl ([(o1, .inr (12, [.int v2, .ref o3, .int v5, .ref o6, .int v8, .ref o9, .ref o11, .int v13, .ref o14, .int v16, .ref o17, .int v19, .int v20, .int v21, .ref o22, .ref o24, .ref o26, .ref o28, .ref o30, .int v32, .ref o33, .ref o35, .ref o37, .int v39, .ref o40, .ref o42, .ref o44, .int v46, .ref o47])), (o6, .inl (cI, 12, .inl fw7)), (o14, .inl (cI, 12, .inl fw15))]) s.heap := hP
  have hl := lv_entry ([.ref o1, .int a1]) (n := 3) (Nat.le_of_ble_eq_true rfl)
  rw [lg_entry_eq]
  generalize (lg_sl ([.ref o1, .int a1]) ++ List.replicate (3 - (lg_sl ([.ref o1, .int a1])).length) Slot.unset).toArray = ls at hl ⊢
  have hl : lv_has ls 3 [(0, .ref o1), (1, .int a1)] := hl
  refine gen_Q (fun Q hQ => ?_)
  refine lv_iload_n hx hb dX12_nodes_0 rfl (lv_at hl 1 rfl) ?_
  refine lv_iconst (v := 0) hx hb dX12_nodes_1 (by decide) ?_
  refine lv_bipush (v := 12) hx hb dX12_nodes_2 (by decide) ?_
  refine kc_i (D := (dC, dI)) (S := Unit) (wc := []) (wr := [(o1, .inr (12, [.int v2, .ref o3, .int v5, .ref o6, .int v8, .ref o9, .ref o11, .int v13, .ref o14, .int v16, .ref o17, .int v19, .int v20, .int v21, .ref o22, .ref o24, .ref o26, .ref o28, .ref o30, .int v32, .ref o33, .ref o35, .ref o37, .int v39, .ref o40, .ref o42, .ref o44, .int v46, .ref o47])), (o6, .inl (cI, 12, .inl fw7)), (o14, .inl (cI, 12, .inl fw15))]) (w1 := fun _ => []) (wn := fun _ => [(o1, .inr (12, [.int v2, .ref o3, .int v5, .ref o6, .int v8, .ref o9, .ref o11, .int v13, .ref o14, .int v16, .ref o17, .int v19, .int v20, .int v21, .ref o22, .ref o24, .ref o26, .ref o28, .ref o30, .int v32, .ref o33, .ref o35, .ref o37, .int v39, .ref o40, .ref o42, .ref o44, .int v46, .ref o47])), (o6, .inl (cI, 12, .inl fw7)), (o14, .inl (cI, 12, .inl fw15))]) (fun hPc hDc => va_runS (As := [.int a1, .int 0, .int 12]) (rest := []) ⟨hx, hb, hml, hown, hts⟩ (kxX12_in_12 l dC dI cI c2 cZ a1 0 12 s.heap.size ik_0 (iv_w ik_12 (by decide))) (va_cwS 3 hts gX12_nodes_X12_in rfl rfl rfl (by decide +kernel) ⟨Nat.le_of_ble_eq_true rfl, Nat.le_of_ble_eq_true rfl⟩) (pre_S hPc hK hDc hN) rfl rfl hl.1 rfl (lv_room (Nat.le_of_ble_eq_true rfl)) dX12_nodes_4 ⟨Nat.le_of_ble_eq_true rfl, Nat.le_of_ble_eq_true rfl⟩) hP hD hS hA [] [0, 1, 2] [0, 1, 2] rfl rfl (by decide +kernel) (by decide +kernel) (by decide +kernel) (by decide +kernel) (fun _ => rfl) (fun x1 _ H locs hq hP hD hS => ?_)
  obtain ⟨x1_h, i2, e3⟩ := hq
  have hP : va_P (dC, dI) vwCl ([(o1, .inr (12, [.int v2, .ref o3, .int v5, .ref o6, .int v8, .ref o9, .ref o11, .int v13, .ref o14, .int v16, .ref o17, .int v19, .int v20, .int v21, .ref o22, .ref o24, .ref o26, .ref o28, .ref o30, .int v32, .ref o33, .ref o35, .ref o37, .int v39, .ref o40, .ref o42, .ref o44, .int v46, .ref o47])), (o6, .inl (cI, 12, .inl fw7)), (o14, .inl (cI, 12, .inl fw15))]) H := hP
  have hD : va_D A ([(o1, .inr (12, [.int v2, .ref o3, .int v5, .ref o6, .int v8, .ref o9, .ref o11, .int v13, .ref o14, .int v16, .ref o17, .int v19, .int v20, .int v21, .ref o22, .ref o24, .ref o26, .ref o28, .ref o30, .int v32, .ref o33, .ref o35, .ref o37, .int v39, .ref o40, .ref o42, .ref o44, .int v46, .ref o47])), (o6, .inl (cI, 12, .inl fw7)), (o14, .inl (cI, 12, .inl fw15))]) := hD
  refine lv_if_ne (tgt := 12) hx hb dX12_nodes_7 (by decide) (fun h4 => ?_) (fun h4 => ?_)
  ·
    have j5 : Iv 1 1 x1 := r_nelo h4 x1_h ik_0 (by decide)
    have j6 : Iv 0 12 a1 := i2 h4
    refine lv_aload_n hx hb dX12_nodes_12 rfl (lv_at hl 0 rfl) ?_
    refine lv_iload_n hx hb dX12_nodes_13 rfl (lv_at hl 1 rfl) ?_
    refine va_put (D := (dC, dI)) (ci := 12) (v := .int a1) (ty := .int) (C := RX12) (T := TX12) (N := 29) hx hb hts iw_X12_nodes_X12 tyX12 tyX12_ok nmX12 hown hK hP hD hS 0 rfl rfl 2 (by decide) (hts (.fieldLink RX12 73 "HolelessHouseModel" "n" "I") hm_X12_nodes_1) (fun _ h9 => h9) rfl (by decide +kernel) rfl rfl (Nat.le_of_ble_eq_true rfl) dX12_nodes_14 (fun H locs hP hD hS => ?_)
    have hP : va_P (dC, dI) vwCl ([(o1, .inr (12, [.int v2, .ref o3, .int a1, .ref o6, .int v8, .ref o9, .ref o11, .int v13, .ref o14, .int v16, .ref o17, .int v19, .int v20, .int v21, .ref o22, .ref o24, .ref o26, .ref o28, .ref o30, .int v32, .ref o33, .ref o35, .ref o37, .int v39, .ref o40, .ref o42, .ref o44, .int v46, .ref o47])), (o6, .inl (cI, 12, .inl fw7)), (o14, .inl (cI, 12, .inl fw15))]) H := hP
    have hD : va_D A ([(o1, .inr (12, [.int v2, .ref o3, .int a1, .ref o6, .int v8, .ref o9, .ref o11, .int v13, .ref o14, .int v16, .ref o17, .int v19, .int v20, .int v21, .ref o22, .ref o24, .ref o26, .ref o28, .ref o30, .int v32, .ref o33, .ref o35, .ref o37, .int v39, .ref o40, .ref o42, .ref o44, .int v46, .ref o47])), (o6, .inl (cI, 12, .inl fw7)), (o14, .inl (cI, 12, .inl fw15))]) := hD
    refine lv_iconst (v := 0) hx hb dX12_nodes_17 (by decide) ?_
    refine lv_istore_n (lv' := [(2, .int 0), (0, .ref o1), (1, .int a1)]) hx hb dX12_nodes_18 rfl hl (by decide) rfl (fun ls hl => ?_)
    have L1 : ∀ (N : Nat) (x39 : Int32) (f40 : Nat → Int32) (H : Heap) (locs : List Loc) (ls : Array Slot), (12 - x39.toInt).toNat < N → Iv 0 12 x39 → Bd 12 0 4095 f40 → va_P (dC, dI) vwCl ([(o1, .inr (12, [.int v2, .ref o3, .int a1, .ref o6, .int v8, .ref o9, .ref o11, .int v13, .ref o14, .int v16, .ref o17, .int v19, .int v20, .int v21, .ref o22, .ref o24, .ref o26, .ref o28, .ref o30, .int v32, .ref o33, .ref o35, .ref o37, .int v39, .ref o40, .ref o42, .ref o44, .int v46, .ref o47])), (o6, .inl (cI, 12, .inl f40)), (o14, .inl (cI, 12, .inl fw15))]) H → va_D A ([(o1, .inr (12, [.int v2, .ref o3, .int a1, .ref o6, .int v8, .ref o9, .ref o11, .int v13, .ref o14, .int v16, .ref o17, .int v19, .int v20, .int v21, .ref o22, .ref o24, .ref o26, .ref o28, .ref o30, .int v32, .ref o33, .ref o35, .ref o37, .int v39, .ref o40, .ref o42, .ref o44, .int v46, .ref o47])), (o6, .inl (cI, 12, .inl f40)), (o14, .inl (cI, 12, .inl fw15))]) → va_S A s.heap H locs → lv_has ls 3 [(2, .int x39), (0, .ref o1), (1, .int a1)] → W p l e ({ frames := 1, cells := 0, slots := 0, locals := 22 }) s m ([.ref o1, .int a1] : List Value).toArray below meth c H locs 0 0 Q (F0 m 19 ls []) := by
      intro N
      induction N with
      | zero =>
        intro x39 f40 H locs ls hM
        exact absurd hM (Nat.not_lt_zero _)
      | succ N ih1 =>
        intro x39 f40 H locs ls hM1 x39_h f40_b hP hD hS hl
        refine lv_iload_n hx hb dX12_nodes_19 rfl (lv_at hl 0 rfl) ?_
        refine lv_bipush (v := 12) hx hb dX12_nodes_20 (by decide) ?_
        refine lv_icmp_ge (tgt := 38) hx hb dX12_nodes_22 (by decide) (fun h41 => ?_) (fun h41 => ?_)
        ·
          have qh41 := le_i h41
          have j42 : Iv 12 12 x39 := r_ler qh41 ik_12 x39_h (by decide)
          refine lv_aload_n hx hb dX12_nodes_38 rfl (lv_at hl 1 rfl) ?_
          refine lv_iconst (v := 0) hx hb dX12_nodes_39 (by decide) ?_
          refine va_put (D := (dC, dI)) (ci := 12) (v := .int 0) (ty := .int) (C := RX12) (T := TX12) (N := 29) hx hb hts iw_X12_nodes_X12 tyX12 tyX12_ok nmX12 hown hK hP hD hS 0 rfl rfl 9 (by decide) (hts (.fieldLink RX12 80 "HolelessHouseModel" "drafted" "I") hm_X12_nodes_3) (fun _ h9 => h9) rfl (by decide +kernel) rfl rfl (Nat.le_of_ble_eq_true rfl) dX12_nodes_40 (fun H locs hP hD hS => ?_)
          have hP : va_P (dC, dI) vwCl ([(o1, .inr (12, [.int v2, .ref o3, .int a1, .ref o6, .int v8, .ref o9, .ref o11, .int v13, .ref o14, .int 0, .ref o17, .int v19, .int v20, .int v21, .ref o22, .ref o24, .ref o26, .ref o28, .ref o30, .int v32, .ref o33, .ref o35, .ref o37, .int v39, .ref o40, .ref o42, .ref o44, .int v46, .ref o47])), (o6, .inl (cI, 12, .inl f40)), (o14, .inl (cI, 12, .inl fw15))]) H := hP
          have hD : va_D A ([(o1, .inr (12, [.int v2, .ref o3, .int a1, .ref o6, .int v8, .ref o9, .ref o11, .int v13, .ref o14, .int 0, .ref o17, .int v19, .int v20, .int v21, .ref o22, .ref o24, .ref o26, .ref o28, .ref o30, .int v32, .ref o33, .ref o35, .ref o37, .int v39, .ref o40, .ref o42, .ref o44, .int v46, .ref o47])), (o6, .inl (cI, 12, .inl f40)), (o14, .inl (cI, 12, .inl fw15))]) := hD
          refine lv_aload_n hx hb dX12_nodes_43 rfl (lv_at hl 1 rfl) ?_
          refine kc_v (D := (dC, dI)) (S := Int32) (wc := [(o1, .inr (12, [.int v2, .ref o3, .int a1, .ref o6, .int v8, .ref o9, .ref o11, .int v13, .ref o14, .int 0, .ref o17, .int v19, .int v20, .int v21, .ref o22, .ref o24, .ref o26, .ref o28, .ref o30, .int v32, .ref o33, .ref o35, .ref o37, .int v39, .ref o40, .ref o42, .ref o44, .int v46, .ref o47]))]) (wr := [(o6, .inl (cI, 12, .inl f40)), (o14, .inl (cI, 12, .inl fw15))]) (w1 := fun u => [(o1, .inr (12, [.int v2, .ref o3, .int a1, .ref o6, .int v8, .ref o9, .ref o11, .int v13, .ref o14, .int 0, .ref o17, .int u, .int v20, .int v21, .ref o22, .ref o24, .ref o26, .ref o28, .ref o30, .int v32, .ref o33, .ref o35, .ref o37, .int v39, .ref o40, .ref o42, .ref o44, .int v46, .ref o47]))]) (wn := fun u => [(o1, .inr (12, [.int v2, .ref o3, .int a1, .ref o6, .int v8, .ref o9, .ref o11, .int v13, .ref o14, .int 0, .ref o17, .int u, .int v20, .int v21, .ref o22, .ref o24, .ref o26, .ref o28, .ref o30, .int v32, .ref o33, .ref o35, .ref o37, .int v39, .ref o40, .ref o42, .ref o44, .int v46, .ref o47])), (o6, .inl (cI, 12, .inl f40)), (o14, .inl (cI, 12, .inl fw15))]) (fun hPc hDc => va_runV (As := []) (rest := []) ⟨hx, hb, hml, hown, hts⟩ (kX12_changed_1 l dC dI cI c2 cZ o1 o3 o6 o9 o11 o14 o17 o22 o24 o26 o28 o30 o33 o35 o37 o40 o42 o44 o47 v2 a1 v8 v13 0 v19 v20 v21 v32 v39 v46 H.size j6 v8_h v13_h (iv_w ik_0 (by decide)) v19_h v32_h v39_h v46_h) (cwV 0 hts gX12_nodes_X12_changed rfl rfl rfl (by decide +kernel) ⟨Nat.le_of_ble_eq_true rfl, Nat.le_of_ble_eq_true rfl⟩) (pre_V hPc hK hDc hN (ci := 12) (q0 := 0) rfl rfl) rfl rfl hl.1 rfl (lv_room (Nat.le_of_ble_eq_true rfl)) dX12_nodes_44 ⟨Nat.le_of_ble_eq_true rfl, Nat.le_of_ble_eq_true rfl⟩) hP hD hS hA [0] [1, 2] [2, 0, 1] rfl rfl (by decide +kernel) (by decide +kernel) (by decide +kernel) (by decide +kernel) (fun _ => rfl) (fun y43 H locs hq hP hD hS => ?_)
          have y43_h := hq
          have hP : va_P (dC, dI) vwCl ([(o1, .inr (12, [.int v2, .ref o3, .int a1, .ref o6, .int v8, .ref o9, .ref o11, .int v13, .ref o14, .int 0, .ref o17, .int y43, .int v20, .int v21, .ref o22, .ref o24, .ref o26, .ref o28, .ref o30, .int v32, .ref o33, .ref o35, .ref o37, .int v39, .ref o40, .ref o42, .ref o44, .int v46, .ref o47])), (o6, .inl (cI, 12, .inl f40)), (o14, .inl (cI, 12, .inl fw15))]) H := hP
          have hD : va_D A ([(o1, .inr (12, [.int v2, .ref o3, .int a1, .ref o6, .int v8, .ref o9, .ref o11, .int v13, .ref o14, .int 0, .ref o17, .int y43, .int v20, .int v21, .ref o22, .ref o24, .ref o26, .ref o28, .ref o30, .int v32, .ref o33, .ref o35, .ref o37, .int v39, .ref o40, .ref o42, .ref o44, .int v46, .ref o47])), (o6, .inl (cI, 12, .inl f40)), (o14, .inl (cI, 12, .inl fw15))]) := hD
          refine lv_aload_n hx hb dX12_nodes_47 rfl (lv_at hl 1 rfl) ?_
          refine va_get (D := (dC, dI)) (ci := 12) (v := .int a1) (C := RX12) (T := TX12) (N := 29) hx hb hts iw_X12_nodes_X12 hown hK hP 0 rfl rfl 2 (by decide) (hts (.fieldLink RX12 73 "HolelessHouseModel" "n" "I") hm_X12_nodes_1) (fun _ h9 => h9) rfl dX12_nodes_48 ?_
          rw [hQ]
          exact W.iret (v := a1) hx hb hr (fun t ht hW => ⟨⟨a1, (a1, 0, y43, f40), rfl, ⟨(iv_w j6 (by decide)), j6, (iv_w ik_0 (by decide)), (iv_w y43_h (by decide)), f40_b, (nodeF_ok j6), DR_0⟩, by rw [ht]; exact hP, va_K.moved hW.alike hK, hD⟩, hS.F ht⟩) hS.2.2 dX12_nodes_51
        ·
          have qh41 := nle_i h41
          have j44 : Iv 0 11 x39 := r_ltl qh41 x39_h ik_12 (by decide)
          refine lv_aload_n hx hb dX12_nodes_25 rfl (lv_at hl 1 rfl) ?_
          refine va_get (D := (dC, dI)) (ci := 12) (v := .ref o6) (C := RX12) (T := TX12) (N := 29) hx hb hts iw_X12_nodes_X12 hown hK hP 0 rfl rfl 3 (by decide) (hts (.fieldLink RX12 13 "HolelessHouseModel" "near" "[I") hm_X12_nodes_2) (fun _ h9 => h9) rfl dX12_nodes_26 ?_
          refine lv_iload_n hx hb dX12_nodes_29 rfl (lv_at hl 0 rfl) ?_
          refine lv_iconst (v := 0) hx hb dX12_nodes_30 (by decide) ?_
          refine k_iast hx hb hK hP hD hS 1 0 rfl rfl (vin_iv j44 (by decide)) dX12_nodes_31 (fun f45 H locs f45_e hP hD hS => ?_)
          have f45_b : Bd 12 0 4095 f45 := bd_upd f45_e f40_b ik_0 (by decide)
          have hP : va_P (dC, dI) vwCl ([(o1, .inr (12, [.int v2, .ref o3, .int a1, .ref o6, .int v8, .ref o9, .ref o11, .int v13, .ref o14, .int v16, .ref o17, .int v19, .int v20, .int v21, .ref o22, .ref o24, .ref o26, .ref o28, .ref o30, .int v32, .ref o33, .ref o35, .ref o37, .int v39, .ref o40, .ref o42, .ref o44, .int v46, .ref o47])), (o6, .inl (cI, 12, .inl f45)), (o14, .inl (cI, 12, .inl fw15))]) H := hP
          have hD : va_D A ([(o1, .inr (12, [.int v2, .ref o3, .int a1, .ref o6, .int v8, .ref o9, .ref o11, .int v13, .ref o14, .int v16, .ref o17, .int v19, .int v20, .int v21, .ref o22, .ref o24, .ref o26, .ref o28, .ref o30, .int v32, .ref o33, .ref o35, .ref o37, .int v39, .ref o40, .ref o42, .ref o44, .int v46, .ref o47])), (o6, .inl (cI, 12, .inl f45)), (o14, .inl (cI, 12, .inl fw15))]) := hD
          obtain ⟨x46, x46_e⟩ : ∃ z : Int32, z = x39 + 1 := ⟨_, rfl⟩
          have x46_h : Iv 1 12 x46 := iv_e x46_e (iv_add j44 ik_1 (by decide))
          refine lv_iinc (v := x46) (lv' := [(2, .int x46), (0, .ref o1), (1, .int a1)]) hx hb dX12_nodes_32 hl (k := 0) rfl (incN (by decide +kernel) x46_e) (by decide) rfl (fun ls hl => ?_)
          refine lv_goto (tgt := 19) hx hb dX12_nodes_35 (by decide) ?_
          exact ih1 x46 f45 _ _ _ (ms_up x46_e j44 (by decide) hM1) (iv_w x46_h (by decide)) f45_b hP hD hS hl
    exact L1 _ 0 fw7 _ _ _ (Nat.lt_succ_self _) (iv_w ik_0 (by decide)) fw7_b hP hD hS hl
  ·
    have j47 : Iv 0 0 x1 := r_eq h4 ik_0
    refine lv_iconst (v := (-1)) hx hb dX12_nodes_10 (by decide) ?_
    rw [hQ]
    exact W.iret (v := (-1)) hx hb hr (fun t ht hW => ⟨⟨(-1), (v5, v16, v19, fw7), rfl, ⟨(iv_w ikm_1 (by decide)), v5_h, v16_h, v19_h, fw7_b, (nodeF_no e3 h4), pre0⟩, by rw [ht]; exact hP, va_K.moved hW.alike hK, hD⟩, hS.F ht⟩) hS.2.2 dX12_nodes_11
set_option maxHeartbeats 4000000 in
set_option maxRecDepth 100000 in
theorem kxX12_in_13 (l : Launch) (dC : Nat → ClassId) (dI : Nat → Nat → Nat) (cI c2 cZ : ClassId) (a0 : Int32) (a1 : Int32) (a2 : Int32) (sz : Nat) (a1_h : Iv 0 0 a1) (a2_h : Iv 0 255 a2) : Met l yX12_in wsX12_in ({ frames := 0, cells := 0, slots := 0, locals := 0 }) (va_Pc [.int a0, .int a1, .int a2] (wPre (dC, dI) [(cI, .int), (c2, .array .int), (cZ, .boolean)] ([]) sz)) (va_Qi (fun (r : Int32) (_ : Unit) => Iv 0 1 r ∧ (¬ r = 0 → Iv 0 255 a0) ∧ (r : Int32) = if Int32.toInt a1 ≤ Int32.toInt a0 ∧ Int32.toInt a0 ≤ Int32.toInt a2 then 1 else 0) (fun _ t => wPost (dC, dI) [(cI, .int), (c2, .array .int), (cZ, .boolean)] (va_A ([]) sz) ([]) t) (va_A ([]) sz)) 0 0 (va_A ([]) sz) := by
  refine Met.ofW (cc := cX12_in) (maxL := 3) (ret := (some .boolean)) (by decide) rfl ?_
  intro p e s m args below meth c s₁ B hml hv
  obtain ⟨rfl, hsz, hP, hK, hD0, hN⟩ := hv
  have hx := B.exec
  have hb := B.bytes
  have hr := B.returns
  have hts := atoms_spec (ws := wsX12_in) B.pre
  have hown : s.vm.findClass RX12 = some m.cls := findClass_of_methodNamed B.named
  have hlocks := B.notSynchronized
  subst hsz
  have hD := hD0.self (sz := s.heap.size)
  generalize hAe : va_A ([]) s.heap.size = A at hD ⊢
  have hA : ∀ q : Nat, s.heap.size ≤ q → A q := fun q h => by rw [← hAe]; exact Or.inr h
  have hS : va_S A s.heap s.heap [] := va_S.rf
  have hP : va_P (dC, dI) vwCl ([]) s.heap := hP
  have hl := lv_entry ([.int a0, .int a1, .int a2]) (n := 3) (Nat.le_of_ble_eq_true rfl)
  rw [lg_entry_eq]
  generalize (lg_sl ([.int a0, .int a1, .int a2]) ++ List.replicate (3 - (lg_sl ([.int a0, .int a1, .int a2])).length) Slot.unset).toArray = ls at hl ⊢
  have hl : lv_has ls 3 [(0, .int a0), (1, .int a1), (2, .int a2)] := hl
  refine gen_Q (fun Q hQ => ?_)
  refine lv_iload_n hx hb dX12_in_0 rfl (lv_at hl 0 rfl) ?_
  refine lv_iload_n hx hb dX12_in_1 rfl (lv_at hl 1 rfl) ?_
  refine lv_icmp_lt (tgt := 14) hx hb dX12_in_2 (by decide) (fun h1 => ?_) (fun h1 => ?_)
  ·
    have qh1 := lt_i h1
    have j2 : Iv (-2147483648) (-1) a0 := r_ltl qh1 (iv_full a0) a1_h (by decide)
    refine lv_iconst (v := 0) hx hb dX12_in_14 (by decide) ?_
    rw [hQ]
    exact W.zret (v := 0) (ty := .boolean) hx hb hr rfl (fun t ht hW => ⟨⟨0, (), rfl, ⟨(iv_w ik_0 (by decide)), (fun h8 => absurd rfl h8), (inx_l qh1)⟩, by rw [ht]; exact hP, va_K.moved hW.alike hK, hD⟩, hS.F ht⟩) hS.2.2 dX12_in_15
  ·
    have qh1 := nlt_i h1
    have j3 : Iv 0 2147483647 a0 := r_ler qh1 a1_h (iv_full a0) (by decide)
    refine lv_iload_n hx hb dX12_in_5 rfl (lv_at hl 0 rfl) ?_
    refine lv_iload_n hx hb dX12_in_6 rfl (lv_at hl 2 rfl) ?_
    refine lv_icmp_gt (tgt := 14) hx hb dX12_in_7 (by decide) (fun h4 => ?_) (fun h4 => ?_)
    ·
      have qh4 := lt_i h4
      have j5 : Iv 1 2147483647 a0 := r_ltr qh4 a2_h j3 (by decide)
      refine lv_iconst (v := 0) hx hb dX12_in_14 (by decide) ?_
      rw [hQ]
      exact W.zret (v := 0) (ty := .boolean) hx hb hr rfl (fun t ht hW => ⟨⟨0, (), rfl, ⟨(iv_w ik_0 (by decide)), (fun h8 => absurd rfl h8), (inx_h qh4)⟩, by rw [ht]; exact hP, va_K.moved hW.alike hK, hD⟩, hS.F ht⟩) hS.2.2 dX12_in_15
    ·
      have qh4 := nlt_i h4
      have j6 : Iv 0 255 a0 := r_lel qh4 j3 a2_h (by decide)
      refine lv_iconst (v := 1) hx hb dX12_in_10 (by decide) ?_
      refine lv_goto (tgt := 15) hx hb dX12_in_11 (by decide) ?_
      rw [hQ]
      exact W.zret (v := 1) (ty := .boolean) hx hb hr rfl (fun t ht hW => ⟨⟨1, (), rfl, ⟨(iv_w ik_1 (by decide)), (fun _ => j6), (inx_t qh1 qh4)⟩, by rw [ht]; exact hP, va_K.moved hW.alike hK, hD⟩, hS.F ht⟩) hS.2.2 dX12_in_15
set_option maxHeartbeats 4000000 in
set_option maxRecDepth 100000 in
theorem kxX12_in_14 (l : Launch) (dC : Nat → ClassId) (dI : Nat → Nat → Nat) (cI c2 cZ : ClassId) (a0 : Int32) (a1 : Int32) (a2 : Int32) (sz : Nat) (a1_h : Iv 0 0 a1) (a2_h : Iv 4 11 a2) : Met l yX12_in wsX12_in ({ frames := 0, cells := 0, slots := 0, locals := 0 }) (va_Pc [.int a0, .int a1, .int a2] (wPre (dC, dI) [(cI, .int), (c2, .array .int), (cZ, .boolean)] ([]) sz)) (va_Qi (fun (r : Int32) (_ : Unit) => Iv 0 1 r ∧ (¬ r = 0 → Iv 0 11 a0) ∧ (r : Int32) = if Int32.toInt a1 ≤ Int32.toInt a0 ∧ Int32.toInt a0 ≤ Int32.toInt a2 then 1 else 0) (fun _ t => wPost (dC, dI) [(cI, .int), (c2, .array .int), (cZ, .boolean)] (va_A ([]) sz) ([]) t) (va_A ([]) sz)) 0 0 (va_A ([]) sz) := by
  refine Met.ofW (cc := cX12_in) (maxL := 3) (ret := (some .boolean)) (by decide) rfl ?_
  intro p e s m args below meth c s₁ B hml hv
  obtain ⟨rfl, hsz, hP, hK, hD0, hN⟩ := hv
  have hx := B.exec
  have hb := B.bytes
  have hr := B.returns
  have hts := atoms_spec (ws := wsX12_in) B.pre
  have hown : s.vm.findClass RX12 = some m.cls := findClass_of_methodNamed B.named
  have hlocks := B.notSynchronized
  subst hsz
  have hD := hD0.self (sz := s.heap.size)
  generalize hAe : va_A ([]) s.heap.size = A at hD ⊢
  have hA : ∀ q : Nat, s.heap.size ≤ q → A q := fun q h => by rw [← hAe]; exact Or.inr h
  have hS : va_S A s.heap s.heap [] := va_S.rf
  have hP : va_P (dC, dI) vwCl ([]) s.heap := hP
  have hl := lv_entry ([.int a0, .int a1, .int a2]) (n := 3) (Nat.le_of_ble_eq_true rfl)
  rw [lg_entry_eq]
  generalize (lg_sl ([.int a0, .int a1, .int a2]) ++ List.replicate (3 - (lg_sl ([.int a0, .int a1, .int a2])).length) Slot.unset).toArray = ls at hl ⊢
  have hl : lv_has ls 3 [(0, .int a0), (1, .int a1), (2, .int a2)] := hl
  refine gen_Q (fun Q hQ => ?_)
  refine lv_iload_n hx hb dX12_in_0 rfl (lv_at hl 0 rfl) ?_
  refine lv_iload_n hx hb dX12_in_1 rfl (lv_at hl 1 rfl) ?_
  refine lv_icmp_lt (tgt := 14) hx hb dX12_in_2 (by decide) (fun h1 => ?_) (fun h1 => ?_)
  ·
    have qh1 := lt_i h1
    have j2 : Iv (-2147483648) (-1) a0 := r_ltl qh1 (iv_full a0) a1_h (by decide)
    refine lv_iconst (v := 0) hx hb dX12_in_14 (by decide) ?_
    rw [hQ]
    exact W.zret (v := 0) (ty := .boolean) hx hb hr rfl (fun t ht hW => ⟨⟨0, (), rfl, ⟨(iv_w ik_0 (by decide)), (fun h8 => absurd rfl h8), (inx_l qh1)⟩, by rw [ht]; exact hP, va_K.moved hW.alike hK, hD⟩, hS.F ht⟩) hS.2.2 dX12_in_15
  ·
    have qh1 := nlt_i h1
    have j3 : Iv 0 2147483647 a0 := r_ler qh1 a1_h (iv_full a0) (by decide)
    refine lv_iload_n hx hb dX12_in_5 rfl (lv_at hl 0 rfl) ?_
    refine lv_iload_n hx hb dX12_in_6 rfl (lv_at hl 2 rfl) ?_
    refine lv_icmp_gt (tgt := 14) hx hb dX12_in_7 (by decide) (fun h4 => ?_) (fun h4 => ?_)
    ·
      have qh4 := lt_i h4
      have j5 : Iv 5 2147483647 a0 := r_ltr qh4 a2_h j3 (by decide)
      refine lv_iconst (v := 0) hx hb dX12_in_14 (by decide) ?_
      rw [hQ]
      exact W.zret (v := 0) (ty := .boolean) hx hb hr rfl (fun t ht hW => ⟨⟨0, (), rfl, ⟨(iv_w ik_0 (by decide)), (fun h8 => absurd rfl h8), (inx_h qh4)⟩, by rw [ht]; exact hP, va_K.moved hW.alike hK, hD⟩, hS.F ht⟩) hS.2.2 dX12_in_15
    ·
      have qh4 := nlt_i h4
      have j6 : Iv 0 11 a0 := r_lel qh4 j3 a2_h (by decide)
      refine lv_iconst (v := 1) hx hb dX12_in_10 (by decide) ?_
      refine lv_goto (tgt := 15) hx hb dX12_in_11 (by decide) ?_
      rw [hQ]
      exact W.zret (v := 1) (ty := .boolean) hx hb hr rfl (fun t ht hW => ⟨⟨1, (), rfl, ⟨(iv_w ik_1 (by decide)), (fun _ => j6), (inx_t qh1 qh4)⟩, by rw [ht]; exact hP, va_K.moved hW.alike hK, hD⟩, hS.F ht⟩) hS.2.2 dX12_in_15
set_option maxHeartbeats 4000000 in
set_option maxRecDepth 100000 in
theorem kxX12_row_2 (l : Launch) (dC : Nat → ClassId) (dI : Nat → Nat → Nat) (cI c2 cZ : ClassId) (o1 : Nat) (o3 : Nat) (o6 : Nat) (o9 : Nat) (o11 : Nat) (o14 : Nat) (o17 : Nat) (o22 : Nat) (o24 : Nat) (o26 : Nat) (o28 : Nat) (o30 : Nat) (o33 : Nat) (o35 : Nat) (o37 : Nat) (o40 : Nat) (o42 : Nat) (o44 : Nat) (o47 : Nat) (v2 : Int32) (fw4 : Nat → Int32) (v5 : Int32) (v8 : Int32) (fw10 : Nat → Int32) (v13 : Int32) (v16 : Int32) (v19 : Int32) (v20 : Int32) (v21 : Int32) (v32 : Int32) (v39 : Int32) (v46 : Int32) (a1 : Int32) (a2 : Int32) (sz : Nat) (v5_h : Iv 0 12 v5) (v8_h : Iv 0 8 v8) (fw10_b : Bd 12 (-9) 255 fw10) (v13_h : Iv 0 12 v13) (v16_h : Iv 0 12 v16) (v19_h : Iv (-9) 12 v19) (v32_h : Iv 0 99 v32) (v39_h : Iv 0 12 v39) (v46_h : Iv 0 12 v46) : Met l yX12_row wsX12_row ({ frames := 1, cells := 0, slots := 0, locals := 22 }) (va_Pc [.ref o1, .int a1, .int a2] (wPre (dC, dI) [(cI, .int), (c2, .array .int), (cZ, .boolean)] ([(o1, .inr (12, [.int v2, .ref o3, .int v5, .ref o6, .int v8, .ref o9, .ref o11, .int v13, .ref o14, .int v16, .ref o17, .int v19, .int v20, .int v21, .ref o22, .ref o24, .ref o26, .ref o28, .ref o30, .int v32, .ref o33, .ref o35, .ref o37, .int v39, .ref o40, .ref o42, .ref o44, .int v46, .ref o47])), (o9, .inl (cI, 12, .inl fw10)), (o3, .inl (cI, 5, .inl fw4))]) sz)) (va_Qi (fun (r : Int32) (u : Int32 × (Nat → Int32) × (Nat → Int32)) => Iv (-3) 1 r ∧ Bd 12 (-9) 255 u.2.1 ∧ rowP a1 a2 v8 fw10 u.2.1 r) (fun u t => wPost (dC, dI) [(cI, .int), (c2, .array .int), (cZ, .boolean)] (va_A ([(o1, .inr (12, [.int v2, .ref o3, .int v5, .ref o6, .int v8, .ref o9, .ref o11, .int v13, .ref o14, .int v16, .ref o17, .int v19, .int v20, .int v21, .ref o22, .ref o24, .ref o26, .ref o28, .ref o30, .int v32, .ref o33, .ref o35, .ref o37, .int v39, .ref o40, .ref o42, .ref o44, .int v46, .ref o47])), (o9, .inl (cI, 12, .inl fw10)), (o3, .inl (cI, 5, .inl fw4))]) sz) ([(o1, .inr (12, [.int u.1, .ref o3, .int v5, .ref o6, .int v8, .ref o9, .ref o11, .int v13, .ref o14, .int v16, .ref o17, .int v19, .int v20, .int v21, .ref o22, .ref o24, .ref o26, .ref o28, .ref o30, .int v32, .ref o33, .ref o35, .ref o37, .int v39, .ref o40, .ref o42, .ref o44, .int v46, .ref o47])), (o9, .inl (cI, 12, .inl u.2.1)), (o3, .inl (cI, 5, .inl u.2.2))]) t) (va_A ([(o1, .inr (12, [.int v2, .ref o3, .int v5, .ref o6, .int v8, .ref o9, .ref o11, .int v13, .ref o14, .int v16, .ref o17, .int v19, .int v20, .int v21, .ref o22, .ref o24, .ref o26, .ref o28, .ref o30, .int v32, .ref o33, .ref o35, .ref o37, .int v39, .ref o40, .ref o42, .ref o44, .int v46, .ref o47])), (o9, .inl (cI, 12, .inl fw10)), (o3, .inl (cI, 5, .inl fw4))]) sz)) 0 0 (va_A ([(o1, .inr (12, [.int v2, .ref o3, .int v5, .ref o6, .int v8, .ref o9, .ref o11, .int v13, .ref o14, .int v16, .ref o17, .int v19, .int v20, .int v21, .ref o22, .ref o24, .ref o26, .ref o28, .ref o30, .int v32, .ref o33, .ref o35, .ref o37, .int v39, .ref o40, .ref o42, .ref o44, .int v46, .ref o47])), (o9, .inl (cI, 12, .inl fw10)), (o3, .inl (cI, 5, .inl fw4))]) sz) := by
  refine Met.ofW (cc := cX12_row) (maxL := 3) (ret := (some .int)) (by decide) rfl ?_
  intro p e s m args below meth c s₁ B hml hv
  obtain ⟨rfl, hsz, hP, hK, hD0, hN⟩ := hv
  have hx := B.exec
  have hb := B.bytes
  have hr := B.returns
  have hts := atoms_spec (ws := wsX12_row) B.pre
  have hown : s.vm.findClass RX12 = some m.cls := findClass_of_methodNamed B.named
  have hlocks := B.notSynchronized
  subst hsz
  have hD := hD0.self (sz := s.heap.size)
  generalize hAe : va_A ([(o1, .inr (12, [.int v2, .ref o3, .int v5, .ref o6, .int v8, .ref o9, .ref o11, .int v13, .ref o14, .int v16, .ref o17, .int v19, .int v20, .int v21, .ref o22, .ref o24, .ref o26, .ref o28, .ref o30, .int v32, .ref o33, .ref o35, .ref o37, .int v39, .ref o40, .ref o42, .ref o44, .int v46, .ref o47])), (o9, .inl (cI, 12, .inl fw10)), (o3, .inl (cI, 5, .inl fw4))]) s.heap.size = A at hD ⊢
  have hA : ∀ q : Nat, s.heap.size ≤ q → A q := fun q h => by rw [← hAe]; exact Or.inr h
  have hS : va_S A s.heap s.heap [] := va_S.rf
  have hP : va_P (dC, dI) vwCl ([(o1, .inr (12, [.int v2, .ref o3, .int v5, .ref o6, .int v8, .ref o9, .ref o11, .int v13, .ref o14, .int v16, .ref o17, .int v19, .int v20, .int v21, .ref o22, .ref o24, .ref o26, .ref o28, .ref o30, .int v32, .ref o33, .ref o35, .ref o37, .int v39, .ref o40, .ref o42, .ref o44, .int v46, .ref o47])), (o9, .inl (cI, 12, .inl fw10)), (o3, .inl (cI, 5, .inl fw4))]) s.heap := hP
  have hl := lv_entry ([.ref o1, .int a1, .int a2]) (n := 3) (Nat.le_of_ble_eq_true rfl)
  rw [lg_entry_eq]
  generalize (lg_sl ([.ref o1, .int a1, .int a2]) ++ List.replicate (3 - (lg_sl ([.ref o1, .int a1, .int a2])).length) Slot.unset).toArray = ls at hl ⊢
  have hl : lv_has ls 3 [(0, .ref o1), (1, .int a1), (2, .int a2)] := hl
  refine gen_Q (fun Q hQ => ?_)
  refine lv_iload_n hx hb dX12_row_0 rfl (lv_at hl 2 rfl) ?_
  refine lv_iconst (v := 0) hx hb dX12_row_1 (by decide) ?_
  refine lv_iconst (v := 1) hx hb dX12_row_2 (by decide) ?_
  refine lv_aload_n hx hb dX12_row_3 rfl (lv_at hl 0 rfl) ?_
  refine va_get (D := (dC, dI)) (ci := 12) (v := .int v8) (C := RX12) (T := TX12) (N := 29) hx hb hts iw_X12_row_X12 hown hK hP 0 rfl rfl 4 (by decide) (hts (.fieldLink RX12 128 "HolelessHouseModel" "columns" "I") hm_X12_row_1) (fun _ h9 => h9) rfl dX12_row_4 ?_
  refine lv_ishl hx hb dX12_row_7 (lv_topi (fun x1 x1_e => ?_))
  have x1_h : Iv 1 256 x1 := iv_e x1_e (iv_shl1 v8_h (by decide))
  refine lv_iconst (v := 1) hx hb dX12_row_8 (by decide) ?_
  refine lv_isub hx hb dX12_row_9 (lv_topi (fun x2 x2_e => ?_))
  have x2_h : Iv 0 255 x2 := iv_e x2_e (iv_sub x1_h ik_1 (by decide))
  refine kc_i (D := (dC, dI)) (S := Unit) (wc := []) (wr := [(o1, .inr (12, [.int v2, .ref o3, .int v5, .ref o6, .int v8, .ref o9, .ref o11, .int v13, .ref o14, .int v16, .ref o17, .int v19, .int v20, .int v21, .ref o22, .ref o24, .ref o26, .ref o28, .ref o30, .int v32, .ref o33, .ref o35, .ref o37, .int v39, .ref o40, .ref o42, .ref o44, .int v46, .ref o47])), (o9, .inl (cI, 12, .inl fw10)), (o3, .inl (cI, 5, .inl fw4))]) (w1 := fun _ => []) (wn := fun _ => [(o1, .inr (12, [.int v2, .ref o3, .int v5, .ref o6, .int v8, .ref o9, .ref o11, .int v13, .ref o14, .int v16, .ref o17, .int v19, .int v20, .int v21, .ref o22, .ref o24, .ref o26, .ref o28, .ref o30, .int v32, .ref o33, .ref o35, .ref o37, .int v39, .ref o40, .ref o42, .ref o44, .int v46, .ref o47])), (o9, .inl (cI, 12, .inl fw10)), (o3, .inl (cI, 5, .inl fw4))]) (fun hPc hDc => va_runS (As := [.int a2, .int 0, .int x2]) (rest := []) ⟨hx, hb, hml, hown, hts⟩ (kxX12_in_13 l dC dI cI c2 cZ a2 0 x2 s.heap.size ik_0 x2_h) (va_cwS 3 hts gX12_row_X12_in rfl rfl rfl (by decide +kernel) ⟨Nat.le_of_ble_eq_true rfl, Nat.le_of_ble_eq_true rfl⟩) (pre_S hPc hK hDc hN) rfl rfl hl.1 rfl (lv_room (Nat.le_of_ble_eq_true rfl)) dX12_row_10 ⟨Nat.le_of_ble_eq_true rfl, Nat.le_of_ble_eq_true rfl⟩) hP hD hS hA [] [0, 1, 2] [0, 1, 2] rfl rfl (by decide +kernel) (by decide +kernel) (by decide +kernel) (by decide +kernel) (fun _ => rfl) (fun x3 _ H locs hq hP hD hS => ?_)
  obtain ⟨x3_h, i4, e5⟩ := hq
  have hP : va_P (dC, dI) vwCl ([(o1, .inr (12, [.int v2, .ref o3, .int v5, .ref o6, .int v8, .ref o9, .ref o11, .int v13, .ref o14, .int v16, .ref o17, .int v19, .int v20, .int v21, .ref o22, .ref o24, .ref o26, .ref o28, .ref o30, .int v32, .ref o33, .ref o35, .ref o37, .int v39, .ref o40, .ref o42, .ref o44, .int v46, .ref o47])), (o9, .inl (cI, 12, .inl fw10)), (o3, .inl (cI, 5, .inl fw4))]) H := hP
  have hD : va_D A ([(o1, .inr (12, [.int v2, .ref o3, .int v5, .ref o6, .int v8, .ref o9, .ref o11, .int v13, .ref o14, .int v16, .ref o17, .int v19, .int v20, .int v21, .ref o22, .ref o24, .ref o26, .ref o28, .ref o30, .int v32, .ref o33, .ref o35, .ref o37, .int v39, .ref o40, .ref o42, .ref o44, .int v46, .ref o47])), (o9, .inl (cI, 12, .inl fw10)), (o3, .inl (cI, 5, .inl fw4))]) := hD
  refine lv_if_ne (tgt := 18) hx hb dX12_row_13 (by decide) (fun h6 => ?_) (fun h6 => ?_)
  ·
    have j7 : Iv 1 1 x3 := r_nelo h6 x3_h ik_0 (by decide)
    have j8 : Iv 0 255 a2 := i4 h6
    refine lv_iload_n hx hb dX12_row_18 rfl (lv_at hl 1 rfl) ?_
    refine lv_iconst (v := 0) hx hb dX12_row_19 (by decide) ?_
    refine lv_bipush (v := 11) hx hb dX12_row_20 (by decide) ?_
    refine kc_i (D := (dC, dI)) (S := Unit) (wc := []) (wr := [(o1, .inr (12, [.int v2, .ref o3, .int v5, .ref o6, .int v8, .ref o9, .ref o11, .int v13, .ref o14, .int v16, .ref o17, .int v19, .int v20, .int v21, .ref o22, .ref o24, .ref o26, .ref o28, .ref o30, .int v32, .ref o33, .ref o35, .ref o37, .int v39, .ref o40, .ref o42, .ref o44, .int v46, .ref o47])), (o9, .inl (cI, 12, .inl fw10)), (o3, .inl (cI, 5, .inl fw4))]) (w1 := fun _ => []) (wn := fun _ => [(o1, .inr (12, [.int v2, .ref o3, .int v5, .ref o6, .int v8, .ref o9, .ref o11, .int v13, .ref o14, .int v16, .ref o17, .int v19, .int v20, .int v21, .ref o22, .ref o24, .ref o26, .ref o28, .ref o30, .int v32, .ref o33, .ref o35, .ref o37, .int v39, .ref o40, .ref o42, .ref o44, .int v46, .ref o47])), (o9, .inl (cI, 12, .inl fw10)), (o3, .inl (cI, 5, .inl fw4))]) (fun hPc hDc => va_runS (As := [.int a1, .int 0, .int 11]) (rest := []) ⟨hx, hb, hml, hown, hts⟩ (kxX12_in_14 l dC dI cI c2 cZ a1 0 11 H.size ik_0 (iv_w ik_11 (by decide))) (va_cwS 3 hts gX12_row_X12_in rfl rfl rfl (by decide +kernel) ⟨Nat.le_of_ble_eq_true rfl, Nat.le_of_ble_eq_true rfl⟩) (pre_S hPc hK hDc hN) rfl rfl hl.1 rfl (lv_room (Nat.le_of_ble_eq_true rfl)) dX12_row_22 ⟨Nat.le_of_ble_eq_true rfl, Nat.le_of_ble_eq_true rfl⟩) hP hD hS hA [] [0, 1, 2] [0, 1, 2] rfl rfl (by decide +kernel) (by decide +kernel) (by decide +kernel) (by decide +kernel) (fun _ => rfl) (fun x9 _ H locs hq hP hD hS => ?_)
    obtain ⟨x9_h, i10, e11⟩ := hq
    have hP : va_P (dC, dI) vwCl ([(o1, .inr (12, [.int v2, .ref o3, .int v5, .ref o6, .int v8, .ref o9, .ref o11, .int v13, .ref o14, .int v16, .ref o17, .int v19, .int v20, .int v21, .ref o22, .ref o24, .ref o26, .ref o28, .ref o30, .int v32, .ref o33, .ref o35, .ref o37, .int v39, .ref o40, .ref o42, .ref o44, .int v46, .ref o47])), (o9, .inl (cI, 12, .inl fw10)), (o3, .inl (cI, 5, .inl fw4))]) H := hP
    have hD : va_D A ([(o1, .inr (12, [.int v2, .ref o3, .int v5, .ref o6, .int v8, .ref o9, .ref o11, .int v13, .ref o14, .int v16, .ref o17, .int v19, .int v20, .int v21, .ref o22, .ref o24, .ref o26, .ref o28, .ref o30, .int v32, .ref o33, .ref o35, .ref o37, .int v39, .ref o40, .ref o42, .ref o44, .int v46, .ref o47])), (o9, .inl (cI, 12, .inl fw10)), (o3, .inl (cI, 5, .inl fw4))]) := hD
    refine lv_if_ne (tgt := 34) hx hb dX12_row_25 (by decide) (fun h12 => ?_) (fun h12 => ?_)
    ·
      have j13 : Iv 1 1 x9 := r_nelo h12 x9_h ik_0 (by decide)
      have j14 : Iv 0 11 a1 := i10 h12
      refine lv_aload_n hx hb dX12_row_34 rfl (lv_at hl 0 rfl) ?_
      refine va_get (D := (dC, dI)) (ci := 12) (v := .ref o9) (C := RX12) (T := TX12) (N := 29) hx hb hts iw_X12_row_X12 hown hK hP 0 rfl rfl 5 (by decide) (hts (.fieldLink RX12 16 "HolelessHouseModel" "rows" "[I") hm_X12_row_2) (fun _ h9 => h9) rfl dX12_row_35 ?_
      refine lv_iload_n hx hb dX12_row_38 rfl (lv_at hl 1 rfl) ?_
      refine lv_iload_n hx hb dX12_row_39 rfl (lv_at hl 2 rfl) ?_
      refine k_iast hx hb hK hP hD hS 1 0 rfl rfl (vin_iv j14 (by decide)) dX12_row_40 (fun f15 H locs f15_e hP hD hS => ?_)
      have f15_b : Bd 12 (-9) 255 f15 := bd_upd f15_e fw10_b j8 (by decide)
      have hP : va_P (dC, dI) vwCl ([(o1, .inr (12, [.int v2, .ref o3, .int v5, .ref o6, .int v8, .ref o9, .ref o11, .int v13, .ref o14, .int v16, .ref o17, .int v19, .int v20, .int v21, .ref o22, .ref o24, .ref o26, .ref o28, .ref o30, .int v32, .ref o33, .ref o35, .ref o37, .int v39, .ref o40, .ref o42, .ref o44, .int v46, .ref o47])), (o9, .inl (cI, 12, .inl f15)), (o3, .inl (cI, 5, .inl fw4))]) H := hP
      have hD : va_D A ([(o1, .inr (12, [.int v2, .ref o3, .int v5, .ref o6, .int v8, .ref o9, .ref o11, .int v13, .ref o14, .int v16, .ref o17, .int v19, .int v20, .int v21, .ref o22, .ref o24, .ref o26, .ref o28, .ref o30, .int v32, .ref o33, .ref o35, .ref o37, .int v39, .ref o40, .ref o42, .ref o44, .int v46, .ref o47])), (o9, .inl (cI, 12, .inl f15)), (o3, .inl (cI, 5, .inl fw4))]) := hD
      refine lv_iconst (v := 1) hx hb dX12_row_41 (by decide) ?_
      rw [hQ]
      exact W.iret (v := 1) hx hb hr (fun t ht hW => ⟨⟨1, (v2, f15, fw4), rfl, ⟨(iv_w ik_1 (by decide)), f15_b, (rowP_3 (bit_r x1_e x1_h x2_e (inx_ne e5 h6)) (inx_ne e11 h12) f15_e)⟩, by rw [ht]; exact hP, va_K.moved hW.alike hK, hD⟩, hS.F ht⟩) hS.2.2 dX12_row_42
    ·
      have j16 : Iv 0 0 x9 := r_eq h12 ik_0
      refine lv_aload_n hx hb dX12_row_28 rfl (lv_at hl 0 rfl) ?_
      refine lv_iconst (v := 2) hx hb dX12_row_29 (by decide) ?_
      refine kc_i (D := (dC, dI)) (S := Int32 × (Nat → Int32)) (wc := [(o1, .inr (12, [.int v2, .ref o3, .int v5, .ref o6, .int v8, .ref o9, .ref o11, .int v13, .ref o14, .int v16, .ref o17, .int v19, .int v20, .int v21, .ref o22, .ref o24, .ref o26, .ref o28, .ref o30, .int v32, .ref o33, .ref o35, .ref o37, .int v39, .ref o40, .ref o42, .ref o44, .int v46, .ref o47])), (o3, .inl (cI, 5, .inl fw4))]) (wr := [(o9, .inl (cI, 12, .inl fw10))]) (w1 := fun u => [(o1, .inr (12, [.int u.1, .ref o3, .int v5, .ref o6, .int v8, .ref o9, .ref o11, .int v13, .ref o14, .int v16, .ref o17, .int v19, .int v20, .int v21, .ref o22, .ref o24, .ref o26, .ref o28, .ref o30, .int v32, .ref o33, .ref o35, .ref o37, .int v39, .ref o40, .ref o42, .ref o44, .int v46, .ref o47])), (o3, .inl (cI, 5, .inl u.2))]) (wn := fun u => [(o1, .inr (12, [.int u.1, .ref o3, .int v5, .ref o6, .int v8, .ref o9, .ref o11, .int v13, .ref o14, .int v16, .ref o17, .int v19, .int v20, .int v21, .ref o22, .ref o24, .ref o26, .ref o28, .ref o30, .int v32, .ref o33, .ref o35, .ref o37, .int v39, .ref o40, .ref o42, .ref o44, .int v46, .ref o47])), (o9, .inl (cI, 12, .inl fw10)), (o3, .inl (cI, 5, .inl u.2))]) (fun hPc hDc => va_runV (As := [.int 2]) (rest := []) ⟨hx, hb, hml, hown, hts⟩ (kX12_meets_3 l dC dI cI c2 cZ o1 o3 o6 o9 o11 o14 o17 o22 o24 o26 o28 o30 o33 o35 o37 o40 o42 o44 o47 v2 fw4 v5 v8 v13 v16 v19 v20 v21 v32 v39 v46 2 H.size v5_h v8_h v13_h v16_h v19_h v32_h v39_h v46_h ik_2) (cwV 1 hts gX12_row_X12_meets rfl rfl rfl (by decide +kernel) ⟨Nat.le_of_ble_eq_true rfl, Nat.le_of_ble_eq_true rfl⟩) (pre_V hPc hK hDc hN (ci := 12) (q0 := 0) rfl rfl) rfl rfl hl.1 rfl (lv_room (Nat.le_of_ble_eq_true rfl)) dX12_row_30 ⟨Nat.le_of_ble_eq_true rfl, Nat.le_of_ble_eq_true rfl⟩) hP hD hS hA [0, 2] [1] [1, 0, 2] rfl rfl (by decide +kernel) (by decide +kernel) (by decide +kernel) (by decide +kernel) (fun _ => rfl) (fun x19 u H locs hq hP hD hS => ?_)
      obtain ⟨y17, f18⟩ := u
      have x19_h := hq
      have x19_h : Iv (-3) (-3) x19 := x19_h
      have hP : va_P (dC, dI) vwCl ([(o1, .inr (12, [.int y17, .ref o3, .int v5, .ref o6, .int v8, .ref o9, .ref o11, .int v13, .ref o14, .int v16, .ref o17, .int v19, .int v20, .int v21, .ref o22, .ref o24, .ref o26, .ref o28, .ref o30, .int v32, .ref o33, .ref o35, .ref o37, .int v39, .ref o40, .ref o42, .ref o44, .int v46, .ref o47])), (o9, .inl (cI, 12, .inl fw10)), (o3, .inl (cI, 5, .inl f18))]) H := hP
      have hD : va_D A ([(o1, .inr (12, [.int y17, .ref o3, .int v5, .ref o6, .int v8, .ref o9, .ref o11, .int v13, .ref o14, .int v16, .ref o17, .int v19, .int v20, .int v21, .ref o22, .ref o24, .ref o26, .ref o28, .ref o30, .int v32, .ref o33, .ref o35, .ref o37, .int v39, .ref o40, .ref o42, .ref o44, .int v46, .ref o47])), (o9, .inl (cI, 12, .inl fw10)), (o3, .inl (cI, 5, .inl f18))]) := hD
      rw [hQ]
      exact W.iret (v := x19) hx hb hr (fun t ht hW => ⟨⟨x19, (y17, fw10, f18), rfl, ⟨(iv_w x19_h (by decide)), fw10_b, (rowP_2 (bit_r x1_e x1_h x2_e (inx_ne e5 h6)) (inx_eq e11 h12) (d_eq x19_h ikm_3))⟩, by rw [ht]; exact hP, va_K.moved hW.alike hK, hD⟩, hS.F ht⟩) hS.2.2 dX12_row_33
  ·
    have j20 : Iv 0 0 x3 := r_eq h6 ik_0
    refine lv_iconst (v := (-1)) hx hb dX12_row_16 (by decide) ?_
    rw [hQ]
    exact W.iret (v := (-1)) hx hb hr (fun t ht hW => ⟨⟨(-1), (v2, fw10, fw4), rfl, ⟨(iv_w ikm_1 (by decide)), fw10_b, (rowP_1 (bit_rn x1_e x1_h x2_e (inx_eq e5 h6)))⟩, by rw [ht]; exact hP, va_K.moved hW.alike hK, hD⟩, hS.F ht⟩) hS.2.2 dX12_row_17
set_option maxHeartbeats 4000000 in
set_option maxRecDepth 100000 in
theorem kxX12_tear_2 (l : Launch) (dC : Nat → ClassId) (dI : Nat → Nat → Nat) (cI c2 cZ : ClassId) (o1 : Nat) (o3 : Nat) (o6 : Nat) (o9 : Nat) (o11 : Nat) (o14 : Nat) (o17 : Nat) (o22 : Nat) (o24 : Nat) (o26 : Nat) (o28 : Nat) (o30 : Nat) (o33 : Nat) (o35 : Nat) (o37 : Nat) (o40 : Nat) (o42 : Nat) (o44 : Nat) (o47 : Nat) (v2 : Int32) (fw4 : Nat → Int32) (v5 : Int32) (v8 : Int32) (fw10 : Nat → Int32) (v13 : Int32) (v16 : Int32) (v19 : Int32) (v20 : Int32) (v21 : Int32) (v32 : Int32) (v39 : Int32) (v46 : Int32) (a1 : Int32) (sz : Nat) (v5_h : Iv 0 12 v5) (v8_h : Iv 0 8 v8) (fw10_b : Bd 12 (-9) 255 fw10) (v13_h : Iv 0 12 v13) (v16_h : Iv 0 12 v16) (v19_h : Iv (-9) 12 v19) (v32_h : Iv 0 99 v32) (v39_h : Iv 0 12 v39) (v46_h : Iv 0 12 v46) : Met l yX12_tear wsX12_tear ({ frames := 1, cells := 0, slots := 0, locals := 22 }) (va_Pc [.ref o1, .int a1] (wPre (dC, dI) [(cI, .int), (c2, .array .int), (cZ, .boolean)] ([(o1, .inr (12, [.int v2, .ref o3, .int v5, .ref o6, .int v8, .ref o9, .ref o11, .int v13, .ref o14, .int v16, .ref o17, .int v19, .int v20, .int v21, .ref o22, .ref o24, .ref o26, .ref o28, .ref o30, .int v32, .ref o33, .ref o35, .ref o37, .int v39, .ref o40, .ref o42, .ref o44, .int v46, .ref o47])), (o9, .inl (cI, 12, .inl fw10)), (o3, .inl (cI, 5, .inl fw4))]) sz)) (va_Qi (fun (r : Int32) (u : Int32 × (Nat → Int32) × (Nat → Int32)) => Iv (-3) 1 r ∧ Bd 12 (-9) 255 u.2.1 ∧ teaP (-9) a1 fw10 u.2.1 r) (fun u t => wPost (dC, dI) [(cI, .int), (c2, .array .int), (cZ, .boolean)] (va_A ([(o1, .inr (12, [.int v2, .ref o3, .int v5, .ref o6, .int v8, .ref o9, .ref o11, .int v13, .ref o14, .int v16, .ref o17, .int v19, .int v20, .int v21, .ref o22, .ref o24, .ref o26, .ref o28, .ref o30, .int v32, .ref o33, .ref o35, .ref o37, .int v39, .ref o40, .ref o42, .ref o44, .int v46, .ref o47])), (o9, .inl (cI, 12, .inl fw10)), (o3, .inl (cI, 5, .inl fw4))]) sz) ([(o1, .inr (12, [.int u.1, .ref o3, .int v5, .ref o6, .int v8, .ref o9, .ref o11, .int v13, .ref o14, .int v16, .ref o17, .int v19, .int v20, .int v21, .ref o22, .ref o24, .ref o26, .ref o28, .ref o30, .int v32, .ref o33, .ref o35, .ref o37, .int v39, .ref o40, .ref o42, .ref o44, .int v46, .ref o47])), (o9, .inl (cI, 12, .inl u.2.1)), (o3, .inl (cI, 5, .inl u.2.2))]) t) (va_A ([(o1, .inr (12, [.int v2, .ref o3, .int v5, .ref o6, .int v8, .ref o9, .ref o11, .int v13, .ref o14, .int v16, .ref o17, .int v19, .int v20, .int v21, .ref o22, .ref o24, .ref o26, .ref o28, .ref o30, .int v32, .ref o33, .ref o35, .ref o37, .int v39, .ref o40, .ref o42, .ref o44, .int v46, .ref o47])), (o9, .inl (cI, 12, .inl fw10)), (o3, .inl (cI, 5, .inl fw4))]) sz)) 0 0 (va_A ([(o1, .inr (12, [.int v2, .ref o3, .int v5, .ref o6, .int v8, .ref o9, .ref o11, .int v13, .ref o14, .int v16, .ref o17, .int v19, .int v20, .int v21, .ref o22, .ref o24, .ref o26, .ref o28, .ref o30, .int v32, .ref o33, .ref o35, .ref o37, .int v39, .ref o40, .ref o42, .ref o44, .int v46, .ref o47])), (o9, .inl (cI, 12, .inl fw10)), (o3, .inl (cI, 5, .inl fw4))]) sz) := by
  refine Met.ofW (cc := cX12_tear) (maxL := 2) (ret := (some .int)) (by decide) rfl ?_
  intro p e s m args below meth c s₁ B hml hv
  obtain ⟨rfl, hsz, hP, hK, hD0, hN⟩ := hv
  have hx := B.exec
  have hb := B.bytes
  have hr := B.returns
  have hts := atoms_spec (ws := wsX12_tear) B.pre
  have hown : s.vm.findClass RX12 = some m.cls := findClass_of_methodNamed B.named
  have hlocks := B.notSynchronized
  subst hsz
  have hD := hD0.self (sz := s.heap.size)
  generalize hAe : va_A ([(o1, .inr (12, [.int v2, .ref o3, .int v5, .ref o6, .int v8, .ref o9, .ref o11, .int v13, .ref o14, .int v16, .ref o17, .int v19, .int v20, .int v21, .ref o22, .ref o24, .ref o26, .ref o28, .ref o30, .int v32, .ref o33, .ref o35, .ref o37, .int v39, .ref o40, .ref o42, .ref o44, .int v46, .ref o47])), (o9, .inl (cI, 12, .inl fw10)), (o3, .inl (cI, 5, .inl fw4))]) s.heap.size = A at hD ⊢
  have hA : ∀ q : Nat, s.heap.size ≤ q → A q := fun q h => by rw [← hAe]; exact Or.inr h
  have hS : va_S A s.heap s.heap [] := va_S.rf
  have hP : va_P (dC, dI) vwCl ([(o1, .inr (12, [.int v2, .ref o3, .int v5, .ref o6, .int v8, .ref o9, .ref o11, .int v13, .ref o14, .int v16, .ref o17, .int v19, .int v20, .int v21, .ref o22, .ref o24, .ref o26, .ref o28, .ref o30, .int v32, .ref o33, .ref o35, .ref o37, .int v39, .ref o40, .ref o42, .ref o44, .int v46, .ref o47])), (o9, .inl (cI, 12, .inl fw10)), (o3, .inl (cI, 5, .inl fw4))]) s.heap := hP
  have hl := lv_entry ([.ref o1, .int a1]) (n := 2) (Nat.le_of_ble_eq_true rfl)
  rw [lg_entry_eq]
  generalize (lg_sl ([.ref o1, .int a1]) ++ List.replicate (2 - (lg_sl ([.ref o1, .int a1])).length) Slot.unset).toArray = ls at hl ⊢
  have hl : lv_has ls 2 [(0, .ref o1), (1, .int a1)] := hl
  refine gen_Q (fun Q hQ => ?_)
  refine lv_iload_n hx hb dX12_tear_0 rfl (lv_at hl 1 rfl) ?_
  refine lv_iconst (v := 0) hx hb dX12_tear_1 (by decide) ?_
  refine lv_bipush (v := 11) hx hb dX12_tear_2 (by decide) ?_
  refine kc_i (D := (dC, dI)) (S := Unit) (wc := []) (wr := [(o1, .inr (12, [.int v2, .ref o3, .int v5, .ref o6, .int v8, .ref o9, .ref o11, .int v13, .ref o14, .int v16, .ref o17, .int v19, .int v20, .int v21, .ref o22, .ref o24, .ref o26, .ref o28, .ref o30, .int v32, .ref o33, .ref o35, .ref o37, .int v39, .ref o40, .ref o42, .ref o44, .int v46, .ref o47])), (o9, .inl (cI, 12, .inl fw10)), (o3, .inl (cI, 5, .inl fw4))]) (w1 := fun _ => []) (wn := fun _ => [(o1, .inr (12, [.int v2, .ref o3, .int v5, .ref o6, .int v8, .ref o9, .ref o11, .int v13, .ref o14, .int v16, .ref o17, .int v19, .int v20, .int v21, .ref o22, .ref o24, .ref o26, .ref o28, .ref o30, .int v32, .ref o33, .ref o35, .ref o37, .int v39, .ref o40, .ref o42, .ref o44, .int v46, .ref o47])), (o9, .inl (cI, 12, .inl fw10)), (o3, .inl (cI, 5, .inl fw4))]) (fun hPc hDc => va_runS (As := [.int a1, .int 0, .int 11]) (rest := []) ⟨hx, hb, hml, hown, hts⟩ (kxX12_in_14 l dC dI cI c2 cZ a1 0 11 s.heap.size ik_0 (iv_w ik_11 (by decide))) (va_cwS 3 hts gX12_tear_X12_in rfl rfl rfl (by decide +kernel) ⟨Nat.le_of_ble_eq_true rfl, Nat.le_of_ble_eq_true rfl⟩) (pre_S hPc hK hDc hN) rfl rfl hl.1 rfl (lv_room (Nat.le_of_ble_eq_true rfl)) dX12_tear_4 ⟨Nat.le_of_ble_eq_true rfl, Nat.le_of_ble_eq_true rfl⟩) hP hD hS hA [] [0, 1, 2] [0, 1, 2] rfl rfl (by decide +kernel) (by decide +kernel) (by decide +kernel) (by decide +kernel) (fun _ => rfl) (fun x1 _ H locs hq hP hD hS => ?_)
  obtain ⟨x1_h, i2, e3⟩ := hq
  have hP : va_P (dC, dI) vwCl ([(o1, .inr (12, [.int v2, .ref o3, .int v5, .ref o6, .int v8, .ref o9, .ref o11, .int v13, .ref o14, .int v16, .ref o17, .int v19, .int v20, .int v21, .ref o22, .ref o24, .ref o26, .ref o28, .ref o30, .int v32, .ref o33, .ref o35, .ref o37, .int v39, .ref o40, .ref o42, .ref o44, .int v46, .ref o47])), (o9, .inl (cI, 12, .inl fw10)), (o3, .inl (cI, 5, .inl fw4))]) H := hP
  have hD : va_D A ([(o1, .inr (12, [.int v2, .ref o3, .int v5, .ref o6, .int v8, .ref o9, .ref o11, .int v13, .ref o14, .int v16, .ref o17, .int v19, .int v20, .int v21, .ref o22, .ref o24, .ref o26, .ref o28, .ref o30, .int v32, .ref o33, .ref o35, .ref o37, .int v39, .ref o40, .ref o42, .ref o44, .int v46, .ref o47])), (o9, .inl (cI, 12, .inl fw10)), (o3, .inl (cI, 5, .inl fw4))]) := hD
  refine lv_if_ne (tgt := 16) hx hb dX12_tear_7 (by decide) (fun h4 => ?_) (fun h4 => ?_)
  ·
    have j5 : Iv 1 1 x1 := r_nelo h4 x1_h ik_0 (by decide)
    have j6 : Iv 0 11 a1 := i2 h4
    refine lv_aload_n hx hb dX12_tear_16 rfl (lv_at hl 0 rfl) ?_
    refine va_get (D := (dC, dI)) (ci := 12) (v := .ref o9) (C := RX12) (T := TX12) (N := 29) hx hb hts iw_X12_tear_X12 hown hK hP 0 rfl rfl 5 (by decide) (hts (.fieldLink RX12 16 "HolelessHouseModel" "rows" "[I") hm_X12_tear_1) (fun _ h9 => h9) rfl dX12_tear_17 ?_
    refine lv_iload_n hx hb dX12_tear_20 rfl (lv_at hl 1 rfl) ?_
    refine va_iald hx hb hK hP 1 0 rfl rfl (vin_iv j6 (by decide)) dX12_tear_21 (lv_topi (fun x7 x7_e => ?_))
    have x7_h : Iv (-9) 255 x7 := iv_e x7_e (bd_at fw10_b (vin_iv j6 (by decide)))
    refine lv_if_ge (tgt := 31) hx hb dX12_tear_22 (by decide) (fun h8 => ?_) (fun h8 => ?_)
    ·
      have qh8 := le_i h8
      have j9 : Iv 0 255 x7 := r_ler qh8 ik_0 x7_h (by decide)
      refine lv_aload_n hx hb dX12_tear_31 rfl (lv_at hl 0 rfl) ?_
      refine va_get (D := (dC, dI)) (ci := 12) (v := .ref o9) (C := RX12) (T := TX12) (N := 29) hx hb hts iw_X12_tear_X12 hown hK hP 0 rfl rfl 5 (by decide) (hts (.fieldLink RX12 16 "HolelessHouseModel" "rows" "[I") hm_X12_tear_1) (fun _ h9 => h9) rfl dX12_tear_32 ?_
      refine lv_iload_n hx hb dX12_tear_35 rfl (lv_at hl 1 rfl) ?_
      refine lv_bipush (v := (-9)) hx hb dX12_tear_36 (by decide) ?_
      refine k_iast hx hb hK hP hD hS 1 0 rfl rfl (vin_iv j6 (by decide)) dX12_tear_38 (fun f10 H locs f10_e hP hD hS => ?_)
      have f10_b : Bd 12 (-9) 255 f10 := bd_upd f10_e fw10_b ikm_9 (by decide)
      have hP : va_P (dC, dI) vwCl ([(o1, .inr (12, [.int v2, .ref o3, .int v5, .ref o6, .int v8, .ref o9, .ref o11, .int v13, .ref o14, .int v16, .ref o17, .int v19, .int v20, .int v21, .ref o22, .ref o24, .ref o26, .ref o28, .ref o30, .int v32, .ref o33, .ref o35, .ref o37, .int v39, .ref o40, .ref o42, .ref o44, .int v46, .ref o47])), (o9, .inl (cI, 12, .inl f10)), (o3, .inl (cI, 5, .inl fw4))]) H := hP
      have hD : va_D A ([(o1, .inr (12, [.int v2, .ref o3, .int v5, .ref o6, .int v8, .ref o9, .ref o11, .int v13, .ref o14, .int v16, .ref o17, .int v19, .int v20, .int v21, .ref o22, .ref o24, .ref o26, .ref o28, .ref o30, .int v32, .ref o33, .ref o35, .ref o37, .int v39, .ref o40, .ref o42, .ref o44, .int v46, .ref o47])), (o9, .inl (cI, 12, .inl f10)), (o3, .inl (cI, 5, .inl fw4))]) := hD
      refine lv_iconst (v := 1) hx hb dX12_tear_39 (by decide) ?_
      rw [hQ]
      exact W.iret (v := 1) hx hb hr (fun t ht hW => ⟨⟨1, (v2, f10, fw4), rfl, ⟨(iv_w ik_1 (by decide)), f10_b, (teaP_2 (has_y (inx_ne e3 h4) x7_e j9) f10_e)⟩, by rw [ht]; exact hP, va_K.moved hW.alike hK, hD⟩, hS.F ht⟩) hS.2.2 dX12_tear_40
    ·
      have qh8 := nle_i h8
      have j11 : Iv (-9) (-1) x7 := r_ltl qh8 x7_h ik_0 (by decide)
      refine lv_aload_n hx hb dX12_tear_25 rfl (lv_at hl 0 rfl) ?_
      refine lv_iconst (v := 1) hx hb dX12_tear_26 (by decide) ?_
      refine kc_i (D := (dC, dI)) (S := Int32 × (Nat → Int32)) (wc := [(o1, .inr (12, [.int v2, .ref o3, .int v5, .ref o6, .int v8, .ref o9, .ref o11, .int v13, .ref o14, .int v16, .ref o17, .int v19, .int v20, .int v21, .ref o22, .ref o24, .ref o26, .ref o28, .ref o30, .int v32, .ref o33, .ref o35, .ref o37, .int v39, .ref o40, .ref o42, .ref o44, .int v46, .ref o47])), (o3, .inl (cI, 5, .inl fw4))]) (wr := [(o9, .inl (cI, 12, .inl fw10))]) (w1 := fun u => [(o1, .inr (12, [.int u.1, .ref o3, .int v5, .ref o6, .int v8, .ref o9, .ref o11, .int v13, .ref o14, .int v16, .ref o17, .int v19, .int v20, .int v21, .ref o22, .ref o24, .ref o26, .ref o28, .ref o30, .int v32, .ref o33, .ref o35, .ref o37, .int v39, .ref o40, .ref o42, .ref o44, .int v46, .ref o47])), (o3, .inl (cI, 5, .inl u.2))]) (wn := fun u => [(o1, .inr (12, [.int u.1, .ref o3, .int v5, .ref o6, .int v8, .ref o9, .ref o11, .int v13, .ref o14, .int v16, .ref o17, .int v19, .int v20, .int v21, .ref o22, .ref o24, .ref o26, .ref o28, .ref o30, .int v32, .ref o33, .ref o35, .ref o37, .int v39, .ref o40, .ref o42, .ref o44, .int v46, .ref o47])), (o9, .inl (cI, 12, .inl fw10)), (o3, .inl (cI, 5, .inl u.2))]) (fun hPc hDc => va_runV (As := [.int 1]) (rest := []) ⟨hx, hb, hml, hown, hts⟩ (kX12_meets_4 l dC dI cI c2 cZ o1 o3 o6 o9 o11 o14 o17 o22 o24 o26 o28 o30 o33 o35 o37 o40 o42 o44 o47 v2 fw4 v5 v8 v13 v16 v19 v20 v21 v32 v39 v46 1 H.size v5_h v8_h v13_h v16_h v19_h v32_h v39_h v46_h ik_1) (cwV 1 hts gX12_tear_X12_meets rfl rfl rfl (by decide +kernel) ⟨Nat.le_of_ble_eq_true rfl, Nat.le_of_ble_eq_true rfl⟩) (pre_V hPc hK hDc hN (ci := 12) (q0 := 0) rfl rfl) rfl rfl hl.1 rfl (lv_room (Nat.le_of_ble_eq_true rfl)) dX12_tear_27 ⟨Nat.le_of_ble_eq_true rfl, Nat.le_of_ble_eq_true rfl⟩) hP hD hS hA [0, 2] [1] [1, 0, 2] rfl rfl (by decide +kernel) (by decide +kernel) (by decide +kernel) (by decide +kernel) (fun _ => rfl) (fun x14 u H locs hq hP hD hS => ?_)
      obtain ⟨y12, f13⟩ := u
      have x14_h := hq
      have x14_h : Iv (-3) (-3) x14 := x14_h
      have hP : va_P (dC, dI) vwCl ([(o1, .inr (12, [.int y12, .ref o3, .int v5, .ref o6, .int v8, .ref o9, .ref o11, .int v13, .ref o14, .int v16, .ref o17, .int v19, .int v20, .int v21, .ref o22, .ref o24, .ref o26, .ref o28, .ref o30, .int v32, .ref o33, .ref o35, .ref o37, .int v39, .ref o40, .ref o42, .ref o44, .int v46, .ref o47])), (o9, .inl (cI, 12, .inl fw10)), (o3, .inl (cI, 5, .inl f13))]) H := hP
      have hD : va_D A ([(o1, .inr (12, [.int y12, .ref o3, .int v5, .ref o6, .int v8, .ref o9, .ref o11, .int v13, .ref o14, .int v16, .ref o17, .int v19, .int v20, .int v21, .ref o22, .ref o24, .ref o26, .ref o28, .ref o30, .int v32, .ref o33, .ref o35, .ref o37, .int v39, .ref o40, .ref o42, .ref o44, .int v46, .ref o47])), (o9, .inl (cI, 12, .inl fw10)), (o3, .inl (cI, 5, .inl f13))]) := hD
      rw [hQ]
      exact W.iret (v := x14) hx hb hr (fun t ht hW => ⟨⟨x14, (y12, fw10, f13), rfl, ⟨(iv_w x14_h (by decide)), fw10_b, (teaP_1 (has_n x7_e qh8) (d_eq x14_h ikm_3))⟩, by rw [ht]; exact hP, va_K.moved hW.alike hK, hD⟩, hS.F ht⟩) hS.2.2 dX12_tear_30
  ·
    have j15 : Iv 0 0 x1 := r_eq h4 ik_0
    refine lv_aload_n hx hb dX12_tear_10 rfl (lv_at hl 0 rfl) ?_
    refine lv_iconst (v := 2) hx hb dX12_tear_11 (by decide) ?_
    refine kc_i (D := (dC, dI)) (S := Int32 × (Nat → Int32)) (wc := [(o1, .inr (12, [.int v2, .ref o3, .int v5, .ref o6, .int v8, .ref o9, .ref o11, .int v13, .ref o14, .int v16, .ref o17, .int v19, .int v20, .int v21, .ref o22, .ref o24, .ref o26, .ref o28, .ref o30, .int v32, .ref o33, .ref o35, .ref o37, .int v39, .ref o40, .ref o42, .ref o44, .int v46, .ref o47])), (o3, .inl (cI, 5, .inl fw4))]) (wr := [(o9, .inl (cI, 12, .inl fw10))]) (w1 := fun u => [(o1, .inr (12, [.int u.1, .ref o3, .int v5, .ref o6, .int v8, .ref o9, .ref o11, .int v13, .ref o14, .int v16, .ref o17, .int v19, .int v20, .int v21, .ref o22, .ref o24, .ref o26, .ref o28, .ref o30, .int v32, .ref o33, .ref o35, .ref o37, .int v39, .ref o40, .ref o42, .ref o44, .int v46, .ref o47])), (o3, .inl (cI, 5, .inl u.2))]) (wn := fun u => [(o1, .inr (12, [.int u.1, .ref o3, .int v5, .ref o6, .int v8, .ref o9, .ref o11, .int v13, .ref o14, .int v16, .ref o17, .int v19, .int v20, .int v21, .ref o22, .ref o24, .ref o26, .ref o28, .ref o30, .int v32, .ref o33, .ref o35, .ref o37, .int v39, .ref o40, .ref o42, .ref o44, .int v46, .ref o47])), (o9, .inl (cI, 12, .inl fw10)), (o3, .inl (cI, 5, .inl u.2))]) (fun hPc hDc => va_runV (As := [.int 2]) (rest := []) ⟨hx, hb, hml, hown, hts⟩ (kX12_meets_3 l dC dI cI c2 cZ o1 o3 o6 o9 o11 o14 o17 o22 o24 o26 o28 o30 o33 o35 o37 o40 o42 o44 o47 v2 fw4 v5 v8 v13 v16 v19 v20 v21 v32 v39 v46 2 H.size v5_h v8_h v13_h v16_h v19_h v32_h v39_h v46_h ik_2) (cwV 1 hts gX12_tear_X12_meets rfl rfl rfl (by decide +kernel) ⟨Nat.le_of_ble_eq_true rfl, Nat.le_of_ble_eq_true rfl⟩) (pre_V hPc hK hDc hN (ci := 12) (q0 := 0) rfl rfl) rfl rfl hl.1 rfl (lv_room (Nat.le_of_ble_eq_true rfl)) dX12_tear_12 ⟨Nat.le_of_ble_eq_true rfl, Nat.le_of_ble_eq_true rfl⟩) hP hD hS hA [0, 2] [1] [1, 0, 2] rfl rfl (by decide +kernel) (by decide +kernel) (by decide +kernel) (by decide +kernel) (fun _ => rfl) (fun x18 u H locs hq hP hD hS => ?_)
    obtain ⟨y16, f17⟩ := u
    have x18_h := hq
    have x18_h : Iv (-3) (-3) x18 := x18_h
    have hP : va_P (dC, dI) vwCl ([(o1, .inr (12, [.int y16, .ref o3, .int v5, .ref o6, .int v8, .ref o9, .ref o11, .int v13, .ref o14, .int v16, .ref o17, .int v19, .int v20, .int v21, .ref o22, .ref o24, .ref o26, .ref o28, .ref o30, .int v32, .ref o33, .ref o35, .ref o37, .int v39, .ref o40, .ref o42, .ref o44, .int v46, .ref o47])), (o9, .inl (cI, 12, .inl fw10)), (o3, .inl (cI, 5, .inl f17))]) H := hP
    have hD : va_D A ([(o1, .inr (12, [.int y16, .ref o3, .int v5, .ref o6, .int v8, .ref o9, .ref o11, .int v13, .ref o14, .int v16, .ref o17, .int v19, .int v20, .int v21, .ref o22, .ref o24, .ref o26, .ref o28, .ref o30, .int v32, .ref o33, .ref o35, .ref o37, .int v39, .ref o40, .ref o42, .ref o44, .int v46, .ref o47])), (o9, .inl (cI, 12, .inl fw10)), (o3, .inl (cI, 5, .inl f17))]) := hD
    rw [hQ]
    exact W.iret (v := x18) hx hb hr (fun t ht hW => ⟨⟨x18, (y16, fw10, f17), rfl, ⟨(iv_w x18_h (by decide)), fw10_b, (teaP_1 (has_no (inx_eq e3 h4)) (d_eq x18_h ikm_3))⟩, by rw [ht]; exact hP, va_K.moved hW.alike hK, hD⟩, hS.F ht⟩) hS.2.2 dX12_tear_15
