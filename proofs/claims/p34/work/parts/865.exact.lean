set_option maxHeartbeats 4000000 in
set_option maxRecDepth 100000 in
theorem kxX12_in_12 (l : Launch) (dC : Nat → ClassId) (dI : Nat → Nat → Nat) (cI c2 cZ : ClassId) (a0 : Int32) (a1 : Int32) (a2 : Int32) (sz : Nat) (a1_h : Iv 0 0 a1) (a2_h : Iv 4 12 a2) : Met l yX12_in wsX12_in ({ frames := 0, cells := 0, slots := 0, locals := 0 }) (va_Pc [.int a0, .int a1, .int a2] (wPre (dC, dI) [(cI, .int), (c2, .array .int), (cZ, .boolean)] ([]) sz)) (va_Qi (fun (r : Int32) (_ : Unit) => Iv 0 1 r ∧ (¬ r = 0 → Iv 0 12 a0) ∧ (r : Int32) = if Int32.toInt a1 ≤ Int32.toInt a0 ∧ Int32.toInt a0 ≤ Int32.toInt a2 then 1 else 0) (fun _ t => wPost (dC, dI) [(cI, .int), (c2, .array .int), (cZ, .boolean)] (va_A ([]) sz) ([]) t) (va_A ([]) sz)) 0 0 (va_A ([]) sz) := by
  refine Met.ofW (cc := cX12_in) (maxL := 3) (ret := (some .boolean)) (by decide) rfl ?_
  intro p e s m args below meth c s₁ B hml hv
  obtain ⟨rfl, hsz, hP, hK, hD0, hN⟩ := hv
  have hx := B.exec
  have hb := B.bytes
  have hr := B.returns
  have hts := atoms_spec (ws := wsX12_in) B.pre
  have hown : s.vm.findClass RX12 = some m.cls := findClass_of_methodNamed B.named
  have hlocks := B.notSynchronized
  subst hsz
  have hD := hD0.self (sz := s.heap.size)
  generalize hAe : va_A ([]) s.heap.size = A at hD ⊢
  have hA : ∀ q : Nat, s.heap.size ≤ q → A q := fun q h => by rw [← hAe]; exact Or.inr h
  have hS : va_S A s.heap s.heap [] := va_S.rf
  have hP : va_P (dC, dI) vwCl ([]) s.heap := hP
  have hl := lv_entry ([.int a0, .int a1, .int a2]) (n := 3) (Nat.le_of_ble_eq_true rfl)
  rw [lg_entry_eq]
  generalize (lg_sl ([.int a0, .int a1, .int a2]) ++ List.replicate (3 - (lg_sl ([.int a0, .int a1, .int a2])).length) Slot.unset).toArray = ls at hl ⊢
  have hl : lv_has ls 3 [(0, .int a0), (1, .int a1), (2, .int a2)] := hl
  refine gen_Q (fun Q hQ => ?_)
  refine lv_iload_n hx hb dX12_in_0 rfl (lv_at hl 0 rfl) ?_
  refine lv_iload_n hx hb dX12_in_1 rfl (lv_at hl 1 rfl) ?_
  refine lv_icmp_lt (tgt := 14) hx hb dX12_in_2 (by decide) (fun h1 => ?_) (fun h1 => ?_)
  ·
    have qh1 := lt_i h1
    have j2 : Iv (-2147483648) (-1) a0 := r_ltl qh1 (iv_full a0) a1_h (by decide)
    refine lv_iconst (v := 0) hx hb dX12_in_14 (by decide) ?_
    rw [hQ]
    exact W.zret (v := 0) (ty := .boolean) hx hb hr rfl (fun t ht hW => ⟨⟨0, (), rfl, ⟨(iv_w ik_0 (by decide)), (fun h8 => absurd rfl h8), (inx_l qh1)⟩, by rw [ht]; exact hP, va_K.moved hW.alike hK, hD⟩, hS.F ht⟩) hS.2.2 dX12_in_15
  ·
    have qh1 := nlt_i h1
    have j3 : Iv 0 2147483647 a0 := r_ler qh1 a1_h (iv_full a0) (by decide)
    refine lv_iload_n hx hb dX12_in_5 rfl (lv_at hl 0 rfl) ?_
    refine lv_iload_n hx hb dX12_in_6 rfl (lv_at hl 2 rfl) ?_
    refine lv_icmp_gt (tgt := 14) hx hb dX12_in_7 (by decide) (fun h4 => ?_) (fun h4 => ?_)
    ·
      have qh4 := lt_i h4
      have j5 : Iv 5 2147483647 a0 := r_ltr qh4 a2_h j3 (by decide)
      refine lv_iconst (v := 0) hx hb dX12_in_14 (by decide) ?_
      rw [hQ]
      exact W.zret (v := 0) (ty := .boolean) hx hb hr rfl (fun t ht hW => ⟨⟨0, (), rfl, ⟨(iv_w ik_0 (by decide)), (fun h8 => absurd rfl h8), (inx_h qh4)⟩, by rw [ht]; exact hP, va_K.moved hW.alike hK, hD⟩, hS.F ht⟩) hS.2.2 dX12_in_15
    ·
      have qh4 := nlt_i h4
      have j6 : Iv 0 12 a0 := r_lel qh4 j3 a2_h (by decide)
      refine lv_iconst (v := 1) hx hb dX12_in_10 (by decide) ?_
      refine lv_goto (tgt := 15) hx hb dX12_in_11 (by decide) ?_
      rw [hQ]
      exact W.zret (v := 1) (ty := .boolean) hx hb hr rfl (fun t ht hW => ⟨⟨1, (), rfl, ⟨(iv_w ik_1 (by decide)), (fun _ => j6), (inx_t qh1 qh4)⟩, by rw [ht]; exact hP, va_K.moved hW.alike hK, hD⟩, hS.F ht⟩) hS.2.2 dX12_in_15
set_option maxHeartbeats 4000000 in
set_option maxRecDepth 100000 in
theorem kxX12_nodes_2 (l : Launch) (dC : Nat → ClassId) (dI : Nat → Nat → Nat) (cI c2 cZ : ClassId) (o1 : Nat) (o3 : Nat) (o6 : Nat) (o9 : Nat) (o11 : Nat) (o14 : Nat) (o17 : Nat) (o22 : Nat) (o24 : Nat) (o26 : Nat) (o28 : Nat) (o30 : Nat) (o33 : Nat) (o35 : Nat) (o37 : Nat) (o40 : Nat) (o42 : Nat) (o44 : Nat) (o47 : Nat) (v2 : Int32) (v5 : Int32) (fw7 : Nat → Int32) (v8 : Int32) (v13 : Int32) (fw15 : Nat → Int32) (v16 : Int32) (v19 : Int32) (v20 : Int32) (v21 : Int32) (v32 : Int32) (v39 : Int32) (v46 : Int32) (a1 : Int32) (sz : Nat) (v5_h : Iv 0 12 v5) (fw7_b : Bd 12 0 4095 fw7) (v8_h : Iv 0 8 v8) (v13_h : Iv 0 12 v13) (fw15_b : Bd 12 0 11 fw15) (v16_h : Iv 0 12 v16) (v19_h : Iv (-9) 12 v19) (v32_h : Iv 0 99 v32) (v39_h : Iv 0 12 v39) (v46_h : Iv 0 12 v46) (pre0 : DR v5 v16 fw15) : Met l yX12_nodes wsX12_nodes ({ frames := 1, cells := 0, slots := 0, locals := 22 }) (va_Pc [.ref o1, .int a1] (wPre (dC, dI) [(cI, .int), (c2, .array .int), (cZ, .boolean)] ([(o1, .inr (12, [.int v2, .ref o3, .int v5, .ref o6, .int v8, .ref o9, .ref o11, .int v13, .ref o14, .int v16, .ref o17, .int v19, .int v20, .int v21, .ref o22, .ref o24, .ref o26, .ref o28, .ref o30, .int v32, .ref o33, .ref o35, .ref o37, .int v39, .ref o40, .ref o42, .ref o44, .int v46, .ref o47])), (o6, .inl (cI, 12, .inl fw7)), (o14, .inl (cI, 12, .inl fw15))]) sz)) (va_Qi (fun (r : Int32) (u : Int32 × Int32 × Int32 × (Nat → Int32)) => Iv (-1) 12 r ∧ Iv 0 12 u.1 ∧ Iv 0 12 u.2.1 ∧ Iv (-9) 12 u.2.2.1 ∧ Bd 12 0 4095 u.2.2.2 ∧ (r : Int32) = nodeF a1 ∧ DR u.1 u.2.1 fw15) (fun u t => wPost (dC, dI) [(cI, .int), (c2, .array .int), (cZ, .boolean)] (va_A ([(o1, .inr (12, [.int v2, .ref o3, .int v5, .ref o6, .int v8, .ref o9, .ref o11, .int v13, .ref o14, .int v16, .ref o17, .int v19, .int v20, .int v21, .ref o22, .ref o24, .ref o26, .ref o28, .ref o30, .int v32, .ref o33, .ref o35, .ref o37, .int v39, .ref o40, .ref o42, .ref o44, .int v46, .ref o47])), (o6, .inl (cI, 12, .inl fw7)), (o14, .inl (cI, 12, .inl fw15))]) sz) ([(o1, .inr (12, [.int v2, .ref o3, .int u.1, .ref o6, .int v8, .ref o9, .ref o11, .int v13, .ref o14, .int u.2.1, .ref o17, .int u.2.2.1, .int v20, .int v21, .ref o22, .ref o24, .ref o26, .ref o28, .ref o30, .int v32, .ref o33, .ref o35, .ref o37, .int v39, .ref o40, .ref o42, .ref o44, .int v46, .ref o47])), (o6, .inl (cI, 12, .inl u.2.2.2)), (o14, .inl (cI, 12, .inl fw15))]) t) (va_A ([(o1, .inr (12, [.int v2, .ref o3, .int v5, .ref o6, .int v8, .ref o9, .ref o11, .int v13, .ref o14, .int v16, .ref o17, .int v19, .int v20, .int v21, .ref o22, .ref o24, .ref o26, .ref o28, .ref o30, .int v32, .ref o33, .ref o35, .ref o37, .int v39, .ref o40, .ref o42, .ref o44, .int v46, .ref o47])), (o6, .inl (cI, 12, .inl fw7)), (o14, .inl (cI, 12, .inl fw15))]) sz)) 0 0 (va_A ([(o1, .inr (12, [.int v2, .ref o3, .int v5, .ref o6, .int v8, .ref o9, .ref o11, .int v13, .ref o14, .int v16, .ref o17, .int v19, .int v20, .int v21, .ref o22, .ref o24, .ref o26, .ref o28, .ref o30, .int v32, .ref o33, .ref o35, .ref o37, .int v39, .ref o40, .ref o42, .ref o44, .int v46, .ref o47])), (o6, .inl (cI, 12, .inl fw7)), (o14, .inl (cI, 12, .inl fw15))]) sz) := by
  refine Met.ofW (cc := cX12_nodes) (maxL := 3) (ret := (some .int)) (by decide) rfl ?_
  intro p e s m args below meth c s₁ B hml hv
  obtain ⟨rfl, hsz, hP, hK, hD0, hN⟩ := hv
  have hx := B.exec
  have hb := B.bytes
  have hr := B.returns
  have hts := atoms_spec (ws := wsX12_nodes) B.pre
  have hown : s.vm.findClass RX12 = some m.cls := findClass_of_methodNamed B.named
  have hlocks := B.notSynchronized
  subst hsz
  have hD := hD0.self (sz := s.heap.size)
  generalize hAe : va_A ([(o1, .inr (12, [.int v2, .ref o3, .int v5, .ref o6, .int v8, .ref o9, .ref o11, .int v13, .ref o14, .int v16, .ref o17, .int v19, .int v20, .int v21, .ref o22, .ref o24, .ref o26, .ref o28, .ref o30, .int v32, .ref o33, .ref o35, .ref o37, .int v39, .ref o40, .ref o42, .ref o44, .int v46, .ref o47])), (o6, .inl (cI, 12, .inl fw7)), (o14, .inl (cI, 12, .inl fw15))]) s.heap.size = A at hD ⊢
  have hA : ∀ q : Nat, s.heap.size ≤ q → A q := fun q h => by rw [← hAe]; exact Or.inr h
  have hS : va_S A s.heap s.heap [] := va_S.rf
  have hP : va_P (dC, dI) vwCl ([(o1, .inr (12, [.int v2, .ref o3, .int v5, .ref o6, .int v8, .ref o9, .ref o11, .int v13, .ref o14, .int v16, .ref o17, .int v19, .int v20, .int v21, .ref o22, .ref o24, .ref o26, .ref o28, .ref o30, .int v32, .ref o33, .ref o35, .ref o37, .int v39, .ref o40, .ref o42, .ref o44, .int v46, .ref o47])), (o6, .inl (cI, 12, .inl fw7)), (o14, .inl (cI, 12, .inl fw15))]) s.heap := hP
  have hl := lv_entry ([.ref o1, .int a1]) (n := 3) (Nat.le_of_ble_eq_true rfl)
  rw [lg_entry_eq]
  generalize (lg_sl ([.ref o1, .int a1]) ++ List.replicate (3 - (lg_sl ([.ref o1, .int a1])).length) Slot.unset).toArray = ls at hl ⊢
  have hl : lv_has ls 3 [(0, .ref o1), (1, .int a1)] := hl
  refine gen_Q (fun Q hQ => ?_)
  refine lv_iload_n hx hb dX12_nodes_0 rfl (lv_at hl 1 rfl) ?_
  refine lv_iconst (v := 0) hx hb dX12_nodes_1 (by decide) ?_
  refine lv_bipush (v := 12) hx hb dX12_nodes_2 (by decide) ?_
  refine kc_i (D := (dC, dI)) (S := Unit) (wc := []) (wr := [(o1, .inr (12, [.int v2, .ref o3, .int v5, .ref o6, .int v8, .ref o9, .ref o11, .int v13, .ref o14, .int v16, .ref o17, .int v19, .int v20, .int v21, .ref o22, .ref o24, .ref o26, .ref o28, .ref o30, .int v32, .ref o33, .ref o35, .ref o37, .int v39, .ref o40, .ref o42, .ref o44, .int v46, .ref o47])), (o6, .inl (cI, 12, .inl fw7)), (o14, .inl (cI, 12, .inl fw15))]) (w1 := fun _ => []) (wn := fun _ => [(o1, .inr (12, [.int v2, .ref o3, .int v5, .ref o6, .int v8, .ref o9, .ref o11, .int v13, .ref o14, .int v16, .ref o17, .int v19, .int v20, .int v21, .ref o22, .ref o24, .ref o26, .ref o28, .ref o30, .int v32, .ref o33, .ref o35, .ref o37, .int v39, .ref o40, .ref o42, .ref o44, .int v46, .ref o47])), (o6, .inl (cI, 12, .inl fw7)), (o14, .inl (cI, 12, .inl fw15))]) (fun hPc hDc => va_runS (As := [.int a1, .int 0, .int 12]) (rest := []) ⟨hx, hb, hml, hown, hts⟩ (kxX12_in_12 l dC dI cI c2 cZ a1 0 12 s.heap.size ik_0 (iv_w ik_12 (by decide))) (va_cwS 3 hts gX12_nodes_X12_in rfl rfl rfl (by decide +kernel) ⟨Nat.le_of_ble_eq_true rfl, Nat.le_of_ble_eq_true rfl⟩) (pre_S hPc hK hDc hN) rfl rfl hl.1 rfl (lv_room (Nat.le_of_ble_eq_true rfl)) dX12_nodes_4 ⟨Nat.le_of_ble_eq_true rfl, Nat.le_of_ble_eq_true rfl⟩) hP hD hS hA [] [0, 1, 2] [0, 1, 2] rfl rfl (by decide +kernel) (by decide +kernel) (by decide +kernel) (by decide +kernel) (fun _ => rfl) (fun x1 _ H locs hq hP hD hS => ?_)
  obtain ⟨x1_h, i2, e3⟩ := hq
  have hP : va_P (dC, dI) vwCl ([(o1, .inr (12, [.int v2, .ref o3, .int v5, .ref o6, .int v8, .ref o9, .ref o11, .int v13, .ref o14, .int v16, .ref o17, .int v19, .int v20, .int v21, .ref o22, .ref o24, .ref o26, .ref o28, .ref o30, .int v32, .ref o33, .ref o35, .ref o37, .int v39, .ref o40, .ref o42, .ref o44, .int v46, .ref o47])), (o6, .inl (cI, 12, .inl fw7)), (o14, .inl (cI, 12, .inl fw15))]) H := hP
  have hD : va_D A ([(o1, .inr (12, [.int v2, .ref o3, .int v5, .ref o6, .int v8, .ref o9, .ref o11, .int v13, .ref o14, .int v16, .ref o17, .int v19, .int v20, .int v21, .ref o22, .ref o24, .ref o26, .ref o28, .ref o30, .int v32, .ref o33, .ref o35, .ref o37, .int v39, .ref o40, .ref o42, .ref o44, .int v46, .ref o47])), (o6, .inl (cI, 12, .inl fw7)), (o14, .inl (cI, 12, .inl fw15))]) := hD
  refine lv_if_ne (tgt := 12) hx hb dX12_nodes_7 (by decide) (fun h4 => ?_) (fun h4 => ?_)
  ·
    have j5 : Iv 1 1 x1 := r_nelo h4 x1_h ik_0 (by decide)
    have j6 : Iv 0 12 a1 := i2 h4
    refine lv_aload_n hx hb dX12_nodes_12 rfl (lv_at hl 0 rfl) ?_
    refine lv_iload_n hx hb dX12_nodes_13 rfl (lv_at hl 1 rfl) ?_
    refine va_put (D := (dC, dI)) (ci := 12) (v := .int a1) (ty := .int) (C := RX12) (T := TX12) (N := 29) hx hb hts iw_X12_nodes_X12 tyX12 tyX12_ok nmX12 hown hK hP hD hS 0 rfl rfl 2 (by decide) (hts (.fieldLink RX12 73 "HolelessHouseModel" "n" "I") hm_X12_nodes_1) (fun _ h9 => h9) rfl (by decide +kernel) rfl rfl (Nat.le_of_ble_eq_true rfl) dX12_nodes_14 (fun H locs hP hD hS => ?_)
    have hP : va_P (dC, dI) vwCl ([(o1, .inr (12, [.int v2, .ref o3, .int a1, .ref o6, .int v8, .ref o9, .ref o11, .int v13, .ref o14, .int v16, .ref o17, .int v19, .int v20, .int v21, .ref o22, .ref o24, .ref o26, .ref o28, .ref o30, .int v32, .ref o33, .ref o35, .ref o37, .int v39, .ref o40, .ref o42, .ref o44, .int v46, .ref o47])), (o6, .inl (cI, 12, .inl fw7)), (o14, .inl (cI, 12, .inl fw15))]) H := hP
    have hD : va_D A ([(o1, .inr (12, [.int v2, .ref o3, .int a1, .ref o6, .int v8, .ref o9, .ref o11, .int v13, .ref o14, .int v16, .ref o17, .int v19, .int v20, .int v21, .ref o22, .ref o24, .ref o26, .ref o28, .ref o30, .int v32, .ref o33, .ref o35, .ref o37, .int v39, .ref o40, .ref o42, .ref o44, .int v46, .ref o47])), (o6, .inl (cI, 12, .inl fw7)), (o14, .inl (cI, 12, .inl fw15))]) := hD
    refine lv_iconst (v := 0) hx hb dX12_nodes_17 (by decide) ?_
    refine lv_istore_n (lv' := [(2, .int 0), (0, .ref o1), (1, .int a1)]) hx hb dX12_nodes_18 rfl hl (by decide) rfl (fun ls hl => ?_)
    have L1 : ∀ (N : Nat) (x39 : Int32) (f40 : Nat → Int32) (H : Heap) (locs : List Loc) (ls : Array Slot), (12 - x39.toInt).toNat < N → Iv 0 12 x39 → Bd 12 0 4095 f40 → va_P (dC, dI) vwCl ([(o1, .inr (12, [.int v2, .ref o3, .int a1, .ref o6, .int v8, .ref o9, .ref o11, .int v13, .ref o14, .int v16, .ref o17, .int v19, .int v20, .int v21, .ref o22, .ref o24, .ref o26, .ref o28, .ref o30, .int v32, .ref o33, .ref o35, .ref o37, .int v39, .ref o40, .ref o42, .ref o44, .int v46, .ref o47])), (o6, .inl (cI, 12, .inl f40)), (o14, .inl (cI, 12, .inl fw15))]) H → va_D A ([(o1, .inr (12, [.int v2, .ref o3, .int a1, .ref o6, .int v8, .ref o9, .ref o11, .int v13, .ref o14, .int v16, .ref o17, .int v19, .int v20, .int v21, .ref o22, .ref o24, .ref o26, .ref o28, .ref o30, .int v32, .ref o33, .ref o35, .ref o37, .int v39, .ref o40, .ref o42, .ref o44, .int v46, .ref o47])), (o6, .inl (cI, 12, .inl f40)), (o14, .inl (cI, 12, .inl fw15))]) → va_S A s.heap H locs → lv_has ls 3 [(2, .int x39), (0, .ref o1), (1, .int a1)] → W p l e ({ frames := 1, cells := 0, slots := 0, locals := 22 }) s m ([.ref o1, .int a1] : List Value).toArray below meth c H locs 0 0 Q (F0 m 19 ls []) := by
      intro N
      induction N with
      | zero =>
        intro x39 f40 H locs ls hM
        exact absurd hM (Nat.not_lt_zero _)
      | succ N ih1 =>
        intro x39 f40 H locs ls hM1 x39_h f40_b hP hD hS hl
        refine lv_iload_n hx hb dX12_nodes_19 rfl (lv_at hl 0 rfl) ?_
        refine lv_bipush (v := 12) hx hb dX12_nodes_20 (by decide) ?_
        refine lv_icmp_ge (tgt := 38) hx hb dX12_nodes_22 (by decide) (fun h41 => ?_) (fun h41 => ?_)
        ·
          have qh41 := le_i h41
          have j42 : Iv 12 12 x39 := r_ler qh41 ik_12 x39_h (by decide)
          refine lv_aload_n hx hb dX12_nodes_38 rfl (lv_at hl 1 rfl) ?_
          refine lv_iconst (v := 0) hx hb dX12_nodes_39 (by decide) ?_
          refine va_put (D := (dC, dI)) (ci := 12) (v := .int 0) (ty := .int) (C := RX12) (T := TX12) (N := 29) hx hb hts iw_X12_nodes_X12 tyX12 tyX12_ok nmX12 hown hK hP hD hS 0 rfl rfl 9 (by decide) (hts (.fieldLink RX12 80 "HolelessHouseModel" "drafted" "I") hm_X12_nodes_3) (fun _ h9 => h9) rfl (by decide +kernel) rfl rfl (Nat.le_of_ble_eq_true rfl) dX12_nodes_40 (fun H locs hP hD hS => ?_)
          have hP : va_P (dC, dI) vwCl ([(o1, .inr (12, [.int v2, .ref o3, .int a1, .ref o6, .int v8, .ref o9, .ref o11, .int v13, .ref o14, .int 0, .ref o17, .int v19, .int v20, .int v21, .ref o22, .ref o24, .ref o26, .ref o28, .ref o30, .int v32, .ref o33, .ref o35, .ref o37, .int v39, .ref o40, .ref o42, .ref o44, .int v46, .ref o47])), (o6, .inl (cI, 12, .inl f40)), (o14, .inl (cI, 12, .inl fw15))]) H := hP
          have hD : va_D A ([(o1, .inr (12, [.int v2, .ref o3, .int a1, .ref o6, .int v8, .ref o9, .ref o11, .int v13, .ref o14, .int 0, .ref o17, .int v19, .int v20, .int v21, .ref o22, .ref o24, .ref o26, .ref o28, .ref o30, .int v32, .ref o33, .ref o35, .ref o37, .int v39, .ref o40, .ref o42, .ref o44, .int v46, .ref o47])), (o6, .inl (cI, 12, .inl f40)), (o14, .inl (cI, 12, .inl fw15))]) := hD
          refine lv_aload_n hx hb dX12_nodes_43 rfl (lv_at hl 1 rfl) ?_
          refine kc_v (D := (dC, dI)) (S := Int32) (wc := [(o1, .inr (12, [.int v2, .ref o3, .int a1, .ref o6, .int v8, .ref o9, .ref o11, .int v13, .ref o14, .int 0, .ref o17, .int v19, .int v20, .int v21, .ref o22, .ref o24, .ref o26, .ref o28, .ref o30, .int v32, .ref o33, .ref o35, .ref o37, .int v39, .ref o40, .ref o42, .ref o44, .int v46, .ref o47]))]) (wr := [(o6, .inl (cI, 12, .inl f40)), (o14, .inl (cI, 12, .inl fw15))]) (w1 := fun u => [(o1, .inr (12, [.int v2, .ref o3, .int a1, .ref o6, .int v8, .ref o9, .ref o11, .int v13, .ref o14, .int 0, .ref o17, .int u, .int v20, .int v21, .ref o22, .ref o24, .ref o26, .ref o28, .ref o30, .int v32, .ref o33, .ref o35, .ref o37, .int v39, .ref o40, .ref o42, .ref o44, .int v46, .ref o47]))]) (wn := fun u => [(o1, .inr (12, [.int v2, .ref o3, .int a1, .ref o6, .int v8, .ref o9, .ref o11, .int v13, .ref o14, .int 0, .ref o17, .int u, .int v20, .int v21, .ref o22, .ref o24, .ref o26, .ref o28, .ref o30, .int v32, .ref o33, .ref o35, .ref o37, .int v39, .ref o40, .ref o42, .ref o44, .int v46, .ref o47])), (o6, .inl (cI, 12, .inl f40)), (o14, .inl (cI, 12, .inl fw15))]) (fun hPc hDc => va_runV (As := []) (rest := []) ⟨hx, hb, hml, hown, hts⟩ (kX12_changed_1 l dC dI cI c2 cZ o1 o3 o6 o9 o11 o14 o17 o22 o24 o26 o28 o30 o33 o35 o37 o40 o42 o44 o47 v2 a1 v8 v13 0 v19 v20 v21 v32 v39 v46 H.size j6 v8_h v13_h (iv_w ik_0 (by decide)) v19_h v32_h v39_h v46_h) (cwV 0 hts gX12_nodes_X12_changed rfl rfl rfl (by decide +kernel) ⟨Nat.le_of_ble_eq_true rfl, Nat.le_of_ble_eq_true rfl⟩) (pre_V hPc hK hDc hN (ci := 12) (q0 := 0) rfl rfl) rfl rfl hl.1 rfl (lv_room (Nat.le_of_ble_eq_true rfl)) dX12_nodes_44 ⟨Nat.le_of_ble_eq_true rfl, Nat.le_of_ble_eq_true rfl⟩) hP hD hS hA [0] [1, 2] [2, 0, 1] rfl rfl (by decide +kernel) (by decide +kernel) (by decide +kernel) (by decide +kernel) (fun _ => rfl) (fun y43 H locs hq hP hD hS => ?_)
          have y43_h := hq
          have hP : va_P (dC, dI) vwCl ([(o1, .inr (12, [.int v2, .ref o3, .int a1, .ref o6, .int v8, .ref o9, .ref o11, .int v13, .ref o14, .int 0, .ref o17, .int y43, .int v20, .int v21, .ref o22, .ref o24, .ref o26, .ref o28, .ref o30, .int v32, .ref o33, .ref o35, .ref o37, .int v39, .ref o40, .ref o42, .ref o44, .int v46, .ref o47])), (o6, .inl (cI, 12, .inl f40)), (o14, .inl (cI, 12, .inl fw15))]) H := hP
          have hD : va_D A ([(o1, .inr (12, [.int v2, .ref o3, .int a1, .ref o6, .int v8, .ref o9, .ref o11, .int v13, .ref o14, .int 0, .ref o17, .int y43, .int v20, .int v21, .ref o22, .ref o24, .ref o26, .ref o28, .ref o30, .int v32, .ref o33, .ref o35, .ref o37, .int v39, .ref o40, .ref o42, .ref o44, .int v46, .ref o47])), (o6, .inl (cI, 12, .inl f40)), (o14, .inl (cI, 12, .inl fw15))]) := hD
          refine lv_aload_n hx hb dX12_nodes_47 rfl (lv_at hl 1 rfl) ?_
          refine va_get (D := (dC, dI)) (ci := 12) (v := .int a1) (C := RX12) (T := TX12) (N := 29) hx hb hts iw_X12_nodes_X12 hown hK hP 0 rfl rfl 2 (by decide) (hts (.fieldLink RX12 73 "HolelessHouseModel" "n" "I") hm_X12_nodes_1) (fun _ h9 => h9) rfl dX12_nodes_48 ?_
          rw [hQ]
          exact W.iret (v := a1) hx hb hr (fun t ht hW => ⟨⟨a1, (a1, 0, y43, f40), rfl, ⟨(iv_w j6 (by decide)), j6, (iv_w ik_0 (by decide)), (iv_w y43_h (by decide)), f40_b, (nodeF_ok j6), DR_0⟩, by rw [ht]; exact hP, va_K.moved hW.alike hK, hD⟩, hS.F ht⟩) hS.2.2 dX12_nodes_51
        ·
          have qh41 := nle_i h41
          have j44 : Iv 0 11 x39 := r_ltl qh41 x39_h ik_12 (by decide)
          refine lv_aload_n hx hb dX12_nodes_25 rfl (lv_at hl 1 rfl) ?_
          refine va_get (D := (dC, dI)) (ci := 12) (v := .ref o6) (C := RX12) (T := TX12) (N := 29) hx hb hts iw_X12_nodes_X12 hown hK hP 0 rfl rfl 3 (by decide) (hts (.fieldLink RX12 13 "HolelessHouseModel" "near" "[I") hm_X12_nodes_2) (fun _ h9 => h9) rfl dX12_nodes_26 ?_
          refine lv_iload_n hx hb dX12_nodes_29 rfl (lv_at hl 0 rfl) ?_
          refine lv_iconst (v := 0) hx hb dX12_nodes_30 (by decide) ?_
          refine k_iast hx hb hK hP hD hS 1 0 rfl rfl (vin_iv j44 (by decide)) dX12_nodes_31 (fun f45 H locs f45_e hP hD hS => ?_)
          have f45_b : Bd 12 0 4095 f45 := bd_upd f45_e f40_b ik_0 (by decide)
          have hP : va_P (dC, dI) vwCl ([(o1, .inr (12, [.int v2, .ref o3, .int a1, .ref o6, .int v8, .ref o9, .ref o11, .int v13, .ref o14, .int v16, .ref o17, .int v19, .int v20, .int v21, .ref o22, .ref o24, .ref o26, .ref o28, .ref o30, .int v32, .ref o33, .ref o35, .ref o37, .int v39, .ref o40, .ref o42, .ref o44, .int v46, .ref o47])), (o6, .inl (cI, 12, .inl f45)), (o14, .inl (cI, 12, .inl fw15))]) H := hP
          have hD : va_D A ([(o1, .inr (12, [.int v2, .ref o3, .int a1, .ref o6, .int v8, .ref o9, .ref o11, .int v13, .ref o14, .int v16, .ref o17, .int v19, .int v20, .int v21, .ref o22, .ref o24, .ref o26, .ref o28, .ref o30, .int v32, .ref o33, .ref o35, .ref o37, .int v39, .ref o40, .ref o42, .ref o44, .int v46, .ref o47])), (o6, .inl (cI, 12, .inl f45)), (o14, .inl (cI, 12, .inl fw15))]) := hD
          obtain ⟨x46, x46_e⟩ : ∃ z : Int32, z = x39 + 1 := ⟨_, rfl⟩
          have x46_h : Iv 1 12 x46 := iv_e x46_e (iv_add j44 ik_1 (by decide))
          refine lv_iinc (v := x46) (lv' := [(2, .int x46), (0, .ref o1), (1, .int a1)]) hx hb dX12_nodes_32 hl (k := 0) rfl (incN (by decide +kernel) x46_e) (by decide) rfl (fun ls hl => ?_)
          refine lv_goto (tgt := 19) hx hb dX12_nodes_35 (by decide) ?_
          exact ih1 x46 f45 _ _ _ (ms_up x46_e j44 (by decide) hM1) (iv_w x46_h (by decide)) f45_b hP hD hS hl
    exact L1 _ 0 fw7 _ _ _ (Nat.lt_succ_self _) (iv_w ik_0 (by decide)) fw7_b hP hD hS hl
  ·
    have j47 : Iv 0 0 x1 := r_eq h4 ik_0
    refine lv_iconst (v := (-1)) hx hb dX12_nodes_10 (by decide) ?_
    rw [hQ]
    exact W.iret (v := (-1)) hx hb hr (fun t ht hW => ⟨⟨(-1), (v5, v16, v19, fw7), rfl, ⟨(iv_w ikm_1 (by decide)), v5_h, v16_h, v19_h, fw7_b, (nodeF_no e3 h4), pre0⟩, by rw [ht]; exact hP, va_K.moved hW.alike hK, hD⟩, hS.F ht⟩) hS.2.2 dX12_nodes_11
set_option maxHeartbeats 4000000 in
set_option maxRecDepth 100000 in
theorem kxX12_in_13 (l : Launch) (dC : Nat → ClassId) (dI : Nat → Nat → Nat) (cI c2 cZ : ClassId) (a0 : Int32) (a1 : Int32) (a2 : Int32) (sz : Nat) (a1_h : Iv 0 0 a1) (a2_h : Iv 0 255 a2) : Met l yX12_in wsX12_in ({ frames := 0, cells := 0, slots := 0, locals := 0 }) (va_Pc [.int a0, .int a1, .int a2] (wPre (dC, dI) [(cI, .int), (c2, .array .int), (cZ, .boolean)] ([]) sz)) (va_Qi (fun (r : Int32) (_ : Unit) => Iv 0 1 r ∧ (¬ r = 0 → Iv 0 255 a0) ∧ (r : Int32) = if Int32.toInt a1 ≤ Int32.toInt a0 ∧ Int32.toInt a0 ≤ Int32.toInt a2 then 1 else 0) (fun _ t => wPost (dC, dI) [(cI, .int), (c2, .array .int), (cZ, .boolean)] (va_A ([]) sz) ([]) t) (va_A ([]) sz)) 0 0 (va_A ([]) sz) := by
  refine Met.ofW (cc := cX12_in) (maxL := 3) (ret := (some .boolean)) (by decide) rfl ?_
  intro p e s m args below meth c s₁ B hml hv
  obtain ⟨rfl, hsz, hP, hK, hD0, hN⟩ := hv
  have hx := B.exec
  have hb := B.bytes
  have hr := B.returns
  have hts := atoms_spec (ws := wsX12_in) B.pre
  have hown : s.vm.findClass RX12 = some m.cls := findClass_of_methodNamed B.named
  have hlocks := B.notSynchronized
  subst hsz
  have hD := hD0.self (sz := s.heap.size)
  generalize hAe : va_A ([]) s.heap.size = A at hD ⊢
  have hA : ∀ q : Nat, s.heap.size ≤ q → A q := fun q h => by rw [← hAe]; exact Or.inr h
  have hS : va_S A s.heap s.heap [] := va_S.rf
  have hP : va_P (dC, dI) vwCl ([]) s.heap := hP
  have hl := lv_entry ([.int a0, .int a1, .int a2]) (n := 3) (Nat.le_of_ble_eq_true rfl)
  rw [lg_entry_eq]
  generalize (lg_sl ([.int a0, .int a1, .int a2]) ++ List.replicate (3 - (lg_sl ([.int a0, .int a1, .int a2])).length) Slot.unset).toArray = ls at hl ⊢
  have hl : lv_has ls 3 [(0, .int a0), (1, .int a1), (2, .int a2)] := hl
  refine gen_Q (fun Q hQ => ?_)
  refine lv_iload_n hx hb dX12_in_0 rfl (lv_at hl 0 rfl) ?_
  refine lv_iload_n hx hb dX12_in_1 rfl (lv_at hl 1 rfl) ?_
  refine lv_icmp_lt (tgt := 14) hx hb dX12_in_2 (by decide) (fun h1 => ?_) (fun h1 => ?_)
  ·
    have qh1 := lt_i h1
    have j2 : Iv (-2147483648) (-1) a0 := r_ltl qh1 (iv_full a0) a1_h (by decide)
    refine lv_iconst (v := 0) hx hb dX12_in_14 (by decide) ?_
    rw [hQ]
    exact W.zret (v := 0) (ty := .boolean) hx hb hr rfl (fun t ht hW => ⟨⟨0, (), rfl, ⟨(iv_w ik_0 (by decide)), (fun h8 => absurd rfl h8), (inx_l qh1)⟩, by rw [ht]; exact hP, va_K.moved hW.alike hK, hD⟩, hS.F ht⟩) hS.2.2 dX12_in_15
  ·
    have qh1 := nlt_i h1
    have j3 : Iv 0 2147483647 a0 := r_ler qh1 a1_h (iv_full a0) (by decide)
    refine lv_iload_n hx hb dX12_in_5 rfl (lv_at hl 0 rfl) ?_
    refine lv_iload_n hx hb dX12_in_6 rfl (lv_at hl 2 rfl) ?_
    refine lv_icmp_gt (tgt := 14) hx hb dX12_in_7 (by decide) (fun h4 => ?_) (fun h4 => ?_)
    ·
      have qh4 := lt_i h4
      have j5 : Iv 1 2147483647 a0 := r_ltr qh4 a2_h j3 (by decide)
      refine lv_iconst (v := 0) hx hb dX12_in_14 (by decide) ?_
      rw [hQ]
      exact W.zret (v := 0) (ty := .boolean) hx hb hr rfl (fun t ht hW => ⟨⟨0, (), rfl, ⟨(iv_w ik_0 (by decide)), (fun h8 => absurd rfl h8), (inx_h qh4)⟩, by rw [ht]; exact hP, va_K.moved hW.alike hK, hD⟩, hS.F ht⟩) hS.2.2 dX12_in_15
    ·
      have qh4 := nlt_i h4
      have j6 : Iv 0 255 a0 := r_lel qh4 j3 a2_h (by decide)
      refine lv_iconst (v := 1) hx hb dX12_in_10 (by decide) ?_
      refine lv_goto (tgt := 15) hx hb dX12_in_11 (by decide) ?_
      rw [hQ]
      exact W.zret (v := 1) (ty := .boolean) hx hb hr rfl (fun t ht hW => ⟨⟨1, (), rfl, ⟨(iv_w ik_1 (by decide)), (fun _ => j6), (inx_t qh1 qh4)⟩, by rw [ht]; exact hP, va_K.moved hW.alike hK, hD⟩, hS.F ht⟩) hS.2.2 dX12_in_15
set_option maxHeartbeats 4000000 in
set_option maxRecDepth 100000 in
theorem kxX12_in_14 (l : Launch) (dC : Nat → ClassId) (dI : Nat → Nat → Nat) (cI c2 cZ : ClassId) (a0 : Int32) (a1 : Int32) (a2 : Int32) (sz : Nat) (a1_h : Iv 0 0 a1) (a2_h : Iv 4 11 a2) : Met l yX12_in wsX12_in ({ frames := 0, cells := 0, slots := 0, locals := 0 }) (va_Pc [.int a0, .int a1, .int a2] (wPre (dC, dI) [(cI, .int), (c2, .array .int), (cZ, .boolean)] ([]) sz)) (va_Qi (fun (r : Int32) (_ : Unit) => Iv 0 1 r ∧ (¬ r = 0 → Iv 0 11 a0) ∧ (r : Int32) = if Int32.toInt a1 ≤ Int32.toInt a0 ∧ Int32.toInt a0 ≤ Int32.toInt a2 then 1 else 0) (fun _ t => wPost (dC, dI) [(cI, .int), (c2, .array .int), (cZ, .boolean)] (va_A ([]) sz) ([]) t) (va_A ([]) sz)) 0 0 (va_A ([]) sz) := by
  refine Met.ofW (cc := cX12_in) (maxL := 3) (ret := (some .boolean)) (by decide) rfl ?_
  intro p e s m args below meth c s₁ B hml hv
  obtain ⟨rfl, hsz, hP, hK, hD0, hN⟩ := hv
  have hx := B.exec
  have hb := B.bytes
  have hr := B.returns
  have hts := atoms_spec (ws := wsX12_in) B.pre
  have hown : s.vm.findClass RX12 = some m.cls := findClass_of_methodNamed B.named
  have hlocks := B.notSynchronized
  subst hsz
  have hD := hD0.self (sz := s.heap.size)
  generalize hAe : va_A ([]) s.heap.size = A at hD ⊢
  have hA : ∀ q : Nat, s.heap.size ≤ q → A q := fun q h => by rw [← hAe]; exact Or.inr h
  have hS : va_S A s.heap s.heap [] := va_S.rf
  have hP : va_P (dC, dI) vwCl ([]) s.heap := hP
  have hl := lv_entry ([.int a0, .int a1, .int a2]) (n := 3) (Nat.le_of_ble_eq_true rfl)
  rw [lg_entry_eq]
  generalize (lg_sl ([.int a0, .int a1, .int a2]) ++ List.replicate (3 - (lg_sl ([.int a0, .int a1, .int a2])).length) Slot.unset).toArray = ls at hl ⊢
  have hl : lv_has ls 3 [(0, .int a0), (1, .int a1), (2, .int a2)] := hl
  refine gen_Q (fun Q hQ => ?_)
  refine lv_iload_n hx hb dX12_in_0 rfl (lv_at hl 0 rfl) ?_
  refine lv_iload_n hx hb dX12_in_1 rfl (lv_at hl 1 rfl) ?_
  refine lv_icmp_lt (tgt := 14) hx hb dX12_in_2 (by decide) (fun h1 => ?_) (fun h1 => ?_)
  ·
    have qh1 := lt_i h1
    have j2 : Iv (-2147483648) (-1) a0 := r_ltl qh1 (iv_full a0) a1_h (by decide)
    refine lv_iconst (v := 0) hx hb dX12_in_14 (by decide) ?_
    rw [hQ]
    exact W.zret (v := 0) (ty := .boolean) hx hb hr rfl (fun t ht hW => ⟨⟨0, (), rfl, ⟨(iv_w ik_0 (by decide)), (fun h8 => absurd rfl h8), (inx_l qh1)⟩, by rw [ht]; exact hP, va_K.moved hW.alike hK, hD⟩, hS.F ht⟩) hS.2.2 dX12_in_15
  ·
    have qh1 := nlt_i h1
    have j3 : Iv 0 2147483647 a0 := r_ler qh1 a1_h (iv_full a0) (by decide)
    refine lv_iload_n hx hb dX12_in_5 rfl (lv_at hl 0 rfl) ?_
    refine lv_iload_n hx hb dX12_in_6 rfl (lv_at hl 2 rfl) ?_
    refine lv_icmp_gt (tgt := 14) hx hb dX12_in_7 (by decide) (fun h4 => ?_) (fun h4 => ?_)
    ·
      have qh4 := lt_i h4
      have j5 : Iv 5 2147483647 a0 := r_ltr qh4 a2_h j3 (by decide)
      refine lv_iconst (v := 0) hx hb dX12_in_14 (by decide) ?_
      rw [hQ]
      exact W.zret (v := 0) (ty := .boolean) hx hb hr rfl (fun t ht hW => ⟨⟨0, (), rfl, ⟨(iv_w ik_0 (by decide)), (fun h8 => absurd rfl h8), (inx_h qh4)⟩, by rw [ht]; exact hP, va_K.moved hW.alike hK, hD⟩, hS.F ht⟩) hS.2.2 dX12_in_15
    ·
      have qh4 := nlt_i h4
      have j6 : Iv 0 11 a0 := r_lel qh4 j3 a2_h (by decide)
      refine lv_iconst (v := 1) hx hb dX12_in_10 (by decide) ?_
      refine lv_goto (tgt := 15) hx hb dX12_in_11 (by decide) ?_
      rw [hQ]
      exact W.zret (v := 1) (ty := .boolean) hx hb hr rfl (fun t ht hW => ⟨⟨1, (), rfl, ⟨(iv_w ik_1 (by decide)), (fun _ => j6), (inx_t qh1 qh4)⟩, by rw [ht]; exact hP, va_K.moved hW.alike hK, hD⟩, hS.F ht⟩) hS.2.2 dX12_in_15
set_option maxHeartbeats 4000000 in
set_option maxRecDepth 100000 in
theorem kxX12_row_2 (l : Launch) (dC : Nat → ClassId) (dI : Nat → Nat → Nat) (cI c2 cZ : ClassId) (o1 : Nat) (o3 : Nat) (o6 : Nat) (o9 : Nat) (o11 : Nat) (o14 : Nat) (o17 : Nat) (o22 : Nat) (o24 : Nat) (o26 : Nat) (o28 : Nat) (o30 : Nat) (o33 : Nat) (o35 : Nat) (o37 : Nat) (o40 : Nat) (o42 : Nat) (o44 : Nat) (o47 : Nat) (v2 : Int32) (fw4 : Nat → Int32) (v5 : Int32) (v8 : Int32) (fw10 : Nat → Int32) (v13 : Int32) (v16 : Int32) (v19 : Int32) (v20 : Int32) (v21 : Int32) (v32 : Int32) (v39 : Int32) (v46 : Int32) (a1 : Int32) (a2 : Int32) (sz : Nat) (v5_h : Iv 0 12 v5) (v8_h : Iv 0 8 v8) (fw10_b : Bd 12 (-9) 255 fw10) (v13_h : Iv 0 12 v13) (v16_h : Iv 0 12 v16) (v19_h : Iv (-9) 12 v19) (v32_h : Iv 0 99 v32) (v39_h : Iv 0 12 v39) (v46_h : Iv 0 12 v46) : Met l yX12_row wsX12_row ({ frames := 1, cells := 0, slots := 0, locals := 22 }) (va_Pc [.ref o1, .int a1, .int a2] (wPre (dC, dI) [(cI, .int), (c2, .array .int), (cZ, .boolean)] ([(o1, .inr (12, [.int v2, .ref o3, .int v5, .ref o6, .int v8, .ref o9, .ref o11, .int v13, .ref o14, .int v16, .ref o17, .int v19, .int v20, .int v21, .ref o22, .ref o24, .ref o26, .ref o28, .ref o30, .int v32, .ref o33, .ref o35, .ref o37, .int v39, .ref o40, .ref o42, .ref o44, .int v46, .ref o47])), (o9, .inl (cI, 12, .inl fw10)), (o3, .inl (cI, 5, .inl fw4))]) sz)) (va_Qi (fun (r : Int32) (u : Int32 × (Nat → Int32) × (Nat → Int32)) => Iv (-3) 1 r ∧ Bd 12 (-9) 255 u.2.1 ∧ rowP a1 a2 v8 fw10 u.2.1 r) (fun u t => wPost (dC, dI) [(cI, .int), (c2, .array .int), (cZ, .boolean)] (va_A ([(o1, .inr (12, [.int v2, .ref o3, .int v5, .ref o6, .int v8, .ref o9, .ref o11, .int v13, .ref o14, .int v16, .ref o17, .int v19, .int v20, .int v21, .ref o22, .ref o24, .ref o26, .ref o28, .ref o30, .int v32, .ref o33, .ref o35, .ref o37, .int v39, .ref o40, .ref o42, .ref o44, .int v46, .ref o47])), (o9, .inl (cI, 12, .inl fw10)), (o3, .inl (cI, 5, .inl fw4))]) sz) ([(o1, .inr (12, [.int u.1, .ref o3, .int v5, .ref o6, .int v8, .ref o9, .ref o11, .int v13, .ref o14, .int v16, .ref o17, .int v19, .int v20, .int v21, .ref o22, .ref o24, .ref o26, .ref o28, .ref o30, .int v32, .ref o33, .ref o35, .ref o37, .int v39, .ref o40, .ref o42, .ref o44, .int v46, .ref o47])), (o9, .inl (cI, 12, .inl u.2.1)), (o3, .inl (cI, 5, .inl u.2.2))]) t) (va_A ([(o1, .inr (12, [.int v2, .ref o3, .int v5, .ref o6, .int v8, .ref o9, .ref o11, .int v13, .ref o14, .int v16, .ref o17, .int v19, .int v20, .int v21, .ref o22, .ref o24, .ref o26, .ref o28, .ref o30, .int v32, .ref o33, .ref o35, .ref o37, .int v39, .ref o40, .ref o42, .ref o44, .int v46, .ref o47])), (o9, .inl (cI, 12, .inl fw10)), (o3, .inl (cI, 5, .inl fw4))]) sz)) 0 0 (va_A ([(o1, .inr (12, [.int v2, .ref o3, .int v5, .ref o6, .int v8, .ref o9, .ref o11, .int v13, .ref o14, .int v16, .ref o17, .int v19, .int v20, .int v21, .ref o22, .ref o24, .ref o26, .ref o28, .ref o30, .int v32, .ref o33, .ref o35, .ref o37, .int v39, .ref o40, .ref o42, .ref o44, .int v46, .ref o47])), (o9, .inl (cI, 12, .inl fw10)), (o3, .inl (cI, 5, .inl fw4))]) sz) := by
  refine Met.ofW (cc := cX12_row) (maxL := 3) (ret := (some .int)) (by decide) rfl ?_
  intro p e s m args below meth c s₁ B hml hv
  obtain ⟨rfl, hsz, hP, hK, hD0, hN⟩ := hv
  have hx := B.exec
  have hb := B.bytes
  have hr := B.returns
  have hts := atoms_spec (ws := wsX12_row) B.pre
  have hown : s.vm.findClass RX12 = some m.cls := findClass_of_methodNamed B.named
  have hlocks := B.notSynchronized
  subst hsz
  have hD := hD0.self (sz := s.heap.size)
  generalize hAe : va_A ([(o1, .inr (12, [.int v2, .ref o3, .int v5, .ref o6, .int v8, .ref o9, .ref o11, .int v13, .ref o14, .int v16, .ref o17, .int v19, .int v20, .int v21, .ref o22, .ref o24, .ref o26, .ref o28, .ref o30, .int v32, .ref o33, .ref o35, .ref o37, .int v39, .ref o40, .ref o42, .ref o44, .int v46, .ref o47])), (o9, .inl (cI, 12, .inl fw10)), (o3, .inl (cI, 5, .inl fw4))]) s.heap.size = A at hD ⊢
  have hA : ∀ q : Nat, s.heap.size ≤ q → A q := fun q h => by rw [← hAe]; exact Or.inr h
  have hS : va_S A s.heap s.heap [] := va_S.rf
  have hP : va_P (dC, dI) vwCl ([(o1, .inr (12, [.int v2, .ref o3, .int v5, .ref o6, .int v8, .ref o9, .ref o11, .int v13, .ref o14, .int v16, .ref o17, .int v19, .int v20, .int v21, .ref o22, .ref o24, .ref o26, .ref o28, .ref o30, .int v32, .ref o33, .ref o35, .ref o37, .int v39, .ref o40, .ref o42, .ref o44, .int v46, .ref o47])), (o9, .inl (cI, 12, .inl fw10)), (o3, .inl (cI, 5, .inl fw4))]) s.heap := hP
  have hl := lv_entry ([.ref o1, .int a1, .int a2]) (n := 3) (Nat.le_of_ble_eq_true rfl)
  rw [lg_entry_eq]
  generalize (lg_sl ([.ref o1, .int a1, .int a2]) ++ List.replicate (3 - (lg_sl ([.ref o1, .int a1, .int a2])).length) Slot.unset).toArray = ls at hl ⊢
  have hl : lv_has ls 3 [(0, .ref o1), (1, .int a1), (2, .int a2)] := hl
  refine gen_Q (fun Q hQ => ?_)
  refine lv_iload_n hx hb dX12_row_0 rfl (lv_at hl 2 rfl) ?_
  refine lv_iconst (v := 0) hx hb dX12_row_1 (by decide) ?_
  refine lv_iconst (v := 1) hx hb dX12_row_2 (by decide) ?_
  refine lv_aload_n hx hb dX12_row_3 rfl (lv_at hl 0 rfl) ?_
  refine va_get (D := (dC, dI)) (ci := 12) (v := .int v8) (C := RX12) (T := TX12) (N := 29) hx hb hts iw_X12_row_X12 hown hK hP 0 rfl rfl 4 (by decide) (hts (.fieldLink RX12 128 "HolelessHouseModel" "columns" "I") hm_X12_row_1) (fun _ h9 => h9) rfl dX12_row_4 ?_
  refine lv_ishl hx hb dX12_row_7 (lv_topi (fun x1 x1_e => ?_))
  have x1_h : Iv 1 256 x1 := iv_e x1_e (iv_shl1 v8_h (by decide))
  refine lv_iconst (v := 1) hx hb dX12_row_8 (by decide) ?_
  refine lv_isub hx hb dX12_row_9 (lv_topi (fun x2 x2_e => ?_))
  have x2_h : Iv 0 255 x2 := iv_e x2_e (iv_sub x1_h ik_1 (by decide))
  refine kc_i (D := (dC, dI)) (S := Unit) (wc := []) (wr := [(o1, .inr (12, [.int v2, .ref o3, .int v5, .ref o6, .int v8, .ref o9, .ref o11, .int v13, .ref o14, .int v16, .ref o17, .int v19, .int v20, .int v21, .ref o22, .ref o24, .ref o26, .ref o28, .ref o30, .int v32, .ref o33, .ref o35, .ref o37, .int v39, .ref o40, .ref o42, .ref o44, .int v46, .ref o47])), (o9, .inl (cI, 12, .inl fw10)), (o3, .inl (cI, 5, .inl fw4))]) (w1 := fun _ => []) (wn := fun _ => [(o1, .inr (12, [.int v2, .ref o3, .int v5, .ref o6, .int v8, .ref o9, .ref o11, .int v13, .ref o14, .int v16, .ref o17, .int v19, .int v20, .int v21, .ref o22, .ref o24, .ref o26, .ref o28, .ref o30, .int v32, .ref o33, .ref o35, .ref o37, .int v39, .ref o40, .ref o42, .ref o44, .int v46, .ref o47])), (o9, .inl (cI, 12, .inl fw10)), (o3, .inl (cI, 5, .inl fw4))]) (fun hPc hDc => va_runS (As := [.int a2, .int 0, .int x2]) (rest := []) ⟨hx, hb, hml, hown, hts⟩ (kxX12_in_13 l dC dI cI c2 cZ a2 0 x2 s.heap.size ik_0 x2_h) (va_cwS 3 hts gX12_row_X12_in rfl rfl rfl (by decide +kernel) ⟨Nat.le_of_ble_eq_true rfl, Nat.le_of_ble_eq_true rfl⟩) (pre_S hPc hK hDc hN) rfl rfl hl.1 rfl (lv_room (Nat.le_of_ble_eq_true rfl)) dX12_row_10 ⟨Nat.le_of_ble_eq_true rfl, Nat.le_of_ble_eq_true rfl⟩) hP hD hS hA [] [0, 1, 2] [0, 1, 2] rfl rfl (by decide +kernel) (by decide +kernel) (by decide +kernel) (by decide +kernel) (fun _ => rfl) (fun x3 _ H locs hq hP hD hS => ?_)
  obtain ⟨x3_h, i4, e5⟩ := hq
  have hP : va_P (dC, dI) vwCl ([(o1, .inr (12, [.int v2, .ref o3, .int v5, .ref o6, .int v8, .ref o9, .ref o11, .int v13, .ref o14, .int v16, .ref o17, .int v19, .int v20, .int v21, .ref o22, .ref o24, .ref o26, .ref o28, .ref o30, .int v32, .ref o33, .ref o35, .ref o37, .int v39, .ref o40, .ref o42, .ref o44, .int v46, .ref o47])), (o9, .inl (cI, 12, .inl fw10)), (o3, .inl (cI, 5, .inl fw4))]) H := hP
  have hD : va_D A ([(o1, .inr (12, [.int v2, .ref o3, .int v5, .ref o6, .int v8, .ref o9, .ref o11, .int v13, .ref o14, .int v16, .ref o17, .int v19, .int v20, .int v21, .ref o22, .ref o24, .ref o26, .ref o28, .ref o30, .int v32, .ref o33, .ref o35, .ref o37, .int v39, .ref o40, .ref o42, .ref o44, .int v46, .ref o47])), (o9, .inl (cI, 12, .inl fw10)), (o3, .inl (cI, 5, .inl fw4))]) := hD
  refine lv_if_ne (tgt := 18) hx hb dX12_row_13 (by decide) (fun h6 => ?_) (fun h6 => ?_)
  ·
    have j7 : Iv 1 1 x3 := r_nelo h6 x3_h ik_0 (by decide)
    have j8 : Iv 0 255 a2 := i4 h6
    refine lv_iload_n hx hb dX12_row_18 rfl (lv_at hl 1 rfl) ?_
    refine lv_iconst (v := 0) hx hb dX12_row_19 (by decide) ?_
    refine lv_bipush (v := 11) hx hb dX12_row_20 (by decide) ?_
    refine kc_i (D := (dC, dI)) (S := Unit) (wc := []) (wr := [(o1, .inr (12, [.int v2, .ref o3, .int v5, .ref o6, .int v8, .ref o9, .ref o11, .int v13, .ref o14, .int v16, .ref o17, .int v19, .int v20, .int v21, .ref o22, .ref o24, .ref o26, .ref o28, .ref o30, .int v32, .ref o33, .ref o35, .ref o37, .int v39, .ref o40, .ref o42, .ref o44, .int v46, .ref o47])), (o9, .inl (cI, 12, .inl fw10)), (o3, .inl (cI, 5, .inl fw4))]) (w1 := fun _ => []) (wn := fun _ => [(o1, .inr (12, [.int v2, .ref o3, .int v5, .ref o6, .int v8, .ref o9, .ref o11, .int v13, .ref o14, .int v16, .ref o17, .int v19, .int v20, .int v21, .ref o22, .ref o24, .ref o26, .ref o28, .ref o30, .int v32, .ref o33, .ref o35, .ref o37, .int v39, .ref o40, .ref o42, .ref o44, .int v46, .ref o47])), (o9, .inl (cI, 12, .inl fw10)), (o3, .inl (cI, 5, .inl fw4))]) (fun hPc hDc => va_runS (As := [.int a1, .int 0, .int 11]) (rest := []) ⟨hx, hb, hml, hown, hts⟩ (kxX12_in_14 l dC dI cI c2 cZ a1 0 11 H.size ik_0 (iv_w ik_11 (by decide))) (va_cwS 3 hts gX12_row_X12_in rfl rfl rfl (by decide +kernel) ⟨Nat.le_of_ble_eq_true rfl, Nat.le_of_ble_eq_true rfl⟩) (pre_S hPc hK hDc hN) rfl rfl hl.1 rfl (lv_room (Nat.le_of_ble_eq_true rfl)) dX12_row_22 ⟨Nat.le_of_ble_eq_true rfl, Nat.le_of_ble_eq_true rfl⟩) hP hD hS hA [] [0, 1, 2] [0, 1, 2] rfl rfl (by decide +kernel) (by decide +kernel) (by decide +kernel) (by decide +kernel) (fun _ => rfl) (fun x9 _ H locs hq hP hD hS => ?_)
    obtain ⟨x9_h, i10, e11⟩ := hq
    have hP : va_P (dC, dI) vwCl ([(o1, .inr (12, [.int v2, .ref o3, .int v5, .ref o6, .int v8, .ref o9, .ref o11, .int v13, .ref o14, .int v16, .ref o17, .int v19, .int v20, .int v21, .ref o22, .ref o24, .ref o26, .ref o28, .ref o30, .int v32, .ref o33, .ref o35, .ref o37, .int v39, .ref o40, .ref o42, .ref o44, .int v46, .ref o47])), (o9, .inl (cI, 12, .inl fw10)), (o3, .inl (cI, 5, .inl fw4))]) H := hP
    have hD : va_D A ([(o1, .inr (12, [.int v2, .ref o3, .int v5, .ref o6, .int v8, .ref o9, .ref o11, .int v13, .ref o14, .int v16, .ref o17, .int v19, .int v20, .int v21, .ref o22, .ref o24, .ref o26, .ref o28, .ref o30, .int v32, .ref o33, .ref o35, .ref o37, .int v39, .ref o40, .ref o42, .ref o44, .int v46, .ref o47])), (o9, .inl (cI, 12, .inl fw10)), (o3, .inl (cI, 5, .inl fw4))]) := hD
    refine lv_if_ne (tgt := 34) hx hb dX12_row_25 (by decide) (fun h12 => ?_) (fun h12 => ?_)
    ·
      have j13 : Iv 1 1 x9 := r_nelo h12 x9_h ik_0 (by decide)
      have j14 : Iv 0 11 a1 := i10 h12
      refine lv_aload_n hx hb dX12_row_34 rfl (lv_at hl 0 rfl) ?_
      refine va_get (D := (dC, dI)) (ci := 12) (v := .ref o9) (C := RX12) (T := TX12) (N := 29) hx hb hts iw_X12_row_X12 hown hK hP 0 rfl rfl 5 (by decide) (hts (.fieldLink RX12 16 "HolelessHouseModel" "rows" "[I") hm_X12_row_2) (fun _ h9 => h9) rfl dX12_row_35 ?_
      refine lv_iload_n hx hb dX12_row_38 rfl (lv_at hl 1 rfl) ?_
      refine lv_iload_n hx hb dX12_row_39 rfl (lv_at hl 2 rfl) ?_
      refine k_iast hx hb hK hP hD hS 1 0 rfl rfl (vin_iv j14 (by decide)) dX12_row_40 (fun f15 H locs f15_e hP hD hS => ?_)
      have f15_b : Bd 12 (-9) 255 f15 := bd_upd f15_e fw10_b j8 (by decide)
      have hP : va_P (dC, dI) vwCl ([(o1, .inr (12, [.int v2, .ref o3, .int v5, .ref o6, .int v8, .ref o9, .ref o11, .int v13, .ref o14, .int v16, .ref o17, .int v19, .int v20, .int v21, .ref o22, .ref o24, .ref o26, .ref o28, .ref o30, .int v32, .ref o33, .ref o35, .ref o37, .int v39, .ref o40, .ref o42, .ref o44, .int v46, .ref o47])), (o9, .inl (cI, 12, .inl f15)), (o3, .inl (cI, 5, .inl fw4))]) H := hP
      have hD : va_D A ([(o1, .inr (12, [.int v2, .ref o3, .int v5, .ref o6, .int v8, .ref o9, .ref o11, .int v13, .ref o14, .int v16, .ref o17, .int v19, .int v20, .int v21, .ref o22, .ref o24, .ref o26, .ref o28, .ref o30, .int v32, .ref o33, .ref o35, .ref o37, .int v39, .ref o40, .ref o42, .ref o44, .int v46, .ref o47])), (o9, .inl (cI, 12, .inl f15)), (o3, .inl (cI, 5, .inl fw4))]) := hD
      refine lv_iconst (v := 1) hx hb dX12_row_41 (by decide) ?_
      rw [hQ]
      exact W.iret (v := 1) hx hb hr (fun t ht hW => ⟨⟨1, (v2, f15, fw4), rfl, ⟨(iv_w ik_1 (by decide)), f15_b, (rowP_3 (bit_r x1_e x1_h x2_e (inx_ne e5 h6)) (inx_ne e11 h12) f15_e)⟩, by rw [ht]; exact hP, va_K.moved hW.alike hK, hD⟩, hS.F ht⟩) hS.2.2 dX12_row_42
    ·
      have j16 : Iv 0 0 x9 := r_eq h12 ik_0
      refine lv_aload_n hx hb dX12_row_28 rfl (lv_at hl 0 rfl) ?_
      refine lv_iconst (v := 2) hx hb dX12_row_29 (by decide) ?_
      refine kc_i (D := (dC, dI)) (S := Int32 × (Nat → Int32)) (wc := [(o1, .inr (12, [.int v2, .ref o3, .int v5, .ref o6, .int v8, .ref o9, .ref o11, .int v13, .ref o14, .int v16, .ref o17, .int v19, .int v20, .int v21, .ref o22, .ref o24, .ref o26, .ref o28, .ref o30, .int v32, .ref o33, .ref o35, .ref o37, .int v39, .ref o40, .ref o42, .ref o44, .int v46, .ref o47])), (o3, .inl (cI, 5, .inl fw4))]) (wr := [(o9, .inl (cI, 12, .inl fw10))]) (w1 := fun u => [(o1, .inr (12, [.int u.1, .ref o3, .int v5, .ref o6, .int v8, .ref o9, .ref o11, .int v13, .ref o14, .int v16, .ref o17, .int v19, .int v20, .int v21, .ref o22, .ref o24, .ref o26, .ref o28, .ref o30, .int v32, .ref o33, .ref o35, .ref o37, .int v39, .ref o40, .ref o42, .ref o44, .int v46, .ref o47])), (o3, .inl (cI, 5, .inl u.2))]) (wn := fun u => [(o1, .inr (12, [.int u.1, .ref o3, .int v5, .ref o6, .int v8, .ref o9, .ref o11, .int v13, .ref o14, .int v16, .ref o17, .int v19, .int v20, .int v21, .ref o22, .ref o24, .ref o26, .ref o28, .ref o30, .int v32, .ref o33, .ref o35, .ref o37, .int v39, .ref o40, .ref o42, .ref o44, .int v46, .ref o47])), (o9, .inl (cI, 12, .inl fw10)), (o3, .inl (cI, 5, .inl u.2))]) (fun hPc hDc => va_runV (As := [.int 2]) (rest := []) ⟨hx, hb, hml, hown, hts⟩ (kX12_meets_3 l dC dI cI c2 cZ o1 o3 o6 o9 o11 o14 o17 o22 o24 o26 o28 o30 o33 o35 o37 o40 o42 o44 o47 v2 fw4 v5 v8 v13 v16 v19 v20 v21 v32 v39 v46 2 H.size v5_h v8_h v13_h v16_h v19_h v32_h v39_h v46_h ik_2) (cwV 1 hts gX12_row_X12_meets rfl rfl rfl (by decide +kernel) ⟨Nat.le_of_ble_eq_true rfl, Nat.le_of_ble_eq_true rfl⟩) (pre_V hPc hK hDc hN (ci := 12) (q0 := 0) rfl rfl) rfl rfl hl.1 rfl (lv_room (Nat.le_of_ble_eq_true rfl)) dX12_row_30 ⟨Nat.le_of_ble_eq_true rfl, Nat.le_of_ble_eq_true rfl⟩) hP hD hS hA [0, 2] [1] [1, 0, 2] rfl rfl (by decide +kernel) (by decide +kernel) (by decide +kernel) (by decide +kernel) (fun _ => rfl) (fun x19 u H locs hq hP hD hS => ?_)
      obtain ⟨y17, f18⟩ := u
      have x19_h := hq
      have x19_h : Iv (-3) (-3) x19 := x19_h
      have hP : va_P (dC, dI) vwCl ([(o1, .inr (12, [.int y17, .ref o3, .int v5, .ref o6, .int v8, .ref o9, .ref o11, .int v13, .ref o14, .int v16, .ref o17, .int v19, .int v20, .int v21, .ref o22, .ref o24, .ref o26, .ref o28, .ref o30, .int v32, .ref o33, .ref o35, .ref o37, .int v39, .ref o40, .ref o42, .ref o44, .int v46, .ref o47])), (o9, .inl (cI, 12, .inl fw10)), (o3, .inl (cI, 5, .inl f18))]) H := hP
      have hD : va_D A ([(o1, .inr (12, [.int y17, .ref o3, .int v5, .ref o6, .int v8, .ref o9, .ref o11, .int v13, .ref o14, .int v16, .ref o17, .int v19, .int v20, .int v21, .ref o22, .ref o24, .ref o26, .ref o28, .ref o30, .int v32, .ref o33, .ref o35, .ref o37, .int v39, .ref o40, .ref o42, .ref o44, .int v46, .ref o47])), (o9, .inl (cI, 12, .inl fw10)), (o3, .inl (cI, 5, .inl f18))]) := hD
      rw [hQ]
      exact W.iret (v := x19) hx hb hr (fun t ht hW => ⟨⟨x19, (y17, fw10, f18), rfl, ⟨(iv_w x19_h (by decide)), fw10_b, (rowP_2 (bit_r x1_e x1_h x2_e (inx_ne e5 h6)) (inx_eq e11 h12) (d_eq x19_h ikm_3))⟩, by rw [ht]; exact hP, va_K.moved hW.alike hK, hD⟩, hS.F ht⟩) hS.2.2 dX12_row_33
  ·
    have j20 : Iv 0 0 x3 := r_eq h6 ik_0
    refine lv_iconst (v := (-1)) hx hb dX12_row_16 (by decide) ?_
    rw [hQ]
    exact W.iret (v := (-1)) hx hb hr (fun t ht hW => ⟨⟨(-1), (v2, fw10, fw4), rfl, ⟨(iv_w ikm_1 (by decide)), fw10_b, (rowP_1 (bit_rn x1_e x1_h x2_e (inx_eq e5 h6)))⟩, by rw [ht]; exact hP, va_K.moved hW.alike hK, hD⟩, hS.F ht⟩) hS.2.2 dX12_row_17
set_option maxHeartbeats 4000000 in
set_option maxRecDepth 100000 in
theorem kxX12_isWell_2 (l : Launch) (dC : Nat → ClassId) (dI : Nat → Nat → Nat) (cI c2 cZ : ClassId) (o1 : Nat) (o3 : Nat) (o6 : Nat) (o9 : Nat) (o11 : Nat) (o14 : Nat) (o17 : Nat) (o22 : Nat) (o24 : Nat) (o26 : Nat) (o28 : Nat) (o30 : Nat) (o33 : Nat) (o35 : Nat) (o37 : Nat) (o40 : Nat) (o42 : Nat) (o44 : Nat) (o47 : Nat) (v2 : Int32) (v5 : Int32) (v8 : Int32) (v13 : Int32) (v16 : Int32) (v19 : Int32) (v20 : Int32) (v21 : Int32) (v32 : Int32) (fw38 : Nat → Int32) (v39 : Int32) (v46 : Int32) (a1 : Int32) (a2 : Int32) (sz : Nat) (v5_h : Iv 0 12 v5) (v8_h : Iv 0 8 v8) (v13_h : Iv 0 12 v13) (v16_h : Iv 0 12 v16) (v19_h : Iv (-9) 12 v19) (v32_h : Iv 0 99 v32) (v39_h : Iv 0 12 v39) (v46_h : Iv 0 12 v46) (a1_h : Iv 0 4095 a1) (a2_h : Iv 0 11 a2) : Met l yX12_isWell wsX12_isWell ({ frames := 1, cells := 0, slots := 0, locals := 21 }) (va_Pc [.ref o1, .int a1, .int a2] (wPre (dC, dI) [(cI, .int), (c2, .array .int), (cZ, .boolean)] ([(o1, .inr (12, [.int v2, .ref o3, .int v5, .ref o6, .int v8, .ref o9, .ref o11, .int v13, .ref o14, .int v16, .ref o17, .int v19, .int v20, .int v21, .ref o22, .ref o24, .ref o26, .ref o28, .ref o30, .int v32, .ref o33, .ref o35, .ref o37, .int v39, .ref o40, .ref o42, .ref o44, .int v46, .ref o47])), (o37, .inl (cI, 12, .inl fw38))]) sz)) (va_Qi (fun (r : Int32) (_ : Unit) => Iv 0 1 r ∧ (¬ r = 0 → WL (Tt fw38) (Int32.toNatClampNeg v39) (bt a1) (Int32.toNatClampNeg a2)) ∧ (r = 0 → ¬ WL (Tt fw38) (Int32.toNatClampNeg v39) (bt a1) (Int32.toNatClampNeg a2))) (fun _ t => wPost (dC, dI) [(cI, .int), (c2, .array .int), (cZ, .boolean)] (va_A ([(o1, .inr (12, [.int v2, .ref o3, .int v5, .ref o6, .int v8, .ref o9, .ref o11, .int v13, .ref o14, .int v16, .ref o17, .int v19, .int v20, .int v21, .ref o22, .ref o24, .ref o26, .ref o28, .ref o30, .int v32, .ref o33, .ref o35, .ref o37, .int v39, .ref o40, .ref o42, .ref o44, .int v46, .ref o47])), (o37, .inl (cI, 12, .inl fw38))]) sz) ([(o1, .inr (12, [.int v2, .ref o3, .int v5, .ref o6, .int v8, .ref o9, .ref o11, .int v13, .ref o14, .int v16, .ref o17, .int v19, .int v20, .int v21, .ref o22, .ref o24, .ref o26, .ref o28, .ref o30, .int v32, .ref o33, .ref o35, .ref o37, .int v39, .ref o40, .ref o42, .ref o44, .int v46, .ref o47])), (o37, .inl (cI, 12, .inl fw38))]) t) (va_A ([(o1, .inr (12, [.int v2, .ref o3, .int v5, .ref o6, .int v8, .ref o9, .ref o11, .int v13, .ref o14, .int v16, .ref o17, .int v19, .int v20, .int v21, .ref o22, .ref o24, .ref o26, .ref o28, .ref o30, .int v32, .ref o33, .ref o35, .ref o37, .int v39, .ref o40, .ref o42, .ref o44, .int v46, .ref o47])), (o37, .inl (cI, 12, .inl fw38))]) sz)) 0 0 (va_A ([(o1, .inr (12, [.int v2, .ref o3, .int v5, .ref o6, .int v8, .ref o9, .ref o11, .int v13, .ref o14, .int v16, .ref o17, .int v19, .int v20, .int v21, .ref o22, .ref o24, .ref o26, .ref o28, .ref o30, .int v32, .ref o33, .ref o35, .ref o37, .int v39, .ref o40, .ref o42, .ref o44, .int v46, .ref o47])), (o37, .inl (cI, 12, .inl fw38))]) sz) := by
  refine Met.ofW (cc := cX12_isWell) (maxL := 6) (ret := (some .boolean)) (by decide) rfl ?_
  intro p e s m args below meth c s₁ B hml hv
  obtain ⟨rfl, hsz, hP, hK, hD0, hN⟩ := hv
  have hx := B.exec
  have hb := B.bytes
  have hr := B.returns
  have hts := atoms_spec (ws := wsX12_isWell) B.pre
  have hown : s.vm.findClass RX12 = some m.cls := findClass_of_methodNamed B.named
  have hlocks := B.notSynchronized
  subst hsz
  have hD := hD0.self (sz := s.heap.size)
  generalize hAe : va_A ([(o1, .inr (12, [.int v2, .ref o3, .int v5, .ref o6, .int v8, .ref o9, .ref o11, .int v13, .ref o14, .int v16, .ref o17, .int v19, .int v20, .int v21, .ref o22, .ref o24, .ref o26, .ref o28, .ref o30, .int v32, .ref o33, .ref o35, .ref o37, .int v39, .ref o40, .ref o42, .ref o44, .int v46, .ref o47])), (o37, .inl (cI, 12, .inl fw38))]) s.heap.size = A at hD ⊢
  have hA : ∀ q : Nat, s.heap.size ≤ q → A q := fun q h => by rw [← hAe]; exact Or.inr h
  have hS : va_S A s.heap s.heap [] := va_S.rf
  have hP : va_P (dC, dI) vwCl ([(o1, .inr (12, [.int v2, .ref o3, .int v5, .ref o6, .int v8, .ref o9, .ref o11, .int v13, .ref o14, .int v16, .ref o17, .int v19, .int v20, .int v21, .ref o22, .ref o24, .ref o26, .ref o28, .ref o30, .int v32, .ref o33, .ref o35, .ref o37, .int v39, .ref o40, .ref o42, .ref o44, .int v46, .ref o47])), (o37, .inl (cI, 12, .inl fw38))]) s.heap := hP
  have hl := lv_entry ([.ref o1, .int a1, .int a2]) (n := 6) (Nat.le_of_ble_eq_true rfl)
  rw [lg_entry_eq]
  generalize (lg_sl ([.ref o1, .int a1, .int a2]) ++ List.replicate (6 - (lg_sl ([.ref o1, .int a1, .int a2])).length) Slot.unset).toArray = ls at hl ⊢
  have hl : lv_has ls 6 [(0, .ref o1), (1, .int a1), (2, .int a2)] := hl
  refine gen_Q (fun Q hQ => ?_)
  refine lv_iconst (v := 0) hx hb dX12_isWell_0 (by decide) ?_
  refine lv_istore_n (lv' := [(3, .int 0), (0, .ref o1), (1, .int a1), (2, .int a2)]) hx hb dX12_isWell_1 rfl hl (by decide) rfl (fun ls hl => ?_)
  refine lv_iconst (v := 0) hx hb dX12_isWell_2 (by decide) ?_
  refine lv_istore (lv' := [(4, .int 0), (3, .int 0), (0, .ref o1), (1, .int a1), (2, .int a2)]) hx hb dX12_isWell_3 hl (by decide) rfl (fun ls hl => ?_)
  refine lv_iconst (v := 0) hx hb dX12_isWell_5 (by decide) ?_
  refine lv_istore (lv' := [(5, .int 0), (4, .int 0), (3, .int 0), (0, .ref o1), (1, .int a1), (2, .int a2)]) hx hb dX12_isWell_6 hl (by decide) rfl (fun ls hl => ?_)
  have L1 : ∀ (N : Nat) (x148 : Int32) (x149 : Int32) (x150 : Int32) (H : Heap) (locs : List Loc) (ls : Array Slot), (12 - x148.toInt).toNat < N → Iv 0 12 x148 → (IO fw38 (bt a1) true (Int32.toNatClampNeg x148) x150) → (IO fw38 (bt a1) false (Int32.toNatClampNeg x148) x149) → (Int32.toInt x148 ≤ Int32.toInt v39) → va_P (dC, dI) vwCl ([(o1, .inr (12, [.int v2, .ref o3, .int v5, .ref o6, .int v8, .ref o9, .ref o11, .int v13, .ref o14, .int v16, .ref o17, .int v19, .int v20, .int v21, .ref o22, .ref o24, .ref o26, .ref o28, .ref o30, .int v32, .ref o33, .ref o35, .ref o37, .int v39, .ref o40, .ref o42, .ref o44, .int v46, .ref o47])), (o37, .inl (cI, 12, .inl fw38))]) H → va_D A ([(o1, .inr (12, [.int v2, .ref o3, .int v5, .ref o6, .int v8, .ref o9, .ref o11, .int v13, .ref o14, .int v16, .ref o17, .int v19, .int v20, .int v21, .ref o22, .ref o24, .ref o26, .ref o28, .ref o30, .int v32, .ref o33, .ref o35, .ref o37, .int v39, .ref o40, .ref o42, .ref o44, .int v46, .ref o47])), (o37, .inl (cI, 12, .inl fw38))]) → va_S A s.heap H locs → lv_has ls 6 [(5, .int x148), (4, .int x149), (3, .int x150), (0, .ref o1), (1, .int a1), (2, .int a2)] → W p l e ({ frames := 1, cells := 0, slots := 0, locals := 21 }) s m ([.ref o1, .int a1, .int a2] : List Value).toArray below meth c H locs 0 0 Q (F0 m 8 ls []) := by
    intro N
    induction N with
    | zero =>
      intro x148 x149 x150 H locs ls hM
      exact absurd hM (Nat.not_lt_zero _)
    | succ N ih1 =>
      intro x148 x149 x150 H locs ls hM1 x148_h iv1_0 iv1_1 iv1_2 hP hD hS hl
      refine lv_iload hx hb dX12_isWell_8 (lv_at hl 0 rfl) ?_
      refine lv_aload_n hx hb dX12_isWell_10 rfl (lv_at hl 3 rfl) ?_
      refine va_get (D := (dC, dI)) (ci := 12) (v := .int v39) (C := RX12) (T := TX12) (N := 29) hx hb hts iw_X12_isWell_X12 hown hK hP 0 rfl rfl 23 (by decide) (hts (.fieldLink RX12 191 "HolelessHouseModel" "thingMany" "I") hm_X12_isWell_1) (fun _ h9 => h9) rfl dX12_isWell_11 ?_
      refine lv_icmp_ge (tgt := 57) hx hb dX12_isWell_14 (by decide) (fun h151 => ?_) (fun h151 => ?_)
      ·
        have qh151 := le_i h151
        refine lv_iload_n hx hb dX12_isWell_57 rfl (lv_at hl 2 rfl) ?_
        refine lv_iload hx hb dX12_isWell_58 (lv_at hl 1 rfl) ?_
        refine lv_iand hx hb dX12_isWell_60 (lv_topi (fun x152 x152_e => ?_))
        refine lv_aload_n hx hb dX12_isWell_61 rfl (lv_at hl 3 rfl) ?_
        refine va_get (D := (dC, dI)) (ci := 12) (v := .ref o37) (C := RX12) (T := TX12) (N := 29) hx hb hts iw_X12_isWell_X12 hown hK hP 0 rfl rfl 22 (by decide) (hts (.fieldLink RX12 54 "HolelessHouseModel" "things" "[I") hm_X12_isWell_2) (fun _ h9 => h9) rfl dX12_isWell_62 ?_
        refine lv_iload_n hx hb dX12_isWell_65 rfl (lv_at hl 5 rfl) ?_
        refine va_iald hx hb hK hP 1 0 rfl rfl (vin_iv a2_h (by decide)) dX12_isWell_66 (lv_topi (fun x153 x153_e => ?_))
        refine lv_iconst (v := (-1)) hx hb dX12_isWell_67 (by decide) ?_
        refine lv_ixor hx hb dX12_isWell_68 (lv_topi (fun x154 x154_e => ?_))
        refine lv_iand hx hb dX12_isWell_69 (lv_topi (fun x155 x155_e => ?_))
        refine lv_if_ne (tgt := 77) hx hb dX12_isWell_70 (by decide) (fun h156 => ?_) (fun h156 => ?_)
        ·
          refine lv_iconst (v := 0) hx hb dX12_isWell_77 (by decide) ?_
          rw [hQ]
          exact W.zret (v := 0) (ty := .boolean) hx hb hr rfl (fun t ht hW => ⟨⟨0, (), rfl, ⟨(iv_w ik_0 (by decide)), (fun h8 => absurd rfl h8), (fun _ => well_f (IO_e iv1_0 qh151 iv1_2) (IO_e iv1_1 qh151 iv1_2) x152_e x153_e x154_e x155_e h156)⟩, by rw [ht]; exact hP, va_K.moved hW.alike hK, hD⟩, hS.F ht⟩) hS.2.2 dX12_isWell_78
        ·
          have j157 : Iv 0 0 x155 := r_eq h156 ik_0
          refine lv_iconst (v := 1) hx hb dX12_isWell_73 (by decide) ?_
          refine lv_goto (tgt := 78) hx hb dX12_isWell_74 (by decide) ?_
          rw [hQ]
          exact W.zret (v := 1) (ty := .boolean) hx hb hr rfl (fun t ht hW => ⟨⟨1, (), rfl, ⟨(iv_w ik_1 (by decide)), (fun _ => well_t (IO_e iv1_0 qh151 iv1_2) (IO_e iv1_1 qh151 iv1_2) x152_e x153_e x154_e x155_e h156), (fun h8 => absurd h8 (by decide +kernel))⟩, by rw [ht]; exact hP, va_K.moved hW.alike hK, hD⟩, hS.F ht⟩) hS.2.2 dX12_isWell_78
      ·
        have qh151 := nle_i h151
        have j158 : Iv 0 11 x148 := r_ltl qh151 x148_h v39_h (by decide)
        have j159 : Iv 1 12 v39 := r_ltr qh151 x148_h v39_h (by decide)
        refine lv_iload_n hx hb dX12_isWell_17 rfl (lv_at hl 4 rfl) ?_
        refine lv_iload hx hb dX12_isWell_18 (lv_at hl 0 rfl) ?_
        refine kc_i (D := (dC, dI)) (S := Unit) (wc := []) (wr := [(o1, .inr (12, [.int v2, .ref o3, .int v5, .ref o6, .int v8, .ref o9, .ref o11, .int v13, .ref o14, .int v16, .ref o17, .int v19, .int v20, .int v21, .ref o22, .ref o24, .ref o26, .ref o28, .ref o30, .int v32, .ref o33, .ref o35, .ref o37, .int v39, .ref o40, .ref o42, .ref o44, .int v46, .ref o47])), (o37, .inl (cI, 12, .inl fw38))]) (w1 := fun _ => []) (wn := fun _ => [(o1, .inr (12, [.int v2, .ref o3, .int v5, .ref o6, .int v8, .ref o9, .ref o11, .int v13, .ref o14, .int v16, .ref o17, .int v19, .int v20, .int v21, .ref o22, .ref o24, .ref o26, .ref o28, .ref o30, .int v32, .ref o33, .ref o35, .ref o37, .int v39, .ref o40, .ref o42, .ref o44, .int v46, .ref o47])), (o37, .inl (cI, 12, .inl fw38))]) (fun hPc hDc => va_runS (As := [.int a1, .int x148]) (rest := []) ⟨hx, hb, hml, hown, hts⟩ (kX12_has_1 l dC dI cI c2 cZ a1 x148 H.size (iv_w j158 (by decide))) (va_cwS 2 hts gX12_isWell_X12_has rfl rfl rfl (by decide +kernel) ⟨Nat.le_of_ble_eq_true rfl, Nat.le_of_ble_eq_true rfl⟩) (pre_S hPc hK hDc hN) rfl rfl hl.1 rfl (lv_room (Nat.le_of_ble_eq_true rfl)) dX12_isWell_20 ⟨Nat.le_of_ble_eq_true rfl, Nat.le_of_ble_eq_true rfl⟩) hP hD hS hA [] [0, 1] [0, 1] rfl rfl (by decide +kernel) (by decide +kernel) (by decide +kernel) (by decide +kernel) (fun _ => rfl) (fun x160 _ H locs hq hP hD hS => ?_)
        obtain ⟨x160_h, e161⟩ := hq
        have hP : va_P (dC, dI) vwCl ([(o1, .inr (12, [.int v2, .ref o3, .int v5, .ref o6, .int v8, .ref o9, .ref o11, .int v13, .ref o14, .int v16, .ref o17, .int v19, .int v20, .int v21, .ref o22, .ref o24, .ref o26, .ref o28, .ref o30, .int v32, .ref o33, .ref o35, .ref o37, .int v39, .ref o40, .ref o42, .ref o44, .int v46, .ref o47])), (o37, .inl (cI, 12, .inl fw38))]) H := hP
        have hD : va_D A ([(o1, .inr (12, [.int v2, .ref o3, .int v5, .ref o6, .int v8, .ref o9, .ref o11, .int v13, .ref o14, .int v16, .ref o17, .int v19, .int v20, .int v21, .ref o22, .ref o24, .ref o26, .ref o28, .ref o30, .int v32, .ref o33, .ref o35, .ref o37, .int v39, .ref o40, .ref o42, .ref o44, .int v46, .ref o47])), (o37, .inl (cI, 12, .inl fw38))]) := hD
        refine lv_if_eq (tgt := 39) hx hb dX12_isWell_23 (by decide) (fun h162 => ?_) (fun h162 => ?_)
        ·
          have j163 : Iv 0 0 x160 := r_eq h162 ik_0
          have b164 : bt a1 (Int32.toNatClampNeg x148) = false := has_f e161 h162
          refine lv_iload hx hb dX12_isWell_39 (lv_at hl 1 rfl) ?_
          refine lv_aload_n hx hb dX12_isWell_41 rfl (lv_at hl 3 rfl) ?_
          refine va_get (D := (dC, dI)) (ci := 12) (v := .ref o37) (C := RX12) (T := TX12) (N := 29) hx hb hts iw_X12_isWell_X12 hown hK hP 0 rfl rfl 22 (by decide) (hts (.fieldLink RX12 54 "HolelessHouseModel" "things" "[I") hm_X12_isWell_2) (fun _ h9 => h9) rfl dX12_isWell_42 ?_
          refine lv_iload hx hb dX12_isWell_45 (lv_at hl 0 rfl) ?_
          refine va_iald hx hb hK hP 1 0 rfl rfl (vin_iv j158 (by decide)) dX12_isWell_47 (lv_topi (fun x165 x165_e => ?_))
          refine lv_ior hx hb dX12_isWell_48 (lv_topi (fun x166 x166_e => ?_))
          refine lv_istore (lv' := [(4, .int x166), (5, .int x148), (3, .int x150), (0, .ref o1), (1, .int a1), (2, .int a2)]) hx hb dX12_isWell_49 hl (by decide) rfl (fun ls hl => ?_)
          obtain ⟨x167, x167_e⟩ : ∃ z : Int32, z = x148 + 1 := ⟨_, rfl⟩
          have x167_h : Iv 1 12 x167 := iv_e x167_e (iv_add j158 ik_1 (by decide))
          refine lv_iinc (v := x167) (lv' := [(5, .int x167), (4, .int x166), (3, .int x150), (0, .ref o1), (1, .int a1), (2, .int a2)]) hx hb dX12_isWell_51 hl (k := 1) rfl (incN (by decide +kernel) x167_e) (by decide) rfl (fun ls hl => ?_)
          refine lv_goto (tgt := 8) hx hb dX12_isWell_54 (by decide) ?_
          exact ih1 x167 x166 x150 _ _ _ (ms_up x167_e j158 (by decide) hM1) (iv_w x167_h (by decide)) (IO_f iv1_0 (iv_w (c := 0) (d := 4095) j158 (by decide)) x167_e (by rw [b164]; decide)) (IO_t iv1_1 (iv_w (c := 0) (d := 4095) j158 (by decide)) x167_e x165_e x166_e b164) (kn_s (iv_w (c := 0) (d := 4095) j158 (by decide)) x167_e qh151) hP hD hS hl
        ·
          have j168 : Iv 1 1 x160 := r_nelo h162 x160_h ik_0 (by decide)
          have b169 : bt a1 (Int32.toNatClampNeg x148) = true := has_t e161 h162
          refine lv_iload_n hx hb dX12_isWell_26 rfl (lv_at hl 2 rfl) ?_
          refine lv_aload_n hx hb dX12_isWell_27 rfl (lv_at hl 3 rfl) ?_
          refine va_get (D := (dC, dI)) (ci := 12) (v := .ref o37) (C := RX12) (T := TX12) (N := 29) hx hb hts iw_X12_isWell_X12 hown hK hP 0 rfl rfl 22 (by decide) (hts (.fieldLink RX12 54 "HolelessHouseModel" "things" "[I") hm_X12_isWell_2) (fun _ h9 => h9) rfl dX12_isWell_28 ?_
          refine lv_iload hx hb dX12_isWell_31 (lv_at hl 0 rfl) ?_
          refine va_iald hx hb hK hP 1 0 rfl rfl (vin_iv j158 (by decide)) dX12_isWell_33 (lv_topi (fun x170 x170_e => ?_))
          refine lv_ior hx hb dX12_isWell_34 (lv_topi (fun x171 x171_e => ?_))
          refine lv_istore_n (lv' := [(3, .int x171), (5, .int x148), (4, .int x149), (0, .ref o1), (1, .int a1), (2, .int a2)]) hx hb dX12_isWell_35 rfl hl (by decide) rfl (fun ls hl => ?_)
          refine lv_goto (tgt := 51) hx hb dX12_isWell_36 (by decide) ?_
          obtain ⟨x172, x172_e⟩ : ∃ z : Int32, z = x148 + 1 := ⟨_, rfl⟩
          have x172_h : Iv 1 12 x172 := iv_e x172_e (iv_add j158 ik_1 (by decide))
          refine lv_iinc (v := x172) (lv' := [(5, .int x172), (3, .int x171), (4, .int x149), (0, .ref o1), (1, .int a1), (2, .int a2)]) hx hb dX12_isWell_51 hl (k := 1) rfl (incN (by decide +kernel) x172_e) (by decide) rfl (fun ls hl => ?_)
          refine lv_goto (tgt := 8) hx hb dX12_isWell_54 (by decide) ?_
          exact ih1 x172 x149 x171 _ _ _ (ms_up x172_e j158 (by decide) hM1) (iv_w x172_h (by decide)) (IO_t iv1_0 (iv_w (c := 0) (d := 4095) j158 (by decide)) x172_e x170_e x171_e b169) (IO_f iv1_1 (iv_w (c := 0) (d := 4095) j158 (by decide)) x172_e (by rw [b169]; decide)) (kn_s (iv_w (c := 0) (d := 4095) j158 (by decide)) x172_e qh151) hP hD hS (lv_sub hl [0, 2, 1, 3, 4, 5] rfl)
  exact L1 _ 0 0 0 _ _ _ (Nat.lt_succ_self _) (iv_w ik_0 (by decide)) IO_0 IO_0 (kn_0 (iv_w (c := 0) (d := 4095) v39_h (by decide))) hP hD hS hl
set_option maxHeartbeats 4000000 in
set_option maxRecDepth 100000 in
theorem kxX12_setLine_2 (l : Launch) (dC : Nat → ClassId) (dI : Nat → Nat → Nat) (cI c2 cZ : ClassId) (o1 : Nat) (o3 : Nat) (o6 : Nat) (o9 : Nat) (o11 : Nat) (o14 : Nat) (o17 : Nat) (o22 : Nat) (o24 : Nat) (o26 : Nat) (o28 : Nat) (o30 : Nat) (o33 : Nat) (o35 : Nat) (o37 : Nat) (o40 : Nat) (o42 : Nat) (o44 : Nat) (o47 : Nat) (v2 : Int32) (v5 : Int32) (v8 : Int32) (v13 : Int32) (v16 : Int32) (v19 : Int32) (v20 : Int32) (v21 : Int32) (v32 : Int32) (fw38 : Nat → Int32) (v39 : Int32) (fw41 : Nat → Int32) (fw43 : Nat → Int32) (fw45 : Nat → Int32) (v46 : Int32) (sz : Nat) (v5_h : Iv 0 12 v5) (v8_h : Iv 0 8 v8) (v13_h : Iv 0 12 v13) (v16_h : Iv 0 12 v16) (v19_h : Iv (-9) 12 v19) (v32_h : Iv 0 99 v32) (v39_h : Iv 0 12 v39) (fw45_b : Bd 12 0 11 fw45) (v46_h : Iv 0 12 v46) (pre0 : Iv 0 8 v39) : Met l yX12_setLine wsX12_setLine ({ frames := 2, cells := 0, slots := 0, locals := 46 }) (va_Pc [.ref o1] (wPre (dC, dI) [(cI, .int), (c2, .array .int), (cZ, .boolean)] ([(o1, .inr (12, [.int v2, .ref o3, .int v5, .ref o6, .int v8, .ref o9, .ref o11, .int v13, .ref o14, .int v16, .ref o17, .int v19, .int v20, .int v21, .ref o22, .ref o24, .ref o26, .ref o28, .ref o30, .int v32, .ref o33, .ref o35, .ref o37, .int v39, .ref o40, .ref o42, .ref o44, .int v46, .ref o47])), (o42, .inl (cI, 49152, .inl fw43)), (o40, .inl (cZ, 49152, .inl fw41)), (o37, .inl (cI, 12, .inl fw38)), (o44, .inl (cI, 12, .inl fw45))]) sz)) (va_Qv (fun (u : Int32 × (Nat → Int32) × (Nat → Int32) × (Nat → Int32)) => Iv 0 12 u.1 ∧ Bd 12 0 11 u.2.2.2 ∧ WK fw38 u.2.2.2 (Int32.toNatClampNeg v39) (Int32.toNatClampNeg u.1)) (fun u t => wPost (dC, dI) [(cI, .int), (c2, .array .int), (cZ, .boolean)] (va_A ([(o1, .inr (12, [.int v2, .ref o3, .int v5, .ref o6, .int v8, .ref o9, .ref o11, .int v13, .ref o14, .int v16, .ref o17, .int v19, .int v20, .int v21, .ref o22, .ref o24, .ref o26, .ref o28, .ref o30, .int v32, .ref o33, .ref o35, .ref o37, .int v39, .ref o40, .ref o42, .ref o44, .int v46, .ref o47])), (o42, .inl (cI, 49152, .inl fw43)), (o40, .inl (cZ, 49152, .inl fw41)), (o37, .inl (cI, 12, .inl fw38)), (o44, .inl (cI, 12, .inl fw45))]) sz) ([(o1, .inr (12, [.int v2, .ref o3, .int v5, .ref o6, .int v8, .ref o9, .ref o11, .int v13, .ref o14, .int v16, .ref o17, .int v19, .int v20, .int v21, .ref o22, .ref o24, .ref o26, .ref o28, .ref o30, .int v32, .ref o33, .ref o35, .ref o37, .int v39, .ref o40, .ref o42, .ref o44, .int u.1, .ref o47])), (o42, .inl (cI, 49152, .inl u.2.1)), (o40, .inl (cZ, 49152, .inl u.2.2.1)), (o37, .inl (cI, 12, .inl fw38)), (o44, .inl (cI, 12, .inl u.2.2.2))]) t) (va_A ([(o1, .inr (12, [.int v2, .ref o3, .int v5, .ref o6, .int v8, .ref o9, .ref o11, .int v13, .ref o14, .int v16, .ref o17, .int v19, .int v20, .int v21, .ref o22, .ref o24, .ref o26, .ref o28, .ref o30, .int v32, .ref o33, .ref o35, .ref o37, .int v39, .ref o40, .ref o42, .ref o44, .int v46, .ref o47])), (o42, .inl (cI, 49152, .inl fw43)), (o40, .inl (cZ, 49152, .inl fw41)), (o37, .inl (cI, 12, .inl fw38)), (o44, .inl (cI, 12, .inl fw45))]) sz)) 0 0 (va_A ([(o1, .inr (12, [.int v2, .ref o3, .int v5, .ref o6, .int v8, .ref o9, .ref o11, .int v13, .ref o14, .int v16, .ref o17, .int v19, .int v20, .int v21, .ref o22, .ref o24, .ref o26, .ref o28, .ref o30, .int v32, .ref o33, .ref o35, .ref o37, .int v39, .ref o40, .ref o42, .ref o44, .int v46, .ref o47])), (o42, .inl (cI, 49152, .inl fw43)), (o40, .inl (cZ, 49152, .inl fw41)), (o37, .inl (cI, 12, .inl fw38)), (o44, .inl (cI, 12, .inl fw45))]) sz) := by
  refine Met.ofW (cc := cX12_setLine) (maxL := 6) (ret := none) (by decide) rfl ?_
  intro p e s m args below meth c s₁ B hml hv
  obtain ⟨rfl, hsz, hP, hK, hD0, hN⟩ := hv
  have hx := B.exec
  have hb := B.bytes
  have hr := B.returns
  have hts := atoms_spec (ws := wsX12_setLine) B.pre
  have hown : s.vm.findClass RX12 = some m.cls := findClass_of_methodNamed B.named
  have hlocks := B.notSynchronized
  subst hsz
  have hD := hD0.self (sz := s.heap.size)
  generalize hAe : va_A ([(o1, .inr (12, [.int v2, .ref o3, .int v5, .ref o6, .int v8, .ref o9, .ref o11, .int v13, .ref o14, .int v16, .ref o17, .int v19, .int v20, .int v21, .ref o22, .ref o24, .ref o26, .ref o28, .ref o30, .int v32, .ref o33, .ref o35, .ref o37, .int v39, .ref o40, .ref o42, .ref o44, .int v46, .ref o47])), (o42, .inl (cI, 49152, .inl fw43)), (o40, .inl (cZ, 49152, .inl fw41)), (o37, .inl (cI, 12, .inl fw38)), (o44, .inl (cI, 12, .inl fw45))]) s.heap.size = A at hD ⊢
  have hA : ∀ q : Nat, s.heap.size ≤ q → A q := fun q h => by rw [← hAe]; exact Or.inr h
  have hS : va_S A s.heap s.heap [] := va_S.rf
  have hP : va_P (dC, dI) vwCl ([(o1, .inr (12, [.int v2, .ref o3, .int v5, .ref o6, .int v8, .ref o9, .ref o11, .int v13, .ref o14, .int v16, .ref o17, .int v19, .int v20, .int v21, .ref o22, .ref o24, .ref o26, .ref o28, .ref o30, .int v32, .ref o33, .ref o35, .ref o37, .int v39, .ref o40, .ref o42, .ref o44, .int v46, .ref o47])), (o42, .inl (cI, 49152, .inl fw43)), (o40, .inl (cZ, 49152, .inl fw41)), (o37, .inl (cI, 12, .inl fw38)), (o44, .inl (cI, 12, .inl fw45))]) s.heap := hP
  have hl := lv_entry ([.ref o1]) (n := 6) (Nat.le_of_ble_eq_true rfl)
  rw [lg_entry_eq]
  generalize (lg_sl ([.ref o1]) ++ List.replicate (6 - (lg_sl ([.ref o1])).length) Slot.unset).toArray = ls at hl ⊢
  have hl : lv_has ls 6 [(0, .ref o1)] := hl
  refine gen_Q (fun Q hQ => ?_)
  refine lv_iconst (v := 1) hx hb dX12_setLine_0 (by decide) ?_
  refine lv_aload_n hx hb dX12_setLine_1 rfl (lv_at hl 0 rfl) ?_
  refine va_get (D := (dC, dI)) (ci := 12) (v := .int v39) (C := RX12) (T := TX12) (N := 29) hx hb hts iw_X12_setLine_X12 hown hK hP 0 rfl rfl 23 (by decide) (hts (.fieldLink RX12 191 "HolelessHouseModel" "thingMany" "I") hm_X12_setLine_1) (fun _ h9 => h9) rfl dX12_setLine_2 ?_
  refine lv_ishl hx hb dX12_setLine_5 (lv_topi (fun x1 x1_e => ?_))
  have x1_h : Iv 1 4096 x1 := iv_e x1_e (iv_shl1 v39_h (by decide))
  refine lv_iconst (v := 1) hx hb dX12_setLine_6 (by decide) ?_
  refine lv_isub hx hb dX12_setLine_7 (lv_topi (fun x2 x2_e => ?_))
  have x2_h : Iv 0 4095 x2 := iv_e x2_e (iv_sub x1_h ik_1 (by decide))
  refine lv_istore_n (lv' := [(1, .int x2), (0, .ref o1)]) hx hb dX12_setLine_8 rfl hl (by decide) rfl (fun ls hl => ?_)
  refine lv_iload_n hx hb dX12_setLine_9 rfl (lv_at hl 0 rfl) ?_
  refine lv_istore_n (lv' := [(2, .int x2), (1, .int x2), (0, .ref o1)]) hx hb dX12_setLine_10 rfl hl (by decide) rfl (fun ls hl => ?_)
  have L30 : ∀ (N : Nat) (x6566 : Int32) (f6567 : Nat → Int32) (f6568 : Nat → Int32) (H : Heap) (locs : List Loc) (ls : Array Slot), (x6566.toInt - 0).toNat < N → Iv 0 4095 x6566 → (CA fw38 f6568 (Int32.toNatClampNeg v39) (Int32.toInt x6566) (Int32.toNatClampNeg x2)) → (Int32.toInt x6566 ≤ Int32.toInt x2) → (KA fw38 f6567 (Int32.toNatClampNeg v39) (Int32.toInt x6566) (Int32.toNatClampNeg x2)) → va_P (dC, dI) vwCl ([(o1, .inr (12, [.int v2, .ref o3, .int v5, .ref o6, .int v8, .ref o9, .ref o11, .int v13, .ref o14, .int v16, .ref o17, .int v19, .int v20, .int v21, .ref o22, .ref o24, .ref o26, .ref o28, .ref o30, .int v32, .ref o33, .ref o35, .ref o37, .int v39, .ref o40, .ref o42, .ref o44, .int v46, .ref o47])), (o42, .inl (cI, 49152, .inl f6568)), (o40, .inl (cZ, 49152, .inl f6567)), (o37, .inl (cI, 12, .inl fw38)), (o44, .inl (cI, 12, .inl fw45))]) H → va_D A ([(o1, .inr (12, [.int v2, .ref o3, .int v5, .ref o6, .int v8, .ref o9, .ref o11, .int v13, .ref o14, .int v16, .ref o17, .int v19, .int v20, .int v21, .ref o22, .ref o24, .ref o26, .ref o28, .ref o30, .int v32, .ref o33, .ref o35, .ref o37, .int v39, .ref o40, .ref o42, .ref o44, .int v46, .ref o47])), (o42, .inl (cI, 49152, .inl f6568)), (o40, .inl (cZ, 49152, .inl f6567)), (o37, .inl (cI, 12, .inl fw38)), (o44, .inl (cI, 12, .inl fw45))]) → va_S A s.heap H locs → lv_has ls 6 [(2, .int x6566), (1, .int x2), (0, .ref o1)] → W p l e ({ frames := 2, cells := 0, slots := 0, locals := 46 }) s m ([.ref o1] : List Value).toArray below meth c H locs 0 0 Q (F0 m 11 ls []) := by
    intro N
    induction N with
    | zero =>
      intro x6566 f6567 f6568 H locs ls hM
      exact absurd hM (Nat.not_lt_zero _)
    | succ N ih30 =>
      intro x6566 f6567 f6568 H locs ls hM30 x6566_h iv30_0 iv30_1 iv30_2 hP hD hS hl
      refine lv_iload_n hx hb dX12_setLine_11 rfl (lv_at hl 0 rfl) ?_
      refine lv_if_le (tgt := 167) hx hb dX12_setLine_12 (by decide) (fun h6569 => ?_) (fun h6569 => ?_)
      ·
        have qh6569 := le_i h6569
        have j6570 : Iv 0 0 x6566 := r_lel qh6569 x6566_h ik_0 (by decide)
        have e6571 : KD fw38 f6567 (Int32.toNatClampNeg v39) := KD_i (all_r v39_h x1_e x2_e) iv30_2 qh6569
        refine lv_aload_n hx hb dX12_setLine_167 rfl (lv_at hl 2 rfl) ?_
        refine lv_iconst (v := 0) hx hb dX12_setLine_168 (by decide) ?_
        refine va_put (D := (dC, dI)) (ci := 12) (v := .int 0) (ty := .int) (C := RX12) (T := TX12) (N := 29) hx hb hts iw_X12_setLine_X12 tyX12 tyX12_ok nmX12 hown hK hP hD hS 0 rfl rfl 27 (by decide) (hts (.fieldLink RX12 197 "HolelessHouseModel" "lined" "I") hm_X12_setLine_4) (fun _ h9 => h9) rfl (by decide +kernel) rfl rfl (Nat.le_of_ble_eq_true rfl) dX12_setLine_169 (fun H locs hP hD hS => ?_)
        have hP : va_P (dC, dI) vwCl ([(o1, .inr (12, [.int v2, .ref o3, .int v5, .ref o6, .int v8, .ref o9, .ref o11, .int v13, .ref o14, .int v16, .ref o17, .int v19, .int v20, .int v21, .ref o22, .ref o24, .ref o26, .ref o28, .ref o30, .int v32, .ref o33, .ref o35, .ref o37, .int v39, .ref o40, .ref o42, .ref o44, .int 0, .ref o47])), (o42, .inl (cI, 49152, .inl f6568)), (o40, .inl (cZ, 49152, .inl f6567)), (o37, .inl (cI, 12, .inl fw38)), (o44, .inl (cI, 12, .inl fw45))]) H := hP
        have hD : va_D A ([(o1, .inr (12, [.int v2, .ref o3, .int v5, .ref o6, .int v8, .ref o9, .ref o11, .int v13, .ref o14, .int v16, .ref o17, .int v19, .int v20, .int v21, .ref o22, .ref o24, .ref o26, .ref o28, .ref o30, .int v32, .ref o33, .ref o35, .ref o37, .int v39, .ref o40, .ref o42, .ref o44, .int 0, .ref o47])), (o42, .inl (cI, 49152, .inl f6568)), (o40, .inl (cZ, 49152, .inl f6567)), (o37, .inl (cI, 12, .inl fw38)), (o44, .inl (cI, 12, .inl fw45))]) := hD
        refine lv_iconst (v := 0) hx hb dX12_setLine_172 (by decide) ?_
        refine lv_istore_n (lv' := [(2, .int 0), (1, .int x2), (0, .ref o1)]) hx hb dX12_setLine_173 rfl hl (by decide) rfl (fun ls hl => ?_)
        refine lv_aload_n hx hb dX12_setLine_174 rfl (lv_at hl 2 rfl) ?_
        refine va_get (D := (dC, dI)) (ci := 12) (v := .int v39) (C := RX12) (T := TX12) (N := 29) hx hb hts iw_X12_setLine_X12 hown hK hP 0 rfl rfl 23 (by decide) (hts (.fieldLink RX12 191 "HolelessHouseModel" "thingMany" "I") hm_X12_setLine_1) (fun _ h9 => h9) rfl dX12_setLine_175 ?_
        refine lv_if_le (tgt := 185) hx hb dX12_setLine_178 (by decide) (fun h6572 => ?_) (fun h6572 => ?_)
        ·
          have qh6572 := le_i h6572
          have j6573 : Iv 0 0 v39 := r_lel qh6572 v39_h ik_0 (by decide)
          refine lv_iconst (v := 0) hx hb dX12_setLine_185 (by decide) ?_
          refine lv_istore_n (lv' := [(3, .int 0), (2, .int 0), (1, .int x2), (0, .ref o1)]) hx hb dX12_setLine_186 rfl hl (by decide) rfl (fun ls hl => ?_)
          refine lv_iload_n hx hb dX12_setLine_187 rfl (lv_at hl 0 rfl) ?_
          refine lv_if_eq (tgt := 277) hx hb dX12_setLine_188 (by decide) (fun _ => ?_) (fun h9 => absurd (by decide +kernel) h9)
          rw [hQ]
          exact W.vret hx hb hr (fun t ht hW => ⟨⟨(0, f6568, f6567, fw45), rfl, ⟨(iv_w ik_0 (by decide)), fw45_b, (WK_i GP_0 (NC_z qh6572) (cl_b (iv_w (c := 0) (d := 12) j6573 (by decide)) (by decide)) (bel_0 _) (by show Int32.toInt 0 = _; rw [ct_0]; decide +kernel))⟩, by rw [ht]; exact hP, va_K.moved hW.alike hK, hD⟩, hS.F ht⟩) hS.2.2 dX12_setLine_277
        ·
          have qh6572 := nle_i h6572
          have j6574 : Iv 1 12 v39 := r_ltr qh6572 ik_0 v39_h (by decide)
          refine lv_iconst (v := 1) hx hb dX12_setLine_181 (by decide) ?_
          refine lv_goto (tgt := 186) hx hb dX12_setLine_182 (by decide) ?_
          refine lv_istore_n (lv' := [(3, .int 1), (2, .int 0), (1, .int x2), (0, .ref o1)]) hx hb dX12_setLine_186 rfl hl (by decide) rfl (fun ls hl => ?_)
          have L33 : ∀ (N : Nat) (x7132 : Int32) (x7133 : Int32) (f7134 : Nat → Int32) (x7135 : Int32) (H : Heap) (locs : List Loc) (ls : Array Slot), (2 * (4095 - Int32.toInt x7133) + Int32.toInt x7132).toNat < N → Iv 0 1 x7132 → Iv 0 4095 x7133 → Bd 12 0 11 f7134 → Iv 0 12 x7135 → (Int32.toInt x7135 = (ct x7133 12 : Int)) → (GP (okR (Tt fw38) (Int32.toNatClampNeg v39)) (Int32.toNatClampNeg v39) f7134 (Int32.toNatClampNeg x7135) (bt x7133)) → (bel (Int32.toNatClampNeg v39) x7133) → (x7132 = 0 → ∀ j, j < (Int32.toNatClampNeg v39) → ¬ CN (okR (Tt fw38) (Int32.toNatClampNeg v39)) (Int32.toNatClampNeg v39) (bt x7133) j) → va_P (dC, dI) vwCl ([(o1, .inr (12, [.int v2, .ref o3, .int v5, .ref o6, .int v8, .ref o9, .ref o11, .int v13, .ref o14, .int v16, .ref o17, .int v19, .int v20, .int v21, .ref o22, .ref o24, .ref o26, .ref o28, .ref o30, .int v32, .ref o33, .ref o35, .ref o37, .int v39, .ref o40, .ref o42, .ref o44, .int x7135, .ref o47])), (o42, .inl (cI, 49152, .inl f6568)), (o40, .inl (cZ, 49152, .inl f6567)), (o37, .inl (cI, 12, .inl fw38)), (o44, .inl (cI, 12, .inl f7134))]) H → va_D A ([(o1, .inr (12, [.int v2, .ref o3, .int v5, .ref o6, .int v8, .ref o9, .ref o11, .int v13, .ref o14, .int v16, .ref o17, .int v19, .int v20, .int v21, .ref o22, .ref o24, .ref o26, .ref o28, .ref o30, .int v32, .ref o33, .ref o35, .ref o37, .int v39, .ref o40, .ref o42, .ref o44, .int x7135, .ref o47])), (o42, .inl (cI, 49152, .inl f6568)), (o40, .inl (cZ, 49152, .inl f6567)), (o37, .inl (cI, 12, .inl fw38)), (o44, .inl (cI, 12, .inl f7134))]) → va_S A s.heap H locs → lv_has ls 6 [(3, .int x7132), (2, .int x7133), (1, .int x2), (0, .ref o1)] → W p l e ({ frames := 2, cells := 0, slots := 0, locals := 46 }) s m ([.ref o1] : List Value).toArray below meth c H locs 0 0 Q (F0 m 187 ls []) := by
            intro N
            induction N with
            | zero =>
              intro x7132 x7133 f7134 x7135 H locs ls hM
              exact absurd hM (Nat.not_lt_zero _)
            | succ N ih33 =>
              intro x7132 x7133 f7134 x7135 H locs ls hM33 x7132_h x7133_h f7134_b x7135_h iv33_0 iv33_1 iv33_2 iv33_3 hP hD hS hl
              refine lv_iload_n hx hb dX12_setLine_187 rfl (lv_at hl 0 rfl) ?_
              refine lv_if_eq (tgt := 277) hx hb dX12_setLine_188 (by decide) (fun h7136 => ?_) (fun h7136 => ?_)
              ·
                have j7137 : Iv 0 0 x7132 := r_eq h7136 ik_0
                rw [hQ]
                exact W.vret hx hb hr (fun t ht hW => ⟨⟨(x7135, f6568, f6567, f7134), rfl, ⟨x7135_h, f7134_b, (WK_i iv33_1 (iv33_3 h7136) (cl_b (iv_w (c := 0) (d := 12) j6574 (by decide)) (by decide)) iv33_2 iv33_0)⟩, by rw [ht]; exact hP, va_K.moved hW.alike hK, hD⟩, hS.F ht⟩) hS.2.2 dX12_setLine_277
              ·
                have j7138 : Iv 1 1 x7132 := r_nelo h7136 x7132_h ik_0 (by decide)
                refine lv_iconst (v := 0) hx hb dX12_setLine_191 (by decide) ?_
                refine lv_istore_n (lv' := [(3, .int 0), (2, .int x7133), (1, .int x2), (0, .ref o1)]) hx hb dX12_setLine_192 rfl hl (by decide) rfl (fun ls hl => ?_)
                refine lv_iconst (v := 0) hx hb dX12_setLine_193 (by decide) ?_
                refine lv_istore (lv' := [(4, .int 0), (3, .int 0), (2, .int x7133), (1, .int x2), (0, .ref o1)]) hx hb dX12_setLine_194 hl (by decide) rfl (fun ls hl => ?_)
                have L34 : ∀ (N : Nat) (x7387 : Int32) (x7388 : Int32) (x7389 : Int32) (f7390 : Nat → Int32) (x7391 : Int32) (H : Heap) (locs : List Loc) (ls : Array Slot), (12 - x7387.toInt).toNat < N → Iv 0 12 x7387 → Iv 0 1 x7388 → Iv 0 4095 x7389 → Bd 12 0 11 f7390 → Iv 0 12 x7391 → (Int32.toInt x7391 = (ct x7389 12 : Int)) → (2 * (4095 - Int32.toInt x7389) + Int32.toInt x7388 ≤ 2 * (4095 - Int32.toInt x7133)) → (GP (okR (Tt fw38) (Int32.toNatClampNeg v39)) (Int32.toNatClampNeg v39) f7390 (Int32.toNatClampNeg x7391) (bt x7389)) → (bel (Int32.toNatClampNeg v39) x7389) → (x7388 = 0 → ∀ j, j < (Int32.toNatClampNeg x7387) → ¬ CN (okR (Tt fw38) (Int32.toNatClampNeg v39)) (Int32.toNatClampNeg v39) (bt x7389) j) → va_P (dC, dI) vwCl ([(o1, .inr (12, [.int v2, .ref o3, .int v5, .ref o6, .int v8, .ref o9, .ref o11, .int v13, .ref o14, .int v16, .ref o17, .int v19, .int v20, .int v21, .ref o22, .ref o24, .ref o26, .ref o28, .ref o30, .int v32, .ref o33, .ref o35, .ref o37, .int v39, .ref o40, .ref o42, .ref o44, .int x7391, .ref o47])), (o42, .inl (cI, 49152, .inl f6568)), (o40, .inl (cZ, 49152, .inl f6567)), (o37, .inl (cI, 12, .inl fw38)), (o44, .inl (cI, 12, .inl f7390))]) H → va_D A ([(o1, .inr (12, [.int v2, .ref o3, .int v5, .ref o6, .int v8, .ref o9, .ref o11, .int v13, .ref o14, .int v16, .ref o17, .int v19, .int v20, .int v21, .ref o22, .ref o24, .ref o26, .ref o28, .ref o30, .int v32, .ref o33, .ref o35, .ref o37, .int v39, .ref o40, .ref o42, .ref o44, .int x7391, .ref o47])), (o42, .inl (cI, 49152, .inl f6568)), (o40, .inl (cZ, 49152, .inl f6567)), (o37, .inl (cI, 12, .inl fw38)), (o44, .inl (cI, 12, .inl f7390))]) → va_S A s.heap H locs → lv_has ls 6 [(4, .int x7387), (3, .int x7388), (2, .int x7389), (1, .int x2), (0, .ref o1)] → W p l e ({ frames := 2, cells := 0, slots := 0, locals := 46 }) s m ([.ref o1] : List Value).toArray below meth c H locs 0 0 Q (F0 m 196 ls []) := by
                  intro N
                  induction N with
                  | zero =>
                    intro x7387 x7388 x7389 f7390 x7391 H locs ls hM
                    exact absurd hM (Nat.not_lt_zero _)
                  | succ N ih34 =>
                    intro x7387 x7388 x7389 f7390 x7391 H locs ls hM34 x7387_h x7388_h x7389_h f7390_b x7391_h iv34_0 iv34_1 iv34_2 iv34_3 iv34_4 hP hD hS hl
                    refine lv_iload hx hb dX12_setLine_196 (lv_at hl 0 rfl) ?_
                    refine lv_aload_n hx hb dX12_setLine_198 rfl (lv_at hl 4 rfl) ?_
                    refine va_get (D := (dC, dI)) (ci := 12) (v := .int v39) (C := RX12) (T := TX12) (N := 29) hx hb hts iw_X12_setLine_X12 hown hK hP 0 rfl rfl 23 (by decide) (hts (.fieldLink RX12 191 "HolelessHouseModel" "thingMany" "I") hm_X12_setLine_1) (fun _ h9 => h9) rfl dX12_setLine_199 ?_
                    refine lv_icmp_ge (tgt := 274) hx hb dX12_setLine_202 (by decide) (fun h7392 => ?_) (fun h7392 => ?_)
                    ·
                      have qh7392 := le_i h7392
                      have j7393 : Iv 1 12 x7387 := r_ler qh7392 j6574 x7387_h (by decide)
                      refine lv_goto (tgt := 187) hx hb dX12_setLine_274 (by decide) ?_
                      exact ih33 x7388 x7389 f7390 x7391 _ _ _ (by have a0 := iv34_1; have a1 := (show _ ≤ _ ∧ _ ≤ _ from j7138); have a2 := (show _ ≤ _ ∧ _ ≤ _ from x7389_h); have a3 := hM33; have a4 := (show _ ≤ _ ∧ _ ≤ _ from x7388_h); omega) x7388_h x7389_h f7390_b x7391_h iv34_0 iv34_2 iv34_3 (fun h8 => NC_w (iv34_4 h8) qh7392 (iv_w (c := 0) (d := 12) j6574 (by decide))) hP hD hS (lv_sub hl [1, 2, 3, 4] rfl)
                    ·
                      have qh7392 := nle_i h7392
                      have j7394 : Iv 0 11 x7387 := r_ltl qh7392 x7387_h j6574 (by decide)
                      refine lv_iload_n hx hb dX12_setLine_205 rfl (lv_at hl 1 rfl) ?_
                      refine lv_if_ne (tgt := 274) hx hb dX12_setLine_206 (by decide) (fun h7395 => ?_) (fun h7395 => ?_)
                      ·
                        have j7396 : Iv 1 1 x7388 := r_nelo h7395 x7388_h ik_0 (by decide)
                        refine lv_goto (tgt := 187) hx hb dX12_setLine_274 (by decide) ?_
                        exact ih33 x7388 x7389 f7390 x7391 _ _ _ (by have a0 := iv34_1; have a1 := (show _ ≤ _ ∧ _ ≤ _ from j7138); have a2 := (show _ ≤ _ ∧ _ ≤ _ from x7389_h); have a3 := hM33; have a4 := (show _ ≤ _ ∧ _ ≤ _ from j7396); omega) (iv_w j7396 (by decide)) x7389_h f7390_b x7391_h iv34_0 iv34_2 iv34_3 (fun h8 => absurd h8 h7395) hP hD hS (lv_sub hl [1, 2, 3, 4] rfl)
                      ·
                        have j7397 : Iv 0 0 x7388 := r_eq h7395 ik_0
                        refine lv_iload_n hx hb dX12_setLine_209 rfl (lv_at hl 2 rfl) ?_
                        refine lv_iload hx hb dX12_setLine_210 (lv_at hl 0 rfl) ?_
                        refine kc_i (D := (dC, dI)) (S := Unit) (wc := []) (wr := [(o1, .inr (12, [.int v2, .ref o3, .int v5, .ref o6, .int v8, .ref o9, .ref o11, .int v13, .ref o14, .int v16, .ref o17, .int v19, .int v20, .int v21, .ref o22, .ref o24, .ref o26, .ref o28, .ref o30, .int v32, .ref o33, .ref o35, .ref o37, .int v39, .ref o40, .ref o42, .ref o44, .int x7391, .ref o47])), (o42, .inl (cI, 49152, .inl f6568)), (o40, .inl (cZ, 49152, .inl f6567)), (o37, .inl (cI, 12, .inl fw38)), (o44, .inl (cI, 12, .inl f7390))]) (w1 := fun _ => []) (wn := fun _ => [(o1, .inr (12, [.int v2, .ref o3, .int v5, .ref o6, .int v8, .ref o9, .ref o11, .int v13, .ref o14, .int v16, .ref o17, .int v19, .int v20, .int v21, .ref o22, .ref o24, .ref o26, .ref o28, .ref o30, .int v32, .ref o33, .ref o35, .ref o37, .int v39, .ref o40, .ref o42, .ref o44, .int x7391, .ref o47])), (o42, .inl (cI, 49152, .inl f6568)), (o40, .inl (cZ, 49152, .inl f6567)), (o37, .inl (cI, 12, .inl fw38)), (o44, .inl (cI, 12, .inl f7390))]) (fun hPc hDc => va_runS (As := [.int x7389, .int x7387]) (rest := []) ⟨hx, hb, hml, hown, hts⟩ (kX12_has_1 l dC dI cI c2 cZ x7389 x7387 H.size (iv_w j7394 (by decide))) (va_cwS 2 hts gX12_setLine_X12_has rfl rfl rfl (by decide +kernel) ⟨Nat.le_of_ble_eq_true rfl, Nat.le_of_ble_eq_true rfl⟩) (pre_S hPc hK hDc hN) rfl rfl hl.1 rfl (lv_room (Nat.le_of_ble_eq_true rfl)) dX12_setLine_212 ⟨Nat.le_of_ble_eq_true rfl, Nat.le_of_ble_eq_true rfl⟩) hP hD hS hA [] [0, 1, 2, 3, 4] [0, 1, 2, 3, 4] rfl rfl (by decide +kernel) (by decide +kernel) (by decide +kernel) (by decide +kernel) (fun _ => rfl) (fun x7398 _ H locs hq hP hD hS => ?_)
                        obtain ⟨x7398_h, e7399⟩ := hq
                        have hP : va_P (dC, dI) vwCl ([(o1, .inr (12, [.int v2, .ref o3, .int v5, .ref o6, .int v8, .ref o9, .ref o11, .int v13, .ref o14, .int v16, .ref o17, .int v19, .int v20, .int v21, .ref o22, .ref o24, .ref o26, .ref o28, .ref o30, .int v32, .ref o33, .ref o35, .ref o37, .int v39, .ref o40, .ref o42, .ref o44, .int x7391, .ref o47])), (o42, .inl (cI, 49152, .inl f6568)), (o40, .inl (cZ, 49152, .inl f6567)), (o37, .inl (cI, 12, .inl fw38)), (o44, .inl (cI, 12, .inl f7390))]) H := hP
                        have hD : va_D A ([(o1, .inr (12, [.int v2, .ref o3, .int v5, .ref o6, .int v8, .ref o9, .ref o11, .int v13, .ref o14, .int v16, .ref o17, .int v19, .int v20, .int v21, .ref o22, .ref o24, .ref o26, .ref o28, .ref o30, .int v32, .ref o33, .ref o35, .ref o37, .int v39, .ref o40, .ref o42, .ref o44, .int x7391, .ref o47])), (o42, .inl (cI, 49152, .inl f6568)), (o40, .inl (cZ, 49152, .inl f6567)), (o37, .inl (cI, 12, .inl fw38)), (o44, .inl (cI, 12, .inl f7390))]) := hD
                        refine lv_if_ne (tgt := 268) hx hb dX12_setLine_215 (by decide) (fun h7400 => ?_) (fun h7400 => ?_)
                        ·
                          have j7401 : Iv 1 1 x7398 := r_nelo h7400 x7398_h ik_0 (by decide)
                          have b7402 : bt x7389 (Int32.toNatClampNeg x7387) = true := has_t e7399 h7400
                          obtain ⟨x7403, x7403_e⟩ : ∃ z : Int32, z = x7387 + 1 := ⟨_, rfl⟩
                          have x7403_h : Iv 1 12 x7403 := iv_e x7403_e (iv_add j7394 ik_1 (by decide))
                          refine lv_iinc (v := x7403) (lv' := [(4, .int x7403), (3, .int x7388), (2, .int x7389), (1, .int x2), (0, .ref o1)]) hx hb dX12_setLine_268 hl (k := 0) rfl (incN (by decide +kernel) x7403_e) (by decide) rfl (fun ls hl => ?_)
                          refine lv_goto (tgt := 196) hx hb dX12_setLine_271 (by decide) ?_
                          exact ih34 x7403 x7388 x7389 f7390 x7391 _ _ _ (ms_up x7403_e j7394 (by decide) hM34) (iv_w x7403_h (by decide)) (iv_w j7397 (by decide)) x7389_h f7390_b x7391_h iv34_0 iv34_1 iv34_2 iv34_3 (fun h8 => NC_s (iv34_4 h8) (iv_w (c := 0) (d := 4095) j7394 (by decide)) x7403_e (NC_h b7402)) hP hD hS hl
                        ·
                          have j7404 : Iv 0 0 x7398 := r_eq h7400 ik_0
                          have b7405 : bt x7389 (Int32.toNatClampNeg x7387) = false := has_f e7399 h7400
                          refine lv_aload_n hx hb dX12_setLine_218 rfl (lv_at hl 4 rfl) ?_
                          refine va_get (D := (dC, dI)) (ci := 12) (v := .ref o40) (C := RX12) (T := TX12) (N := 29) hx hb hts iw_X12_setLine_X12 hown hK hP 0 rfl rfl 24 (by decide) (hts (.fieldLink RX12 57 "HolelessHouseModel" "can" "[Z") hm_X12_setLine_3) (fun _ h9 => h9) rfl dX12_setLine_219 ?_
                          refine lv_bipush (v := 12) hx hb dX12_setLine_222 (by decide) ?_
                          refine lv_iload_n hx hb dX12_setLine_224 rfl (lv_at hl 2 rfl) ?_
                          refine lv_iconst (v := 1) hx hb dX12_setLine_225 (by decide) ?_
                          refine lv_iload hx hb dX12_setLine_226 (lv_at hl 0 rfl) ?_
                          refine lv_ishl hx hb dX12_setLine_228 (lv_topi (fun x7406 x7406_e => ?_))
                          have x7406_h : Iv 1 2048 x7406 := iv_e x7406_e (iv_shl1 j7394 (by decide))
                          refine lv_ior hx hb dX12_setLine_229 (lv_topi (fun x7407 x7407_e => ?_))
                          have x7407_h : Iv 0 4095 x7407 := iv_e x7407_e (iv_or 12 x7389_h x7406_h (by decide))
                          refine lv_imul hx hb dX12_setLine_230 (lv_topi (fun x7408 x7408_e => ?_))
                          have x7408_h : Iv 0 49140 x7408 := iv_e x7408_e (iv_mul ik_12 x7407_h (by decide))
                          refine lv_iload hx hb dX12_setLine_231 (lv_at hl 0 rfl) ?_
                          refine lv_iadd hx hb dX12_setLine_233 (lv_topi (fun x7409 x7409_e => ?_))
                          have x7409_h : Iv 0 49151 x7409 := iv_e x7409_e (iv_add x7408_h j7394 (by decide))
                          refine va_zald hx hb hK hP 2 2 rfl rfl (vin_iv x7409_h (by decide)) dX12_setLine_234 (lv_topi (fun x7410 x7410_e => ?_))
                          refine lv_if_eq (tgt := 268) hx hb dX12_setLine_235 (by decide) (fun h7411 => ?_) (fun h7411 => ?_)
                          ·
                            have j7412 : Iv 0 0 x7410 := r_eq h7411 ik_0
                            obtain ⟨x7413, x7413_e⟩ : ∃ z : Int32, z = x7387 + 1 := ⟨_, rfl⟩
                            have x7413_h : Iv 1 12 x7413 := iv_e x7413_e (iv_add j7394 ik_1 (by decide))
                            refine lv_iinc (v := x7413) (lv' := [(4, .int x7413), (3, .int x7388), (2, .int x7389), (1, .int x2), (0, .ref o1)]) hx hb dX12_setLine_268 hl (k := 0) rfl (incN (by decide +kernel) x7413_e) (by decide) rfl (fun ls hl => ?_)
                            refine lv_goto (tgt := 196) hx hb dX12_setLine_271 (by decide) ?_
                            exact ih34 x7413 x7388 x7389 f7390 x7391 _ _ _ (ms_up x7413_e j7394 (by decide) hM34) (iv_w x7413_h (by decide)) (iv_w j7397 (by decide)) x7389_h f7390_b x7391_h iv34_0 iv34_1 iv34_2 iv34_3 (fun h8 => NC_s (iv34_4 h8) (iv_w (c := 0) (d := 4095) j7394 (by decide)) x7413_e (fun h7 => (KD_at e6571 iv34_3 x7389_h j7394 (cl_in qh7392 j7394) b7405 x7406_e x7407_e x7407_h x7408_e x7409_e).mpr h7 (by rw [← x7410_e]; exact h7411))) hP hD hS hl
                          ·
                            have j7414 : Iv 0 11 x7391 := ct_11 iv34_0 j7394 b7405 x7391_h
                            refine lv_aload_n hx hb dX12_setLine_238 rfl (lv_at hl 4 rfl) ?_
                            refine va_get (D := (dC, dI)) (ci := 12) (v := .ref o44) (C := RX12) (T := TX12) (N := 29) hx hb hts iw_X12_setLine_X12 hown hK hP 0 rfl rfl 26 (by decide) (hts (.fieldLink RX12 64 "HolelessHouseModel" "line" "[I") hm_X12_setLine_5) (fun _ h9 => h9) rfl dX12_setLine_239 ?_
                            refine lv_aload_n hx hb dX12_setLine_242 rfl (lv_at hl 4 rfl) ?_
                            refine va_get (D := (dC, dI)) (ci := 12) (v := .int x7391) (C := RX12) (T := TX12) (N := 29) hx hb hts iw_X12_setLine_X12 hown hK hP 0 rfl rfl 27 (by decide) (hts (.fieldLink RX12 197 "HolelessHouseModel" "lined" "I") hm_X12_setLine_4) (fun _ h9 => h9) rfl dX12_setLine_243 ?_
                            refine lv_iload hx hb dX12_setLine_246 (lv_at hl 0 rfl) ?_
                            refine k_iast hx hb hK hP hD hS 4 0 rfl rfl (vin_iv j7414 (by decide)) dX12_setLine_248 (fun f7415 H locs f7415_e hP hD hS => ?_)
                            have f7415_b : Bd 12 0 11 f7415 := bd_upd f7415_e f7390_b j7394 (by decide)
                            have hP : va_P (dC, dI) vwCl ([(o1, .inr (12, [.int v2, .ref o3, .int v5, .ref o6, .int v8, .ref o9, .ref o11, .int v13, .ref o14, .int v16, .ref o17, .int v19, .int v20, .int v21, .ref o22, .ref o24, .ref o26, .ref o28, .ref o30, .int v32, .ref o33, .ref o35, .ref o37, .int v39, .ref o40, .ref o42, .ref o44, .int x7391, .ref o47])), (o42, .inl (cI, 49152, .inl f6568)), (o40, .inl (cZ, 49152, .inl f6567)), (o37, .inl (cI, 12, .inl fw38)), (o44, .inl (cI, 12, .inl f7415))]) H := hP
                            have hD : va_D A ([(o1, .inr (12, [.int v2, .ref o3, .int v5, .ref o6, .int v8, .ref o9, .ref o11, .int v13, .ref o14, .int v16, .ref o17, .int v19, .int v20, .int v21, .ref o22, .ref o24, .ref o26, .ref o28, .ref o30, .int v32, .ref o33, .ref o35, .ref o37, .int v39, .ref o40, .ref o42, .ref o44, .int x7391, .ref o47])), (o42, .inl (cI, 49152, .inl f6568)), (o40, .inl (cZ, 49152, .inl f6567)), (o37, .inl (cI, 12, .inl fw38)), (o44, .inl (cI, 12, .inl f7415))]) := hD
                            refine lv_aload_n hx hb dX12_setLine_249 rfl (lv_at hl 4 rfl) ?_
                            refine lv_dup hx hb dX12_setLine_250 rfl ?_
                            refine va_get (D := (dC, dI)) (ci := 12) (v := .int x7391) (C := RX12) (T := TX12) (N := 29) hx hb hts iw_X12_setLine_X12 hown hK hP 0 rfl rfl 27 (by decide) (hts (.fieldLink RX12 197 "HolelessHouseModel" "lined" "I") hm_X12_setLine_4) (fun _ h9 => h9) rfl dX12_setLine_251 ?_
                            refine lv_iconst (v := 1) hx hb dX12_setLine_254 (by decide) ?_
                            refine lv_iadd hx hb dX12_setLine_255 (lv_topi (fun x7416 x7416_e => ?_))
                            have x7416_h : Iv 1 12 x7416 := iv_e x7416_e (iv_add j7414 ik_1 (by decide))
                            refine va_put (D := (dC, dI)) (ci := 12) (v := .int x7416) (ty := .int) (C := RX12) (T := TX12) (N := 29) hx hb hts iw_X12_setLine_X12 tyX12 tyX12_ok nmX12 hown hK hP hD hS 0 rfl rfl 27 (by decide) (hts (.fieldLink RX12 197 "HolelessHouseModel" "lined" "I") hm_X12_setLine_4) (fun _ h9 => h9) rfl (by decide +kernel) rfl rfl (Nat.le_of_ble_eq_true rfl) dX12_setLine_256 (fun H locs hP hD hS => ?_)
                            have hP : va_P (dC, dI) vwCl ([(o1, .inr (12, [.int v2, .ref o3, .int v5, .ref o6, .int v8, .ref o9, .ref o11, .int v13, .ref o14, .int v16, .ref o17, .int v19, .int v20, .int v21, .ref o22, .ref o24, .ref o26, .ref o28, .ref o30, .int v32, .ref o33, .ref o35, .ref o37, .int v39, .ref o40, .ref o42, .ref o44, .int x7416, .ref o47])), (o42, .inl (cI, 49152, .inl f6568)), (o40, .inl (cZ, 49152, .inl f6567)), (o37, .inl (cI, 12, .inl fw38)), (o44, .inl (cI, 12, .inl f7415))]) H := hP
                            have hD : va_D A ([(o1, .inr (12, [.int v2, .ref o3, .int v5, .ref o6, .int v8, .ref o9, .ref o11, .int v13, .ref o14, .int v16, .ref o17, .int v19, .int v20, .int v21, .ref o22, .ref o24, .ref o26, .ref o28, .ref o30, .int v32, .ref o33, .ref o35, .ref o37, .int v39, .ref o40, .ref o42, .ref o44, .int x7416, .ref o47])), (o42, .inl (cI, 49152, .inl f6568)), (o40, .inl (cZ, 49152, .inl f6567)), (o37, .inl (cI, 12, .inl fw38)), (o44, .inl (cI, 12, .inl f7415))]) := hD
                            refine lv_iload_n hx hb dX12_setLine_259 rfl (lv_at hl 2 rfl) ?_
                            refine lv_iconst (v := 1) hx hb dX12_setLine_260 (by decide) ?_
                            refine lv_iload hx hb dX12_setLine_261 (lv_at hl 0 rfl) ?_
                            refine lv_ishl hx hb dX12_setLine_263 (lv_topi (fun x7417 x7417_e => ?_))
                            have x7417_h : Iv 1 2048 x7417 := iv_e x7417_e (iv_shl1 j7394 (by decide))
                            refine lv_ior hx hb dX12_setLine_264 (lv_topi (fun x7418 x7418_e => ?_))
                            have x7418_h : Iv 0 4095 x7418 := iv_e x7418_e (iv_or 12 x7389_h x7417_h (by decide))
                            refine lv_istore_n (lv' := [(2, .int x7418), (4, .int x7387), (3, .int x7388), (1, .int x2), (0, .ref o1)]) hx hb dX12_setLine_265 rfl hl (by decide) rfl (fun ls hl => ?_)
                            refine lv_iconst (v := 1) hx hb dX12_setLine_266 (by decide) ?_
                            refine lv_istore_n (lv' := [(3, .int 1), (2, .int x7418), (4, .int x7387), (1, .int x2), (0, .ref o1)]) hx hb dX12_setLine_267 rfl hl (by decide) rfl (fun ls hl => ?_)
                            obtain ⟨x7419, x7419_e⟩ : ∃ z : Int32, z = x7387 + 1 := ⟨_, rfl⟩
                            have x7419_h : Iv 1 12 x7419 := iv_e x7419_e (iv_add j7394 ik_1 (by decide))
                            refine lv_iinc (v := x7419) (lv' := [(4, .int x7419), (3, .int 1), (2, .int x7418), (1, .int x2), (0, .ref o1)]) hx hb dX12_setLine_268 hl (k := 2) rfl (incN (by decide +kernel) x7419_e) (by decide) rfl (fun ls hl => ?_)
                            refine lv_goto (tgt := 196) hx hb dX12_setLine_271 (by decide) ?_
                            exact ih34 x7419 1 x7418 f7415 x7416 _ _ _ (ms_up x7419_e j7394 (by decide) hM34) (iv_w x7419_h (by decide)) (iv_w ik_1 (by decide)) x7418_h f7415_b (iv_w x7416_h (by decide)) (by have a0 := iv34_0; have a1 := ct_set1 (x := 0) j7394 x7417_e x7418_e b7405; have a2 := tia x7416_e j7414 ik_1 (by decide); omega) (by have a0 := iv34_1; have a1 := set_gt x7389_h x7418_h j7394 (by decide) x7417_e x7418_e b7405; have a2 := (show Int32.toInt 1 = 1 by decide +kernel); have a3 := (show _ ≤ _ ∧ _ ≤ _ from j7397); omega) (GP_s iv34_2 j7414 x7416_e f7415_e j7394 x7417_e x7418_e (cl_in qh7392 j7394) ((KD_at e6571 iv34_3 x7389_h j7394 (cl_in qh7392 j7394) b7405 x7406_e x7407_e x7407_h x7408_e x7409_e).mp (by rw [← x7410_e]; exact h7411)) (iv34_4 h7395)) (bel_set iv34_3 j7394 (by decide) (cl_in qh7392 j7394) x7417_e x7418_e) (fun h8 => absurd h8 (by decide)) hP hD hS hl
                exact L34 _ 0 0 x7133 f7134 x7135 _ _ _ (Nat.lt_succ_self _) (iv_w ik_0 (by decide)) (iv_w ik_0 (by decide)) x7133_h f7134_b x7135_h iv33_0 (by have a0 := (show Int32.toInt 0 = 0 by decide +kernel); omega) iv33_1 iv33_2 (fun _ => NC_0) hP hD hS hl
          exact L33 _ 1 0 fw45 0 _ _ _ (Nat.lt_succ_self _) (iv_w ik_1 (by decide)) (iv_w ik_0 (by decide)) fw45_b (iv_w ik_0 (by decide)) (by rw [ct_0]; decide +kernel) GP_0 (bel_0 _) (fun h8 => absurd h8 (by decide)) hP hD hS hl
      ·
        have qh6569 := nle_i h6569
        have j7420 : Iv 1 4095 x6566 := r_ltr qh6569 ik_0 x6566_h (by decide)
        refine lv_iconst (v := 0) hx hb dX12_setLine_15 (by decide) ?_
        refine lv_istore_n (lv' := [(3, .int 0), (2, .int x6566), (1, .int x2), (0, .ref o1)]) hx hb dX12_setLine_16 rfl hl (by decide) rfl (fun ls hl => ?_)
        have L51 : ∀ (N : Nat) (x11210 : Int32) (f11211 : Nat → Int32) (f11212 : Nat → Int32) (H : Heap) (locs : List Loc) (ls : Array Slot), (12 - x11210.toInt).toNat < N → Iv 0 12 x11210 → (CA fw38 f11212 (Int32.toNatClampNeg v39) (Int32.toInt x6566) (Int32.toNatClampNeg x2)) → (CL_ fw38 f11212 (Int32.toNatClampNeg v39) (Int32.toNatClampNeg x6566) (Int32.toNatClampNeg x11210)) → (KA fw38 f11211 (Int32.toNatClampNeg v39) (Int32.toInt x6566) (Int32.toNatClampNeg x2)) → (KL fw38 f11211 (Int32.toNatClampNeg v39) (Int32.toNatClampNeg x6566) (Int32.toNatClampNeg x11210)) → va_P (dC, dI) vwCl ([(o1, .inr (12, [.int v2, .ref o3, .int v5, .ref o6, .int v8, .ref o9, .ref o11, .int v13, .ref o14, .int v16, .ref o17, .int v19, .int v20, .int v21, .ref o22, .ref o24, .ref o26, .ref o28, .ref o30, .int v32, .ref o33, .ref o35, .ref o37, .int v39, .ref o40, .ref o42, .ref o44, .int v46, .ref o47])), (o42, .inl (cI, 49152, .inl f11212)), (o40, .inl (cZ, 49152, .inl f11211)), (o37, .inl (cI, 12, .inl fw38)), (o44, .inl (cI, 12, .inl fw45))]) H → va_D A ([(o1, .inr (12, [.int v2, .ref o3, .int v5, .ref o6, .int v8, .ref o9, .ref o11, .int v13, .ref o14, .int v16, .ref o17, .int v19, .int v20, .int v21, .ref o22, .ref o24, .ref o26, .ref o28, .ref o30, .int v32, .ref o33, .ref o35, .ref o37, .int v39, .ref o40, .ref o42, .ref o44, .int v46, .ref o47])), (o42, .inl (cI, 49152, .inl f11212)), (o40, .inl (cZ, 49152, .inl f11211)), (o37, .inl (cI, 12, .inl fw38)), (o44, .inl (cI, 12, .inl fw45))]) → va_S A s.heap H locs → lv_has ls 6 [(3, .int x11210), (2, .int x6566), (1, .int x2), (0, .ref o1)] → W p l e ({ frames := 2, cells := 0, slots := 0, locals := 46 }) s m ([.ref o1] : List Value).toArray below meth c H locs 0 0 Q (F0 m 17 ls []) := by
          intro N
          induction N with
          | zero =>
            intro x11210 f11211 f11212 H locs ls hM
            exact absurd hM (Nat.not_lt_zero _)
          | succ N ih51 =>
            intro x11210 f11211 f11212 H locs ls hM51 x11210_h iv51_0 iv51_1 iv51_2 iv51_3 hP hD hS hl
            refine lv_iload_n hx hb dX12_setLine_17 rfl (lv_at hl 0 rfl) ?_
            refine lv_aload_n hx hb dX12_setLine_18 rfl (lv_at hl 3 rfl) ?_
            refine va_get (D := (dC, dI)) (ci := 12) (v := .int v39) (C := RX12) (T := TX12) (N := 29) hx hb hts iw_X12_setLine_X12 hown hK hP 0 rfl rfl 23 (by decide) (hts (.fieldLink RX12 191 "HolelessHouseModel" "thingMany" "I") hm_X12_setLine_1) (fun _ h9 => h9) rfl dX12_setLine_19 ?_
            refine lv_icmp_ge (tgt := 161) hx hb dX12_setLine_22 (by decide) (fun h11213 => ?_) (fun h11213 => ?_)
            ·
              have qh11213 := le_i h11213
              obtain ⟨x11214, x11214_e⟩ : ∃ z : Int32, z = x6566 + (-1) := ⟨_, rfl⟩
              have x11214_h : Iv 0 4094 x11214 := iv_e x11214_e (iv_add j7420 ikm_1 (by decide))
              refine lv_iinc (v := x11214) (lv' := [(2, .int x11214), (3, .int x11210), (1, .int x2), (0, .ref o1)]) hx hb dX12_setLine_161 hl (k := 1) rfl (incN (by decide +kernel) x11214_e) (by decide) rfl (fun ls hl => ?_)
              refine lv_goto (tgt := 11) hx hb dX12_setLine_164 (by decide) ?_
              exact ih30 x11214 f11211 f11212 _ _ _ (ms_dn x11214_e j7420 (by decide) hM30) (iv_w x11214_h (by decide)) (CA_s iv51_0 iv51_1 qh11213 (iv_w (c := 0) (d := 4095) j7420 (by decide)) v39_h (by have a0 := tia x11214_e j7420 ikm_1 (by decide); omega)) (by have a0 := tia x11214_e j7420 ikm_1 (by decide); have a1 := iv30_1; omega) (KA_s iv51_2 iv51_3 qh11213 (iv_w (c := 0) (d := 4095) j7420 (by decide)) v39_h (by have a0 := tia x11214_e j7420 ikm_1 (by decide); omega)) hP hD hS (lv_sub hl [0, 2, 3] rfl)
            ·
              have qh11213 := nle_i h11213
              have j11215 : Iv 0 11 x11210 := r_ltl qh11213 x11210_h v39_h (by decide)
              have j11216 : Iv 1 12 v39 := r_ltr qh11213 x11210_h v39_h (by decide)
              refine lv_bipush (v := 12) hx hb dX12_setLine_25 (by decide) ?_
              refine lv_iload_n hx hb dX12_setLine_27 rfl (lv_at hl 1 rfl) ?_
              refine lv_imul hx hb dX12_setLine_28 (lv_topi (fun x11217 x11217_e => ?_))
              have x11217_h : Iv 0 49140 x11217 := iv_e x11217_e (iv_mul ik_12 j7420 (by decide))
              refine lv_iload_n hx hb dX12_setLine_29 rfl (lv_at hl 0 rfl) ?_
              refine lv_iadd hx hb dX12_setLine_30 (lv_topi (fun x11218 x11218_e => ?_))
              have x11218_h : Iv 0 49151 x11218 := iv_e x11218_e (iv_add x11217_h j11215 (by decide))
              refine lv_istore (lv' := [(4, .int x11218), (3, .int x11210), (2, .int x6566), (1, .int x2), (0, .ref o1)]) hx hb dX12_setLine_31 hl (by decide) rfl (fun ls hl => ?_)
              refine lv_aload_n hx hb dX12_setLine_33 rfl (lv_at hl 4 rfl) ?_
              refine va_get (D := (dC, dI)) (ci := 12) (v := .ref o42) (C := RX12) (T := TX12) (N := 29) hx hb hts iw_X12_setLine_X12 hown hK hP 0 rfl rfl 25 (by decide) (hts (.fieldLink RX12 61 "HolelessHouseModel" "counts" "[I") hm_X12_setLine_2) (fun _ h9 => h9) rfl dX12_setLine_34 ?_
              refine lv_iload hx hb dX12_setLine_37 (lv_at hl 0 rfl) ?_
              refine lv_iconst (v := 0) hx hb dX12_setLine_39 (by decide) ?_
              refine k_iast hx hb hK hP hD hS 1 0 rfl rfl (vin_iv x11218_h (by decide)) dX12_setLine_40 (fun f11219 H locs f11219_e hP hD hS => ?_)
              have hP : va_P (dC, dI) vwCl ([(o1, .inr (12, [.int v2, .ref o3, .int v5, .ref o6, .int v8, .ref o9, .ref o11, .int v13, .ref o14, .int v16, .ref o17, .int v19, .int v20, .int v21, .ref o22, .ref o24, .ref o26, .ref o28, .ref o30, .int v32, .ref o33, .ref o35, .ref o37, .int v39, .ref o40, .ref o42, .ref o44, .int v46, .ref o47])), (o42, .inl (cI, 49152, .inl f11219)), (o40, .inl (cZ, 49152, .inl f11211)), (o37, .inl (cI, 12, .inl fw38)), (o44, .inl (cI, 12, .inl fw45))]) H := hP
              have hD : va_D A ([(o1, .inr (12, [.int v2, .ref o3, .int v5, .ref o6, .int v8, .ref o9, .ref o11, .int v13, .ref o14, .int v16, .ref o17, .int v19, .int v20, .int v21, .ref o22, .ref o24, .ref o26, .ref o28, .ref o30, .int v32, .ref o33, .ref o35, .ref o37, .int v39, .ref o40, .ref o42, .ref o44, .int v46, .ref o47])), (o42, .inl (cI, 49152, .inl f11219)), (o40, .inl (cZ, 49152, .inl f11211)), (o37, .inl (cI, 12, .inl fw38)), (o44, .inl (cI, 12, .inl fw45))]) := hD
              refine lv_iload_n hx hb dX12_setLine_41 rfl (lv_at hl 2 rfl) ?_
              refine lv_iload_n hx hb dX12_setLine_42 rfl (lv_at hl 1 rfl) ?_
              refine kc_i (D := (dC, dI)) (S := Unit) (wc := []) (wr := [(o1, .inr (12, [.int v2, .ref o3, .int v5, .ref o6, .int v8, .ref o9, .ref o11, .int v13, .ref o14, .int v16, .ref o17, .int v19, .int v20, .int v21, .ref o22, .ref o24, .ref o26, .ref o28, .ref o30, .int v32, .ref o33, .ref o35, .ref o37, .int v39, .ref o40, .ref o42, .ref o44, .int v46, .ref o47])), (o42, .inl (cI, 49152, .inl f11219)), (o40, .inl (cZ, 49152, .inl f11211)), (o37, .inl (cI, 12, .inl fw38)), (o44, .inl (cI, 12, .inl fw45))]) (w1 := fun _ => []) (wn := fun _ => [(o1, .inr (12, [.int v2, .ref o3, .int v5, .ref o6, .int v8, .ref o9, .ref o11, .int v13, .ref o14, .int v16, .ref o17, .int v19, .int v20, .int v21, .ref o22, .ref o24, .ref o26, .ref o28, .ref o30, .int v32, .ref o33, .ref o35, .ref o37, .int v39, .ref o40, .ref o42, .ref o44, .int v46, .ref o47])), (o42, .inl (cI, 49152, .inl f11219)), (o40, .inl (cZ, 49152, .inl f11211)), (o37, .inl (cI, 12, .inl fw38)), (o44, .inl (cI, 12, .inl fw45))]) (fun hPc hDc => va_runS (As := [.int x6566, .int x11210]) (rest := []) ⟨hx, hb, hml, hown, hts⟩ (kX12_has_1 l dC dI cI c2 cZ x6566 x11210 H.size (iv_w j11215 (by decide))) (va_cwS 2 hts gX12_setLine_X12_has rfl rfl rfl (by decide +kernel) ⟨Nat.le_of_ble_eq_true rfl, Nat.le_of_ble_eq_true rfl⟩) (pre_S hPc hK hDc hN) rfl rfl hl.1 rfl (lv_room (Nat.le_of_ble_eq_true rfl)) dX12_setLine_43 ⟨Nat.le_of_ble_eq_true rfl, Nat.le_of_ble_eq_true rfl⟩) hP hD hS hA [] [0, 1, 2, 3, 4] [0, 1, 2, 3, 4] rfl rfl (by decide +kernel) (by decide +kernel) (by decide +kernel) (by decide +kernel) (fun _ => rfl) (fun x11220 _ H locs hq hP hD hS => ?_)
              obtain ⟨x11220_h, e11221⟩ := hq
              have hP : va_P (dC, dI) vwCl ([(o1, .inr (12, [.int v2, .ref o3, .int v5, .ref o6, .int v8, .ref o9, .ref o11, .int v13, .ref o14, .int v16, .ref o17, .int v19, .int v20, .int v21, .ref o22, .ref o24, .ref o26, .ref o28, .ref o30, .int v32, .ref o33, .ref o35, .ref o37, .int v39, .ref o40, .ref o42, .ref o44, .int v46, .ref o47])), (o42, .inl (cI, 49152, .inl f11219)), (o40, .inl (cZ, 49152, .inl f11211)), (o37, .inl (cI, 12, .inl fw38)), (o44, .inl (cI, 12, .inl fw45))]) H := hP
              have hD : va_D A ([(o1, .inr (12, [.int v2, .ref o3, .int v5, .ref o6, .int v8, .ref o9, .ref o11, .int v13, .ref o14, .int v16, .ref o17, .int v19, .int v20, .int v21, .ref o22, .ref o24, .ref o26, .ref o28, .ref o30, .int v32, .ref o33, .ref o35, .ref o37, .int v39, .ref o40, .ref o42, .ref o44, .int v46, .ref o47])), (o42, .inl (cI, 49152, .inl f11219)), (o40, .inl (cZ, 49152, .inl f11211)), (o37, .inl (cI, 12, .inl fw38)), (o44, .inl (cI, 12, .inl fw45))]) := hD
              refine lv_if_eq (tgt := 133) hx hb dX12_setLine_46 (by decide) (fun h11222 => ?_) (fun h11222 => ?_)
              ·
                have j11223 : Iv 0 0 x11220 := r_eq h11222 ik_0
                have b11224 : bt x6566 (Int32.toNatClampNeg x11210) = false := has_f e11221 h11222
                refine lv_aload_n hx hb dX12_setLine_133 rfl (lv_at hl 4 rfl) ?_
                refine va_get (D := (dC, dI)) (ci := 12) (v := .ref o40) (C := RX12) (T := TX12) (N := 29) hx hb hts iw_X12_setLine_X12 hown hK hP 0 rfl rfl 24 (by decide) (hts (.fieldLink RX12 57 "HolelessHouseModel" "can" "[Z") hm_X12_setLine_3) (fun _ h9 => h9) rfl dX12_setLine_134 ?_
                refine lv_iload hx hb dX12_setLine_137 (lv_at hl 0 rfl) ?_
                refine lv_aload_n hx hb dX12_setLine_139 rfl (lv_at hl 4 rfl) ?_
                refine va_get (D := (dC, dI)) (ci := 12) (v := .ref o42) (C := RX12) (T := TX12) (N := 29) hx hb hts iw_X12_setLine_X12 hown hK hP 0 rfl rfl 25 (by decide) (hts (.fieldLink RX12 61 "HolelessHouseModel" "counts" "[I") hm_X12_setLine_2) (fun _ h9 => h9) rfl dX12_setLine_140 ?_
                refine lv_iload hx hb dX12_setLine_143 (lv_at hl 0 rfl) ?_
                refine va_iald hx hb hK hP 1 0 rfl rfl (vin_iv x11218_h (by decide)) dX12_setLine_145 (lv_topi (fun x11225 x11225_e => ?_))
                refine lv_if_le (tgt := 153) hx hb dX12_setLine_146 (by decide) (fun h11226 => ?_) (fun h11226 => ?_)
                ·
                  have qh11226 := le_i h11226
                  have j11227 : Iv (-2147483648) 0 x11225 := r_lel qh11226 (iv_full x11225) ik_0 (by decide)
                  refine lv_iconst (v := 0) hx hb dX12_setLine_153 (by decide) ?_
                  refine k_zast hx hb hK hP hD hS 2 2 rfl rfl (vin_iv x11218_h (by decide)) dX12_setLine_154 (fun f11228 H locs f11228_e hP hD hS => ?_)
                  have hP : va_P (dC, dI) vwCl ([(o1, .inr (12, [.int v2, .ref o3, .int v5, .ref o6, .int v8, .ref o9, .ref o11, .int v13, .ref o14, .int v16, .ref o17, .int v19, .int v20, .int v21, .ref o22, .ref o24, .ref o26, .ref o28, .ref o30, .int v32, .ref o33, .ref o35, .ref o37, .int v39, .ref o40, .ref o42, .ref o44, .int v46, .ref o47])), (o42, .inl (cI, 49152, .inl f11219)), (o40, .inl (cZ, 49152, .inl f11228)), (o37, .inl (cI, 12, .inl fw38)), (o44, .inl (cI, 12, .inl fw45))]) H := hP
                  have hD : va_D A ([(o1, .inr (12, [.int v2, .ref o3, .int v5, .ref o6, .int v8, .ref o9, .ref o11, .int v13, .ref o14, .int v16, .ref o17, .int v19, .int v20, .int v21, .ref o22, .ref o24, .ref o26, .ref o28, .ref o30, .int v32, .ref o33, .ref o35, .ref o37, .int v39, .ref o40, .ref o42, .ref o44, .int v46, .ref o47])), (o42, .inl (cI, 49152, .inl f11219)), (o40, .inl (cZ, 49152, .inl f11228)), (o37, .inl (cI, 12, .inl fw38)), (o44, .inl (cI, 12, .inl fw45))]) := hD
                  obtain ⟨x11229, x11229_e⟩ : ∃ z : Int32, z = x11210 + 1 := ⟨_, rfl⟩
                  have x11229_h : Iv 1 12 x11229 := iv_e x11229_e (iv_add j11215 ik_1 (by decide))
                  refine lv_iinc (v := x11229) (lv' := [(3, .int x11229), (4, .int x11218), (2, .int x6566), (1, .int x2), (0, .ref o1)]) hx hb dX12_setLine_155 hl (k := 1) rfl (incN (by decide +kernel) x11229_e) (by decide) rfl (fun ls hl => ?_)
                  refine lv_goto (tgt := 17) hx hb dX12_setLine_158 (by decide) ?_
                  exact ih51 x11229 f11228 f11219 _ _ _ (ms_up x11229_e j11215 (by decide) hM51) (iv_w x11229_h (by decide)) (CA_upd iv51_0 (iv_w (c := 0) (d := 4095) j7420 (by decide)) (cl_b (iv_w (c := 0) (d := 12) j11216 (by decide)) (by decide)) (cl_lt j11215 (by decide)) (ix12 (iv_w (c := 0) (d := 4095) j7420 (by decide)) (iv_w (c := 0) (d := 12) j11215 (by decide)) x11217_e x11218_e) f11219_e) (CLl_s (CLl_upd iv51_1 (ix12 (iv_w (c := 0) (d := 4095) j7420 (by decide)) (iv_w (c := 0) (d := 12) j11215 (by decide)) x11217_e x11218_e) f11219_e) (iv_w (c := 0) (d := 4095) j11215 (by decide)) x11229_e (CE_n (iv_w (c := 0) (d := 4095) j7420 (by decide)) (ix12 (iv_w (c := 0) (d := 4095) j7420 (by decide)) (iv_w (c := 0) (d := 12) j11215 (by decide)) x11217_e x11218_e) f11219_e rfl (fun h8 => by rw [b11224] at h8; exact absurd h8.1 (by decide)))) (KA_upd iv51_2 (iv_w (c := 0) (d := 4095) j7420 (by decide)) (cl_b (iv_w (c := 0) (d := 12) j11216 (by decide)) (by decide)) (cl_lt j11215 (by decide)) (ix12 (iv_w (c := 0) (d := 4095) j7420 (by decide)) (iv_w (c := 0) (d := 12) j11215 (by decide)) x11217_e x11218_e) f11228_e) (KL_s iv51_3 (iv_w (c := 0) (d := 4095) j11215 (by decide)) x11229_e (CE_n (iv_w (c := 0) (d := 4095) j7420 (by decide)) (ix12 (iv_w (c := 0) (d := 4095) j7420 (by decide)) (iv_w (c := 0) (d := 12) j11215 (by decide)) x11217_e x11218_e) f11219_e rfl (fun h8 => by rw [b11224] at h8; exact absurd h8.1 (by decide))) pre0 (ix12 (iv_w (c := 0) (d := 4095) j7420 (by decide)) (iv_w (c := 0) (d := 12) j11215 (by decide)) x11217_e x11218_e) x11225_e f11228_e (Or.inl ⟨rfl, qh11226⟩)) hP hD hS (lv_sub hl [0, 2, 3, 4] rfl)
                ·
                  have qh11226 := nle_i h11226
                  have j11230 : Iv 1 2147483647 x11225 := r_ltr qh11226 ik_0 (iv_full x11225) (by decide)
                  refine lv_iconst (v := 1) hx hb dX12_setLine_149 (by decide) ?_
                  refine lv_goto (tgt := 154) hx hb dX12_setLine_150 (by decide) ?_
                  refine k_zast hx hb hK hP hD hS 2 2 rfl rfl (vin_iv x11218_h (by decide)) dX12_setLine_154 (fun f11231 H locs f11231_e hP hD hS => ?_)
                  have hP : va_P (dC, dI) vwCl ([(o1, .inr (12, [.int v2, .ref o3, .int v5, .ref o6, .int v8, .ref o9, .ref o11, .int v13, .ref o14, .int v16, .ref o17, .int v19, .int v20, .int v21, .ref o22, .ref o24, .ref o26, .ref o28, .ref o30, .int v32, .ref o33, .ref o35, .ref o37, .int v39, .ref o40, .ref o42, .ref o44, .int v46, .ref o47])), (o42, .inl (cI, 49152, .inl f11219)), (o40, .inl (cZ, 49152, .inl f11231)), (o37, .inl (cI, 12, .inl fw38)), (o44, .inl (cI, 12, .inl fw45))]) H := hP
                  have hD : va_D A ([(o1, .inr (12, [.int v2, .ref o3, .int v5, .ref o6, .int v8, .ref o9, .ref o11, .int v13, .ref o14, .int v16, .ref o17, .int v19, .int v20, .int v21, .ref o22, .ref o24, .ref o26, .ref o28, .ref o30, .int v32, .ref o33, .ref o35, .ref o37, .int v39, .ref o40, .ref o42, .ref o44, .int v46, .ref o47])), (o42, .inl (cI, 49152, .inl f11219)), (o40, .inl (cZ, 49152, .inl f11231)), (o37, .inl (cI, 12, .inl fw38)), (o44, .inl (cI, 12, .inl fw45))]) := hD
                  obtain ⟨x11232, x11232_e⟩ : ∃ z : Int32, z = x11210 + 1 := ⟨_, rfl⟩
                  have x11232_h : Iv 1 12 x11232 := iv_e x11232_e (iv_add j11215 ik_1 (by decide))
                  refine lv_iinc (v := x11232) (lv' := [(3, .int x11232), (4, .int x11218), (2, .int x6566), (1, .int x2), (0, .ref o1)]) hx hb dX12_setLine_155 hl (k := 1) rfl (incN (by decide +kernel) x11232_e) (by decide) rfl (fun ls hl => ?_)
                  refine lv_goto (tgt := 17) hx hb dX12_setLine_158 (by decide) ?_
                  exact ih51 x11232 f11231 f11219 _ _ _ (ms_up x11232_e j11215 (by decide) hM51) (iv_w x11232_h (by decide)) (CA_upd iv51_0 (iv_w (c := 0) (d := 4095) j7420 (by decide)) (cl_b (iv_w (c := 0) (d := 12) j11216 (by decide)) (by decide)) (cl_lt j11215 (by decide)) (ix12 (iv_w (c := 0) (d := 4095) j7420 (by decide)) (iv_w (c := 0) (d := 12) j11215 (by decide)) x11217_e x11218_e) f11219_e) (CLl_s (CLl_upd iv51_1 (ix12 (iv_w (c := 0) (d := 4095) j7420 (by decide)) (iv_w (c := 0) (d := 12) j11215 (by decide)) x11217_e x11218_e) f11219_e) (iv_w (c := 0) (d := 4095) j11215 (by decide)) x11232_e (CE_n (iv_w (c := 0) (d := 4095) j7420 (by decide)) (ix12 (iv_w (c := 0) (d := 4095) j7420 (by decide)) (iv_w (c := 0) (d := 12) j11215 (by decide)) x11217_e x11218_e) f11219_e rfl (fun h8 => by rw [b11224] at h8; exact absurd h8.1 (by decide)))) (KA_upd iv51_2 (iv_w (c := 0) (d := 4095) j7420 (by decide)) (cl_b (iv_w (c := 0) (d := 12) j11216 (by decide)) (by decide)) (cl_lt j11215 (by decide)) (ix12 (iv_w (c := 0) (d := 4095) j7420 (by decide)) (iv_w (c := 0) (d := 12) j11215 (by decide)) x11217_e x11218_e) f11231_e) (KL_s iv51_3 (iv_w (c := 0) (d := 4095) j11215 (by decide)) x11232_e (CE_n (iv_w (c := 0) (d := 4095) j7420 (by decide)) (ix12 (iv_w (c := 0) (d := 4095) j7420 (by decide)) (iv_w (c := 0) (d := 12) j11215 (by decide)) x11217_e x11218_e) f11219_e rfl (fun h8 => by rw [b11224] at h8; exact absurd h8.1 (by decide))) pre0 (ix12 (iv_w (c := 0) (d := 4095) j7420 (by decide)) (iv_w (c := 0) (d := 12) j11215 (by decide)) x11217_e x11218_e) x11225_e f11231_e (Or.inr ⟨rfl, qh11226⟩)) hP hD hS (lv_sub hl [0, 2, 3, 4] rfl)
              ·
                have j11233 : Iv 1 1 x11220 := r_nelo h11222 x11220_h ik_0 (by decide)
                have b11234 : bt x6566 (Int32.toNatClampNeg x11210) = true := has_t e11221 h11222
                refine lv_aload_n hx hb dX12_setLine_49 rfl (lv_at hl 4 rfl) ?_
                refine lv_iload_n hx hb dX12_setLine_50 rfl (lv_at hl 2 rfl) ?_
                refine lv_iload_n hx hb dX12_setLine_51 rfl (lv_at hl 1 rfl) ?_
                refine kc_i (D := (dC, dI)) (S := Unit) (wc := [(o1, .inr (12, [.int v2, .ref o3, .int v5, .ref o6, .int v8, .ref o9, .ref o11, .int v13, .ref o14, .int v16, .ref o17, .int v19, .int v20, .int v21, .ref o22, .ref o24, .ref o26, .ref o28, .ref o30, .int v32, .ref o33, .ref o35, .ref o37, .int v39, .ref o40, .ref o42, .ref o44, .int v46, .ref o47])), (o37, .inl (cI, 12, .inl fw38))]) (wr := [(o42, .inl (cI, 49152, .inl f11219)), (o40, .inl (cZ, 49152, .inl f11211)), (o44, .inl (cI, 12, .inl fw45))]) (w1 := fun _ => [(o1, .inr (12, [.int v2, .ref o3, .int v5, .ref o6, .int v8, .ref o9, .ref o11, .int v13, .ref o14, .int v16, .ref o17, .int v19, .int v20, .int v21, .ref o22, .ref o24, .ref o26, .ref o28, .ref o30, .int v32, .ref o33, .ref o35, .ref o37, .int v39, .ref o40, .ref o42, .ref o44, .int v46, .ref o47])), (o37, .inl (cI, 12, .inl fw38))]) (wn := fun _ => [(o1, .inr (12, [.int v2, .ref o3, .int v5, .ref o6, .int v8, .ref o9, .ref o11, .int v13, .ref o14, .int v16, .ref o17, .int v19, .int v20, .int v21, .ref o22, .ref o24, .ref o26, .ref o28, .ref o30, .int v32, .ref o33, .ref o35, .ref o37, .int v39, .ref o40, .ref o42, .ref o44, .int v46, .ref o47])), (o42, .inl (cI, 49152, .inl f11219)), (o40, .inl (cZ, 49152, .inl f11211)), (o37, .inl (cI, 12, .inl fw38)), (o44, .inl (cI, 12, .inl fw45))]) (fun hPc hDc => va_runV (As := [.int x6566, .int x11210]) (rest := []) ⟨hx, hb, hml, hown, hts⟩ (kxX12_isWell_2 l dC dI cI c2 cZ o1 o3 o6 o9 o11 o14 o17 o22 o24 o26 o28 o30 o33 o35 o37 o40 o42 o44 o47 v2 v5 v8 v13 v16 v19 v20 v21 v32 fw38 v39 v46 x6566 x11210 H.size v5_h v8_h v13_h v16_h v19_h v32_h (iv_w j11216 (by decide)) v46_h (iv_w j7420 (by decide)) j11215) (cwV 2 hts gX12_setLine_X12_isWell rfl rfl rfl (by decide +kernel) ⟨Nat.le_of_ble_eq_true rfl, Nat.le_of_ble_eq_true rfl⟩) (pre_V hPc hK hDc hN (ci := 12) (q0 := 0) rfl rfl) rfl rfl hl.1 rfl (lv_room (Nat.le_of_ble_eq_true rfl)) dX12_setLine_52 ⟨Nat.le_of_ble_eq_true rfl, Nat.le_of_ble_eq_true rfl⟩) hP hD hS hA [0, 3] [1, 2, 4] [3, 0, 1, 4, 2] rfl rfl (by decide +kernel) (by decide +kernel) (by decide +kernel) (by decide +kernel) (fun _ => rfl) (fun x11235 _ H locs hq hP hD hS => ?_)
                obtain ⟨x11235_h, e11236, e11237⟩ := hq
                have hP : va_P (dC, dI) vwCl ([(o1, .inr (12, [.int v2, .ref o3, .int v5, .ref o6, .int v8, .ref o9, .ref o11, .int v13, .ref o14, .int v16, .ref o17, .int v19, .int v20, .int v21, .ref o22, .ref o24, .ref o26, .ref o28, .ref o30, .int v32, .ref o33, .ref o35, .ref o37, .int v39, .ref o40, .ref o42, .ref o44, .int v46, .ref o47])), (o42, .inl (cI, 49152, .inl f11219)), (o40, .inl (cZ, 49152, .inl f11211)), (o37, .inl (cI, 12, .inl fw38)), (o44, .inl (cI, 12, .inl fw45))]) H := hP
                have hD : va_D A ([(o1, .inr (12, [.int v2, .ref o3, .int v5, .ref o6, .int v8, .ref o9, .ref o11, .int v13, .ref o14, .int v16, .ref o17, .int v19, .int v20, .int v21, .ref o22, .ref o24, .ref o26, .ref o28, .ref o30, .int v32, .ref o33, .ref o35, .ref o37, .int v39, .ref o40, .ref o42, .ref o44, .int v46, .ref o47])), (o42, .inl (cI, 49152, .inl f11219)), (o40, .inl (cZ, 49152, .inl f11211)), (o37, .inl (cI, 12, .inl fw38)), (o44, .inl (cI, 12, .inl fw45))]) := hD
                refine lv_if_eq (tgt := 133) hx hb dX12_setLine_55 (by decide) (fun h11238 => ?_) (fun h11238 => ?_)
                ·
                  have j11239 : Iv 0 0 x11235 := r_eq h11238 ik_0
                  refine lv_aload_n hx hb dX12_setLine_133 rfl (lv_at hl 4 rfl) ?_
                  refine va_get (D := (dC, dI)) (ci := 12) (v := .ref o40) (C := RX12) (T := TX12) (N := 29) hx hb hts iw_X12_setLine_X12 hown hK hP 0 rfl rfl 24 (by decide) (hts (.fieldLink RX12 57 "HolelessHouseModel" "can" "[Z") hm_X12_setLine_3) (fun _ h9 => h9) rfl dX12_setLine_134 ?_
                  refine lv_iload hx hb dX12_setLine_137 (lv_at hl 0 rfl) ?_
                  refine lv_aload_n hx hb dX12_setLine_139 rfl (lv_at hl 4 rfl) ?_
                  refine va_get (D := (dC, dI)) (ci := 12) (v := .ref o42) (C := RX12) (T := TX12) (N := 29) hx hb hts iw_X12_setLine_X12 hown hK hP 0 rfl rfl 25 (by decide) (hts (.fieldLink RX12 61 "HolelessHouseModel" "counts" "[I") hm_X12_setLine_2) (fun _ h9 => h9) rfl dX12_setLine_140 ?_
                  refine lv_iload hx hb dX12_setLine_143 (lv_at hl 0 rfl) ?_
                  refine va_iald hx hb hK hP 1 0 rfl rfl (vin_iv x11218_h (by decide)) dX12_setLine_145 (lv_topi (fun x11240 x11240_e => ?_))
                  refine lv_if_le (tgt := 153) hx hb dX12_setLine_146 (by decide) (fun h11241 => ?_) (fun h11241 => ?_)
                  ·
                    have qh11241 := le_i h11241
                    have j11242 : Iv (-2147483648) 0 x11240 := r_lel qh11241 (iv_full x11240) ik_0 (by decide)
                    refine lv_iconst (v := 0) hx hb dX12_setLine_153 (by decide) ?_
                    refine k_zast hx hb hK hP hD hS 2 2 rfl rfl (vin_iv x11218_h (by decide)) dX12_setLine_154 (fun f11243 H locs f11243_e hP hD hS => ?_)
                    have hP : va_P (dC, dI) vwCl ([(o1, .inr (12, [.int v2, .ref o3, .int v5, .ref o6, .int v8, .ref o9, .ref o11, .int v13, .ref o14, .int v16, .ref o17, .int v19, .int v20, .int v21, .ref o22, .ref o24, .ref o26, .ref o28, .ref o30, .int v32, .ref o33, .ref o35, .ref o37, .int v39, .ref o40, .ref o42, .ref o44, .int v46, .ref o47])), (o42, .inl (cI, 49152, .inl f11219)), (o40, .inl (cZ, 49152, .inl f11243)), (o37, .inl (cI, 12, .inl fw38)), (o44, .inl (cI, 12, .inl fw45))]) H := hP
                    have hD : va_D A ([(o1, .inr (12, [.int v2, .ref o3, .int v5, .ref o6, .int v8, .ref o9, .ref o11, .int v13, .ref o14, .int v16, .ref o17, .int v19, .int v20, .int v21, .ref o22, .ref o24, .ref o26, .ref o28, .ref o30, .int v32, .ref o33, .ref o35, .ref o37, .int v39, .ref o40, .ref o42, .ref o44, .int v46, .ref o47])), (o42, .inl (cI, 49152, .inl f11219)), (o40, .inl (cZ, 49152, .inl f11243)), (o37, .inl (cI, 12, .inl fw38)), (o44, .inl (cI, 12, .inl fw45))]) := hD
                    obtain ⟨x11244, x11244_e⟩ : ∃ z : Int32, z = x11210 + 1 := ⟨_, rfl⟩
                    have x11244_h : Iv 1 12 x11244 := iv_e x11244_e (iv_add j11215 ik_1 (by decide))
                    refine lv_iinc (v := x11244) (lv' := [(3, .int x11244), (4, .int x11218), (2, .int x6566), (1, .int x2), (0, .ref o1)]) hx hb dX12_setLine_155 hl (k := 1) rfl (incN (by decide +kernel) x11244_e) (by decide) rfl (fun ls hl => ?_)
                    refine lv_goto (tgt := 17) hx hb dX12_setLine_158 (by decide) ?_
                    exact ih51 x11244 f11243 f11219 _ _ _ (ms_up x11244_e j11215 (by decide) hM51) (iv_w x11244_h (by decide)) (CA_upd iv51_0 (iv_w (c := 0) (d := 4095) j7420 (by decide)) (cl_b (iv_w (c := 0) (d := 12) j11216 (by decide)) (by decide)) (cl_lt j11215 (by decide)) (ix12 (iv_w (c := 0) (d := 4095) j7420 (by decide)) (iv_w (c := 0) (d := 12) j11215 (by decide)) x11217_e x11218_e) f11219_e) (CLl_s (CLl_upd iv51_1 (ix12 (iv_w (c := 0) (d := 4095) j7420 (by decide)) (iv_w (c := 0) (d := 12) j11215 (by decide)) x11217_e x11218_e) f11219_e) (iv_w (c := 0) (d := 4095) j11215 (by decide)) x11244_e (CE_n (iv_w (c := 0) (d := 4095) j7420 (by decide)) (ix12 (iv_w (c := 0) (d := 4095) j7420 (by decide)) (iv_w (c := 0) (d := 12) j11215 (by decide)) x11217_e x11218_e) f11219_e rfl (fun h8 => e11237 h11238 h8.2))) (KA_upd iv51_2 (iv_w (c := 0) (d := 4095) j7420 (by decide)) (cl_b (iv_w (c := 0) (d := 12) j11216 (by decide)) (by decide)) (cl_lt j11215 (by decide)) (ix12 (iv_w (c := 0) (d := 4095) j7420 (by decide)) (iv_w (c := 0) (d := 12) j11215 (by decide)) x11217_e x11218_e) f11243_e) (KL_s iv51_3 (iv_w (c := 0) (d := 4095) j11215 (by decide)) x11244_e (CE_n (iv_w (c := 0) (d := 4095) j7420 (by decide)) (ix12 (iv_w (c := 0) (d := 4095) j7420 (by decide)) (iv_w (c := 0) (d := 12) j11215 (by decide)) x11217_e x11218_e) f11219_e rfl (fun h8 => e11237 h11238 h8.2)) pre0 (ix12 (iv_w (c := 0) (d := 4095) j7420 (by decide)) (iv_w (c := 0) (d := 12) j11215 (by decide)) x11217_e x11218_e) x11240_e f11243_e (Or.inl ⟨rfl, qh11241⟩)) hP hD hS (lv_sub hl [0, 2, 3, 4] rfl)
                  ·
                    have qh11241 := nle_i h11241
                    have j11245 : Iv 1 2147483647 x11240 := r_ltr qh11241 ik_0 (iv_full x11240) (by decide)
                    refine lv_iconst (v := 1) hx hb dX12_setLine_149 (by decide) ?_
                    refine lv_goto (tgt := 154) hx hb dX12_setLine_150 (by decide) ?_
                    refine k_zast hx hb hK hP hD hS 2 2 rfl rfl (vin_iv x11218_h (by decide)) dX12_setLine_154 (fun f11246 H locs f11246_e hP hD hS => ?_)
                    have hP : va_P (dC, dI) vwCl ([(o1, .inr (12, [.int v2, .ref o3, .int v5, .ref o6, .int v8, .ref o9, .ref o11, .int v13, .ref o14, .int v16, .ref o17, .int v19, .int v20, .int v21, .ref o22, .ref o24, .ref o26, .ref o28, .ref o30, .int v32, .ref o33, .ref o35, .ref o37, .int v39, .ref o40, .ref o42, .ref o44, .int v46, .ref o47])), (o42, .inl (cI, 49152, .inl f11219)), (o40, .inl (cZ, 49152, .inl f11246)), (o37, .inl (cI, 12, .inl fw38)), (o44, .inl (cI, 12, .inl fw45))]) H := hP
                    have hD : va_D A ([(o1, .inr (12, [.int v2, .ref o3, .int v5, .ref o6, .int v8, .ref o9, .ref o11, .int v13, .ref o14, .int v16, .ref o17, .int v19, .int v20, .int v21, .ref o22, .ref o24, .ref o26, .ref o28, .ref o30, .int v32, .ref o33, .ref o35, .ref o37, .int v39, .ref o40, .ref o42, .ref o44, .int v46, .ref o47])), (o42, .inl (cI, 49152, .inl f11219)), (o40, .inl (cZ, 49152, .inl f11246)), (o37, .inl (cI, 12, .inl fw38)), (o44, .inl (cI, 12, .inl fw45))]) := hD
                    obtain ⟨x11247, x11247_e⟩ : ∃ z : Int32, z = x11210 + 1 := ⟨_, rfl⟩
                    have x11247_h : Iv 1 12 x11247 := iv_e x11247_e (iv_add j11215 ik_1 (by decide))
                    refine lv_iinc (v := x11247) (lv' := [(3, .int x11247), (4, .int x11218), (2, .int x6566), (1, .int x2), (0, .ref o1)]) hx hb dX12_setLine_155 hl (k := 1) rfl (incN (by decide +kernel) x11247_e) (by decide) rfl (fun ls hl => ?_)
                    refine lv_goto (tgt := 17) hx hb dX12_setLine_158 (by decide) ?_
                    exact ih51 x11247 f11246 f11219 _ _ _ (ms_up x11247_e j11215 (by decide) hM51) (iv_w x11247_h (by decide)) (CA_upd iv51_0 (iv_w (c := 0) (d := 4095) j7420 (by decide)) (cl_b (iv_w (c := 0) (d := 12) j11216 (by decide)) (by decide)) (cl_lt j11215 (by decide)) (ix12 (iv_w (c := 0) (d := 4095) j7420 (by decide)) (iv_w (c := 0) (d := 12) j11215 (by decide)) x11217_e x11218_e) f11219_e) (CLl_s (CLl_upd iv51_1 (ix12 (iv_w (c := 0) (d := 4095) j7420 (by decide)) (iv_w (c := 0) (d := 12) j11215 (by decide)) x11217_e x11218_e) f11219_e) (iv_w (c := 0) (d := 4095) j11215 (by decide)) x11247_e (CE_n (iv_w (c := 0) (d := 4095) j7420 (by decide)) (ix12 (iv_w (c := 0) (d := 4095) j7420 (by decide)) (iv_w (c := 0) (d := 12) j11215 (by decide)) x11217_e x11218_e) f11219_e rfl (fun h8 => e11237 h11238 h8.2))) (KA_upd iv51_2 (iv_w (c := 0) (d := 4095) j7420 (by decide)) (cl_b (iv_w (c := 0) (d := 12) j11216 (by decide)) (by decide)) (cl_lt j11215 (by decide)) (ix12 (iv_w (c := 0) (d := 4095) j7420 (by decide)) (iv_w (c := 0) (d := 12) j11215 (by decide)) x11217_e x11218_e) f11246_e) (KL_s iv51_3 (iv_w (c := 0) (d := 4095) j11215 (by decide)) x11247_e (CE_n (iv_w (c := 0) (d := 4095) j7420 (by decide)) (ix12 (iv_w (c := 0) (d := 4095) j7420 (by decide)) (iv_w (c := 0) (d := 12) j11215 (by decide)) x11217_e x11218_e) f11219_e rfl (fun h8 => e11237 h11238 h8.2)) pre0 (ix12 (iv_w (c := 0) (d := 4095) j7420 (by decide)) (iv_w (c := 0) (d := 12) j11215 (by decide)) x11217_e x11218_e) x11240_e f11246_e (Or.inr ⟨rfl, qh11241⟩)) hP hD hS (lv_sub hl [0, 2, 3, 4] rfl)
                ·
                  have j11248 : Iv 1 1 x11235 := r_nelo h11238 x11235_h ik_0 (by decide)
                  refine lv_aload_n hx hb dX12_setLine_58 rfl (lv_at hl 4 rfl) ?_
                  refine va_get (D := (dC, dI)) (ci := 12) (v := .ref o42) (C := RX12) (T := TX12) (N := 29) hx hb hts iw_X12_setLine_X12 hown hK hP 0 rfl rfl 25 (by decide) (hts (.fieldLink RX12 61 "HolelessHouseModel" "counts" "[I") hm_X12_setLine_2) (fun _ h9 => h9) rfl dX12_setLine_59 ?_
                  refine lv_iload hx hb dX12_setLine_62 (lv_at hl 0 rfl) ?_
                  refine lv_iload_n hx hb dX12_setLine_64 rfl (lv_at hl 2 rfl) ?_
                  refine lv_iload_n hx hb dX12_setLine_65 rfl (lv_at hl 3 rfl) ?_
                  refine lv_icmp_ne (tgt := 73) hx hb dX12_setLine_66 (by decide) (fun h11249 => ?_) (fun h11249 => ?_)
                  ·
                    refine lv_iconst (v := 0) hx hb dX12_setLine_73 (by decide) ?_
                    refine k_iast hx hb hK hP hD hS 1 0 rfl rfl (vin_iv x11218_h (by decide)) dX12_setLine_74 (fun f11250 H locs f11250_e hP hD hS => ?_)
                    have hP : va_P (dC, dI) vwCl ([(o1, .inr (12, [.int v2, .ref o3, .int v5, .ref o6, .int v8, .ref o9, .ref o11, .int v13, .ref o14, .int v16, .ref o17, .int v19, .int v20, .int v21, .ref o22, .ref o24, .ref o26, .ref o28, .ref o30, .int v32, .ref o33, .ref o35, .ref o37, .int v39, .ref o40, .ref o42, .ref o44, .int v46, .ref o47])), (o42, .inl (cI, 49152, .inl f11250)), (o40, .inl (cZ, 49152, .inl f11211)), (o37, .inl (cI, 12, .inl fw38)), (o44, .inl (cI, 12, .inl fw45))]) H := hP
                    have hD : va_D A ([(o1, .inr (12, [.int v2, .ref o3, .int v5, .ref o6, .int v8, .ref o9, .ref o11, .int v13, .ref o14, .int v16, .ref o17, .int v19, .int v20, .int v21, .ref o22, .ref o24, .ref o26, .ref o28, .ref o30, .int v32, .ref o33, .ref o35, .ref o37, .int v39, .ref o40, .ref o42, .ref o44, .int v46, .ref o47])), (o42, .inl (cI, 49152, .inl f11250)), (o40, .inl (cZ, 49152, .inl f11211)), (o37, .inl (cI, 12, .inl fw38)), (o44, .inl (cI, 12, .inl fw45))]) := hD
                    refine lv_iconst (v := 0) hx hb dX12_setLine_75 (by decide) ?_
                    refine lv_istore (lv' := [(5, .int 0), (4, .int x11218), (3, .int x11210), (2, .int x6566), (1, .int x2), (0, .ref o1)]) hx hb dX12_setLine_76 hl (by decide) rfl (fun ls hl => ?_)
                    have L52 : ∀ (N : Nat) (x11435 : Int32) (f11436 : Nat → Int32) (H : Heap) (locs : List Loc) (ls : Array Slot), (12 - x11435.toInt).toNat < N → Iv 0 12 x11435 → (CA fw38 f11436 (Int32.toNatClampNeg v39) (Int32.toInt x6566) (Int32.toNatClampNeg x2)) → (CL_ fw38 f11436 (Int32.toNatClampNeg v39) (Int32.toNatClampNeg x6566) (Int32.toNatClampNeg x11210)) → (CI_ fw38 f11436 (Int32.toNatClampNeg v39) (Int32.toNatClampNeg x11218) x6566 0 (Int32.toNatClampNeg x11435)) → (Int32.toInt x11435 ≤ Int32.toInt v39) → va_P (dC, dI) vwCl ([(o1, .inr (12, [.int v2, .ref o3, .int v5, .ref o6, .int v8, .ref o9, .ref o11, .int v13, .ref o14, .int v16, .ref o17, .int v19, .int v20, .int v21, .ref o22, .ref o24, .ref o26, .ref o28, .ref o30, .int v32, .ref o33, .ref o35, .ref o37, .int v39, .ref o40, .ref o42, .ref o44, .int v46, .ref o47])), (o42, .inl (cI, 49152, .inl f11436)), (o40, .inl (cZ, 49152, .inl f11211)), (o37, .inl (cI, 12, .inl fw38)), (o44, .inl (cI, 12, .inl fw45))]) H → va_D A ([(o1, .inr (12, [.int v2, .ref o3, .int v5, .ref o6, .int v8, .ref o9, .ref o11, .int v13, .ref o14, .int v16, .ref o17, .int v19, .int v20, .int v21, .ref o22, .ref o24, .ref o26, .ref o28, .ref o30, .int v32, .ref o33, .ref o35, .ref o37, .int v39, .ref o40, .ref o42, .ref o44, .int v46, .ref o47])), (o42, .inl (cI, 49152, .inl f11436)), (o40, .inl (cZ, 49152, .inl f11211)), (o37, .inl (cI, 12, .inl fw38)), (o44, .inl (cI, 12, .inl fw45))]) → va_S A s.heap H locs → lv_has ls 6 [(5, .int x11435), (4, .int x11218), (3, .int x11210), (2, .int x6566), (1, .int x2), (0, .ref o1)] → W p l e ({ frames := 2, cells := 0, slots := 0, locals := 46 }) s m ([.ref o1] : List Value).toArray below meth c H locs 0 0 Q (F0 m 78 ls []) := by
                      intro N
                      induction N with
                      | zero =>
                        intro x11435 f11436 H locs ls hM
                        exact absurd hM (Nat.not_lt_zero _)
                      | succ N ih52 =>
                        intro x11435 f11436 H locs ls hM52 x11435_h iv52_0 iv52_1 iv52_2 iv52_3 hP hD hS hl
                        refine lv_iload hx hb dX12_setLine_78 (lv_at hl 0 rfl) ?_
                        refine lv_aload_n hx hb dX12_setLine_80 rfl (lv_at hl 5 rfl) ?_
                        refine va_get (D := (dC, dI)) (ci := 12) (v := .int v39) (C := RX12) (T := TX12) (N := 29) hx hb hts iw_X12_setLine_X12 hown hK hP 0 rfl rfl 23 (by decide) (hts (.fieldLink RX12 191 "HolelessHouseModel" "thingMany" "I") hm_X12_setLine_1) (fun _ h9 => h9) rfl dX12_setLine_81 ?_
                        refine lv_icmp_ge (tgt := 133) hx hb dX12_setLine_84 (by decide) (fun h11437 => ?_) (fun h11437 => ?_)
                        ·
                          have qh11437 := le_i h11437
                          have j11438 : Iv 1 12 x11435 := r_ler qh11437 j11216 x11435_h (by decide)
                          refine lv_aload_n hx hb dX12_setLine_133 rfl (lv_at hl 5 rfl) ?_
                          refine va_get (D := (dC, dI)) (ci := 12) (v := .ref o40) (C := RX12) (T := TX12) (N := 29) hx hb hts iw_X12_setLine_X12 hown hK hP 0 rfl rfl 24 (by decide) (hts (.fieldLink RX12 57 "HolelessHouseModel" "can" "[Z") hm_X12_setLine_3) (fun _ h9 => h9) rfl dX12_setLine_134 ?_
                          refine lv_iload hx hb dX12_setLine_137 (lv_at hl 1 rfl) ?_
                          refine lv_aload_n hx hb dX12_setLine_139 rfl (lv_at hl 5 rfl) ?_
                          refine va_get (D := (dC, dI)) (ci := 12) (v := .ref o42) (C := RX12) (T := TX12) (N := 29) hx hb hts iw_X12_setLine_X12 hown hK hP 0 rfl rfl 25 (by decide) (hts (.fieldLink RX12 61 "HolelessHouseModel" "counts" "[I") hm_X12_setLine_2) (fun _ h9 => h9) rfl dX12_setLine_140 ?_
                          refine lv_iload hx hb dX12_setLine_143 (lv_at hl 1 rfl) ?_
                          refine va_iald hx hb hK hP 1 0 rfl rfl (vin_iv x11218_h (by decide)) dX12_setLine_145 (lv_topi (fun x11439 x11439_e => ?_))
                          refine lv_if_le (tgt := 153) hx hb dX12_setLine_146 (by decide) (fun h11440 => ?_) (fun h11440 => ?_)
                          ·
                            have qh11440 := le_i h11440
                            have j11441 : Iv (-2147483648) 0 x11439 := r_lel qh11440 (iv_full x11439) ik_0 (by decide)
                            refine lv_iconst (v := 0) hx hb dX12_setLine_153 (by decide) ?_
                            refine k_zast hx hb hK hP hD hS 2 2 rfl rfl (vin_iv x11218_h (by decide)) dX12_setLine_154 (fun f11442 H locs f11442_e hP hD hS => ?_)
                            have hP : va_P (dC, dI) vwCl ([(o1, .inr (12, [.int v2, .ref o3, .int v5, .ref o6, .int v8, .ref o9, .ref o11, .int v13, .ref o14, .int v16, .ref o17, .int v19, .int v20, .int v21, .ref o22, .ref o24, .ref o26, .ref o28, .ref o30, .int v32, .ref o33, .ref o35, .ref o37, .int v39, .ref o40, .ref o42, .ref o44, .int v46, .ref o47])), (o42, .inl (cI, 49152, .inl f11436)), (o40, .inl (cZ, 49152, .inl f11442)), (o37, .inl (cI, 12, .inl fw38)), (o44, .inl (cI, 12, .inl fw45))]) H := hP
                            have hD : va_D A ([(o1, .inr (12, [.int v2, .ref o3, .int v5, .ref o6, .int v8, .ref o9, .ref o11, .int v13, .ref o14, .int v16, .ref o17, .int v19, .int v20, .int v21, .ref o22, .ref o24, .ref o26, .ref o28, .ref o30, .int v32, .ref o33, .ref o35, .ref o37, .int v39, .ref o40, .ref o42, .ref o44, .int v46, .ref o47])), (o42, .inl (cI, 49152, .inl f11436)), (o40, .inl (cZ, 49152, .inl f11442)), (o37, .inl (cI, 12, .inl fw38)), (o44, .inl (cI, 12, .inl fw45))]) := hD
                            obtain ⟨x11443, x11443_e⟩ : ∃ z : Int32, z = x11210 + 1 := ⟨_, rfl⟩
                            have x11443_h : Iv 1 12 x11443 := iv_e x11443_e (iv_add j11215 ik_1 (by decide))
                            refine lv_iinc (v := x11443) (lv' := [(3, .int x11443), (5, .int x11435), (4, .int x11218), (2, .int x6566), (1, .int x2), (0, .ref o1)]) hx hb dX12_setLine_155 hl (k := 2) rfl (incN (by decide +kernel) x11443_e) (by decide) rfl (fun ls hl => ?_)
                            refine lv_goto (tgt := 17) hx hb dX12_setLine_158 (by decide) ?_
                            exact ih51 x11443 f11442 f11436 _ _ _ (ms_up x11443_e j11215 (by decide) hM51) (iv_w x11443_h (by decide)) iv52_0 (CLl_s iv52_1 (iv_w (c := 0) (d := 4095) j11215 (by decide)) x11443_e (CE_2 (w := 0) iv52_2 qh11437 iv52_3 (iv_w (c := 0) (d := 4095) j7420 (by decide)) (ix12 (iv_w (c := 0) (d := 4095) j7420 (by decide)) (iv_w (c := 0) (d := 12) j11215 (by decide)) x11217_e x11218_e) (all_r (iv_w (c := 0) (d := 12) j11216 (by decide)) x1_e x2_e) (by have a0 := ne_i h11249; have a1 := iv30_1; omega) b11234 (e11236 h11238))) (KA_upd iv51_2 (iv_w (c := 0) (d := 4095) j7420 (by decide)) (cl_b (iv_w (c := 0) (d := 12) j11216 (by decide)) (by decide)) (cl_lt j11215 (by decide)) (ix12 (iv_w (c := 0) (d := 4095) j7420 (by decide)) (iv_w (c := 0) (d := 12) j11215 (by decide)) x11217_e x11218_e) f11442_e) (KL_s iv51_3 (iv_w (c := 0) (d := 4095) j11215 (by decide)) x11443_e (CE_2 (w := 0) iv52_2 qh11437 iv52_3 (iv_w (c := 0) (d := 4095) j7420 (by decide)) (ix12 (iv_w (c := 0) (d := 4095) j7420 (by decide)) (iv_w (c := 0) (d := 12) j11215 (by decide)) x11217_e x11218_e) (all_r (iv_w (c := 0) (d := 12) j11216 (by decide)) x1_e x2_e) (by have a0 := ne_i h11249; have a1 := iv30_1; omega) b11234 (e11236 h11238)) pre0 (ix12 (iv_w (c := 0) (d := 4095) j7420 (by decide)) (iv_w (c := 0) (d := 12) j11215 (by decide)) x11217_e x11218_e) x11439_e f11442_e (Or.inl ⟨rfl, qh11440⟩)) hP hD hS (lv_sub hl [0, 3, 4, 5] rfl)
                          ·
                            have qh11440 := nle_i h11440
                            have j11444 : Iv 1 2147483647 x11439 := r_ltr qh11440 ik_0 (iv_full x11439) (by decide)
                            refine lv_iconst (v := 1) hx hb dX12_setLine_149 (by decide) ?_
                            refine lv_goto (tgt := 154) hx hb dX12_setLine_150 (by decide) ?_
                            refine k_zast hx hb hK hP hD hS 2 2 rfl rfl (vin_iv x11218_h (by decide)) dX12_setLine_154 (fun f11445 H locs f11445_e hP hD hS => ?_)
                            have hP : va_P (dC, dI) vwCl ([(o1, .inr (12, [.int v2, .ref o3, .int v5, .ref o6, .int v8, .ref o9, .ref o11, .int v13, .ref o14, .int v16, .ref o17, .int v19, .int v20, .int v21, .ref o22, .ref o24, .ref o26, .ref o28, .ref o30, .int v32, .ref o33, .ref o35, .ref o37, .int v39, .ref o40, .ref o42, .ref o44, .int v46, .ref o47])), (o42, .inl (cI, 49152, .inl f11436)), (o40, .inl (cZ, 49152, .inl f11445)), (o37, .inl (cI, 12, .inl fw38)), (o44, .inl (cI, 12, .inl fw45))]) H := hP
                            have hD : va_D A ([(o1, .inr (12, [.int v2, .ref o3, .int v5, .ref o6, .int v8, .ref o9, .ref o11, .int v13, .ref o14, .int v16, .ref o17, .int v19, .int v20, .int v21, .ref o22, .ref o24, .ref o26, .ref o28, .ref o30, .int v32, .ref o33, .ref o35, .ref o37, .int v39, .ref o40, .ref o42, .ref o44, .int v46, .ref o47])), (o42, .inl (cI, 49152, .inl f11436)), (o40, .inl (cZ, 49152, .inl f11445)), (o37, .inl (cI, 12, .inl fw38)), (o44, .inl (cI, 12, .inl fw45))]) := hD
                            obtain ⟨x11446, x11446_e⟩ : ∃ z : Int32, z = x11210 + 1 := ⟨_, rfl⟩
                            have x11446_h : Iv 1 12 x11446 := iv_e x11446_e (iv_add j11215 ik_1 (by decide))
                            refine lv_iinc (v := x11446) (lv' := [(3, .int x11446), (5, .int x11435), (4, .int x11218), (2, .int x6566), (1, .int x2), (0, .ref o1)]) hx hb dX12_setLine_155 hl (k := 2) rfl (incN (by decide +kernel) x11446_e) (by decide) rfl (fun ls hl => ?_)
                            refine lv_goto (tgt := 17) hx hb dX12_setLine_158 (by decide) ?_
                            exact ih51 x11446 f11445 f11436 _ _ _ (ms_up x11446_e j11215 (by decide) hM51) (iv_w x11446_h (by decide)) iv52_0 (CLl_s iv52_1 (iv_w (c := 0) (d := 4095) j11215 (by decide)) x11446_e (CE_2 (w := 0) iv52_2 qh11437 iv52_3 (iv_w (c := 0) (d := 4095) j7420 (by decide)) (ix12 (iv_w (c := 0) (d := 4095) j7420 (by decide)) (iv_w (c := 0) (d := 12) j11215 (by decide)) x11217_e x11218_e) (all_r (iv_w (c := 0) (d := 12) j11216 (by decide)) x1_e x2_e) (by have a0 := ne_i h11249; have a1 := iv30_1; omega) b11234 (e11236 h11238))) (KA_upd iv51_2 (iv_w (c := 0) (d := 4095) j7420 (by decide)) (cl_b (iv_w (c := 0) (d := 12) j11216 (by decide)) (by decide)) (cl_lt j11215 (by decide)) (ix12 (iv_w (c := 0) (d := 4095) j7420 (by decide)) (iv_w (c := 0) (d := 12) j11215 (by decide)) x11217_e x11218_e) f11445_e) (KL_s iv51_3 (iv_w (c := 0) (d := 4095) j11215 (by decide)) x11446_e (CE_2 (w := 0) iv52_2 qh11437 iv52_3 (iv_w (c := 0) (d := 4095) j7420 (by decide)) (ix12 (iv_w (c := 0) (d := 4095) j7420 (by decide)) (iv_w (c := 0) (d := 12) j11215 (by decide)) x11217_e x11218_e) (all_r (iv_w (c := 0) (d := 12) j11216 (by decide)) x1_e x2_e) (by have a0 := ne_i h11249; have a1 := iv30_1; omega) b11234 (e11236 h11238)) pre0 (ix12 (iv_w (c := 0) (d := 4095) j7420 (by decide)) (iv_w (c := 0) (d := 12) j11215 (by decide)) x11217_e x11218_e) x11439_e f11445_e (Or.inr ⟨rfl, qh11440⟩)) hP hD hS (lv_sub hl [0, 3, 4, 5] rfl)
                        ·
                          have qh11437 := nle_i h11437
                          have j11447 : Iv 0 11 x11435 := r_ltl qh11437 x11435_h j11216 (by decide)
                          refine lv_aload_n hx hb dX12_setLine_87 rfl (lv_at hl 5 rfl) ?_
                          refine va_get (D := (dC, dI)) (ci := 12) (v := .ref o42) (C := RX12) (T := TX12) (N := 29) hx hb hts iw_X12_setLine_X12 hown hK hP 0 rfl rfl 25 (by decide) (hts (.fieldLink RX12 61 "HolelessHouseModel" "counts" "[I") hm_X12_setLine_2) (fun _ h9 => h9) rfl dX12_setLine_88 ?_
                          refine lv_iload hx hb dX12_setLine_91 (lv_at hl 1 rfl) ?_
                          refine lv_dup2_11 hx hb dX12_setLine_93 rfl rfl ?_
                          refine va_iald hx hb hK hP 1 0 rfl rfl (vin_iv x11218_h (by decide)) dX12_setLine_94 (lv_topi (fun x11448 x11448_e => ?_))
                          refine lv_iload_n hx hb dX12_setLine_95 rfl (lv_at hl 3 rfl) ?_
                          refine lv_iload hx hb dX12_setLine_96 (lv_at hl 0 rfl) ?_
                          refine kc_i (D := (dC, dI)) (S := Unit) (wc := []) (wr := [(o1, .inr (12, [.int v2, .ref o3, .int v5, .ref o6, .int v8, .ref o9, .ref o11, .int v13, .ref o14, .int v16, .ref o17, .int v19, .int v20, .int v21, .ref o22, .ref o24, .ref o26, .ref o28, .ref o30, .int v32, .ref o33, .ref o35, .ref o37, .int v39, .ref o40, .ref o42, .ref o44, .int v46, .ref o47])), (o42, .inl (cI, 49152, .inl f11436)), (o40, .inl (cZ, 49152, .inl f11211)), (o37, .inl (cI, 12, .inl fw38)), (o44, .inl (cI, 12, .inl fw45))]) (w1 := fun _ => []) (wn := fun _ => [(o1, .inr (12, [.int v2, .ref o3, .int v5, .ref o6, .int v8, .ref o9, .ref o11, .int v13, .ref o14, .int v16, .ref o17, .int v19, .int v20, .int v21, .ref o22, .ref o24, .ref o26, .ref o28, .ref o30, .int v32, .ref o33, .ref o35, .ref o37, .int v39, .ref o40, .ref o42, .ref o44, .int v46, .ref o47])), (o42, .inl (cI, 49152, .inl f11436)), (o40, .inl (cZ, 49152, .inl f11211)), (o37, .inl (cI, 12, .inl fw38)), (o44, .inl (cI, 12, .inl fw45))]) (fun hPc hDc => va_runS (As := [.int x6566, .int x11435]) (rest := [.int x11448, .int x11218, .ref o42]) ⟨hx, hb, hml, hown, hts⟩ (kX12_has_1 l dC dI cI c2 cZ x6566 x11435 H.size (iv_w j11447 (by decide))) (va_cwS 2 hts gX12_setLine_X12_has rfl rfl rfl (by decide +kernel) ⟨Nat.le_of_ble_eq_true rfl, Nat.le_of_ble_eq_true rfl⟩) (pre_S hPc hK hDc hN) rfl rfl hl.1 rfl (lv_room (Nat.le_of_ble_eq_true rfl)) dX12_setLine_98 ⟨Nat.le_of_ble_eq_true rfl, Nat.le_of_ble_eq_true rfl⟩) hP hD hS hA [] [0, 1, 2, 3, 4] [0, 1, 2, 3, 4] rfl rfl (by decide +kernel) (by decide +kernel) (by decide +kernel) (by decide +kernel) (fun _ => rfl) (fun x11449 _ H locs hq hP hD hS => ?_)
                          obtain ⟨x11449_h, e11450⟩ := hq
                          have hP : va_P (dC, dI) vwCl ([(o1, .inr (12, [.int v2, .ref o3, .int v5, .ref o6, .int v8, .ref o9, .ref o11, .int v13, .ref o14, .int v16, .ref o17, .int v19, .int v20, .int v21, .ref o22, .ref o24, .ref o26, .ref o28, .ref o30, .int v32, .ref o33, .ref o35, .ref o37, .int v39, .ref o40, .ref o42, .ref o44, .int v46, .ref o47])), (o42, .inl (cI, 49152, .inl f11436)), (o40, .inl (cZ, 49152, .inl f11211)), (o37, .inl (cI, 12, .inl fw38)), (o44, .inl (cI, 12, .inl fw45))]) H := hP
                          have hD : va_D A ([(o1, .inr (12, [.int v2, .ref o3, .int v5, .ref o6, .int v8, .ref o9, .ref o11, .int v13, .ref o14, .int v16, .ref o17, .int v19, .int v20, .int v21, .ref o22, .ref o24, .ref o26, .ref o28, .ref o30, .int v32, .ref o33, .ref o35, .ref o37, .int v39, .ref o40, .ref o42, .ref o44, .int v46, .ref o47])), (o42, .inl (cI, 49152, .inl f11436)), (o40, .inl (cZ, 49152, .inl f11211)), (o37, .inl (cI, 12, .inl fw38)), (o44, .inl (cI, 12, .inl fw45))]) := hD
                          refine lv_if_eq (tgt := 108) hx hb dX12_setLine_101 (by decide) (fun h11451 => ?_) (fun h11451 => ?_)
                          ·
                            have j11452 : Iv 0 0 x11449 := r_eq h11451 ik_0
                            have b11453 : bt x6566 (Int32.toNatClampNeg x11435) = false := has_f e11450 h11451
                            refine lv_aload_n hx hb dX12_setLine_108 rfl (lv_at hl 5 rfl) ?_
                            refine va_get (D := (dC, dI)) (ci := 12) (v := .ref o42) (C := RX12) (T := TX12) (N := 29) hx hb hts iw_X12_setLine_X12 hown hK hP 0 rfl rfl 25 (by decide) (hts (.fieldLink RX12 61 "HolelessHouseModel" "counts" "[I") hm_X12_setLine_2) (fun _ h9 => h9) rfl dX12_setLine_109 ?_
                            refine lv_bipush (v := 12) hx hb dX12_setLine_112 (by decide) ?_
                            refine lv_iload_n hx hb dX12_setLine_114 rfl (lv_at hl 3 rfl) ?_
                            refine lv_iconst (v := 1) hx hb dX12_setLine_115 (by decide) ?_
                            refine lv_iload hx hb dX12_setLine_116 (lv_at hl 0 rfl) ?_
                            refine lv_ishl hx hb dX12_setLine_118 (lv_topi (fun x11454 x11454_e => ?_))
                            have x11454_h : Iv 1 2048 x11454 := iv_e x11454_e (iv_shl1 j11447 (by decide))
                            refine lv_ior hx hb dX12_setLine_119 (lv_topi (fun x11455 x11455_e => ?_))
                            have x11455_h : Iv 0 4095 x11455 := iv_e x11455_e (iv_or 12 j7420 x11454_h (by decide))
                            refine lv_imul hx hb dX12_setLine_120 (lv_topi (fun x11456 x11456_e => ?_))
                            have x11456_h : Iv 0 49140 x11456 := iv_e x11456_e (iv_mul ik_12 x11455_h (by decide))
                            refine lv_iload hx hb dX12_setLine_121 (lv_at hl 0 rfl) ?_
                            refine lv_iadd hx hb dX12_setLine_123 (lv_topi (fun x11457 x11457_e => ?_))
                            have x11457_h : Iv 0 49151 x11457 := iv_e x11457_e (iv_add x11456_h j11447 (by decide))
                            refine va_iald hx hb hK hP 1 0 rfl rfl (vin_iv x11457_h (by decide)) dX12_setLine_124 (lv_topi (fun x11458 x11458_e => ?_))
                            refine lv_iadd hx hb dX12_setLine_125 (lv_topi (fun x11459 x11459_e => ?_))
                            refine k_iast hx hb hK hP hD hS 1 0 rfl rfl (vin_iv x11218_h (by decide)) dX12_setLine_126 (fun f11460 H locs f11460_e hP hD hS => ?_)
                            have hP : va_P (dC, dI) vwCl ([(o1, .inr (12, [.int v2, .ref o3, .int v5, .ref o6, .int v8, .ref o9, .ref o11, .int v13, .ref o14, .int v16, .ref o17, .int v19, .int v20, .int v21, .ref o22, .ref o24, .ref o26, .ref o28, .ref o30, .int v32, .ref o33, .ref o35, .ref o37, .int v39, .ref o40, .ref o42, .ref o44, .int v46, .ref o47])), (o42, .inl (cI, 49152, .inl f11460)), (o40, .inl (cZ, 49152, .inl f11211)), (o37, .inl (cI, 12, .inl fw38)), (o44, .inl (cI, 12, .inl fw45))]) H := hP
                            have hD : va_D A ([(o1, .inr (12, [.int v2, .ref o3, .int v5, .ref o6, .int v8, .ref o9, .ref o11, .int v13, .ref o14, .int v16, .ref o17, .int v19, .int v20, .int v21, .ref o22, .ref o24, .ref o26, .ref o28, .ref o30, .int v32, .ref o33, .ref o35, .ref o37, .int v39, .ref o40, .ref o42, .ref o44, .int v46, .ref o47])), (o42, .inl (cI, 49152, .inl f11460)), (o40, .inl (cZ, 49152, .inl f11211)), (o37, .inl (cI, 12, .inl fw38)), (o44, .inl (cI, 12, .inl fw45))]) := hD
                            obtain ⟨x11461, x11461_e⟩ : ∃ z : Int32, z = x11435 + 1 := ⟨_, rfl⟩
                            have x11461_h : Iv 1 12 x11461 := iv_e x11461_e (iv_add j11447 ik_1 (by decide))
                            refine lv_iinc (v := x11461) (lv' := [(5, .int x11461), (4, .int x11218), (3, .int x11210), (2, .int x6566), (1, .int x2), (0, .ref o1)]) hx hb dX12_setLine_127 hl (k := 0) rfl (incN (by decide +kernel) x11461_e) (by decide) rfl (fun ls hl => ?_)
                            refine lv_goto (tgt := 78) hx hb dX12_setLine_130 (by decide) ?_
                            exact ih52 x11461 f11460 _ _ _ (ms_up x11461_e j11447 (by decide) hM52) (iv_w x11461_h (by decide)) (CA_upd iv52_0 (iv_w (c := 0) (d := 4095) j7420 (by decide)) (cl_b (iv_w (c := 0) (d := 12) j11216 (by decide)) (by decide)) (cl_lt j11215 (by decide)) (ix12 (iv_w (c := 0) (d := 4095) j7420 (by decide)) (iv_w (c := 0) (d := 12) j11215 (by decide)) x11217_e x11218_e) f11460_e) (CLl_upd iv52_1 (ix12 (iv_w (c := 0) (d := 4095) j7420 (by decide)) (iv_w (c := 0) (d := 12) j11215 (by decide)) x11217_e x11218_e) f11460_e) (CI_f iv52_2 iv52_0 (iv_w (c := 0) (d := 4095) j7420 (by decide)) j11447 (cl_in qh11437 j11447) x11461_e b11453 x11454_e x11455_e x11455_h (cl_le (bel_whole (all_r (iv_w (c := 0) (d := 12) j11216 (by decide)) x1_e x2_e) (bel_set (bel_le (all_r (iv_w (c := 0) (d := 12) j11216 (by decide)) x1_e x2_e) (iv_w (c := 0) (d := 4095) j7420 (by decide)) iv30_1) j11447 (by decide) (cl_in qh11437 j11447) x11454_e x11455_e) x11455_h) x11455_h) x11456_e x11457_e x11458_e x11448_e x11459_e f11460_e) (kn_s (iv_w (c := 0) (d := 4095) j11447 (by decide)) x11461_e qh11437) hP hD hS hl
                          ·
                            have j11462 : Iv 1 1 x11449 := r_nelo h11451 x11449_h ik_0 (by decide)
                            have b11463 : bt x6566 (Int32.toNatClampNeg x11435) = true := has_t e11450 h11451
                            refine lv_iconst (v := 0) hx hb dX12_setLine_104 (by decide) ?_
                            refine lv_goto (tgt := 125) hx hb dX12_setLine_105 (by decide) ?_
                            refine lv_iadd hx hb dX12_setLine_125 (lv_topi (fun x11464 x11464_e => ?_))
                            refine k_iast hx hb hK hP hD hS 1 0 rfl rfl (vin_iv x11218_h (by decide)) dX12_setLine_126 (fun f11465 H locs f11465_e hP hD hS => ?_)
                            have hP : va_P (dC, dI) vwCl ([(o1, .inr (12, [.int v2, .ref o3, .int v5, .ref o6, .int v8, .ref o9, .ref o11, .int v13, .ref o14, .int v16, .ref o17, .int v19, .int v20, .int v21, .ref o22, .ref o24, .ref o26, .ref o28, .ref o30, .int v32, .ref o33, .ref o35, .ref o37, .int v39, .ref o40, .ref o42, .ref o44, .int v46, .ref o47])), (o42, .inl (cI, 49152, .inl f11465)), (o40, .inl (cZ, 49152, .inl f11211)), (o37, .inl (cI, 12, .inl fw38)), (o44, .inl (cI, 12, .inl fw45))]) H := hP
                            have hD : va_D A ([(o1, .inr (12, [.int v2, .ref o3, .int v5, .ref o6, .int v8, .ref o9, .ref o11, .int v13, .ref o14, .int v16, .ref o17, .int v19, .int v20, .int v21, .ref o22, .ref o24, .ref o26, .ref o28, .ref o30, .int v32, .ref o33, .ref o35, .ref o37, .int v39, .ref o40, .ref o42, .ref o44, .int v46, .ref o47])), (o42, .inl (cI, 49152, .inl f11465)), (o40, .inl (cZ, 49152, .inl f11211)), (o37, .inl (cI, 12, .inl fw38)), (o44, .inl (cI, 12, .inl fw45))]) := hD
                            obtain ⟨x11466, x11466_e⟩ : ∃ z : Int32, z = x11435 + 1 := ⟨_, rfl⟩
                            have x11466_h : Iv 1 12 x11466 := iv_e x11466_e (iv_add j11447 ik_1 (by decide))
                            refine lv_iinc (v := x11466) (lv' := [(5, .int x11466), (4, .int x11218), (3, .int x11210), (2, .int x6566), (1, .int x2), (0, .ref o1)]) hx hb dX12_setLine_127 hl (k := 0) rfl (incN (by decide +kernel) x11466_e) (by decide) rfl (fun ls hl => ?_)
                            refine lv_goto (tgt := 78) hx hb dX12_setLine_130 (by decide) ?_
                            exact ih52 x11466 f11465 _ _ _ (ms_up x11466_e j11447 (by decide) hM52) (iv_w x11466_h (by decide)) (CA_upd iv52_0 (iv_w (c := 0) (d := 4095) j7420 (by decide)) (cl_b (iv_w (c := 0) (d := 12) j11216 (by decide)) (by decide)) (cl_lt j11215 (by decide)) (ix12 (iv_w (c := 0) (d := 4095) j7420 (by decide)) (iv_w (c := 0) (d := 12) j11215 (by decide)) x11217_e x11218_e) f11465_e) (CLl_upd iv52_1 (ix12 (iv_w (c := 0) (d := 4095) j7420 (by decide)) (iv_w (c := 0) (d := 12) j11215 (by decide)) x11217_e x11218_e) f11465_e) (CI_t (v := 0) iv52_2 (iv_w (c := 0) (d := 4095) j11447 (by decide)) x11466_e b11463 x11448_e x11464_e f11465_e) (kn_s (iv_w (c := 0) (d := 4095) j11447 (by decide)) x11466_e qh11437) hP hD hS hl
                    exact L52 _ 0 f11250 _ _ _ (Nat.lt_succ_self _) (iv_w ik_0 (by decide)) (CA_upd (CA_upd iv51_0 (iv_w (c := 0) (d := 4095) j7420 (by decide)) (cl_b (iv_w (c := 0) (d := 12) j11216 (by decide)) (by decide)) (cl_lt j11215 (by decide)) (ix12 (iv_w (c := 0) (d := 4095) j7420 (by decide)) (iv_w (c := 0) (d := 12) j11215 (by decide)) x11217_e x11218_e) f11219_e) (iv_w (c := 0) (d := 4095) j7420 (by decide)) (cl_b (iv_w (c := 0) (d := 12) j11216 (by decide)) (by decide)) (cl_lt j11215 (by decide)) (ix12 (iv_w (c := 0) (d := 4095) j7420 (by decide)) (iv_w (c := 0) (d := 12) j11215 (by decide)) x11217_e x11218_e) f11250_e) (CLl_upd (CLl_upd iv51_1 (ix12 (iv_w (c := 0) (d := 4095) j7420 (by decide)) (iv_w (c := 0) (d := 12) j11215 (by decide)) x11217_e x11218_e) f11219_e) (ix12 (iv_w (c := 0) (d := 4095) j7420 (by decide)) (iv_w (c := 0) (d := 12) j11215 (by decide)) x11217_e x11218_e) f11250_e) (CI_0 f11250_e (by decide +kernel)) (kn_0 (iv_w (c := 0) (d := 4095) j11216 (by decide))) hP hD hS hl
                  ·
                    have j11467 : Iv 1 4095 x2 := r_eq h11249.symm j7420
                    have j11468 : Iv 2 4096 x1 := ivb_sub x2_e x1_h ik_1 j11467 (by decide)
                    refine lv_iconst (v := 1) hx hb dX12_setLine_69 (by decide) ?_
                    refine lv_goto (tgt := 74) hx hb dX12_setLine_70 (by decide) ?_
                    refine k_iast hx hb hK hP hD hS 1 0 rfl rfl (vin_iv x11218_h (by decide)) dX12_setLine_74 (fun f11469 H locs f11469_e hP hD hS => ?_)
                    have hP : va_P (dC, dI) vwCl ([(o1, .inr (12, [.int v2, .ref o3, .int v5, .ref o6, .int v8, .ref o9, .ref o11, .int v13, .ref o14, .int v16, .ref o17, .int v19, .int v20, .int v21, .ref o22, .ref o24, .ref o26, .ref o28, .ref o30, .int v32, .ref o33, .ref o35, .ref o37, .int v39, .ref o40, .ref o42, .ref o44, .int v46, .ref o47])), (o42, .inl (cI, 49152, .inl f11469)), (o40, .inl (cZ, 49152, .inl f11211)), (o37, .inl (cI, 12, .inl fw38)), (o44, .inl (cI, 12, .inl fw45))]) H := hP
                    have hD : va_D A ([(o1, .inr (12, [.int v2, .ref o3, .int v5, .ref o6, .int v8, .ref o9, .ref o11, .int v13, .ref o14, .int v16, .ref o17, .int v19, .int v20, .int v21, .ref o22, .ref o24, .ref o26, .ref o28, .ref o30, .int v32, .ref o33, .ref o35, .ref o37, .int v39, .ref o40, .ref o42, .ref o44, .int v46, .ref o47])), (o42, .inl (cI, 49152, .inl f11469)), (o40, .inl (cZ, 49152, .inl f11211)), (o37, .inl (cI, 12, .inl fw38)), (o44, .inl (cI, 12, .inl fw45))]) := hD
                    refine lv_iconst (v := 0) hx hb dX12_setLine_75 (by decide) ?_
                    refine lv_istore (lv' := [(5, .int 0), (4, .int x11218), (3, .int x11210), (2, .int x6566), (1, .int x2), (0, .ref o1)]) hx hb dX12_setLine_76 hl (by decide) rfl (fun ls hl => ?_)
                    have L53 : ∀ (N : Nat) (x11654 : Int32) (f11655 : Nat → Int32) (H : Heap) (locs : List Loc) (ls : Array Slot), (12 - x11654.toInt).toNat < N → Iv 0 12 x11654 → (CA fw38 f11655 (Int32.toNatClampNeg v39) (Int32.toInt x6566) (Int32.toNatClampNeg x2)) → (CL_ fw38 f11655 (Int32.toNatClampNeg v39) (Int32.toNatClampNeg x6566) (Int32.toNatClampNeg x11210)) → (CI_ fw38 f11655 (Int32.toNatClampNeg v39) (Int32.toNatClampNeg x11218) x6566 1 (Int32.toNatClampNeg x11654)) → (Int32.toInt x11654 ≤ Int32.toInt v39) → va_P (dC, dI) vwCl ([(o1, .inr (12, [.int v2, .ref o3, .int v5, .ref o6, .int v8, .ref o9, .ref o11, .int v13, .ref o14, .int v16, .ref o17, .int v19, .int v20, .int v21, .ref o22, .ref o24, .ref o26, .ref o28, .ref o30, .int v32, .ref o33, .ref o35, .ref o37, .int v39, .ref o40, .ref o42, .ref o44, .int v46, .ref o47])), (o42, .inl (cI, 49152, .inl f11655)), (o40, .inl (cZ, 49152, .inl f11211)), (o37, .inl (cI, 12, .inl fw38)), (o44, .inl (cI, 12, .inl fw45))]) H → va_D A ([(o1, .inr (12, [.int v2, .ref o3, .int v5, .ref o6, .int v8, .ref o9, .ref o11, .int v13, .ref o14, .int v16, .ref o17, .int v19, .int v20, .int v21, .ref o22, .ref o24, .ref o26, .ref o28, .ref o30, .int v32, .ref o33, .ref o35, .ref o37, .int v39, .ref o40, .ref o42, .ref o44, .int v46, .ref o47])), (o42, .inl (cI, 49152, .inl f11655)), (o40, .inl (cZ, 49152, .inl f11211)), (o37, .inl (cI, 12, .inl fw38)), (o44, .inl (cI, 12, .inl fw45))]) → va_S A s.heap H locs → lv_has ls 6 [(5, .int x11654), (4, .int x11218), (3, .int x11210), (2, .int x6566), (1, .int x2), (0, .ref o1)] → W p l e ({ frames := 2, cells := 0, slots := 0, locals := 46 }) s m ([.ref o1] : List Value).toArray below meth c H locs 0 0 Q (F0 m 78 ls []) := by
                      intro N
                      induction N with
                      | zero =>
                        intro x11654 f11655 H locs ls hM
                        exact absurd hM (Nat.not_lt_zero _)
                      | succ N ih53 =>
                        intro x11654 f11655 H locs ls hM53 x11654_h iv53_0 iv53_1 iv53_2 iv53_3 hP hD hS hl
                        refine lv_iload hx hb dX12_setLine_78 (lv_at hl 0 rfl) ?_
                        refine lv_aload_n hx hb dX12_setLine_80 rfl (lv_at hl 5 rfl) ?_
                        refine va_get (D := (dC, dI)) (ci := 12) (v := .int v39) (C := RX12) (T := TX12) (N := 29) hx hb hts iw_X12_setLine_X12 hown hK hP 0 rfl rfl 23 (by decide) (hts (.fieldLink RX12 191 "HolelessHouseModel" "thingMany" "I") hm_X12_setLine_1) (fun _ h9 => h9) rfl dX12_setLine_81 ?_
                        refine lv_icmp_ge (tgt := 133) hx hb dX12_setLine_84 (by decide) (fun h11656 => ?_) (fun h11656 => ?_)
                        ·
                          have qh11656 := le_i h11656
                          have j11657 : Iv 1 12 x11654 := r_ler qh11656 j11216 x11654_h (by decide)
                          refine lv_aload_n hx hb dX12_setLine_133 rfl (lv_at hl 5 rfl) ?_
                          refine va_get (D := (dC, dI)) (ci := 12) (v := .ref o40) (C := RX12) (T := TX12) (N := 29) hx hb hts iw_X12_setLine_X12 hown hK hP 0 rfl rfl 24 (by decide) (hts (.fieldLink RX12 57 "HolelessHouseModel" "can" "[Z") hm_X12_setLine_3) (fun _ h9 => h9) rfl dX12_setLine_134 ?_
                          refine lv_iload hx hb dX12_setLine_137 (lv_at hl 1 rfl) ?_
                          refine lv_aload_n hx hb dX12_setLine_139 rfl (lv_at hl 5 rfl) ?_
                          refine va_get (D := (dC, dI)) (ci := 12) (v := .ref o42) (C := RX12) (T := TX12) (N := 29) hx hb hts iw_X12_setLine_X12 hown hK hP 0 rfl rfl 25 (by decide) (hts (.fieldLink RX12 61 "HolelessHouseModel" "counts" "[I") hm_X12_setLine_2) (fun _ h9 => h9) rfl dX12_setLine_140 ?_
                          refine lv_iload hx hb dX12_setLine_143 (lv_at hl 1 rfl) ?_
                          refine va_iald hx hb hK hP 1 0 rfl rfl (vin_iv x11218_h (by decide)) dX12_setLine_145 (lv_topi (fun x11658 x11658_e => ?_))
                          refine lv_if_le (tgt := 153) hx hb dX12_setLine_146 (by decide) (fun h11659 => ?_) (fun h11659 => ?_)
                          ·
                            have qh11659 := le_i h11659
                            have j11660 : Iv (-2147483648) 0 x11658 := r_lel qh11659 (iv_full x11658) ik_0 (by decide)
                            refine lv_iconst (v := 0) hx hb dX12_setLine_153 (by decide) ?_
                            refine k_zast hx hb hK hP hD hS 2 2 rfl rfl (vin_iv x11218_h (by decide)) dX12_setLine_154 (fun f11661 H locs f11661_e hP hD hS => ?_)
                            have hP : va_P (dC, dI) vwCl ([(o1, .inr (12, [.int v2, .ref o3, .int v5, .ref o6, .int v8, .ref o9, .ref o11, .int v13, .ref o14, .int v16, .ref o17, .int v19, .int v20, .int v21, .ref o22, .ref o24, .ref o26, .ref o28, .ref o30, .int v32, .ref o33, .ref o35, .ref o37, .int v39, .ref o40, .ref o42, .ref o44, .int v46, .ref o47])), (o42, .inl (cI, 49152, .inl f11655)), (o40, .inl (cZ, 49152, .inl f11661)), (o37, .inl (cI, 12, .inl fw38)), (o44, .inl (cI, 12, .inl fw45))]) H := hP
                            have hD : va_D A ([(o1, .inr (12, [.int v2, .ref o3, .int v5, .ref o6, .int v8, .ref o9, .ref o11, .int v13, .ref o14, .int v16, .ref o17, .int v19, .int v20, .int v21, .ref o22, .ref o24, .ref o26, .ref o28, .ref o30, .int v32, .ref o33, .ref o35, .ref o37, .int v39, .ref o40, .ref o42, .ref o44, .int v46, .ref o47])), (o42, .inl (cI, 49152, .inl f11655)), (o40, .inl (cZ, 49152, .inl f11661)), (o37, .inl (cI, 12, .inl fw38)), (o44, .inl (cI, 12, .inl fw45))]) := hD
                            obtain ⟨x11662, x11662_e⟩ : ∃ z : Int32, z = x11210 + 1 := ⟨_, rfl⟩
                            have x11662_h : Iv 1 12 x11662 := iv_e x11662_e (iv_add j11215 ik_1 (by decide))
                            refine lv_iinc (v := x11662) (lv' := [(3, .int x11662), (5, .int x11654), (4, .int x11218), (2, .int x6566), (1, .int x2), (0, .ref o1)]) hx hb dX12_setLine_155 hl (k := 2) rfl (incN (by decide +kernel) x11662_e) (by decide) rfl (fun ls hl => ?_)
                            refine lv_goto (tgt := 17) hx hb dX12_setLine_158 (by decide) ?_
                            exact ih51 x11662 f11661 f11655 _ _ _ (ms_up x11662_e j11215 (by decide) hM51) (iv_w x11662_h (by decide)) iv53_0 (CLl_s iv53_1 (iv_w (c := 0) (d := 4095) j11215 (by decide)) x11662_e (CE_1 (w := 0) iv53_2 qh11656 iv53_3 (iv_w (c := 0) (d := 4095) j7420 (by decide)) (ix12 (iv_w (c := 0) (d := 4095) j7420 (by decide)) (iv_w (c := 0) (d := 12) j11215 (by decide)) x11217_e x11218_e) (all_r (iv_w (c := 0) (d := 12) j11216 (by decide)) x1_e x2_e) h11249 b11234 (e11236 h11238))) (KA_upd iv51_2 (iv_w (c := 0) (d := 4095) j7420 (by decide)) (cl_b (iv_w (c := 0) (d := 12) j11216 (by decide)) (by decide)) (cl_lt j11215 (by decide)) (ix12 (iv_w (c := 0) (d := 4095) j7420 (by decide)) (iv_w (c := 0) (d := 12) j11215 (by decide)) x11217_e x11218_e) f11661_e) (KL_s iv51_3 (iv_w (c := 0) (d := 4095) j11215 (by decide)) x11662_e (CE_1 (w := 0) iv53_2 qh11656 iv53_3 (iv_w (c := 0) (d := 4095) j7420 (by decide)) (ix12 (iv_w (c := 0) (d := 4095) j7420 (by decide)) (iv_w (c := 0) (d := 12) j11215 (by decide)) x11217_e x11218_e) (all_r (iv_w (c := 0) (d := 12) j11216 (by decide)) x1_e x2_e) h11249 b11234 (e11236 h11238)) pre0 (ix12 (iv_w (c := 0) (d := 4095) j7420 (by decide)) (iv_w (c := 0) (d := 12) j11215 (by decide)) x11217_e x11218_e) x11658_e f11661_e (Or.inl ⟨rfl, qh11659⟩)) hP hD hS (lv_sub hl [0, 3, 4, 5] rfl)
                          ·
                            have qh11659 := nle_i h11659
                            have j11663 : Iv 1 2147483647 x11658 := r_ltr qh11659 ik_0 (iv_full x11658) (by decide)
                            refine lv_iconst (v := 1) hx hb dX12_setLine_149 (by decide) ?_
                            refine lv_goto (tgt := 154) hx hb dX12_setLine_150 (by decide) ?_
                            refine k_zast hx hb hK hP hD hS 2 2 rfl rfl (vin_iv x11218_h (by decide)) dX12_setLine_154 (fun f11664 H locs f11664_e hP hD hS => ?_)
                            have hP : va_P (dC, dI) vwCl ([(o1, .inr (12, [.int v2, .ref o3, .int v5, .ref o6, .int v8, .ref o9, .ref o11, .int v13, .ref o14, .int v16, .ref o17, .int v19, .int v20, .int v21, .ref o22, .ref o24, .ref o26, .ref o28, .ref o30, .int v32, .ref o33, .ref o35, .ref o37, .int v39, .ref o40, .ref o42, .ref o44, .int v46, .ref o47])), (o42, .inl (cI, 49152, .inl f11655)), (o40, .inl (cZ, 49152, .inl f11664)), (o37, .inl (cI, 12, .inl fw38)), (o44, .inl (cI, 12, .inl fw45))]) H := hP
                            have hD : va_D A ([(o1, .inr (12, [.int v2, .ref o3, .int v5, .ref o6, .int v8, .ref o9, .ref o11, .int v13, .ref o14, .int v16, .ref o17, .int v19, .int v20, .int v21, .ref o22, .ref o24, .ref o26, .ref o28, .ref o30, .int v32, .ref o33, .ref o35, .ref o37, .int v39, .ref o40, .ref o42, .ref o44, .int v46, .ref o47])), (o42, .inl (cI, 49152, .inl f11655)), (o40, .inl (cZ, 49152, .inl f11664)), (o37, .inl (cI, 12, .inl fw38)), (o44, .inl (cI, 12, .inl fw45))]) := hD
                            obtain ⟨x11665, x11665_e⟩ : ∃ z : Int32, z = x11210 + 1 := ⟨_, rfl⟩
                            have x11665_h : Iv 1 12 x11665 := iv_e x11665_e (iv_add j11215 ik_1 (by decide))
                            refine lv_iinc (v := x11665) (lv' := [(3, .int x11665), (5, .int x11654), (4, .int x11218), (2, .int x6566), (1, .int x2), (0, .ref o1)]) hx hb dX12_setLine_155 hl (k := 2) rfl (incN (by decide +kernel) x11665_e) (by decide) rfl (fun ls hl => ?_)
                            refine lv_goto (tgt := 17) hx hb dX12_setLine_158 (by decide) ?_
                            exact ih51 x11665 f11664 f11655 _ _ _ (ms_up x11665_e j11215 (by decide) hM51) (iv_w x11665_h (by decide)) iv53_0 (CLl_s iv53_1 (iv_w (c := 0) (d := 4095) j11215 (by decide)) x11665_e (CE_1 (w := 0) iv53_2 qh11656 iv53_3 (iv_w (c := 0) (d := 4095) j7420 (by decide)) (ix12 (iv_w (c := 0) (d := 4095) j7420 (by decide)) (iv_w (c := 0) (d := 12) j11215 (by decide)) x11217_e x11218_e) (all_r (iv_w (c := 0) (d := 12) j11216 (by decide)) x1_e x2_e) h11249 b11234 (e11236 h11238))) (KA_upd iv51_2 (iv_w (c := 0) (d := 4095) j7420 (by decide)) (cl_b (iv_w (c := 0) (d := 12) j11216 (by decide)) (by decide)) (cl_lt j11215 (by decide)) (ix12 (iv_w (c := 0) (d := 4095) j7420 (by decide)) (iv_w (c := 0) (d := 12) j11215 (by decide)) x11217_e x11218_e) f11664_e) (KL_s iv51_3 (iv_w (c := 0) (d := 4095) j11215 (by decide)) x11665_e (CE_1 (w := 0) iv53_2 qh11656 iv53_3 (iv_w (c := 0) (d := 4095) j7420 (by decide)) (ix12 (iv_w (c := 0) (d := 4095) j7420 (by decide)) (iv_w (c := 0) (d := 12) j11215 (by decide)) x11217_e x11218_e) (all_r (iv_w (c := 0) (d := 12) j11216 (by decide)) x1_e x2_e) h11249 b11234 (e11236 h11238)) pre0 (ix12 (iv_w (c := 0) (d := 4095) j7420 (by decide)) (iv_w (c := 0) (d := 12) j11215 (by decide)) x11217_e x11218_e) x11658_e f11664_e (Or.inr ⟨rfl, qh11659⟩)) hP hD hS (lv_sub hl [0, 3, 4, 5] rfl)
                        ·
                          have qh11656 := nle_i h11656
                          have j11666 : Iv 0 11 x11654 := r_ltl qh11656 x11654_h j11216 (by decide)
                          refine lv_aload_n hx hb dX12_setLine_87 rfl (lv_at hl 5 rfl) ?_
                          refine va_get (D := (dC, dI)) (ci := 12) (v := .ref o42) (C := RX12) (T := TX12) (N := 29) hx hb hts iw_X12_setLine_X12 hown hK hP 0 rfl rfl 25 (by decide) (hts (.fieldLink RX12 61 "HolelessHouseModel" "counts" "[I") hm_X12_setLine_2) (fun _ h9 => h9) rfl dX12_setLine_88 ?_
                          refine lv_iload hx hb dX12_setLine_91 (lv_at hl 1 rfl) ?_
                          refine lv_dup2_11 hx hb dX12_setLine_93 rfl rfl ?_
                          refine va_iald hx hb hK hP 1 0 rfl rfl (vin_iv x11218_h (by decide)) dX12_setLine_94 (lv_topi (fun x11667 x11667_e => ?_))
                          refine lv_iload_n hx hb dX12_setLine_95 rfl (lv_at hl 3 rfl) ?_
                          refine lv_iload hx hb dX12_setLine_96 (lv_at hl 0 rfl) ?_
                          refine kc_i (D := (dC, dI)) (S := Unit) (wc := []) (wr := [(o1, .inr (12, [.int v2, .ref o3, .int v5, .ref o6, .int v8, .ref o9, .ref o11, .int v13, .ref o14, .int v16, .ref o17, .int v19, .int v20, .int v21, .ref o22, .ref o24, .ref o26, .ref o28, .ref o30, .int v32, .ref o33, .ref o35, .ref o37, .int v39, .ref o40, .ref o42, .ref o44, .int v46, .ref o47])), (o42, .inl (cI, 49152, .inl f11655)), (o40, .inl (cZ, 49152, .inl f11211)), (o37, .inl (cI, 12, .inl fw38)), (o44, .inl (cI, 12, .inl fw45))]) (w1 := fun _ => []) (wn := fun _ => [(o1, .inr (12, [.int v2, .ref o3, .int v5, .ref o6, .int v8, .ref o9, .ref o11, .int v13, .ref o14, .int v16, .ref o17, .int v19, .int v20, .int v21, .ref o22, .ref o24, .ref o26, .ref o28, .ref o30, .int v32, .ref o33, .ref o35, .ref o37, .int v39, .ref o40, .ref o42, .ref o44, .int v46, .ref o47])), (o42, .inl (cI, 49152, .inl f11655)), (o40, .inl (cZ, 49152, .inl f11211)), (o37, .inl (cI, 12, .inl fw38)), (o44, .inl (cI, 12, .inl fw45))]) (fun hPc hDc => va_runS (As := [.int x6566, .int x11654]) (rest := [.int x11667, .int x11218, .ref o42]) ⟨hx, hb, hml, hown, hts⟩ (kX12_has_1 l dC dI cI c2 cZ x6566 x11654 H.size (iv_w j11666 (by decide))) (va_cwS 2 hts gX12_setLine_X12_has rfl rfl rfl (by decide +kernel) ⟨Nat.le_of_ble_eq_true rfl, Nat.le_of_ble_eq_true rfl⟩) (pre_S hPc hK hDc hN) rfl rfl hl.1 rfl (lv_room (Nat.le_of_ble_eq_true rfl)) dX12_setLine_98 ⟨Nat.le_of_ble_eq_true rfl, Nat.le_of_ble_eq_true rfl⟩) hP hD hS hA [] [0, 1, 2, 3, 4] [0, 1, 2, 3, 4] rfl rfl (by decide +kernel) (by decide +kernel) (by decide +kernel) (by decide +kernel) (fun _ => rfl) (fun x11668 _ H locs hq hP hD hS => ?_)
                          obtain ⟨x11668_h, e11669⟩ := hq
                          have hP : va_P (dC, dI) vwCl ([(o1, .inr (12, [.int v2, .ref o3, .int v5, .ref o6, .int v8, .ref o9, .ref o11, .int v13, .ref o14, .int v16, .ref o17, .int v19, .int v20, .int v21, .ref o22, .ref o24, .ref o26, .ref o28, .ref o30, .int v32, .ref o33, .ref o35, .ref o37, .int v39, .ref o40, .ref o42, .ref o44, .int v46, .ref o47])), (o42, .inl (cI, 49152, .inl f11655)), (o40, .inl (cZ, 49152, .inl f11211)), (o37, .inl (cI, 12, .inl fw38)), (o44, .inl (cI, 12, .inl fw45))]) H := hP
                          have hD : va_D A ([(o1, .inr (12, [.int v2, .ref o3, .int v5, .ref o6, .int v8, .ref o9, .ref o11, .int v13, .ref o14, .int v16, .ref o17, .int v19, .int v20, .int v21, .ref o22, .ref o24, .ref o26, .ref o28, .ref o30, .int v32, .ref o33, .ref o35, .ref o37, .int v39, .ref o40, .ref o42, .ref o44, .int v46, .ref o47])), (o42, .inl (cI, 49152, .inl f11655)), (o40, .inl (cZ, 49152, .inl f11211)), (o37, .inl (cI, 12, .inl fw38)), (o44, .inl (cI, 12, .inl fw45))]) := hD
                          refine lv_if_eq (tgt := 108) hx hb dX12_setLine_101 (by decide) (fun h11670 => ?_) (fun h11670 => ?_)
                          ·
                            have j11671 : Iv 0 0 x11668 := r_eq h11670 ik_0
                            have b11672 : bt x6566 (Int32.toNatClampNeg x11654) = false := has_f e11669 h11670
                            refine lv_aload_n hx hb dX12_setLine_108 rfl (lv_at hl 5 rfl) ?_
                            refine va_get (D := (dC, dI)) (ci := 12) (v := .ref o42) (C := RX12) (T := TX12) (N := 29) hx hb hts iw_X12_setLine_X12 hown hK hP 0 rfl rfl 25 (by decide) (hts (.fieldLink RX12 61 "HolelessHouseModel" "counts" "[I") hm_X12_setLine_2) (fun _ h9 => h9) rfl dX12_setLine_109 ?_
                            refine lv_bipush (v := 12) hx hb dX12_setLine_112 (by decide) ?_
                            refine lv_iload_n hx hb dX12_setLine_114 rfl (lv_at hl 3 rfl) ?_
                            refine lv_iconst (v := 1) hx hb dX12_setLine_115 (by decide) ?_
                            refine lv_iload hx hb dX12_setLine_116 (lv_at hl 0 rfl) ?_
                            refine lv_ishl hx hb dX12_setLine_118 (lv_topi (fun x11673 x11673_e => ?_))
                            have x11673_h : Iv 1 2048 x11673 := iv_e x11673_e (iv_shl1 j11666 (by decide))
                            refine lv_ior hx hb dX12_setLine_119 (lv_topi (fun x11674 x11674_e => ?_))
                            have x11674_h : Iv 0 4095 x11674 := iv_e x11674_e (iv_or 12 j7420 x11673_h (by decide))
                            refine lv_imul hx hb dX12_setLine_120 (lv_topi (fun x11675 x11675_e => ?_))
                            have x11675_h : Iv 0 49140 x11675 := iv_e x11675_e (iv_mul ik_12 x11674_h (by decide))
                            refine lv_iload hx hb dX12_setLine_121 (lv_at hl 0 rfl) ?_
                            refine lv_iadd hx hb dX12_setLine_123 (lv_topi (fun x11676 x11676_e => ?_))
                            have x11676_h : Iv 0 49151 x11676 := iv_e x11676_e (iv_add x11675_h j11666 (by decide))
                            refine va_iald hx hb hK hP 1 0 rfl rfl (vin_iv x11676_h (by decide)) dX12_setLine_124 (lv_topi (fun x11677 x11677_e => ?_))
                            refine lv_iadd hx hb dX12_setLine_125 (lv_topi (fun x11678 x11678_e => ?_))
                            refine k_iast hx hb hK hP hD hS 1 0 rfl rfl (vin_iv x11218_h (by decide)) dX12_setLine_126 (fun f11679 H locs f11679_e hP hD hS => ?_)
                            have hP : va_P (dC, dI) vwCl ([(o1, .inr (12, [.int v2, .ref o3, .int v5, .ref o6, .int v8, .ref o9, .ref o11, .int v13, .ref o14, .int v16, .ref o17, .int v19, .int v20, .int v21, .ref o22, .ref o24, .ref o26, .ref o28, .ref o30, .int v32, .ref o33, .ref o35, .ref o37, .int v39, .ref o40, .ref o42, .ref o44, .int v46, .ref o47])), (o42, .inl (cI, 49152, .inl f11679)), (o40, .inl (cZ, 49152, .inl f11211)), (o37, .inl (cI, 12, .inl fw38)), (o44, .inl (cI, 12, .inl fw45))]) H := hP
                            have hD : va_D A ([(o1, .inr (12, [.int v2, .ref o3, .int v5, .ref o6, .int v8, .ref o9, .ref o11, .int v13, .ref o14, .int v16, .ref o17, .int v19, .int v20, .int v21, .ref o22, .ref o24, .ref o26, .ref o28, .ref o30, .int v32, .ref o33, .ref o35, .ref o37, .int v39, .ref o40, .ref o42, .ref o44, .int v46, .ref o47])), (o42, .inl (cI, 49152, .inl f11679)), (o40, .inl (cZ, 49152, .inl f11211)), (o37, .inl (cI, 12, .inl fw38)), (o44, .inl (cI, 12, .inl fw45))]) := hD
                            obtain ⟨x11680, x11680_e⟩ : ∃ z : Int32, z = x11654 + 1 := ⟨_, rfl⟩
                            have x11680_h : Iv 1 12 x11680 := iv_e x11680_e (iv_add j11666 ik_1 (by decide))
                            refine lv_iinc (v := x11680) (lv' := [(5, .int x11680), (4, .int x11218), (3, .int x11210), (2, .int x6566), (1, .int x2), (0, .ref o1)]) hx hb dX12_setLine_127 hl (k := 0) rfl (incN (by decide +kernel) x11680_e) (by decide) rfl (fun ls hl => ?_)
                            refine lv_goto (tgt := 78) hx hb dX12_setLine_130 (by decide) ?_
                            exact ih53 x11680 f11679 _ _ _ (ms_up x11680_e j11666 (by decide) hM53) (iv_w x11680_h (by decide)) (CA_upd iv53_0 (iv_w (c := 0) (d := 4095) j7420 (by decide)) (cl_b (iv_w (c := 0) (d := 12) j11216 (by decide)) (by decide)) (cl_lt j11215 (by decide)) (ix12 (iv_w (c := 0) (d := 4095) j7420 (by decide)) (iv_w (c := 0) (d := 12) j11215 (by decide)) x11217_e x11218_e) f11679_e) (CLl_upd iv53_1 (ix12 (iv_w (c := 0) (d := 4095) j7420 (by decide)) (iv_w (c := 0) (d := 12) j11215 (by decide)) x11217_e x11218_e) f11679_e) (CI_f iv53_2 iv53_0 (iv_w (c := 0) (d := 4095) j7420 (by decide)) j11666 (cl_in qh11656 j11666) x11680_e b11672 x11673_e x11674_e x11674_h (cl_le (bel_whole (all_r (iv_w (c := 0) (d := 12) j11216 (by decide)) x1_e x2_e) (bel_set (bel_le (all_r (iv_w (c := 0) (d := 12) j11216 (by decide)) x1_e x2_e) (iv_w (c := 0) (d := 4095) j7420 (by decide)) iv30_1) j11666 (by decide) (cl_in qh11656 j11666) x11673_e x11674_e) x11674_h) x11674_h) x11675_e x11676_e x11677_e x11667_e x11678_e f11679_e) (kn_s (iv_w (c := 0) (d := 4095) j11666 (by decide)) x11680_e qh11656) hP hD hS hl
                          ·
                            have j11681 : Iv 1 1 x11668 := r_nelo h11670 x11668_h ik_0 (by decide)
                            have b11682 : bt x6566 (Int32.toNatClampNeg x11654) = true := has_t e11669 h11670
                            refine lv_iconst (v := 0) hx hb dX12_setLine_104 (by decide) ?_
                            refine lv_goto (tgt := 125) hx hb dX12_setLine_105 (by decide) ?_
                            refine lv_iadd hx hb dX12_setLine_125 (lv_topi (fun x11683 x11683_e => ?_))
                            refine k_iast hx hb hK hP hD hS 1 0 rfl rfl (vin_iv x11218_h (by decide)) dX12_setLine_126 (fun f11684 H locs f11684_e hP hD hS => ?_)
                            have hP : va_P (dC, dI) vwCl ([(o1, .inr (12, [.int v2, .ref o3, .int v5, .ref o6, .int v8, .ref o9, .ref o11, .int v13, .ref o14, .int v16, .ref o17, .int v19, .int v20, .int v21, .ref o22, .ref o24, .ref o26, .ref o28, .ref o30, .int v32, .ref o33, .ref o35, .ref o37, .int v39, .ref o40, .ref o42, .ref o44, .int v46, .ref o47])), (o42, .inl (cI, 49152, .inl f11684)), (o40, .inl (cZ, 49152, .inl f11211)), (o37, .inl (cI, 12, .inl fw38)), (o44, .inl (cI, 12, .inl fw45))]) H := hP
                            have hD : va_D A ([(o1, .inr (12, [.int v2, .ref o3, .int v5, .ref o6, .int v8, .ref o9, .ref o11, .int v13, .ref o14, .int v16, .ref o17, .int v19, .int v20, .int v21, .ref o22, .ref o24, .ref o26, .ref o28, .ref o30, .int v32, .ref o33, .ref o35, .ref o37, .int v39, .ref o40, .ref o42, .ref o44, .int v46, .ref o47])), (o42, .inl (cI, 49152, .inl f11684)), (o40, .inl (cZ, 49152, .inl f11211)), (o37, .inl (cI, 12, .inl fw38)), (o44, .inl (cI, 12, .inl fw45))]) := hD
                            obtain ⟨x11685, x11685_e⟩ : ∃ z : Int32, z = x11654 + 1 := ⟨_, rfl⟩
                            have x11685_h : Iv 1 12 x11685 := iv_e x11685_e (iv_add j11666 ik_1 (by decide))
                            refine lv_iinc (v := x11685) (lv' := [(5, .int x11685), (4, .int x11218), (3, .int x11210), (2, .int x6566), (1, .int x2), (0, .ref o1)]) hx hb dX12_setLine_127 hl (k := 0) rfl (incN (by decide +kernel) x11685_e) (by decide) rfl (fun ls hl => ?_)
                            refine lv_goto (tgt := 78) hx hb dX12_setLine_130 (by decide) ?_
                            exact ih53 x11685 f11684 _ _ _ (ms_up x11685_e j11666 (by decide) hM53) (iv_w x11685_h (by decide)) (CA_upd iv53_0 (iv_w (c := 0) (d := 4095) j7420 (by decide)) (cl_b (iv_w (c := 0) (d := 12) j11216 (by decide)) (by decide)) (cl_lt j11215 (by decide)) (ix12 (iv_w (c := 0) (d := 4095) j7420 (by decide)) (iv_w (c := 0) (d := 12) j11215 (by decide)) x11217_e x11218_e) f11684_e) (CLl_upd iv53_1 (ix12 (iv_w (c := 0) (d := 4095) j7420 (by decide)) (iv_w (c := 0) (d := 12) j11215 (by decide)) x11217_e x11218_e) f11684_e) (CI_t (v := 0) iv53_2 (iv_w (c := 0) (d := 4095) j11666 (by decide)) x11685_e b11682 x11667_e x11683_e f11684_e) (kn_s (iv_w (c := 0) (d := 4095) j11666 (by decide)) x11685_e qh11656) hP hD hS hl
                    exact L53 _ 0 f11469 _ _ _ (Nat.lt_succ_self _) (iv_w ik_0 (by decide)) (CA_upd (CA_upd iv51_0 (iv_w (c := 0) (d := 4095) j7420 (by decide)) (cl_b (iv_w (c := 0) (d := 12) j11216 (by decide)) (by decide)) (cl_lt j11215 (by decide)) (ix12 (iv_w (c := 0) (d := 4095) j7420 (by decide)) (iv_w (c := 0) (d := 12) j11215 (by decide)) x11217_e x11218_e) f11219_e) (iv_w (c := 0) (d := 4095) j7420 (by decide)) (cl_b (iv_w (c := 0) (d := 12) j11216 (by decide)) (by decide)) (cl_lt j11215 (by decide)) (ix12 (iv_w (c := 0) (d := 4095) j7420 (by decide)) (iv_w (c := 0) (d := 12) j11215 (by decide)) x11217_e x11218_e) f11469_e) (CLl_upd (CLl_upd iv51_1 (ix12 (iv_w (c := 0) (d := 4095) j7420 (by decide)) (iv_w (c := 0) (d := 12) j11215 (by decide)) x11217_e x11218_e) f11219_e) (ix12 (iv_w (c := 0) (d := 4095) j7420 (by decide)) (iv_w (c := 0) (d := 12) j11215 (by decide)) x11217_e x11218_e) f11469_e) (CI_0 f11469_e (by decide +kernel)) (kn_0 (iv_w (c := 0) (d := 4095) j11216 (by decide))) hP hD hS hl
        exact L51 _ 0 f6567 f6568 _ _ _ (Nat.lt_succ_self _) (iv_w ik_0 (by decide)) iv30_0 CLl_0 iv30_2 KL_0 hP hD hS hl
  exact L30 _ x2 fw41 fw43 _ _ _ (Nat.lt_succ_self _) x2_h (CA_0 x2_h) (Int.le_refl _) (KA_0 x2_h) hP hD hS hl
