theorem hm_X12_meets_1 : (.fieldLink RX12 70 "HolelessHouseModel" "finding" "I" : Cond) ∈ wsX12_meets := List.mem_of_getElem? (i := 1) rfl
theorem hm_X12_meets_2 : (.fieldLink RX12 7 "HolelessHouseModel" "findings" "[I" : Cond) ∈ wsX12_meets := List.mem_of_getElem? (i := 2) rfl
theorem hm_X12_degree_1 : (.fieldLink RX12 13 "HolelessHouseModel" "near" "[I" : Cond) ∈ wsX12_degree := List.mem_of_getElem? (i := 1) rfl
theorem hm_X12_isSound_1 : (.fieldLink RX12 73 "HolelessHouseModel" "n" "I" : Cond) ∈ wsX12_isSound := List.mem_of_getElem? (i := 1) rfl
theorem hm_X12_isSound_2 : (.fieldLink RX12 13 "HolelessHouseModel" "near" "[I" : Cond) ∈ wsX12_isSound := List.mem_of_getElem? (i := 2) rfl
theorem hm_X12_goesOn_1 : (.fieldLink RX12 19 "HolelessHouseModel" "ring" "[I" : Cond) ∈ wsX12_goesOn := List.mem_of_getElem? (i := 1) rfl
theorem hm_X12_goesOn_2 : (.fieldLink RX12 73 "HolelessHouseModel" "n" "I" : Cond) ∈ wsX12_goesOn := List.mem_of_getElem? (i := 2) rfl
theorem hm_X12_goesOn_3 : (.fieldLink RX12 13 "HolelessHouseModel" "near" "[I" : Cond) ∈ wsX12_goesOn := List.mem_of_getElem? (i := 3) rfl
set_option maxHeartbeats 4000000 in
set_option maxRecDepth 100000 in
theorem kX12_bits_1 (l : Launch) (dC : Nat → ClassId) (dI : Nat → Nat → Nat) (cI c2 cZ : ClassId) (a0 : Int32) (sz : Nat) : Met l yX12_bits wsX12_bits ({ frames := 0, cells := 0, slots := 0, locals := 0 }) (va_Pc [.int a0] (wPre (dC, dI) [(cI, .int), (c2, .array .int), (cZ, .boolean)] ([]) sz)) (va_Qi (fun (r : Int32) (_ : Unit) => Iv 0 13 r ∧ r = bitS a0 13) (fun _ t => wPost (dC, dI) [(cI, .int), (c2, .array .int), (cZ, .boolean)] (va_A ([]) sz) ([]) t) (va_A ([]) sz)) 0 0 (va_A ([]) sz) := by
  refine Met.ofW (cc := cX12_bits) (maxL := 3) (ret := (some .int)) (by decide) rfl ?_
  intro p e s m args below meth c s₁ B hml hv
  obtain ⟨rfl, hsz, hP, hK, hD0, hN⟩ := hv
  have hx := B.exec
  have hb := B.bytes
  have hr := B.returns
  have hts := atoms_spec (ws := wsX12_bits) B.pre
  have hown : s.vm.findClass RX12 = some m.cls := findClass_of_methodNamed B.named
  have hlocks := B.notSynchronized
  subst hsz
  have hD := hD0.self (sz := s.heap.size)
  generalize hAe : va_A ([]) s.heap.size = A at hD ⊢
  have hA : ∀ q : Nat, s.heap.size ≤ q → A q := fun q h => by rw [← hAe]; exact Or.inr h
  have hS : va_S A s.heap s.heap [] := va_S.rf
  have hP : va_P (dC, dI) vwCl ([]) s.heap := hP
  have hl := lv_entry ([.int a0]) (n := 3) (Nat.le_of_ble_eq_true rfl)
  rw [lg_entry_eq]
  generalize (lg_sl ([.int a0]) ++ List.replicate (3 - (lg_sl ([.int a0])).length) Slot.unset).toArray = ls at hl ⊢
  have hl : lv_has ls 3 [(0, .int a0)] := hl
  refine gen_Q (fun Q hQ => ?_)
  refine lv_iconst (v := 0) hx hb dX12_bits_0 (by decide) ?_
  refine lv_istore_n (lv' := [(1, .int 0), (0, .int a0)]) hx hb dX12_bits_1 rfl hl (by decide) rfl (fun ls hl => ?_)
  refine lv_iconst (v := 0) hx hb dX12_bits_2 (by decide) ?_
  refine lv_istore_n (lv' := [(2, .int 0), (1, .int 0), (0, .int a0)]) hx hb dX12_bits_3 rfl hl (by decide) rfl (fun ls hl => ?_)
  have L1 : ∀ (N : Nat) (x56 : Int32) (x57 : Int32) (H : Heap) (locs : List Loc) (ls : Array Slot), (13 - x56.toInt).toNat < N → Iv 0 13 x56 → Iv 0 13 x57 → Int32.toInt x57 ≤ Int32.toInt x56 → (x57 = bitS a0 (Int32.toNatClampNeg x56)) → va_P (dC, dI) vwCl ([]) H → va_D A ([]) → va_S A s.heap H locs → lv_has ls 3 [(2, .int x56), (1, .int x57), (0, .int a0)] → W p l e ({ frames := 0, cells := 0, slots := 0, locals := 0 }) s m ([.int a0] : List Value).toArray below meth c H locs 0 0 Q (F0 m 4 ls []) := by
    intro N
    induction N with
    | zero =>
      intro x56 x57 H locs ls hM
      exact absurd hM (Nat.not_lt_zero _)
    | succ N ih1 =>
      intro x56 x57 H locs ls hM1 x56_h x57_h rl1_0 iv1_0 hP hD hS hl
      refine lv_iload_n hx hb dX12_bits_4 rfl (lv_at hl 0 rfl) ?_
      refine lv_bipush (v := 13) hx hb dX12_bits_5 (by decide) ?_
      refine lv_icmp_ge (tgt := 24) hx hb dX12_bits_7 (by decide) (fun h58 => ?_) (fun h58 => ?_)
      ·
        have qh58 := le_i h58
        have j59 : Iv 13 13 x56 := r_ler qh58 ik_13 x56_h (by decide)
        refine lv_iload_n hx hb dX12_bits_24 rfl (lv_at hl 1 rfl) ?_
        rw [hQ]
        exact W.iret (v := x57) hx hb hr (fun t ht hW => ⟨⟨x57, (), rfl, ⟨x57_h, (bitS_e iv1_0 j59)⟩, by rw [ht]; exact hP, va_K.moved hW.alike hK, hD⟩, hS.F ht⟩) hS.2.2 dX12_bits_25
      ·
        have qh58 := nle_i h58
        have j60 : Iv 0 12 x56 := r_ltl qh58 x56_h ik_13 (by decide)
        have j61 : Iv 0 12 x57 := r_lel rl1_0 x57_h j60 (by decide)
        refine lv_iload_n hx hb dX12_bits_10 rfl (lv_at hl 1 rfl) ?_
        refine lv_iload_n hx hb dX12_bits_11 rfl (lv_at hl 2 rfl) ?_
        refine lv_iload_n hx hb dX12_bits_12 rfl (lv_at hl 0 rfl) ?_
        refine lv_ishr hx hb dX12_bits_13 (lv_topi (fun x62 x62_e => ?_))
        refine lv_iconst (v := 1) hx hb dX12_bits_14 (by decide) ?_
        refine lv_iand hx hb dX12_bits_15 (lv_topi (fun x63 x63_e => ?_))
        have x63_h : Iv 0 1 x63 := iv_e x63_e (iv_andR _ ik_1 (by decide))
        refine lv_iadd hx hb dX12_bits_16 (lv_topi (fun x64 x64_e => ?_))
        have x64_h : Iv 0 13 x64 := iv_e x64_e (iv_add j61 x63_h (by decide))
        refine lv_istore_n (lv' := [(1, .int x64), (2, .int x56), (0, .int a0)]) hx hb dX12_bits_17 rfl hl (by decide) rfl (fun ls hl => ?_)
        obtain ⟨x65, x65_e⟩ : ∃ z : Int32, z = x56 + 1 := ⟨_, rfl⟩
        have x65_h : Iv 1 13 x65 := iv_e x65_e (iv_add j60 ik_1 (by decide))
        refine lv_iinc (v := x65) (lv' := [(2, .int x65), (1, .int x64), (0, .int a0)]) hx hb dX12_bits_18 hl (k := 1) rfl (incN (by decide +kernel) x65_e) (by decide) rfl (fun ls hl => ?_)
        refine lv_goto (tgt := 4) hx hb dX12_bits_21 (by decide) ?_
        exact ih1 x65 x64 _ _ _ (ms_up x65_e j60 (by decide) hM1) (iv_w x65_h (by decide)) x64_h (by have h70 := (congrArg Int32.toInt x64_e).trans (ti_addc j61 x63_h (by decide)); have h71 := x63_h; unfold Iv at h71; have h72 := tia x65_e j60 ik_1 (by decide); have h8 := rl1_0; omega) (bitS_s iv1_0 (iv_w (c := 0) (d := 4095) j60 (by decide)) x65_e x62_e x63_e x64_e) hP hD hS hl
  exact L1 _ 0 0 _ _ _ (Nat.lt_succ_self _) (iv_w ik_0 (by decide)) (iv_w ik_0 (by decide)) (by decide +kernel) bitS_0 hP hD hS hl
theorem iw_X12_meets_X12 : ∀ w ∈ wsX120, w ∈ wsX12_meets := fun _ h => List.mem_cons.mpr (Or.inr (List.mem_append.mpr (Or.inr h)))
set_option maxHeartbeats 4000000 in
set_option maxRecDepth 100000 in
theorem kX12_meets_1 (l : Launch) (dC : Nat → ClassId) (dI : Nat → Nat → Nat) (cI c2 cZ : ClassId) (o1 : Nat) (o3 : Nat) (o6 : Nat) (o9 : Nat) (o11 : Nat) (o14 : Nat) (o17 : Nat) (o22 : Nat) (o24 : Nat) (o26 : Nat) (o28 : Nat) (o30 : Nat) (o33 : Nat) (o35 : Nat) (o37 : Nat) (o40 : Nat) (o42 : Nat) (o44 : Nat) (o47 : Nat) (v2 : Int32) (fw4 : Nat → Int32) (v5 : Int32) (v8 : Int32) (v13 : Int32) (v16 : Int32) (v19 : Int32) (v20 : Int32) (v21 : Int32) (v32 : Int32) (v39 : Int32) (v46 : Int32) (a1 : Int32) (sz : Nat) (v5_h : Iv 0 12 v5) (v8_h : Iv 0 8 v8) (v13_h : Iv 0 12 v13) (v16_h : Iv 0 12 v16) (v19_h : Iv (-9) 12 v19) (v32_h : Iv 0 99 v32) (v39_h : Iv 0 12 v39) (v46_h : Iv 0 12 v46) (a1_h : Iv 3 3 a1) : Met l yX12_meets wsX12_meets ({ frames := 0, cells := 0, slots := 0, locals := 0 }) (va_Pc [.ref o1, .int a1] (wPre (dC, dI) [(cI, .int), (c2, .array .int), (cZ, .boolean)] ([(o1, .inr (12, [.int v2, .ref o3, .int v5, .ref o6, .int v8, .ref o9, .ref o11, .int v13, .ref o14, .int v16, .ref o17, .int v19, .int v20, .int v21, .ref o22, .ref o24, .ref o26, .ref o28, .ref o30, .int v32, .ref o33, .ref o35, .ref o37, .int v39, .ref o40, .ref o42, .ref o44, .int v46, .ref o47])), (o3, .inl (cI, 5, .inl fw4))]) sz)) (va_Qi (fun (r : Int32) (u : Int32 × (Nat → Int32)) => Iv (-3) (-3) r) (fun u t => wPost (dC, dI) [(cI, .int), (c2, .array .int), (cZ, .boolean)] (va_A ([(o1, .inr (12, [.int v2, .ref o3, .int v5, .ref o6, .int v8, .ref o9, .ref o11, .int v13, .ref o14, .int v16, .ref o17, .int v19, .int v20, .int v21, .ref o22, .ref o24, .ref o26, .ref o28, .ref o30, .int v32, .ref o33, .ref o35, .ref o37, .int v39, .ref o40, .ref o42, .ref o44, .int v46, .ref o47])), (o3, .inl (cI, 5, .inl fw4))]) sz) ([(o1, .inr (12, [.int u.1, .ref o3, .int v5, .ref o6, .int v8, .ref o9, .ref o11, .int v13, .ref o14, .int v16, .ref o17, .int v19, .int v20, .int v21, .ref o22, .ref o24, .ref o26, .ref o28, .ref o30, .int v32, .ref o33, .ref o35, .ref o37, .int v39, .ref o40, .ref o42, .ref o44, .int v46, .ref o47])), (o3, .inl (cI, 5, .inl u.2))]) t) (va_A ([(o1, .inr (12, [.int v2, .ref o3, .int v5, .ref o6, .int v8, .ref o9, .ref o11, .int v13, .ref o14, .int v16, .ref o17, .int v19, .int v20, .int v21, .ref o22, .ref o24, .ref o26, .ref o28, .ref o30, .int v32, .ref o33, .ref o35, .ref o37, .int v39, .ref o40, .ref o42, .ref o44, .int v46, .ref o47])), (o3, .inl (cI, 5, .inl fw4))]) sz)) 0 0 (va_A ([(o1, .inr (12, [.int v2, .ref o3, .int v5, .ref o6, .int v8, .ref o9, .ref o11, .int v13, .ref o14, .int v16, .ref o17, .int v19, .int v20, .int v21, .ref o22, .ref o24, .ref o26, .ref o28, .ref o30, .int v32, .ref o33, .ref o35, .ref o37, .int v39, .ref o40, .ref o42, .ref o44, .int v46, .ref o47])), (o3, .inl (cI, 5, .inl fw4))]) sz) := by
  refine Met.ofW (cc := cX12_meets) (maxL := 2) (ret := (some .int)) (by decide) rfl ?_
  intro p e s m args below meth c s₁ B hml hv
  obtain ⟨rfl, hsz, hP, hK, hD0, hN⟩ := hv
  have hx := B.exec
  have hb := B.bytes
  have hr := B.returns
  have hts := atoms_spec (ws := wsX12_meets) B.pre
  have hown : s.vm.findClass RX12 = some m.cls := findClass_of_methodNamed B.named
  have hlocks := B.notSynchronized
  subst hsz
  have hD := hD0.self (sz := s.heap.size)
  generalize hAe : va_A ([(o1, .inr (12, [.int v2, .ref o3, .int v5, .ref o6, .int v8, .ref o9, .ref o11, .int v13, .ref o14, .int v16, .ref o17, .int v19, .int v20, .int v21, .ref o22, .ref o24, .ref o26, .ref o28, .ref o30, .int v32, .ref o33, .ref o35, .ref o37, .int v39, .ref o40, .ref o42, .ref o44, .int v46, .ref o47])), (o3, .inl (cI, 5, .inl fw4))]) s.heap.size = A at hD ⊢
  have hA : ∀ q : Nat, s.heap.size ≤ q → A q := fun q h => by rw [← hAe]; exact Or.inr h
  have hS : va_S A s.heap s.heap [] := va_S.rf
  have hP : va_P (dC, dI) vwCl ([(o1, .inr (12, [.int v2, .ref o3, .int v5, .ref o6, .int v8, .ref o9, .ref o11, .int v13, .ref o14, .int v16, .ref o17, .int v19, .int v20, .int v21, .ref o22, .ref o24, .ref o26, .ref o28, .ref o30, .int v32, .ref o33, .ref o35, .ref o37, .int v39, .ref o40, .ref o42, .ref o44, .int v46, .ref o47])), (o3, .inl (cI, 5, .inl fw4))]) s.heap := hP
  have hl := lv_entry ([.ref o1, .int a1]) (n := 2) (Nat.le_of_ble_eq_true rfl)
  rw [lg_entry_eq]
  generalize (lg_sl ([.ref o1, .int a1]) ++ List.replicate (2 - (lg_sl ([.ref o1, .int a1])).length) Slot.unset).toArray = ls at hl ⊢
  have hl : lv_has ls 2 [(0, .ref o1), (1, .int a1)] := hl
  refine gen_Q (fun Q hQ => ?_)
  refine lv_aload_n hx hb dX12_meets_0 rfl (lv_at hl 0 rfl) ?_
  refine lv_iload_n hx hb dX12_meets_1 rfl (lv_at hl 1 rfl) ?_
  refine va_put (D := (dC, dI)) (ci := 12) (v := .int a1) (ty := .int) (C := RX12) (T := TX12) (N := 29) hx hb hts iw_X12_meets_X12 tyX12 tyX12_ok nmX12 hown hK hP hD hS 0 rfl rfl 0 (by decide) (hts (.fieldLink RX12 70 "HolelessHouseModel" "finding" "I") hm_X12_meets_1) (fun _ h9 => h9) rfl (by decide +kernel) rfl rfl (Nat.le_of_ble_eq_true rfl) dX12_meets_2 (fun H locs hP hD hS => ?_)
  have hP : va_P (dC, dI) vwCl ([(o1, .inr (12, [.int a1, .ref o3, .int v5, .ref o6, .int v8, .ref o9, .ref o11, .int v13, .ref o14, .int v16, .ref o17, .int v19, .int v20, .int v21, .ref o22, .ref o24, .ref o26, .ref o28, .ref o30, .int v32, .ref o33, .ref o35, .ref o37, .int v39, .ref o40, .ref o42, .ref o44, .int v46, .ref o47])), (o3, .inl (cI, 5, .inl fw4))]) H := hP
  have hD : va_D A ([(o1, .inr (12, [.int a1, .ref o3, .int v5, .ref o6, .int v8, .ref o9, .ref o11, .int v13, .ref o14, .int v16, .ref o17, .int v19, .int v20, .int v21, .ref o22, .ref o24, .ref o26, .ref o28, .ref o30, .int v32, .ref o33, .ref o35, .ref o37, .int v39, .ref o40, .ref o42, .ref o44, .int v46, .ref o47])), (o3, .inl (cI, 5, .inl fw4))]) := hD
  refine lv_aload_n hx hb dX12_meets_5 rfl (lv_at hl 0 rfl) ?_
  refine va_get (D := (dC, dI)) (ci := 12) (v := .ref o3) (C := RX12) (T := TX12) (N := 29) hx hb hts iw_X12_meets_X12 hown hK hP 0 rfl rfl 1 (by decide) (hts (.fieldLink RX12 7 "HolelessHouseModel" "findings" "[I") hm_X12_meets_2) (fun _ h9 => h9) rfl dX12_meets_6 ?_
  refine lv_iload_n hx hb dX12_meets_9 rfl (lv_at hl 1 rfl) ?_
  refine lv_dup2_11 hx hb dX12_meets_10 rfl rfl ?_
  refine va_iald hx hb hK hP 1 0 rfl rfl (vin_iv a1_h (by decide)) dX12_meets_11 (lv_topi (fun x1 x1_e => ?_))
  refine lv_iconst (v := 1) hx hb dX12_meets_12 (by decide) ?_
  refine lv_iadd hx hb dX12_meets_13 (lv_topi (fun x2 x2_e => ?_))
  refine k_iast hx hb hK hP hD hS 1 0 rfl rfl (vin_iv a1_h (by decide)) dX12_meets_14 (fun f3 H locs f3_e hP hD hS => ?_)
  have hP : va_P (dC, dI) vwCl ([(o1, .inr (12, [.int a1, .ref o3, .int v5, .ref o6, .int v8, .ref o9, .ref o11, .int v13, .ref o14, .int v16, .ref o17, .int v19, .int v20, .int v21, .ref o22, .ref o24, .ref o26, .ref o28, .ref o30, .int v32, .ref o33, .ref o35, .ref o37, .int v39, .ref o40, .ref o42, .ref o44, .int v46, .ref o47])), (o3, .inl (cI, 5, .inl f3))]) H := hP
  have hD : va_D A ([(o1, .inr (12, [.int a1, .ref o3, .int v5, .ref o6, .int v8, .ref o9, .ref o11, .int v13, .ref o14, .int v16, .ref o17, .int v19, .int v20, .int v21, .ref o22, .ref o24, .ref o26, .ref o28, .ref o30, .int v32, .ref o33, .ref o35, .ref o37, .int v39, .ref o40, .ref o42, .ref o44, .int v46, .ref o47])), (o3, .inl (cI, 5, .inl f3))]) := hD
  refine lv_bipush (v := (-3)) hx hb dX12_meets_15 (by decide) ?_
  rw [hQ]
  exact W.iret (v := (-3)) hx hb hr (fun t ht hW => ⟨⟨(-3), (a1, f3), rfl, ikm_3, by rw [ht]; exact hP, va_K.moved hW.alike hK, hD⟩, hS.F ht⟩) hS.2.2 dX12_meets_17
theorem iw_X12_degree_X12 : ∀ w ∈ wsX120, w ∈ wsX12_degree := fun _ h => List.mem_cons.mpr (Or.inr (List.mem_append.mpr (Or.inr h)))
set_option maxHeartbeats 4000000 in
set_option maxRecDepth 100000 in
theorem kX12_degree_1 (l : Launch) (dC : Nat → ClassId) (dI : Nat → Nat → Nat) (cI c2 cZ : ClassId) (o1 : Nat) (o3 : Nat) (o6 : Nat) (o9 : Nat) (o11 : Nat) (o14 : Nat) (o17 : Nat) (o22 : Nat) (o24 : Nat) (o26 : Nat) (o28 : Nat) (o30 : Nat) (o33 : Nat) (o35 : Nat) (o37 : Nat) (o40 : Nat) (o42 : Nat) (o44 : Nat) (o47 : Nat) (v2 : Int32) (fw4 : Nat → Int32) (v5 : Int32) (fw7 : Nat → Int32) (v8 : Int32) (v13 : Int32) (v16 : Int32) (v19 : Int32) (v20 : Int32) (v21 : Int32) (v32 : Int32) (v39 : Int32) (v46 : Int32) (a1 : Int32) (a2 : Int32) (sz : Nat) (v5_h : Iv 0 12 v5) (fw7_b : Bd 12 0 4095 fw7) (v8_h : Iv 0 8 v8) (v13_h : Iv 0 12 v13) (v16_h : Iv 0 12 v16) (v19_h : Iv (-9) 12 v19) (v32_h : Iv 0 99 v32) (v39_h : Iv 0 12 v39) (v46_h : Iv 0 12 v46) : Met l yX12_degree wsX12_degree ({ frames := 3, cells := 0, slots := 0, locals := 65 }) (va_Pc [.ref o1, .int a1, .int a2] (wPre (dC, dI) [(cI, .int), (c2, .array .int), (cZ, .boolean)] ([(o1, .inr (12, [.int v2, .ref o3, .int v5, .ref o6, .int v8, .ref o9, .ref o11, .int v13, .ref o14, .int v16, .ref o17, .int v19, .int v20, .int v21, .ref o22, .ref o24, .ref o26, .ref o28, .ref o30, .int v32, .ref o33, .ref o35, .ref o37, .int v39, .ref o40, .ref o42, .ref o44, .int v46, .ref o47])), (o6, .inl (cI, 12, .inl fw7)), (o3, .inl (cI, 5, .inl fw4))]) sz)) (va_Qi (fun (r : Int32) (u : Int32 × (Nat → Int32)) => Iv (-3) 13 r) (fun u t => wPost (dC, dI) [(cI, .int), (c2, .array .int), (cZ, .boolean)] (va_A ([(o1, .inr (12, [.int v2, .ref o3, .int v5, .ref o6, .int v8, .ref o9, .ref o11, .int v13, .ref o14, .int v16, .ref o17, .int v19, .int v20, .int v21, .ref o22, .ref o24, .ref o26, .ref o28, .ref o30, .int v32, .ref o33, .ref o35, .ref o37, .int v39, .ref o40, .ref o42, .ref o44, .int v46, .ref o47])), (o6, .inl (cI, 12, .inl fw7)), (o3, .inl (cI, 5, .inl fw4))]) sz) ([(o1, .inr (12, [.int u.1, .ref o3, .int v5, .ref o6, .int v8, .ref o9, .ref o11, .int v13, .ref o14, .int v16, .ref o17, .int v19, .int v20, .int v21, .ref o22, .ref o24, .ref o26, .ref o28, .ref o30, .int v32, .ref o33, .ref o35, .ref o37, .int v39, .ref o40, .ref o42, .ref o44, .int v46, .ref o47])), (o6, .inl (cI, 12, .inl fw7)), (o3, .inl (cI, 5, .inl u.2))]) t) (va_A ([(o1, .inr (12, [.int v2, .ref o3, .int v5, .ref o6, .int v8, .ref o9, .ref o11, .int v13, .ref o14, .int v16, .ref o17, .int v19, .int v20, .int v21, .ref o22, .ref o24, .ref o26, .ref o28, .ref o30, .int v32, .ref o33, .ref o35, .ref o37, .int v39, .ref o40, .ref o42, .ref o44, .int v46, .ref o47])), (o6, .inl (cI, 12, .inl fw7)), (o3, .inl (cI, 5, .inl fw4))]) sz)) 0 0 (va_A ([(o1, .inr (12, [.int v2, .ref o3, .int v5, .ref o6, .int v8, .ref o9, .ref o11, .int v13, .ref o14, .int v16, .ref o17, .int v19, .int v20, .int v21, .ref o22, .ref o24, .ref o26, .ref o28, .ref o30, .int v32, .ref o33, .ref o35, .ref o37, .int v39, .ref o40, .ref o42, .ref o44, .int v46, .ref o47])), (o6, .inl (cI, 12, .inl fw7)), (o3, .inl (cI, 5, .inl fw4))]) sz) := by
  refine Met.ofW (cc := cX12_degree) (maxL := 4) (ret := (some .int)) (by decide) rfl ?_
  intro p e s m args below meth c s₁ B hml hv
  obtain ⟨rfl, hsz, hP, hK, hD0, hN⟩ := hv
  have hx := B.exec
  have hb := B.bytes
  have hr := B.returns
  have hts := atoms_spec (ws := wsX12_degree) B.pre
  have hown : s.vm.findClass RX12 = some m.cls := findClass_of_methodNamed B.named
  have hlocks := B.notSynchronized
  subst hsz
  have hD := hD0.self (sz := s.heap.size)
  generalize hAe : va_A ([(o1, .inr (12, [.int v2, .ref o3, .int v5, .ref o6, .int v8, .ref o9, .ref o11, .int v13, .ref o14, .int v16, .ref o17, .int v19, .int v20, .int v21, .ref o22, .ref o24, .ref o26, .ref o28, .ref o30, .int v32, .ref o33, .ref o35, .ref o37, .int v39, .ref o40, .ref o42, .ref o44, .int v46, .ref o47])), (o6, .inl (cI, 12, .inl fw7)), (o3, .inl (cI, 5, .inl fw4))]) s.heap.size = A at hD ⊢
  have hA : ∀ q : Nat, s.heap.size ≤ q → A q := fun q h => by rw [← hAe]; exact Or.inr h
  have hS : va_S A s.heap s.heap [] := va_S.rf
  have hP : va_P (dC, dI) vwCl ([(o1, .inr (12, [.int v2, .ref o3, .int v5, .ref o6, .int v8, .ref o9, .ref o11, .int v13, .ref o14, .int v16, .ref o17, .int v19, .int v20, .int v21, .ref o22, .ref o24, .ref o26, .ref o28, .ref o30, .int v32, .ref o33, .ref o35, .ref o37, .int v39, .ref o40, .ref o42, .ref o44, .int v46, .ref o47])), (o6, .inl (cI, 12, .inl fw7)), (o3, .inl (cI, 5, .inl fw4))]) s.heap := hP
  have hl := lv_entry ([.ref o1, .int a1, .int a2]) (n := 4) (Nat.le_of_ble_eq_true rfl)
  rw [lg_entry_eq]
  generalize (lg_sl ([.ref o1, .int a1, .int a2]) ++ List.replicate (4 - (lg_sl ([.ref o1, .int a1, .int a2])).length) Slot.unset).toArray = ls at hl ⊢
  have hl : lv_has ls 4 [(0, .ref o1), (1, .int a1), (2, .int a2)] := hl
  refine gen_Q (fun Q hQ => ?_)
  refine lv_aload_n hx hb dX12_degree_0 rfl (lv_at hl 0 rfl) ?_
  refine lv_iload_n hx hb dX12_degree_1 rfl (lv_at hl 1 rfl) ?_
  refine kc_i (D := (dC, dI)) (S := Unit) (wc := [(o1, .inr (12, [.int v2, .ref o3, .int v5, .ref o6, .int v8, .ref o9, .ref o11, .int v13, .ref o14, .int v16, .ref o17, .int v19, .int v20, .int v21, .ref o22, .ref o24, .ref o26, .ref o28, .ref o30, .int v32, .ref o33, .ref o35, .ref o37, .int v39, .ref o40, .ref o42, .ref o44, .int v46, .ref o47]))]) (wr := [(o6, .inl (cI, 12, .inl fw7)), (o3, .inl (cI, 5, .inl fw4))]) (w1 := fun _ => [(o1, .inr (12, [.int v2, .ref o3, .int v5, .ref o6, .int v8, .ref o9, .ref o11, .int v13, .ref o14, .int v16, .ref o17, .int v19, .int v20, .int v21, .ref o22, .ref o24, .ref o26, .ref o28, .ref o30, .int v32, .ref o33, .ref o35, .ref o37, .int v39, .ref o40, .ref o42, .ref o44, .int v46, .ref o47]))]) (wn := fun _ => [(o1, .inr (12, [.int v2, .ref o3, .int v5, .ref o6, .int v8, .ref o9, .ref o11, .int v13, .ref o14, .int v16, .ref o17, .int v19, .int v20, .int v21, .ref o22, .ref o24, .ref o26, .ref o28, .ref o30, .int v32, .ref o33, .ref o35, .ref o37, .int v39, .ref o40, .ref o42, .ref o44, .int v46, .ref o47])), (o6, .inl (cI, 12, .inl fw7)), (o3, .inl (cI, 5, .inl fw4))]) (fun hPc hDc => va_runV (As := [.int a1]) (rest := []) ⟨hx, hb, hml, hown, hts⟩ (kX12_isNode_1 l dC dI cI c2 cZ o1 o3 o6 o9 o11 o14 o17 o22 o24 o26 o28 o30 o33 o35 o37 o40 o42 o44 o47 v2 v5 v8 v13 v16 v19 v20 v21 v32 v39 v46 a1 s.heap.size v5_h v8_h v13_h v16_h v19_h v32_h v39_h v46_h) (cwV 1 hts gX12_degree_X12_isNode rfl rfl rfl (by decide +kernel) ⟨Nat.le_of_ble_eq_true rfl, Nat.le_of_ble_eq_true rfl⟩) (pre_V hPc hK hDc hN (ci := 12) (q0 := 0) rfl rfl) rfl rfl hl.1 rfl (lv_room (Nat.le_of_ble_eq_true rfl)) dX12_degree_2 ⟨Nat.le_of_ble_eq_true rfl, Nat.le_of_ble_eq_true rfl⟩) hP hD hS hA [0] [1, 2] [2, 0, 1] rfl rfl (by decide +kernel) (by decide +kernel) (by decide +kernel) (by decide +kernel) (fun _ => rfl) (fun x1 _ H locs hq hP hD hS => ?_)
  obtain ⟨x1_h, i2, e3⟩ := hq
  have hP : va_P (dC, dI) vwCl ([(o1, .inr (12, [.int v2, .ref o3, .int v5, .ref o6, .int v8, .ref o9, .ref o11, .int v13, .ref o14, .int v16, .ref o17, .int v19, .int v20, .int v21, .ref o22, .ref o24, .ref o26, .ref o28, .ref o30, .int v32, .ref o33, .ref o35, .ref o37, .int v39, .ref o40, .ref o42, .ref o44, .int v46, .ref o47])), (o6, .inl (cI, 12, .inl fw7)), (o3, .inl (cI, 5, .inl fw4))]) H := hP
  have hD : va_D A ([(o1, .inr (12, [.int v2, .ref o3, .int v5, .ref o6, .int v8, .ref o9, .ref o11, .int v13, .ref o14, .int v16, .ref o17, .int v19, .int v20, .int v21, .ref o22, .ref o24, .ref o26, .ref o28, .ref o30, .int v32, .ref o33, .ref o35, .ref o37, .int v39, .ref o40, .ref o42, .ref o44, .int v46, .ref o47])), (o6, .inl (cI, 12, .inl fw7)), (o3, .inl (cI, 5, .inl fw4))]) := hD
  refine lv_if_eq (tgt := 17) hx hb dX12_degree_5 (by decide) (fun h4 => ?_) (fun h4 => ?_)
  ·
    have j5 : Iv 0 0 x1 := r_eq h4 ik_0
    refine lv_iconst (v := (-1)) hx hb dX12_degree_17 (by decide) ?_
    rw [hQ]
    exact W.iret (v := (-1)) hx hb hr (fun t ht hW => ⟨⟨(-1), (v2, fw4), rfl, (iv_w ikm_1 (by decide)), by rw [ht]; exact hP, va_K.moved hW.alike hK, hD⟩, hS.F ht⟩) hS.2.2 dX12_degree_18
  ·
    have j6 : Iv 1 1 x1 := r_nelo h4 x1_h ik_0 (by decide)
    have j7 : Iv 0 11 a1 := i2 h4
    have e8 := e3 h4
    refine lv_iload_n hx hb dX12_degree_8 rfl (lv_at hl 2 rfl) ?_
    refine lv_iconst (v := 0) hx hb dX12_degree_9 (by decide) ?_
    refine lv_iconst (v := 3) hx hb dX12_degree_10 (by decide) ?_
    refine kc_i (D := (dC, dI)) (S := Unit) (wc := []) (wr := [(o1, .inr (12, [.int v2, .ref o3, .int v5, .ref o6, .int v8, .ref o9, .ref o11, .int v13, .ref o14, .int v16, .ref o17, .int v19, .int v20, .int v21, .ref o22, .ref o24, .ref o26, .ref o28, .ref o30, .int v32, .ref o33, .ref o35, .ref o37, .int v39, .ref o40, .ref o42, .ref o44, .int v46, .ref o47])), (o6, .inl (cI, 12, .inl fw7)), (o3, .inl (cI, 5, .inl fw4))]) (w1 := fun _ => []) (wn := fun _ => [(o1, .inr (12, [.int v2, .ref o3, .int v5, .ref o6, .int v8, .ref o9, .ref o11, .int v13, .ref o14, .int v16, .ref o17, .int v19, .int v20, .int v21, .ref o22, .ref o24, .ref o26, .ref o28, .ref o30, .int v32, .ref o33, .ref o35, .ref o37, .int v39, .ref o40, .ref o42, .ref o44, .int v46, .ref o47])), (o6, .inl (cI, 12, .inl fw7)), (o3, .inl (cI, 5, .inl fw4))]) (fun hPc hDc => va_runS (As := [.int a2, .int 0, .int 3]) (rest := []) ⟨hx, hb, hml, hown, hts⟩ (kX12_in_3 l dC dI cI c2 cZ a2 0 3 H.size ik_0 ik_3) (va_cwS 3 hts gX12_degree_X12_in rfl rfl rfl (by decide +kernel) ⟨Nat.le_of_ble_eq_true rfl, Nat.le_of_ble_eq_true rfl⟩) (pre_S hPc hK hDc hN) rfl rfl hl.1 rfl (lv_room (Nat.le_of_ble_eq_true rfl)) dX12_degree_11 ⟨Nat.le_of_ble_eq_true rfl, Nat.le_of_ble_eq_true rfl⟩) hP hD hS hA [] [0, 1, 2] [0, 1, 2] rfl rfl (by decide +kernel) (by decide +kernel) (by decide +kernel) (by decide +kernel) (fun _ => rfl) (fun x9 _ H locs hq hP hD hS => ?_)
    obtain ⟨x9_h, i10, e11⟩ := hq
    have hP : va_P (dC, dI) vwCl ([(o1, .inr (12, [.int v2, .ref o3, .int v5, .ref o6, .int v8, .ref o9, .ref o11, .int v13, .ref o14, .int v16, .ref o17, .int v19, .int v20, .int v21, .ref o22, .ref o24, .ref o26, .ref o28, .ref o30, .int v32, .ref o33, .ref o35, .ref o37, .int v39, .ref o40, .ref o42, .ref o44, .int v46, .ref o47])), (o6, .inl (cI, 12, .inl fw7)), (o3, .inl (cI, 5, .inl fw4))]) H := hP
    have hD : va_D A ([(o1, .inr (12, [.int v2, .ref o3, .int v5, .ref o6, .int v8, .ref o9, .ref o11, .int v13, .ref o14, .int v16, .ref o17, .int v19, .int v20, .int v21, .ref o22, .ref o24, .ref o26, .ref o28, .ref o30, .int v32, .ref o33, .ref o35, .ref o37, .int v39, .ref o40, .ref o42, .ref o44, .int v46, .ref o47])), (o6, .inl (cI, 12, .inl fw7)), (o3, .inl (cI, 5, .inl fw4))]) := hD
    refine lv_if_ne (tgt := 19) hx hb dX12_degree_14 (by decide) (fun h12 => ?_) (fun h12 => ?_)
    ·
      have j13 : Iv 1 1 x9 := r_nelo h12 x9_h ik_0 (by decide)
      have j14 : Iv 0 3 a2 := i10 h12
      refine lv_aload_n hx hb dX12_degree_19 rfl (lv_at hl 0 rfl) ?_
      refine lv_iload_n hx hb dX12_degree_20 rfl (lv_at hl 1 rfl) ?_
      refine kc_i (D := (dC, dI)) (S := Unit) (wc := [(o1, .inr (12, [.int v2, .ref o3, .int v5, .ref o6, .int v8, .ref o9, .ref o11, .int v13, .ref o14, .int v16, .ref o17, .int v19, .int v20, .int v21, .ref o22, .ref o24, .ref o26, .ref o28, .ref o30, .int v32, .ref o33, .ref o35, .ref o37, .int v39, .ref o40, .ref o42, .ref o44, .int v46, .ref o47])), (o6, .inl (cI, 12, .inl fw7))]) (wr := [(o3, .inl (cI, 5, .inl fw4))]) (w1 := fun _ => [(o1, .inr (12, [.int v2, .ref o3, .int v5, .ref o6, .int v8, .ref o9, .ref o11, .int v13, .ref o14, .int v16, .ref o17, .int v19, .int v20, .int v21, .ref o22, .ref o24, .ref o26, .ref o28, .ref o30, .int v32, .ref o33, .ref o35, .ref o37, .int v39, .ref o40, .ref o42, .ref o44, .int v46, .ref o47])), (o6, .inl (cI, 12, .inl fw7))]) (wn := fun _ => [(o1, .inr (12, [.int v2, .ref o3, .int v5, .ref o6, .int v8, .ref o9, .ref o11, .int v13, .ref o14, .int v16, .ref o17, .int v19, .int v20, .int v21, .ref o22, .ref o24, .ref o26, .ref o28, .ref o30, .int v32, .ref o33, .ref o35, .ref o37, .int v39, .ref o40, .ref o42, .ref o44, .int v46, .ref o47])), (o6, .inl (cI, 12, .inl fw7)), (o3, .inl (cI, 5, .inl fw4))]) (fun hPc hDc => va_runV (As := [.int a1]) (rest := []) ⟨hx, hb, hml, hown, hts⟩ (kX12_kindOf_1 l dC dI cI c2 cZ o1 o3 o6 o9 o11 o14 o17 o22 o24 o26 o28 o30 o33 o35 o37 o40 o42 o44 o47 v2 v5 fw7 v8 v13 v16 v19 v20 v21 v32 v39 v46 a1 H.size v5_h fw7_b v8_h v13_h v16_h v19_h v32_h v39_h v46_h j7) (cwV 1 hts gX12_degree_X12_kindOf rfl rfl rfl (by decide +kernel) ⟨Nat.le_of_ble_eq_true rfl, Nat.le_of_ble_eq_true rfl⟩) (pre_V hPc hK hDc hN (ci := 12) (q0 := 0) rfl rfl) rfl rfl hl.1 rfl (lv_room (Nat.le_of_ble_eq_true rfl)) dX12_degree_21 ⟨Nat.le_of_ble_eq_true rfl, Nat.le_of_ble_eq_true rfl⟩) hP hD hS hA [0, 1] [2] [1, 2, 0] rfl rfl (by decide +kernel) (by decide +kernel) (by decide +kernel) (by decide +kernel) (fun _ => rfl) (fun x15 _ H locs hq hP hD hS => ?_)
      have x15_h := hq
      have hP : va_P (dC, dI) vwCl ([(o1, .inr (12, [.int v2, .ref o3, .int v5, .ref o6, .int v8, .ref o9, .ref o11, .int v13, .ref o14, .int v16, .ref o17, .int v19, .int v20, .int v21, .ref o22, .ref o24, .ref o26, .ref o28, .ref o30, .int v32, .ref o33, .ref o35, .ref o37, .int v39, .ref o40, .ref o42, .ref o44, .int v46, .ref o47])), (o6, .inl (cI, 12, .inl fw7)), (o3, .inl (cI, 5, .inl fw4))]) H := hP
      have hD : va_D A ([(o1, .inr (12, [.int v2, .ref o3, .int v5, .ref o6, .int v8, .ref o9, .ref o11, .int v13, .ref o14, .int v16, .ref o17, .int v19, .int v20, .int v21, .ref o22, .ref o24, .ref o26, .ref o28, .ref o30, .int v32, .ref o33, .ref o35, .ref o37, .int v39, .ref o40, .ref o42, .ref o44, .int v46, .ref o47])), (o6, .inl (cI, 12, .inl fw7)), (o3, .inl (cI, 5, .inl fw4))]) := hD
      refine lv_istore_n (lv' := [(3, .int x15), (0, .ref o1), (1, .int a1), (2, .int a2)]) hx hb dX12_degree_24 rfl hl (by decide) rfl (fun ls hl => ?_)
      refine lv_iload_n hx hb dX12_degree_25 rfl (lv_at hl 3 rfl) ?_
      refine lv_if_eq (tgt := 44) hx hb dX12_degree_26 (by decide) (fun h16 => ?_) (fun h16 => ?_)
      ·
        have j17 : Iv 0 0 a2 := r_eq h16 ik_0
        refine lv_aload_n hx hb dX12_degree_44 rfl (lv_at hl 1 rfl) ?_
        refine va_get (D := (dC, dI)) (ci := 12) (v := .ref o6) (C := RX12) (T := TX12) (N := 29) hx hb hts iw_X12_degree_X12 hown hK hP 0 rfl rfl 3 (by decide) (hts (.fieldLink RX12 13 "HolelessHouseModel" "near" "[I") hm_X12_degree_1) (fun _ h9 => h9) rfl dX12_degree_45 ?_
        refine lv_iload_n hx hb dX12_degree_48 rfl (lv_at hl 2 rfl) ?_
        refine va_iald hx hb hK hP 1 0 rfl rfl (vin_iv j7 (by decide)) dX12_degree_49 (lv_topi (fun x18 x18_e => ?_))
        have x18_h : Iv 0 4095 x18 := iv_e x18_e (bd_at fw7_b (vin_iv j7 (by decide)))
        refine kc_i (D := (dC, dI)) (S := Unit) (wc := []) (wr := [(o1, .inr (12, [.int v2, .ref o3, .int v5, .ref o6, .int v8, .ref o9, .ref o11, .int v13, .ref o14, .int v16, .ref o17, .int v19, .int v20, .int v21, .ref o22, .ref o24, .ref o26, .ref o28, .ref o30, .int v32, .ref o33, .ref o35, .ref o37, .int v39, .ref o40, .ref o42, .ref o44, .int v46, .ref o47])), (o6, .inl (cI, 12, .inl fw7)), (o3, .inl (cI, 5, .inl fw4))]) (w1 := fun _ => []) (wn := fun _ => [(o1, .inr (12, [.int v2, .ref o3, .int v5, .ref o6, .int v8, .ref o9, .ref o11, .int v13, .ref o14, .int v16, .ref o17, .int v19, .int v20, .int v21, .ref o22, .ref o24, .ref o26, .ref o28, .ref o30, .int v32, .ref o33, .ref o35, .ref o37, .int v39, .ref o40, .ref o42, .ref o44, .int v46, .ref o47])), (o6, .inl (cI, 12, .inl fw7)), (o3, .inl (cI, 5, .inl fw4))]) (fun hPc hDc => va_runS (As := [.int x18]) (rest := []) ⟨hx, hb, hml, hown, hts⟩ (kX12_bits_1 l dC dI cI c2 cZ x18 H.size) (va_cwS 1 hts gX12_degree_X12_bits rfl rfl rfl (by decide +kernel) ⟨Nat.le_of_ble_eq_true rfl, Nat.le_of_ble_eq_true rfl⟩) (pre_S hPc hK hDc hN) rfl rfl hl.1 rfl (lv_room (Nat.le_of_ble_eq_true rfl)) dX12_degree_50 ⟨Nat.le_of_ble_eq_true rfl, Nat.le_of_ble_eq_true rfl⟩) hP hD hS hA [] [0, 1, 2] [0, 1, 2] rfl rfl (by decide +kernel) (by decide +kernel) (by decide +kernel) (by decide +kernel) (fun _ => rfl) (fun x19 _ H locs hq hP hD hS => ?_)
        obtain ⟨x19_h, e20⟩ := hq
        have hP : va_P (dC, dI) vwCl ([(o1, .inr (12, [.int v2, .ref o3, .int v5, .ref o6, .int v8, .ref o9, .ref o11, .int v13, .ref o14, .int v16, .ref o17, .int v19, .int v20, .int v21, .ref o22, .ref o24, .ref o26, .ref o28, .ref o30, .int v32, .ref o33, .ref o35, .ref o37, .int v39, .ref o40, .ref o42, .ref o44, .int v46, .ref o47])), (o6, .inl (cI, 12, .inl fw7)), (o3, .inl (cI, 5, .inl fw4))]) H := hP
        have hD : va_D A ([(o1, .inr (12, [.int v2, .ref o3, .int v5, .ref o6, .int v8, .ref o9, .ref o11, .int v13, .ref o14, .int v16, .ref o17, .int v19, .int v20, .int v21, .ref o22, .ref o24, .ref o26, .ref o28, .ref o30, .int v32, .ref o33, .ref o35, .ref o37, .int v39, .ref o40, .ref o42, .ref o44, .int v46, .ref o47])), (o6, .inl (cI, 12, .inl fw7)), (o3, .inl (cI, 5, .inl fw4))]) := hD
        refine lv_goto (tgt := 61) hx hb dX12_degree_53 (by decide) ?_
        rw [hQ]
        exact W.iret (v := x19) hx hb hr (fun t ht hW => ⟨⟨x19, (v2, fw4), rfl, (iv_w x19_h (by decide)), by rw [ht]; exact hP, va_K.moved hW.alike hK, hD⟩, hS.F ht⟩) hS.2.2 dX12_degree_61
      ·
        have j21 : Iv 1 3 a2 := r_nelo h16 j14 ik_0 (by decide)
        refine lv_iload_n hx hb dX12_degree_29 rfl (lv_at hl 3 rfl) ?_
        refine lv_iload_n hx hb dX12_degree_30 rfl (lv_at hl 0 rfl) ?_
        refine lv_icmp_eq (tgt := 44) hx hb dX12_degree_31 (by decide) (fun h22 => ?_) (fun h22 => ?_)
        ·
          have j23 : Iv 1 3 x15 := r_eq h22.symm j21
          refine lv_aload_n hx hb dX12_degree_44 rfl (lv_at hl 1 rfl) ?_
          refine va_get (D := (dC, dI)) (ci := 12) (v := .ref o6) (C := RX12) (T := TX12) (N := 29) hx hb hts iw_X12_degree_X12 hown hK hP 0 rfl rfl 3 (by decide) (hts (.fieldLink RX12 13 "HolelessHouseModel" "near" "[I") hm_X12_degree_1) (fun _ h9 => h9) rfl dX12_degree_45 ?_
          refine lv_iload_n hx hb dX12_degree_48 rfl (lv_at hl 2 rfl) ?_
          refine va_iald hx hb hK hP 1 0 rfl rfl (vin_iv j7 (by decide)) dX12_degree_49 (lv_topi (fun x24 x24_e => ?_))
          have x24_h : Iv 0 4095 x24 := iv_e x24_e (bd_at fw7_b (vin_iv j7 (by decide)))
          refine kc_i (D := (dC, dI)) (S := Unit) (wc := []) (wr := [(o1, .inr (12, [.int v2, .ref o3, .int v5, .ref o6, .int v8, .ref o9, .ref o11, .int v13, .ref o14, .int v16, .ref o17, .int v19, .int v20, .int v21, .ref o22, .ref o24, .ref o26, .ref o28, .ref o30, .int v32, .ref o33, .ref o35, .ref o37, .int v39, .ref o40, .ref o42, .ref o44, .int v46, .ref o47])), (o6, .inl (cI, 12, .inl fw7)), (o3, .inl (cI, 5, .inl fw4))]) (w1 := fun _ => []) (wn := fun _ => [(o1, .inr (12, [.int v2, .ref o3, .int v5, .ref o6, .int v8, .ref o9, .ref o11, .int v13, .ref o14, .int v16, .ref o17, .int v19, .int v20, .int v21, .ref o22, .ref o24, .ref o26, .ref o28, .ref o30, .int v32, .ref o33, .ref o35, .ref o37, .int v39, .ref o40, .ref o42, .ref o44, .int v46, .ref o47])), (o6, .inl (cI, 12, .inl fw7)), (o3, .inl (cI, 5, .inl fw4))]) (fun hPc hDc => va_runS (As := [.int x24]) (rest := []) ⟨hx, hb, hml, hown, hts⟩ (kX12_bits_1 l dC dI cI c2 cZ x24 H.size) (va_cwS 1 hts gX12_degree_X12_bits rfl rfl rfl (by decide +kernel) ⟨Nat.le_of_ble_eq_true rfl, Nat.le_of_ble_eq_true rfl⟩) (pre_S hPc hK hDc hN) rfl rfl hl.1 rfl (lv_room (Nat.le_of_ble_eq_true rfl)) dX12_degree_50 ⟨Nat.le_of_ble_eq_true rfl, Nat.le_of_ble_eq_true rfl⟩) hP hD hS hA [] [0, 1, 2] [0, 1, 2] rfl rfl (by decide +kernel) (by decide +kernel) (by decide +kernel) (by decide +kernel) (fun _ => rfl) (fun x25 _ H locs hq hP hD hS => ?_)
          obtain ⟨x25_h, e26⟩ := hq
          have hP : va_P (dC, dI) vwCl ([(o1, .inr (12, [.int v2, .ref o3, .int v5, .ref o6, .int v8, .ref o9, .ref o11, .int v13, .ref o14, .int v16, .ref o17, .int v19, .int v20, .int v21, .ref o22, .ref o24, .ref o26, .ref o28, .ref o30, .int v32, .ref o33, .ref o35, .ref o37, .int v39, .ref o40, .ref o42, .ref o44, .int v46, .ref o47])), (o6, .inl (cI, 12, .inl fw7)), (o3, .inl (cI, 5, .inl fw4))]) H := hP
          have hD : va_D A ([(o1, .inr (12, [.int v2, .ref o3, .int v5, .ref o6, .int v8, .ref o9, .ref o11, .int v13, .ref o14, .int v16, .ref o17, .int v19, .int v20, .int v21, .ref o22, .ref o24, .ref o26, .ref o28, .ref o30, .int v32, .ref o33, .ref o35, .ref o37, .int v39, .ref o40, .ref o42, .ref o44, .int v46, .ref o47])), (o6, .inl (cI, 12, .inl fw7)), (o3, .inl (cI, 5, .inl fw4))]) := hD
          refine lv_goto (tgt := 61) hx hb dX12_degree_53 (by decide) ?_
          rw [hQ]
          exact W.iret (v := x25) hx hb hr (fun t ht hW => ⟨⟨x25, (v2, fw4), rfl, (iv_w x25_h (by decide)), by rw [ht]; exact hP, va_K.moved hW.alike hK, hD⟩, hS.F ht⟩) hS.2.2 dX12_degree_61
        ·
          refine lv_iload_n hx hb dX12_degree_34 rfl (lv_at hl 3 rfl) ?_
          refine lv_iconst (v := 1) hx hb dX12_degree_35 (by decide) ?_
          refine lv_icmp_ne (tgt := 56) hx hb dX12_degree_36 (by decide) (fun h27 => ?_) (fun h27 => ?_)
          ·
            have j28 : Iv 2 3 a2 := r_nelo h27 j21 ik_1 (by decide)
            refine lv_aload_n hx hb dX12_degree_56 rfl (lv_at hl 1 rfl) ?_
            refine lv_iconst (v := 3) hx hb dX12_degree_57 (by decide) ?_
            refine kc_i (D := (dC, dI)) (S := Int32 × (Nat → Int32)) (wc := [(o1, .inr (12, [.int v2, .ref o3, .int v5, .ref o6, .int v8, .ref o9, .ref o11, .int v13, .ref o14, .int v16, .ref o17, .int v19, .int v20, .int v21, .ref o22, .ref o24, .ref o26, .ref o28, .ref o30, .int v32, .ref o33, .ref o35, .ref o37, .int v39, .ref o40, .ref o42, .ref o44, .int v46, .ref o47])), (o3, .inl (cI, 5, .inl fw4))]) (wr := [(o6, .inl (cI, 12, .inl fw7))]) (w1 := fun u => [(o1, .inr (12, [.int u.1, .ref o3, .int v5, .ref o6, .int v8, .ref o9, .ref o11, .int v13, .ref o14, .int v16, .ref o17, .int v19, .int v20, .int v21, .ref o22, .ref o24, .ref o26, .ref o28, .ref o30, .int v32, .ref o33, .ref o35, .ref o37, .int v39, .ref o40, .ref o42, .ref o44, .int v46, .ref o47])), (o3, .inl (cI, 5, .inl u.2))]) (wn := fun u => [(o1, .inr (12, [.int u.1, .ref o3, .int v5, .ref o6, .int v8, .ref o9, .ref o11, .int v13, .ref o14, .int v16, .ref o17, .int v19, .int v20, .int v21, .ref o22, .ref o24, .ref o26, .ref o28, .ref o30, .int v32, .ref o33, .ref o35, .ref o37, .int v39, .ref o40, .ref o42, .ref o44, .int v46, .ref o47])), (o6, .inl (cI, 12, .inl fw7)), (o3, .inl (cI, 5, .inl u.2))]) (fun hPc hDc => va_runV (As := [.int 3]) (rest := []) ⟨hx, hb, hml, hown, hts⟩ (kX12_meets_1 l dC dI cI c2 cZ o1 o3 o6 o9 o11 o14 o17 o22 o24 o26 o28 o30 o33 o35 o37 o40 o42 o44 o47 v2 fw4 v5 v8 v13 v16 v19 v20 v21 v32 v39 v46 3 H.size v5_h v8_h v13_h v16_h v19_h v32_h v39_h v46_h ik_3) (cwV 1 hts gX12_degree_X12_meets rfl rfl rfl (by decide +kernel) ⟨Nat.le_of_ble_eq_true rfl, Nat.le_of_ble_eq_true rfl⟩) (pre_V hPc hK hDc hN (ci := 12) (q0 := 0) rfl rfl) rfl rfl hl.1 rfl (lv_room (Nat.le_of_ble_eq_true rfl)) dX12_degree_58 ⟨Nat.le_of_ble_eq_true rfl, Nat.le_of_ble_eq_true rfl⟩) hP hD hS hA [0, 2] [1] [1, 0, 2] rfl rfl (by decide +kernel) (by decide +kernel) (by decide +kernel) (by decide +kernel) (fun _ => rfl) (fun x31 u H locs hq hP hD hS => ?_)
            obtain ⟨y29, f30⟩ := u
            have x31_h := hq
            have x31_h : Iv (-3) (-3) x31 := x31_h
            have hP : va_P (dC, dI) vwCl ([(o1, .inr (12, [.int y29, .ref o3, .int v5, .ref o6, .int v8, .ref o9, .ref o11, .int v13, .ref o14, .int v16, .ref o17, .int v19, .int v20, .int v21, .ref o22, .ref o24, .ref o26, .ref o28, .ref o30, .int v32, .ref o33, .ref o35, .ref o37, .int v39, .ref o40, .ref o42, .ref o44, .int v46, .ref o47])), (o6, .inl (cI, 12, .inl fw7)), (o3, .inl (cI, 5, .inl f30))]) H := hP
            have hD : va_D A ([(o1, .inr (12, [.int y29, .ref o3, .int v5, .ref o6, .int v8, .ref o9, .ref o11, .int v13, .ref o14, .int v16, .ref o17, .int v19, .int v20, .int v21, .ref o22, .ref o24, .ref o26, .ref o28, .ref o30, .int v32, .ref o33, .ref o35, .ref o37, .int v39, .ref o40, .ref o42, .ref o44, .int v46, .ref o47])), (o6, .inl (cI, 12, .inl fw7)), (o3, .inl (cI, 5, .inl f30))]) := hD
            rw [hQ]
            exact W.iret (v := x31) hx hb hr (fun t ht hW => ⟨⟨x31, (y29, f30), rfl, (iv_w x31_h (by decide)), by rw [ht]; exact hP, va_K.moved hW.alike hK, hD⟩, hS.F ht⟩) hS.2.2 dX12_degree_61
          ·
            have j32 : Iv 1 1 a2 := r_eq h27 ik_1
            refine lv_iload_n hx hb dX12_degree_39 rfl (lv_at hl 0 rfl) ?_
            refine lv_iconst (v := 2) hx hb dX12_degree_40 (by decide) ?_
            refine lv_icmp_ne (tgt := 56) hx hb dX12_degree_41 (by decide) (fun h33 => ?_) (fun h33 => ?_)
            ·
              refine lv_aload_n hx hb dX12_degree_56 rfl (lv_at hl 1 rfl) ?_
              refine lv_iconst (v := 3) hx hb dX12_degree_57 (by decide) ?_
              refine kc_i (D := (dC, dI)) (S := Int32 × (Nat → Int32)) (wc := [(o1, .inr (12, [.int v2, .ref o3, .int v5, .ref o6, .int v8, .ref o9, .ref o11, .int v13, .ref o14, .int v16, .ref o17, .int v19, .int v20, .int v21, .ref o22, .ref o24, .ref o26, .ref o28, .ref o30, .int v32, .ref o33, .ref o35, .ref o37, .int v39, .ref o40, .ref o42, .ref o44, .int v46, .ref o47])), (o3, .inl (cI, 5, .inl fw4))]) (wr := [(o6, .inl (cI, 12, .inl fw7))]) (w1 := fun u => [(o1, .inr (12, [.int u.1, .ref o3, .int v5, .ref o6, .int v8, .ref o9, .ref o11, .int v13, .ref o14, .int v16, .ref o17, .int v19, .int v20, .int v21, .ref o22, .ref o24, .ref o26, .ref o28, .ref o30, .int v32, .ref o33, .ref o35, .ref o37, .int v39, .ref o40, .ref o42, .ref o44, .int v46, .ref o47])), (o3, .inl (cI, 5, .inl u.2))]) (wn := fun u => [(o1, .inr (12, [.int u.1, .ref o3, .int v5, .ref o6, .int v8, .ref o9, .ref o11, .int v13, .ref o14, .int v16, .ref o17, .int v19, .int v20, .int v21, .ref o22, .ref o24, .ref o26, .ref o28, .ref o30, .int v32, .ref o33, .ref o35, .ref o37, .int v39, .ref o40, .ref o42, .ref o44, .int v46, .ref o47])), (o6, .inl (cI, 12, .inl fw7)), (o3, .inl (cI, 5, .inl u.2))]) (fun hPc hDc => va_runV (As := [.int 3]) (rest := []) ⟨hx, hb, hml, hown, hts⟩ (kX12_meets_1 l dC dI cI c2 cZ o1 o3 o6 o9 o11 o14 o17 o22 o24 o26 o28 o30 o33 o35 o37 o40 o42 o44 o47 v2 fw4 v5 v8 v13 v16 v19 v20 v21 v32 v39 v46 3 H.size v5_h v8_h v13_h v16_h v19_h v32_h v39_h v46_h ik_3) (cwV 1 hts gX12_degree_X12_meets rfl rfl rfl (by decide +kernel) ⟨Nat.le_of_ble_eq_true rfl, Nat.le_of_ble_eq_true rfl⟩) (pre_V hPc hK hDc hN (ci := 12) (q0 := 0) rfl rfl) rfl rfl hl.1 rfl (lv_room (Nat.le_of_ble_eq_true rfl)) dX12_degree_58 ⟨Nat.le_of_ble_eq_true rfl, Nat.le_of_ble_eq_true rfl⟩) hP hD hS hA [0, 2] [1] [1, 0, 2] rfl rfl (by decide +kernel) (by decide +kernel) (by decide +kernel) (by decide +kernel) (fun _ => rfl) (fun x36 u H locs hq hP hD hS => ?_)
              obtain ⟨y34, f35⟩ := u
              have x36_h := hq
              have x36_h : Iv (-3) (-3) x36 := x36_h
              have hP : va_P (dC, dI) vwCl ([(o1, .inr (12, [.int y34, .ref o3, .int v5, .ref o6, .int v8, .ref o9, .ref o11, .int v13, .ref o14, .int v16, .ref o17, .int v19, .int v20, .int v21, .ref o22, .ref o24, .ref o26, .ref o28, .ref o30, .int v32, .ref o33, .ref o35, .ref o37, .int v39, .ref o40, .ref o42, .ref o44, .int v46, .ref o47])), (o6, .inl (cI, 12, .inl fw7)), (o3, .inl (cI, 5, .inl f35))]) H := hP
              have hD : va_D A ([(o1, .inr (12, [.int y34, .ref o3, .int v5, .ref o6, .int v8, .ref o9, .ref o11, .int v13, .ref o14, .int v16, .ref o17, .int v19, .int v20, .int v21, .ref o22, .ref o24, .ref o26, .ref o28, .ref o30, .int v32, .ref o33, .ref o35, .ref o37, .int v39, .ref o40, .ref o42, .ref o44, .int v46, .ref o47])), (o6, .inl (cI, 12, .inl fw7)), (o3, .inl (cI, 5, .inl f35))]) := hD
              rw [hQ]
              exact W.iret (v := x36) hx hb hr (fun t ht hW => ⟨⟨x36, (y34, f35), rfl, (iv_w x36_h (by decide)), by rw [ht]; exact hP, va_K.moved hW.alike hK, hD⟩, hS.F ht⟩) hS.2.2 dX12_degree_61
            ·
              have j37 : Iv 2 2 x15 := r_eq h33 ik_2
              refine lv_aload_n hx hb dX12_degree_44 rfl (lv_at hl 1 rfl) ?_
              refine va_get (D := (dC, dI)) (ci := 12) (v := .ref o6) (C := RX12) (T := TX12) (N := 29) hx hb hts iw_X12_degree_X12 hown hK hP 0 rfl rfl 3 (by decide) (hts (.fieldLink RX12 13 "HolelessHouseModel" "near" "[I") hm_X12_degree_1) (fun _ h9 => h9) rfl dX12_degree_45 ?_
              refine lv_iload_n hx hb dX12_degree_48 rfl (lv_at hl 2 rfl) ?_
              refine va_iald hx hb hK hP 1 0 rfl rfl (vin_iv j7 (by decide)) dX12_degree_49 (lv_topi (fun x38 x38_e => ?_))
              have x38_h : Iv 0 4095 x38 := iv_e x38_e (bd_at fw7_b (vin_iv j7 (by decide)))
              refine kc_i (D := (dC, dI)) (S := Unit) (wc := []) (wr := [(o1, .inr (12, [.int v2, .ref o3, .int v5, .ref o6, .int v8, .ref o9, .ref o11, .int v13, .ref o14, .int v16, .ref o17, .int v19, .int v20, .int v21, .ref o22, .ref o24, .ref o26, .ref o28, .ref o30, .int v32, .ref o33, .ref o35, .ref o37, .int v39, .ref o40, .ref o42, .ref o44, .int v46, .ref o47])), (o6, .inl (cI, 12, .inl fw7)), (o3, .inl (cI, 5, .inl fw4))]) (w1 := fun _ => []) (wn := fun _ => [(o1, .inr (12, [.int v2, .ref o3, .int v5, .ref o6, .int v8, .ref o9, .ref o11, .int v13, .ref o14, .int v16, .ref o17, .int v19, .int v20, .int v21, .ref o22, .ref o24, .ref o26, .ref o28, .ref o30, .int v32, .ref o33, .ref o35, .ref o37, .int v39, .ref o40, .ref o42, .ref o44, .int v46, .ref o47])), (o6, .inl (cI, 12, .inl fw7)), (o3, .inl (cI, 5, .inl fw4))]) (fun hPc hDc => va_runS (As := [.int x38]) (rest := []) ⟨hx, hb, hml, hown, hts⟩ (kX12_bits_1 l dC dI cI c2 cZ x38 H.size) (va_cwS 1 hts gX12_degree_X12_bits rfl rfl rfl (by decide +kernel) ⟨Nat.le_of_ble_eq_true rfl, Nat.le_of_ble_eq_true rfl⟩) (pre_S hPc hK hDc hN) rfl rfl hl.1 rfl (lv_room (Nat.le_of_ble_eq_true rfl)) dX12_degree_50 ⟨Nat.le_of_ble_eq_true rfl, Nat.le_of_ble_eq_true rfl⟩) hP hD hS hA [] [0, 1, 2] [0, 1, 2] rfl rfl (by decide +kernel) (by decide +kernel) (by decide +kernel) (by decide +kernel) (fun _ => rfl) (fun x39 _ H locs hq hP hD hS => ?_)
              obtain ⟨x39_h, e40⟩ := hq
              have hP : va_P (dC, dI) vwCl ([(o1, .inr (12, [.int v2, .ref o3, .int v5, .ref o6, .int v8, .ref o9, .ref o11, .int v13, .ref o14, .int v16, .ref o17, .int v19, .int v20, .int v21, .ref o22, .ref o24, .ref o26, .ref o28, .ref o30, .int v32, .ref o33, .ref o35, .ref o37, .int v39, .ref o40, .ref o42, .ref o44, .int v46, .ref o47])), (o6, .inl (cI, 12, .inl fw7)), (o3, .inl (cI, 5, .inl fw4))]) H := hP
              have hD : va_D A ([(o1, .inr (12, [.int v2, .ref o3, .int v5, .ref o6, .int v8, .ref o9, .ref o11, .int v13, .ref o14, .int v16, .ref o17, .int v19, .int v20, .int v21, .ref o22, .ref o24, .ref o26, .ref o28, .ref o30, .int v32, .ref o33, .ref o35, .ref o37, .int v39, .ref o40, .ref o42, .ref o44, .int v46, .ref o47])), (o6, .inl (cI, 12, .inl fw7)), (o3, .inl (cI, 5, .inl fw4))]) := hD
              refine lv_goto (tgt := 61) hx hb dX12_degree_53 (by decide) ?_
              rw [hQ]
              exact W.iret (v := x39) hx hb hr (fun t ht hW => ⟨⟨x39, (v2, fw4), rfl, (iv_w x39_h (by decide)), by rw [ht]; exact hP, va_K.moved hW.alike hK, hD⟩, hS.F ht⟩) hS.2.2 dX12_degree_61
    ·
      have j41 : Iv 0 0 x9 := r_eq h12 ik_0
      refine lv_iconst (v := (-1)) hx hb dX12_degree_17 (by decide) ?_
      rw [hQ]
      exact W.iret (v := (-1)) hx hb hr (fun t ht hW => ⟨⟨(-1), (v2, fw4), rfl, (iv_w ikm_1 (by decide)), by rw [ht]; exact hP, va_K.moved hW.alike hK, hD⟩, hS.F ht⟩) hS.2.2 dX12_degree_18
theorem iw_X12_isSound_X12 : ∀ w ∈ wsX120, w ∈ wsX12_isSound := fun _ h => List.mem_cons.mpr (Or.inr (List.mem_append.mpr (Or.inr h)))
set_option maxHeartbeats 4000000 in
set_option maxRecDepth 100000 in
theorem kX12_isSound_1 (l : Launch) (dC : Nat → ClassId) (dI : Nat → Nat → Nat) (cI c2 cZ : ClassId) (o1 : Nat) (o3 : Nat) (o6 : Nat) (o9 : Nat) (o11 : Nat) (o14 : Nat) (o17 : Nat) (o22 : Nat) (o24 : Nat) (o26 : Nat) (o28 : Nat) (o30 : Nat) (o33 : Nat) (o35 : Nat) (o37 : Nat) (o40 : Nat) (o42 : Nat) (o44 : Nat) (o47 : Nat) (v2 : Int32) (v5 : Int32) (fw7 : Nat → Int32) (v8 : Int32) (v13 : Int32) (v16 : Int32) (v19 : Int32) (v20 : Int32) (v21 : Int32) (v32 : Int32) (v39 : Int32) (v46 : Int32) (sz : Nat) (v5_h : Iv 0 12 v5) (fw7_b : Bd 12 0 4095 fw7) (v8_h : Iv 0 8 v8) (v13_h : Iv 0 12 v13) (v16_h : Iv 0 12 v16) (v19_h : Iv (-9) 12 v19) (v32_h : Iv 0 99 v32) (v39_h : Iv 0 12 v39) (v46_h : Iv 0 12 v46) : Met l yX12_isSound wsX12_isSound ({ frames := 2, cells := 0, slots := 0, locals := 44 }) (va_Pc [.ref o1] (wPre (dC, dI) [(cI, .int), (c2, .array .int), (cZ, .boolean)] ([(o1, .inr (12, [.int v2, .ref o3, .int v5, .ref o6, .int v8, .ref o9, .ref o11, .int v13, .ref o14, .int v16, .ref o17, .int v19, .int v20, .int v21, .ref o22, .ref o24, .ref o26, .ref o28, .ref o30, .int v32, .ref o33, .ref o35, .ref o37, .int v39, .ref o40, .ref o42, .ref o44, .int v46, .ref o47])), (o6, .inl (cI, 12, .inl fw7))]) sz)) (va_Qi (fun (r : Int32) (_ : Unit) => Iv 0 1 r ∧ (¬ r = 0 → SN fw7 (Int32.toNatClampNeg v5))) (fun _ t => wPost (dC, dI) [(cI, .int), (c2, .array .int), (cZ, .boolean)] (va_A ([(o1, .inr (12, [.int v2, .ref o3, .int v5, .ref o6, .int v8, .ref o9, .ref o11, .int v13, .ref o14, .int v16, .ref o17, .int v19, .int v20, .int v21, .ref o22, .ref o24, .ref o26, .ref o28, .ref o30, .int v32, .ref o33, .ref o35, .ref o37, .int v39, .ref o40, .ref o42, .ref o44, .int v46, .ref o47])), (o6, .inl (cI, 12, .inl fw7))]) sz) ([(o1, .inr (12, [.int v2, .ref o3, .int v5, .ref o6, .int v8, .ref o9, .ref o11, .int v13, .ref o14, .int v16, .ref o17, .int v19, .int v20, .int v21, .ref o22, .ref o24, .ref o26, .ref o28, .ref o30, .int v32, .ref o33, .ref o35, .ref o37, .int v39, .ref o40, .ref o42, .ref o44, .int v46, .ref o47])), (o6, .inl (cI, 12, .inl fw7))]) t) (va_A ([(o1, .inr (12, [.int v2, .ref o3, .int v5, .ref o6, .int v8, .ref o9, .ref o11, .int v13, .ref o14, .int v16, .ref o17, .int v19, .int v20, .int v21, .ref o22, .ref o24, .ref o26, .ref o28, .ref o30, .int v32, .ref o33, .ref o35, .ref o37, .int v39, .ref o40, .ref o42, .ref o44, .int v46, .ref o47])), (o6, .inl (cI, 12, .inl fw7))]) sz)) 0 0 (va_A ([(o1, .inr (12, [.int v2, .ref o3, .int v5, .ref o6, .int v8, .ref o9, .ref o11, .int v13, .ref o14, .int v16, .ref o17, .int v19, .int v20, .int v21, .ref o22, .ref o24, .ref o26, .ref o28, .ref o30, .int v32, .ref o33, .ref o35, .ref o37, .int v39, .ref o40, .ref o42, .ref o44, .int v46, .ref o47])), (o6, .inl (cI, 12, .inl fw7))]) sz) := by
  refine Met.ofW (cc := cX12_isSound) (maxL := 4) (ret := (some .boolean)) (by decide) rfl ?_
  intro p e s m args below meth c s₁ B hml hv
  obtain ⟨rfl, hsz, hP, hK, hD0, hN⟩ := hv
  have hx := B.exec
  have hb := B.bytes
  have hr := B.returns
  have hts := atoms_spec (ws := wsX12_isSound) B.pre
  have hown : s.vm.findClass RX12 = some m.cls := findClass_of_methodNamed B.named
  have hlocks := B.notSynchronized
  subst hsz
  have hD := hD0.self (sz := s.heap.size)
  generalize hAe : va_A ([(o1, .inr (12, [.int v2, .ref o3, .int v5, .ref o6, .int v8, .ref o9, .ref o11, .int v13, .ref o14, .int v16, .ref o17, .int v19, .int v20, .int v21, .ref o22, .ref o24, .ref o26, .ref o28, .ref o30, .int v32, .ref o33, .ref o35, .ref o37, .int v39, .ref o40, .ref o42, .ref o44, .int v46, .ref o47])), (o6, .inl (cI, 12, .inl fw7))]) s.heap.size = A at hD ⊢
  have hA : ∀ q : Nat, s.heap.size ≤ q → A q := fun q h => by rw [← hAe]; exact Or.inr h
  have hS : va_S A s.heap s.heap [] := va_S.rf
  have hP : va_P (dC, dI) vwCl ([(o1, .inr (12, [.int v2, .ref o3, .int v5, .ref o6, .int v8, .ref o9, .ref o11, .int v13, .ref o14, .int v16, .ref o17, .int v19, .int v20, .int v21, .ref o22, .ref o24, .ref o26, .ref o28, .ref o30, .int v32, .ref o33, .ref o35, .ref o37, .int v39, .ref o40, .ref o42, .ref o44, .int v46, .ref o47])), (o6, .inl (cI, 12, .inl fw7))]) s.heap := hP
  have hl := lv_entry ([.ref o1]) (n := 4) (Nat.le_of_ble_eq_true rfl)
  rw [lg_entry_eq]
  generalize (lg_sl ([.ref o1]) ++ List.replicate (4 - (lg_sl ([.ref o1])).length) Slot.unset).toArray = ls at hl ⊢
  have hl : lv_has ls 4 [(0, .ref o1)] := hl
  refine gen_Q (fun Q hQ => ?_)
  refine lv_aload_n hx hb dX12_isSound_0 rfl (lv_at hl 0 rfl) ?_
  refine kc_i (D := (dC, dI)) (S := Unit) (wc := [(o1, .inr (12, [.int v2, .ref o3, .int v5, .ref o6, .int v8, .ref o9, .ref o11, .int v13, .ref o14, .int v16, .ref o17, .int v19, .int v20, .int v21, .ref o22, .ref o24, .ref o26, .ref o28, .ref o30, .int v32, .ref o33, .ref o35, .ref o37, .int v39, .ref o40, .ref o42, .ref o44, .int v46, .ref o47]))]) (wr := [(o6, .inl (cI, 12, .inl fw7))]) (w1 := fun _ => [(o1, .inr (12, [.int v2, .ref o3, .int v5, .ref o6, .int v8, .ref o9, .ref o11, .int v13, .ref o14, .int v16, .ref o17, .int v19, .int v20, .int v21, .ref o22, .ref o24, .ref o26, .ref o28, .ref o30, .int v32, .ref o33, .ref o35, .ref o37, .int v39, .ref o40, .ref o42, .ref o44, .int v46, .ref o47]))]) (wn := fun _ => [(o1, .inr (12, [.int v2, .ref o3, .int v5, .ref o6, .int v8, .ref o9, .ref o11, .int v13, .ref o14, .int v16, .ref o17, .int v19, .int v20, .int v21, .ref o22, .ref o24, .ref o26, .ref o28, .ref o30, .int v32, .ref o33, .ref o35, .ref o37, .int v39, .ref o40, .ref o42, .ref o44, .int v46, .ref o47])), (o6, .inl (cI, 12, .inl fw7))]) (fun hPc hDc => va_runV (As := []) (rest := []) ⟨hx, hb, hml, hown, hts⟩ (kX12_all_1 l dC dI cI c2 cZ o1 o3 o6 o9 o11 o14 o17 o22 o24 o26 o28 o30 o33 o35 o37 o40 o42 o44 o47 v2 v5 v8 v13 v16 v19 v20 v21 v32 v39 v46 s.heap.size v5_h v8_h v13_h v16_h v19_h v32_h v39_h v46_h) (cwV 0 hts gX12_isSound_X12_all rfl rfl rfl (by decide +kernel) ⟨Nat.le_of_ble_eq_true rfl, Nat.le_of_ble_eq_true rfl⟩) (pre_V hPc hK hDc hN (ci := 12) (q0 := 0) rfl rfl) rfl rfl hl.1 rfl (lv_room (Nat.le_of_ble_eq_true rfl)) dX12_isSound_1 ⟨Nat.le_of_ble_eq_true rfl, Nat.le_of_ble_eq_true rfl⟩) hP hD hS hA [0] [1] [1, 0] rfl rfl (by decide +kernel) (by decide +kernel) (by decide +kernel) (by decide +kernel) (fun _ => rfl) (fun x1 _ H locs hq hP hD hS => ?_)
  obtain ⟨x1_h, e2⟩ := hq
  have hP : va_P (dC, dI) vwCl ([(o1, .inr (12, [.int v2, .ref o3, .int v5, .ref o6, .int v8, .ref o9, .ref o11, .int v13, .ref o14, .int v16, .ref o17, .int v19, .int v20, .int v21, .ref o22, .ref o24, .ref o26, .ref o28, .ref o30, .int v32, .ref o33, .ref o35, .ref o37, .int v39, .ref o40, .ref o42, .ref o44, .int v46, .ref o47])), (o6, .inl (cI, 12, .inl fw7))]) H := hP
  have hD : va_D A ([(o1, .inr (12, [.int v2, .ref o3, .int v5, .ref o6, .int v8, .ref o9, .ref o11, .int v13, .ref o14, .int v16, .ref o17, .int v19, .int v20, .int v21, .ref o22, .ref o24, .ref o26, .ref o28, .ref o30, .int v32, .ref o33, .ref o35, .ref o37, .int v39, .ref o40, .ref o42, .ref o44, .int v46, .ref o47])), (o6, .inl (cI, 12, .inl fw7))]) := hD
  refine lv_istore_n (lv' := [(1, .int x1), (0, .ref o1)]) hx hb dX12_isSound_4 rfl hl (by decide) rfl (fun ls hl => ?_)
  refine lv_iconst (v := 1) hx hb dX12_isSound_5 (by decide) ?_
  refine lv_istore_n (lv' := [(2, .int 1), (1, .int x1), (0, .ref o1)]) hx hb dX12_isSound_6 rfl hl (by decide) rfl (fun ls hl => ?_)
  have L3 : ∀ (N : Nat) (x460 : Int32) (x461 : Int32) (H : Heap) (locs : List Loc) (ls : Array Slot), (2 * Int32.toInt x461 + Int32.toInt x460).toNat < N → Iv 0 1 x460 → Iv 0 4095 x461 → (Sd (ad fw7) (Int32.toNatClampNeg v5) (bt x461)) → va_P (dC, dI) vwCl ([(o1, .inr (12, [.int v2, .ref o3, .int v5, .ref o6, .int v8, .ref o9, .ref o11, .int v13, .ref o14, .int v16, .ref o17, .int v19, .int v20, .int v21, .ref o22, .ref o24, .ref o26, .ref o28, .ref o30, .int v32, .ref o33, .ref o35, .ref o37, .int v39, .ref o40, .ref o42, .ref o44, .int v46, .ref o47])), (o6, .inl (cI, 12, .inl fw7))]) H → va_D A ([(o1, .inr (12, [.int v2, .ref o3, .int v5, .ref o6, .int v8, .ref o9, .ref o11, .int v13, .ref o14, .int v16, .ref o17, .int v19, .int v20, .int v21, .ref o22, .ref o24, .ref o26, .ref o28, .ref o30, .int v32, .ref o33, .ref o35, .ref o37, .int v39, .ref o40, .ref o42, .ref o44, .int v46, .ref o47])), (o6, .inl (cI, 12, .inl fw7))]) → va_S A s.heap H locs → lv_has ls 4 [(2, .int x460), (1, .int x461), (0, .ref o1)] → W p l e ({ frames := 2, cells := 0, slots := 0, locals := 44 }) s m ([.ref o1] : List Value).toArray below meth c H locs 0 0 Q (F0 m 7 ls []) := by
    intro N
    induction N with
    | zero =>
      intro x460 x461 H locs ls hM
      exact absurd hM (Nat.not_lt_zero _)
    | succ N ih3 =>
      intro x460 x461 H locs ls hM3 x460_h x461_h iv3_0 hP hD hS hl
      refine lv_iload_n hx hb dX12_isSound_7 rfl (lv_at hl 0 rfl) ?_
      refine lv_if_eq (tgt := 65) hx hb dX12_isSound_8 (by decide) (fun h462 => ?_) (fun h462 => ?_)
      ·
        have j463 : Iv 0 0 x460 := r_eq h462 ik_0
        refine lv_iload_n hx hb dX12_isSound_65 rfl (lv_at hl 1 rfl) ?_
        refine lv_if_ne (tgt := 73) hx hb dX12_isSound_66 (by decide) (fun h464 => ?_) (fun h464 => ?_)
        ·
          have j465 : Iv 1 4095 x461 := r_nelo h464 x461_h ik_0 (by decide)
          refine lv_iconst (v := 0) hx hb dX12_isSound_73 (by decide) ?_
          rw [hQ]
          exact W.zret (v := 0) (ty := .boolean) hx hb hr rfl (fun t ht hW => ⟨⟨0, (), rfl, ⟨(iv_w ik_0 (by decide)), (fun h8 => absurd rfl h8)⟩, by rw [ht]; exact hP, va_K.moved hW.alike hK, hD⟩, hS.F ht⟩) hS.2.2 dX12_isSound_74
        ·
          have j466 : Iv 0 0 x461 := r_eq h464 ik_0
          refine lv_iconst (v := 1) hx hb dX12_isSound_69 (by decide) ?_
          refine lv_goto (tgt := 74) hx hb dX12_isSound_70 (by decide) ?_
          rw [hQ]
          exact W.zret (v := 1) (ty := .boolean) hx hb hr rfl (fun t ht hW => ⟨⟨1, (), rfl, ⟨(iv_w ik_1 (by decide)), (fun _ => sd_z iv3_0 h464)⟩, by rw [ht]; exact hP, va_K.moved hW.alike hK, hD⟩, hS.F ht⟩) hS.2.2 dX12_isSound_74
      ·
        have j467 : Iv 1 1 x460 := r_nelo h462 x460_h ik_0 (by decide)
        refine lv_iconst (v := 0) hx hb dX12_isSound_11 (by decide) ?_
        refine lv_istore_n (lv' := [(2, .int 0), (1, .int x461), (0, .ref o1)]) hx hb dX12_isSound_12 rfl hl (by decide) rfl (fun ls hl => ?_)
        refine lv_iconst (v := 0) hx hb dX12_isSound_13 (by decide) ?_
        refine lv_istore_n (lv' := [(3, .int 0), (2, .int 0), (1, .int x461), (0, .ref o1)]) hx hb dX12_isSound_14 rfl hl (by decide) rfl (fun ls hl => ?_)
        have L4 : ∀ (N : Nat) (x668 : Int32) (x669 : Int32) (x670 : Int32) (H : Heap) (locs : List Loc) (ls : Array Slot), (12 - x668.toInt).toNat < N → Iv 0 12 x668 → Iv 0 1 x669 → Iv 0 4095 x670 → (Sd (ad fw7) (Int32.toNatClampNeg v5) (bt x670)) → (2 * Int32.toInt x670 + Int32.toInt x669 ≤ 2 * Int32.toInt x461) → va_P (dC, dI) vwCl ([(o1, .inr (12, [.int v2, .ref o3, .int v5, .ref o6, .int v8, .ref o9, .ref o11, .int v13, .ref o14, .int v16, .ref o17, .int v19, .int v20, .int v21, .ref o22, .ref o24, .ref o26, .ref o28, .ref o30, .int v32, .ref o33, .ref o35, .ref o37, .int v39, .ref o40, .ref o42, .ref o44, .int v46, .ref o47])), (o6, .inl (cI, 12, .inl fw7))]) H → va_D A ([(o1, .inr (12, [.int v2, .ref o3, .int v5, .ref o6, .int v8, .ref o9, .ref o11, .int v13, .ref o14, .int v16, .ref o17, .int v19, .int v20, .int v21, .ref o22, .ref o24, .ref o26, .ref o28, .ref o30, .int v32, .ref o33, .ref o35, .ref o37, .int v39, .ref o40, .ref o42, .ref o44, .int v46, .ref o47])), (o6, .inl (cI, 12, .inl fw7))]) → va_S A s.heap H locs → lv_has ls 4 [(3, .int x668), (2, .int x669), (1, .int x670), (0, .ref o1)] → W p l e ({ frames := 2, cells := 0, slots := 0, locals := 44 }) s m ([.ref o1] : List Value).toArray below meth c H locs 0 0 Q (F0 m 15 ls []) := by
          intro N
          induction N with
          | zero =>
            intro x668 x669 x670 H locs ls hM
            exact absurd hM (Nat.not_lt_zero _)
          | succ N ih4 =>
            intro x668 x669 x670 H locs ls hM4 x668_h x669_h x670_h iv4_0 iv4_1 hP hD hS hl
            refine lv_iload_n hx hb dX12_isSound_15 rfl (lv_at hl 0 rfl) ?_
            refine lv_aload_n hx hb dX12_isSound_16 rfl (lv_at hl 3 rfl) ?_
            refine va_get (D := (dC, dI)) (ci := 12) (v := .int v5) (C := RX12) (T := TX12) (N := 29) hx hb hts iw_X12_isSound_X12 hown hK hP 0 rfl rfl 2 (by decide) (hts (.fieldLink RX12 73 "HolelessHouseModel" "n" "I") hm_X12_isSound_1) (fun _ h9 => h9) rfl dX12_isSound_17 ?_
            refine lv_icmp_ge (tgt := 62) hx hb dX12_isSound_20 (by decide) (fun h671 => ?_) (fun h671 => ?_)
            ·
              have qh671 := le_i h671
              refine lv_goto (tgt := 7) hx hb dX12_isSound_62 (by decide) ?_
              exact ih3 x669 x670 _ _ _ (by have a0 := iv4_1; have a1 := (show _ ≤ _ ∧ _ ≤ _ from j467); have a2 := (show _ ≤ _ ∧ _ ≤ _ from x670_h); have a3 := hM3; have a4 := (show _ ≤ _ ∧ _ ≤ _ from x669_h); omega) x669_h x670_h iv4_0 hP hD hS (lv_sub hl [1, 2, 3] rfl)
            ·
              have qh671 := nle_i h671
              have j672 : Iv 0 11 x668 := r_ltl qh671 x668_h v5_h (by decide)
              have j673 : Iv 1 12 v5 := r_ltr qh671 x668_h v5_h (by decide)
              refine lv_iload_n hx hb dX12_isSound_23 rfl (lv_at hl 2 rfl) ?_
              refine lv_iload_n hx hb dX12_isSound_24 rfl (lv_at hl 0 rfl) ?_
              refine kc_i (D := (dC, dI)) (S := Unit) (wc := []) (wr := [(o1, .inr (12, [.int v2, .ref o3, .int v5, .ref o6, .int v8, .ref o9, .ref o11, .int v13, .ref o14, .int v16, .ref o17, .int v19, .int v20, .int v21, .ref o22, .ref o24, .ref o26, .ref o28, .ref o30, .int v32, .ref o33, .ref o35, .ref o37, .int v39, .ref o40, .ref o42, .ref o44, .int v46, .ref o47])), (o6, .inl (cI, 12, .inl fw7))]) (w1 := fun _ => []) (wn := fun _ => [(o1, .inr (12, [.int v2, .ref o3, .int v5, .ref o6, .int v8, .ref o9, .ref o11, .int v13, .ref o14, .int v16, .ref o17, .int v19, .int v20, .int v21, .ref o22, .ref o24, .ref o26, .ref o28, .ref o30, .int v32, .ref o33, .ref o35, .ref o37, .int v39, .ref o40, .ref o42, .ref o44, .int v46, .ref o47])), (o6, .inl (cI, 12, .inl fw7))]) (fun hPc hDc => va_runS (As := [.int x670, .int x668]) (rest := []) ⟨hx, hb, hml, hown, hts⟩ (kX12_has_1 l dC dI cI c2 cZ x670 x668 H.size (iv_w j672 (by decide))) (va_cwS 2 hts gX12_isSound_X12_has rfl rfl rfl (by decide +kernel) ⟨Nat.le_of_ble_eq_true rfl, Nat.le_of_ble_eq_true rfl⟩) (pre_S hPc hK hDc hN) rfl rfl hl.1 rfl (lv_room (Nat.le_of_ble_eq_true rfl)) dX12_isSound_25 ⟨Nat.le_of_ble_eq_true rfl, Nat.le_of_ble_eq_true rfl⟩) hP hD hS hA [] [0, 1] [0, 1] rfl rfl (by decide +kernel) (by decide +kernel) (by decide +kernel) (by decide +kernel) (fun _ => rfl) (fun x674 _ H locs hq hP hD hS => ?_)
              obtain ⟨x674_h, e675⟩ := hq
              have hP : va_P (dC, dI) vwCl ([(o1, .inr (12, [.int v2, .ref o3, .int v5, .ref o6, .int v8, .ref o9, .ref o11, .int v13, .ref o14, .int v16, .ref o17, .int v19, .int v20, .int v21, .ref o22, .ref o24, .ref o26, .ref o28, .ref o30, .int v32, .ref o33, .ref o35, .ref o37, .int v39, .ref o40, .ref o42, .ref o44, .int v46, .ref o47])), (o6, .inl (cI, 12, .inl fw7))]) H := hP
              have hD : va_D A ([(o1, .inr (12, [.int v2, .ref o3, .int v5, .ref o6, .int v8, .ref o9, .ref o11, .int v13, .ref o14, .int v16, .ref o17, .int v19, .int v20, .int v21, .ref o22, .ref o24, .ref o26, .ref o28, .ref o30, .int v32, .ref o33, .ref o35, .ref o37, .int v39, .ref o40, .ref o42, .ref o44, .int v46, .ref o47])), (o6, .inl (cI, 12, .inl fw7))]) := hD
              refine lv_if_eq (tgt := 56) hx hb dX12_isSound_28 (by decide) (fun h676 => ?_) (fun h676 => ?_)
              ·
                have j677 : Iv 0 0 x674 := r_eq h676 ik_0
                have b678 : bt x670 (Int32.toNatClampNeg x668) = false := has_f e675 h676
                obtain ⟨x679, x679_e⟩ : ∃ z : Int32, z = x668 + 1 := ⟨_, rfl⟩
                have x679_h : Iv 1 12 x679 := iv_e x679_e (iv_add j672 ik_1 (by decide))
                refine lv_iinc (v := x679) (lv' := [(3, .int x679), (2, .int x669), (1, .int x670), (0, .ref o1)]) hx hb dX12_isSound_56 hl (k := 0) rfl (incN (by decide +kernel) x679_e) (by decide) rfl (fun ls hl => ?_)
                refine lv_goto (tgt := 15) hx hb dX12_isSound_59 (by decide) ?_
                exact ih4 x679 x669 x670 _ _ _ (ms_up x679_e j672 (by decide) hM4) (iv_w x679_h (by decide)) x669_h x670_h iv4_0 iv4_1 hP hD hS hl
              ·
                have j680 : Iv 1 1 x674 := r_nelo h676 x674_h ik_0 (by decide)
                have b681 : bt x670 (Int32.toNatClampNeg x668) = true := has_t e675 h676
                refine lv_aload_n hx hb dX12_isSound_31 rfl (lv_at hl 3 rfl) ?_
                refine lv_aload_n hx hb dX12_isSound_32 rfl (lv_at hl 3 rfl) ?_
                refine va_get (D := (dC, dI)) (ci := 12) (v := .ref o6) (C := RX12) (T := TX12) (N := 29) hx hb hts iw_X12_isSound_X12 hown hK hP 0 rfl rfl 3 (by decide) (hts (.fieldLink RX12 13 "HolelessHouseModel" "near" "[I") hm_X12_isSound_2) (fun _ h9 => h9) rfl dX12_isSound_33 ?_
                refine lv_iload_n hx hb dX12_isSound_36 rfl (lv_at hl 0 rfl) ?_
                refine va_iald hx hb hK hP 1 0 rfl rfl (vin_iv j672 (by decide)) dX12_isSound_37 (lv_topi (fun x682 x682_e => ?_))
                have x682_h : Iv 0 4095 x682 := iv_e x682_e (bd_at fw7_b (vin_iv j672 (by decide)))
                refine lv_iload_n hx hb dX12_isSound_38 rfl (lv_at hl 2 rfl) ?_
                refine lv_iand hx hb dX12_isSound_39 (lv_topi (fun x683 x683_e => ?_))
                have x683_h : Iv 0 4095 x683 := iv_e x683_e (iv_andL _ x682_h (by decide))
                refine kc_i (D := (dC, dI)) (S := Unit) (wc := [(o1, .inr (12, [.int v2, .ref o3, .int v5, .ref o6, .int v8, .ref o9, .ref o11, .int v13, .ref o14, .int v16, .ref o17, .int v19, .int v20, .int v21, .ref o22, .ref o24, .ref o26, .ref o28, .ref o30, .int v32, .ref o33, .ref o35, .ref o37, .int v39, .ref o40, .ref o42, .ref o44, .int v46, .ref o47])), (o6, .inl (cI, 12, .inl fw7))]) (wr := []) (w1 := fun _ => [(o1, .inr (12, [.int v2, .ref o3, .int v5, .ref o6, .int v8, .ref o9, .ref o11, .int v13, .ref o14, .int v16, .ref o17, .int v19, .int v20, .int v21, .ref o22, .ref o24, .ref o26, .ref o28, .ref o30, .int v32, .ref o33, .ref o35, .ref o37, .int v39, .ref o40, .ref o42, .ref o44, .int v46, .ref o47])), (o6, .inl (cI, 12, .inl fw7))]) (wn := fun _ => [(o1, .inr (12, [.int v2, .ref o3, .int v5, .ref o6, .int v8, .ref o9, .ref o11, .int v13, .ref o14, .int v16, .ref o17, .int v19, .int v20, .int v21, .ref o22, .ref o24, .ref o26, .ref o28, .ref o30, .int v32, .ref o33, .ref o35, .ref o37, .int v39, .ref o40, .ref o42, .ref o44, .int v46, .ref o47])), (o6, .inl (cI, 12, .inl fw7))]) (fun hPc hDc => va_runV (As := [.int x683]) (rest := []) ⟨hx, hb, hml, hown, hts⟩ (kX12_isClique_1 l dC dI cI c2 cZ o1 o3 o6 o9 o11 o14 o17 o22 o24 o26 o28 o30 o33 o35 o37 o40 o42 o44 o47 v2 v5 fw7 v8 v13 v16 v19 v20 v21 v32 v39 v46 x683 H.size (iv_w j673 (by decide)) fw7_b v8_h v13_h v16_h v19_h v32_h v39_h v46_h) (cwV 1 hts gX12_isSound_X12_isClique rfl rfl rfl (by decide +kernel) ⟨Nat.le_of_ble_eq_true rfl, Nat.le_of_ble_eq_true rfl⟩) (pre_V hPc hK hDc hN (ci := 12) (q0 := 0) rfl rfl) rfl rfl hl.1 rfl (lv_room (Nat.le_of_ble_eq_true rfl)) dX12_isSound_40 ⟨Nat.le_of_ble_eq_true rfl, Nat.le_of_ble_eq_true rfl⟩) hP hD hS hA [0, 1] [] [0, 1] rfl rfl (by decide +kernel) (by decide +kernel) (by decide +kernel) (by decide +kernel) (fun _ => rfl) (fun x684 _ H locs hq hP hD hS => ?_)
                obtain ⟨x684_h, e685⟩ := hq
                have hP : va_P (dC, dI) vwCl ([(o1, .inr (12, [.int v2, .ref o3, .int v5, .ref o6, .int v8, .ref o9, .ref o11, .int v13, .ref o14, .int v16, .ref o17, .int v19, .int v20, .int v21, .ref o22, .ref o24, .ref o26, .ref o28, .ref o30, .int v32, .ref o33, .ref o35, .ref o37, .int v39, .ref o40, .ref o42, .ref o44, .int v46, .ref o47])), (o6, .inl (cI, 12, .inl fw7))]) H := hP
                have hD : va_D A ([(o1, .inr (12, [.int v2, .ref o3, .int v5, .ref o6, .int v8, .ref o9, .ref o11, .int v13, .ref o14, .int v16, .ref o17, .int v19, .int v20, .int v21, .ref o22, .ref o24, .ref o26, .ref o28, .ref o30, .int v32, .ref o33, .ref o35, .ref o37, .int v39, .ref o40, .ref o42, .ref o44, .int v46, .ref o47])), (o6, .inl (cI, 12, .inl fw7))]) := hD
                refine lv_if_eq (tgt := 56) hx hb dX12_isSound_43 (by decide) (fun h686 => ?_) (fun h686 => ?_)
                ·
                  have j687 : Iv 0 0 x684 := r_eq h686 ik_0
                  obtain ⟨x688, x688_e⟩ : ∃ z : Int32, z = x668 + 1 := ⟨_, rfl⟩
                  have x688_h : Iv 1 12 x688 := iv_e x688_e (iv_add j672 ik_1 (by decide))
                  refine lv_iinc (v := x688) (lv' := [(3, .int x688), (2, .int x669), (1, .int x670), (0, .ref o1)]) hx hb dX12_isSound_56 hl (k := 0) rfl (incN (by decide +kernel) x688_e) (by decide) rfl (fun ls hl => ?_)
                  refine lv_goto (tgt := 15) hx hb dX12_isSound_59 (by decide) ?_
                  exact ih4 x688 x669 x670 _ _ _ (ms_up x688_e j672 (by decide) hM4) (iv_w x688_h (by decide)) x669_h x670_h iv4_0 iv4_1 hP hD hS hl
                ·
                  have j689 : Iv 1 1 x684 := r_nelo h686 x684_h ik_0 (by decide)
                  refine lv_iload_n hx hb dX12_isSound_46 rfl (lv_at hl 2 rfl) ?_
                  refine lv_iconst (v := 1) hx hb dX12_isSound_47 (by decide) ?_
                  refine lv_iload_n hx hb dX12_isSound_48 rfl (lv_at hl 0 rfl) ?_
                  refine lv_ishl hx hb dX12_isSound_49 (lv_topi (fun x690 x690_e => ?_))
                  have x690_h : Iv 1 2048 x690 := iv_e x690_e (iv_shl1 j672 (by decide))
                  refine lv_iconst (v := (-1)) hx hb dX12_isSound_50 (by decide) ?_
                  refine lv_ixor hx hb dX12_isSound_51 (lv_topi (fun x691 x691_e => ?_))
                  refine lv_iand hx hb dX12_isSound_52 (lv_topi (fun x692 x692_e => ?_))
                  have x692_h : Iv 0 4095 x692 := iv_e x692_e (iv_andL _ x670_h (by decide))
                  refine lv_istore_n (lv' := [(1, .int x692), (3, .int x668), (2, .int x669), (0, .ref o1)]) hx hb dX12_isSound_53 rfl hl (by decide) rfl (fun ls hl => ?_)
                  refine lv_iconst (v := 1) hx hb dX12_isSound_54 (by decide) ?_
                  refine lv_istore_n (lv' := [(2, .int 1), (1, .int x692), (3, .int x668), (0, .ref o1)]) hx hb dX12_isSound_55 rfl hl (by decide) rfl (fun ls hl => ?_)
                  obtain ⟨x693, x693_e⟩ : ∃ z : Int32, z = x668 + 1 := ⟨_, rfl⟩
                  have x693_h : Iv 1 12 x693 := iv_e x693_e (iv_add j672 ik_1 (by decide))
                  refine lv_iinc (v := x693) (lv' := [(3, .int x693), (2, .int 1), (1, .int x692), (0, .ref o1)]) hx hb dX12_isSound_56 hl (k := 2) rfl (incN (by decide +kernel) x693_e) (by decide) rfl (fun ls hl => ?_)
                  refine lv_goto (tgt := 15) hx hb dX12_isSound_59 (by decide) ?_
                  exact ih4 x693 1 x692 _ _ _ (ms_up x693_e j672 (by decide) hM4) (iv_w x693_h (by decide)) (iv_w ik_1 (by decide)) x692_h (sd_c iv4_0 (cl_b (iv_w (c := 0) (d := 12) j673 (by decide)) (by decide)) j672 (by decide) (cl_in qh671 j672) b681 x682_e x683_e (e685 h686) x690_e x691_e x692_e) (by have a0 := iv4_1; have a1 := clr_lt x670_h j672 (by decide) x690_e x691_e x692_e b681; have a2 := (show Int32.toInt 1 = 1 by decide +kernel); have a3 := (show _ ≤ _ ∧ _ ≤ _ from x669_h); omega) hP hD hS hl
        exact L4 _ 0 0 x461 _ _ _ (Nat.lt_succ_self _) (iv_w ik_0 (by decide)) (iv_w ik_0 (by decide)) x461_h iv3_0 (by have a0 := (show Int32.toInt 0 = 0 by decide +kernel); omega) hP hD hS hl
  exact L3 _ 1 x1 _ _ _ (Nat.lt_succ_self _) (iv_w ik_1 (by decide)) x1_h (sd_a e2) hP hD hS hl
set_option maxHeartbeats 4000000 in
set_option maxRecDepth 100000 in
theorem kX12_sound_1 (l : Launch) (dC : Nat → ClassId) (dI : Nat → Nat → Nat) (cI c2 cZ : ClassId) (o1 : Nat) (o3 : Nat) (o6 : Nat) (o9 : Nat) (o11 : Nat) (o14 : Nat) (o17 : Nat) (o22 : Nat) (o24 : Nat) (o26 : Nat) (o28 : Nat) (o30 : Nat) (o33 : Nat) (o35 : Nat) (o37 : Nat) (o40 : Nat) (o42 : Nat) (o44 : Nat) (o47 : Nat) (v2 : Int32) (v5 : Int32) (fw7 : Nat → Int32) (v8 : Int32) (v13 : Int32) (v16 : Int32) (v19 : Int32) (v20 : Int32) (v21 : Int32) (v32 : Int32) (v39 : Int32) (v46 : Int32) (sz : Nat) (v5_h : Iv 0 12 v5) (fw7_b : Bd 12 0 4095 fw7) (v8_h : Iv 0 8 v8) (v13_h : Iv 0 12 v13) (v16_h : Iv 0 12 v16) (v19_h : Iv (-9) 12 v19) (v32_h : Iv 0 99 v32) (v39_h : Iv 0 12 v39) (v46_h : Iv 0 12 v46) : Met l yX12_sound wsX12_sound ({ frames := 3, cells := 0, slots := 0, locals := 67 }) (va_Pc [.ref o1] (wPre (dC, dI) [(cI, .int), (c2, .array .int), (cZ, .boolean)] ([(o1, .inr (12, [.int v2, .ref o3, .int v5, .ref o6, .int v8, .ref o9, .ref o11, .int v13, .ref o14, .int v16, .ref o17, .int v19, .int v20, .int v21, .ref o22, .ref o24, .ref o26, .ref o28, .ref o30, .int v32, .ref o33, .ref o35, .ref o37, .int v39, .ref o40, .ref o42, .ref o44, .int v46, .ref o47])), (o6, .inl (cI, 12, .inl fw7))]) sz)) (va_Qi (fun (r : Int32) (_ : Unit) => Iv 0 1 r) (fun _ t => wPost (dC, dI) [(cI, .int), (c2, .array .int), (cZ, .boolean)] (va_A ([(o1, .inr (12, [.int v2, .ref o3, .int v5, .ref o6, .int v8, .ref o9, .ref o11, .int v13, .ref o14, .int v16, .ref o17, .int v19, .int v20, .int v21, .ref o22, .ref o24, .ref o26, .ref o28, .ref o30, .int v32, .ref o33, .ref o35, .ref o37, .int v39, .ref o40, .ref o42, .ref o44, .int v46, .ref o47])), (o6, .inl (cI, 12, .inl fw7))]) sz) ([(o1, .inr (12, [.int v2, .ref o3, .int v5, .ref o6, .int v8, .ref o9, .ref o11, .int v13, .ref o14, .int v16, .ref o17, .int v19, .int v20, .int v21, .ref o22, .ref o24, .ref o26, .ref o28, .ref o30, .int v32, .ref o33, .ref o35, .ref o37, .int v39, .ref o40, .ref o42, .ref o44, .int v46, .ref o47])), (o6, .inl (cI, 12, .inl fw7))]) t) (va_A ([(o1, .inr (12, [.int v2, .ref o3, .int v5, .ref o6, .int v8, .ref o9, .ref o11, .int v13, .ref o14, .int v16, .ref o17, .int v19, .int v20, .int v21, .ref o22, .ref o24, .ref o26, .ref o28, .ref o30, .int v32, .ref o33, .ref o35, .ref o37, .int v39, .ref o40, .ref o42, .ref o44, .int v46, .ref o47])), (o6, .inl (cI, 12, .inl fw7))]) sz)) 0 0 (va_A ([(o1, .inr (12, [.int v2, .ref o3, .int v5, .ref o6, .int v8, .ref o9, .ref o11, .int v13, .ref o14, .int v16, .ref o17, .int v19, .int v20, .int v21, .ref o22, .ref o24, .ref o26, .ref o28, .ref o30, .int v32, .ref o33, .ref o35, .ref o37, .int v39, .ref o40, .ref o42, .ref o44, .int v46, .ref o47])), (o6, .inl (cI, 12, .inl fw7))]) sz) := by
  refine Met.ofW (cc := cX12_sound) (maxL := 1) (ret := (some .int)) (by decide) rfl ?_
  intro p e s m args below meth c s₁ B hml hv
  obtain ⟨rfl, hsz, hP, hK, hD0, hN⟩ := hv
  have hx := B.exec
  have hb := B.bytes
  have hr := B.returns
  have hts := atoms_spec (ws := wsX12_sound) B.pre
  have hown : s.vm.findClass RX12 = some m.cls := findClass_of_methodNamed B.named
  have hlocks := B.notSynchronized
  subst hsz
  have hD := hD0.self (sz := s.heap.size)
  generalize hAe : va_A ([(o1, .inr (12, [.int v2, .ref o3, .int v5, .ref o6, .int v8, .ref o9, .ref o11, .int v13, .ref o14, .int v16, .ref o17, .int v19, .int v20, .int v21, .ref o22, .ref o24, .ref o26, .ref o28, .ref o30, .int v32, .ref o33, .ref o35, .ref o37, .int v39, .ref o40, .ref o42, .ref o44, .int v46, .ref o47])), (o6, .inl (cI, 12, .inl fw7))]) s.heap.size = A at hD ⊢
  have hA : ∀ q : Nat, s.heap.size ≤ q → A q := fun q h => by rw [← hAe]; exact Or.inr h
  have hS : va_S A s.heap s.heap [] := va_S.rf
  have hP : va_P (dC, dI) vwCl ([(o1, .inr (12, [.int v2, .ref o3, .int v5, .ref o6, .int v8, .ref o9, .ref o11, .int v13, .ref o14, .int v16, .ref o17, .int v19, .int v20, .int v21, .ref o22, .ref o24, .ref o26, .ref o28, .ref o30, .int v32, .ref o33, .ref o35, .ref o37, .int v39, .ref o40, .ref o42, .ref o44, .int v46, .ref o47])), (o6, .inl (cI, 12, .inl fw7))]) s.heap := hP
  have hl := lv_entry ([.ref o1]) (n := 1) (Nat.le_of_ble_eq_true rfl)
  rw [lg_entry_eq]
  generalize (lg_sl ([.ref o1]) ++ List.replicate (1 - (lg_sl ([.ref o1])).length) Slot.unset).toArray = ls at hl ⊢
  have hl : lv_has ls 1 [(0, .ref o1)] := hl
  refine gen_Q (fun Q hQ => ?_)
  refine lv_aload_n hx hb dX12_sound_0 rfl (lv_at hl 0 rfl) ?_
  refine kc_i (D := (dC, dI)) (S := Unit) (wc := [(o1, .inr (12, [.int v2, .ref o3, .int v5, .ref o6, .int v8, .ref o9, .ref o11, .int v13, .ref o14, .int v16, .ref o17, .int v19, .int v20, .int v21, .ref o22, .ref o24, .ref o26, .ref o28, .ref o30, .int v32, .ref o33, .ref o35, .ref o37, .int v39, .ref o40, .ref o42, .ref o44, .int v46, .ref o47])), (o6, .inl (cI, 12, .inl fw7))]) (wr := []) (w1 := fun _ => [(o1, .inr (12, [.int v2, .ref o3, .int v5, .ref o6, .int v8, .ref o9, .ref o11, .int v13, .ref o14, .int v16, .ref o17, .int v19, .int v20, .int v21, .ref o22, .ref o24, .ref o26, .ref o28, .ref o30, .int v32, .ref o33, .ref o35, .ref o37, .int v39, .ref o40, .ref o42, .ref o44, .int v46, .ref o47])), (o6, .inl (cI, 12, .inl fw7))]) (wn := fun _ => [(o1, .inr (12, [.int v2, .ref o3, .int v5, .ref o6, .int v8, .ref o9, .ref o11, .int v13, .ref o14, .int v16, .ref o17, .int v19, .int v20, .int v21, .ref o22, .ref o24, .ref o26, .ref o28, .ref o30, .int v32, .ref o33, .ref o35, .ref o37, .int v39, .ref o40, .ref o42, .ref o44, .int v46, .ref o47])), (o6, .inl (cI, 12, .inl fw7))]) (fun hPc hDc => va_runV (As := []) (rest := []) ⟨hx, hb, hml, hown, hts⟩ (kX12_isSound_1 l dC dI cI c2 cZ o1 o3 o6 o9 o11 o14 o17 o22 o24 o26 o28 o30 o33 o35 o37 o40 o42 o44 o47 v2 v5 fw7 v8 v13 v16 v19 v20 v21 v32 v39 v46 s.heap.size v5_h fw7_b v8_h v13_h v16_h v19_h v32_h v39_h v46_h) (cwV 0 hts gX12_sound_X12_isSound rfl rfl rfl (by decide +kernel) ⟨Nat.le_of_ble_eq_true rfl, Nat.le_of_ble_eq_true rfl⟩) (pre_V hPc hK hDc hN (ci := 12) (q0 := 0) rfl rfl) rfl rfl hl.1 rfl (lv_room (Nat.le_of_ble_eq_true rfl)) dX12_sound_1 ⟨Nat.le_of_ble_eq_true rfl, Nat.le_of_ble_eq_true rfl⟩) hP hD hS hA [0, 1] [] [0, 1] rfl rfl (by decide +kernel) (by decide +kernel) (by decide +kernel) (by decide +kernel) (fun _ => rfl) (fun x1 _ H locs hq hP hD hS => ?_)
  obtain ⟨x1_h, e2⟩ := hq
  have hP : va_P (dC, dI) vwCl ([(o1, .inr (12, [.int v2, .ref o3, .int v5, .ref o6, .int v8, .ref o9, .ref o11, .int v13, .ref o14, .int v16, .ref o17, .int v19, .int v20, .int v21, .ref o22, .ref o24, .ref o26, .ref o28, .ref o30, .int v32, .ref o33, .ref o35, .ref o37, .int v39, .ref o40, .ref o42, .ref o44, .int v46, .ref o47])), (o6, .inl (cI, 12, .inl fw7))]) H := hP
  have hD : va_D A ([(o1, .inr (12, [.int v2, .ref o3, .int v5, .ref o6, .int v8, .ref o9, .ref o11, .int v13, .ref o14, .int v16, .ref o17, .int v19, .int v20, .int v21, .ref o22, .ref o24, .ref o26, .ref o28, .ref o30, .int v32, .ref o33, .ref o35, .ref o37, .int v39, .ref o40, .ref o42, .ref o44, .int v46, .ref o47])), (o6, .inl (cI, 12, .inl fw7))]) := hD
  refine lv_if_eq (tgt := 11) hx hb dX12_sound_4 (by decide) (fun h3 => ?_) (fun h3 => ?_)
  ·
    have j4 : Iv 0 0 x1 := r_eq h3 ik_0
    refine lv_iconst (v := 0) hx hb dX12_sound_11 (by decide) ?_
    rw [hQ]
    exact W.iret (v := 0) hx hb hr (fun t ht hW => ⟨⟨0, (), rfl, (iv_w ik_0 (by decide)), by rw [ht]; exact hP, va_K.moved hW.alike hK, hD⟩, hS.F ht⟩) hS.2.2 dX12_sound_12
  ·
    have j5 : Iv 1 1 x1 := r_nelo h3 x1_h ik_0 (by decide)
    refine lv_iconst (v := 1) hx hb dX12_sound_7 (by decide) ?_
    refine lv_goto (tgt := 12) hx hb dX12_sound_8 (by decide) ?_
    rw [hQ]
    exact W.iret (v := 1) hx hb hr (fun t ht hW => ⟨⟨1, (), rfl, (iv_w ik_1 (by decide)), by rw [ht]; exact hP, va_K.moved hW.alike hK, hD⟩, hS.F ht⟩) hS.2.2 dX12_sound_12
theorem iw_X12_goesOn_X12 : ∀ w ∈ wsX120, w ∈ wsX12_goesOn := fun _ h => List.mem_cons.mpr (Or.inr (List.mem_append.mpr (Or.inr h)))
set_option maxHeartbeats 4000000 in
set_option maxRecDepth 100000 in
theorem kX12_goesOn_1 (l : Launch) (dC : Nat → ClassId) (dI : Nat → Nat → Nat) (cI c2 cZ : ClassId) (o1 : Nat) (o3 : Nat) (o6 : Nat) (o9 : Nat) (o11 : Nat) (o14 : Nat) (o17 : Nat) (o22 : Nat) (o24 : Nat) (o26 : Nat) (o28 : Nat) (o30 : Nat) (o33 : Nat) (o35 : Nat) (o37 : Nat) (o40 : Nat) (o42 : Nat) (o44 : Nat) (o47 : Nat) (v2 : Int32) (v5 : Int32) (fw7 : Nat → Int32) (v8 : Int32) (fw12 : Nat → Int32) (v13 : Int32) (v16 : Int32) (v19 : Int32) (v20 : Int32) (v21 : Int32) (v32 : Int32) (v39 : Int32) (v46 : Int32) (a2 : Int32) (sz : Nat) (v5_h : Iv 0 12 v5) (fw7_b : Bd 12 0 4095 fw7) (v8_h : Iv 0 8 v8) (fw12_b : Bd 12 0 11 fw12) (v13_h : Iv 0 12 v13) (v16_h : Iv 0 12 v16) (v19_h : Iv (-9) 12 v19) (v32_h : Iv 0 99 v32) (v39_h : Iv 0 12 v39) (v46_h : Iv 0 12 v46) (a2_h : Iv 12 12 a2) : Met l yX12_goesOn wsX12_goesOn ({ frames := 1, cells := 0, slots := 0, locals := 21 }) (va_Pc [.ref o1, .int 11, .int a2] (wPre (dC, dI) [(cI, .int), (c2, .array .int), (cZ, .boolean)] ([(o1, .inr (12, [.int v2, .ref o3, .int v5, .ref o6, .int v8, .ref o9, .ref o11, .int v13, .ref o14, .int v16, .ref o17, .int v19, .int v20, .int v21, .ref o22, .ref o24, .ref o26, .ref o28, .ref o30, .int v32, .ref o33, .ref o35, .ref o37, .int v39, .ref o40, .ref o42, .ref o44, .int v46, .ref o47])), (o11, .inl (cI, 12, .inl fw12)), (o6, .inl (cI, 12, .inl fw7))]) sz)) (va_Qi (fun (r : Int32) (u : (Nat → Int32)) => Iv 0 1 r ∧ Bd 12 0 11 u) (fun u t => wPost (dC, dI) [(cI, .int), (c2, .array .int), (cZ, .boolean)] (va_A ([(o1, .inr (12, [.int v2, .ref o3, .int v5, .ref o6, .int v8, .ref o9, .ref o11, .int v13, .ref o14, .int v16, .ref o17, .int v19, .int v20, .int v21, .ref o22, .ref o24, .ref o26, .ref o28, .ref o30, .int v32, .ref o33, .ref o35, .ref o37, .int v39, .ref o40, .ref o42, .ref o44, .int v46, .ref o47])), (o11, .inl (cI, 12, .inl fw12)), (o6, .inl (cI, 12, .inl fw7))]) sz) ([(o1, .inr (12, [.int v2, .ref o3, .int v5, .ref o6, .int v8, .ref o9, .ref o11, .int v13, .ref o14, .int v16, .ref o17, .int v19, .int v20, .int v21, .ref o22, .ref o24, .ref o26, .ref o28, .ref o30, .int v32, .ref o33, .ref o35, .ref o37, .int v39, .ref o40, .ref o42, .ref o44, .int v46, .ref o47])), (o11, .inl (cI, 12, .inl u)), (o6, .inl (cI, 12, .inl fw7))]) t) (va_A ([(o1, .inr (12, [.int v2, .ref o3, .int v5, .ref o6, .int v8, .ref o9, .ref o11, .int v13, .ref o14, .int v16, .ref o17, .int v19, .int v20, .int v21, .ref o22, .ref o24, .ref o26, .ref o28, .ref o30, .int v32, .ref o33, .ref o35, .ref o37, .int v39, .ref o40, .ref o42, .ref o44, .int v46, .ref o47])), (o11, .inl (cI, 12, .inl fw12)), (o6, .inl (cI, 12, .inl fw7))]) sz)) 0 0 (va_A ([(o1, .inr (12, [.int v2, .ref o3, .int v5, .ref o6, .int v8, .ref o9, .ref o11, .int v13, .ref o14, .int v16, .ref o17, .int v19, .int v20, .int v21, .ref o22, .ref o24, .ref o26, .ref o28, .ref o30, .int v32, .ref o33, .ref o35, .ref o37, .int v39, .ref o40, .ref o42, .ref o44, .int v46, .ref o47])), (o11, .inl (cI, 12, .inl fw12)), (o6, .inl (cI, 12, .inl fw7))]) sz) := by
  refine Met.ofW (cc := cX12_goesOn) (maxL := 8) (ret := (some .boolean)) (by decide) rfl ?_
  intro p e s m args below meth c s₁ B hml hv
  obtain ⟨rfl, hsz, hP, hK, hD0, hN⟩ := hv
  have hx := B.exec
  have hb := B.bytes
  have hr := B.returns
  have hts := atoms_spec (ws := wsX12_goesOn) B.pre
  have hown : s.vm.findClass RX12 = some m.cls := findClass_of_methodNamed B.named
  have hlocks := B.notSynchronized
  subst hsz
  have hD := hD0.self (sz := s.heap.size)
  generalize hAe : va_A ([(o1, .inr (12, [.int v2, .ref o3, .int v5, .ref o6, .int v8, .ref o9, .ref o11, .int v13, .ref o14, .int v16, .ref o17, .int v19, .int v20, .int v21, .ref o22, .ref o24, .ref o26, .ref o28, .ref o30, .int v32, .ref o33, .ref o35, .ref o37, .int v39, .ref o40, .ref o42, .ref o44, .int v46, .ref o47])), (o11, .inl (cI, 12, .inl fw12)), (o6, .inl (cI, 12, .inl fw7))]) s.heap.size = A at hD ⊢
  have hA : ∀ q : Nat, s.heap.size ≤ q → A q := fun q h => by rw [← hAe]; exact Or.inr h
  have hS : va_S A s.heap s.heap [] := va_S.rf
  have hP : va_P (dC, dI) vwCl ([(o1, .inr (12, [.int v2, .ref o3, .int v5, .ref o6, .int v8, .ref o9, .ref o11, .int v13, .ref o14, .int v16, .ref o17, .int v19, .int v20, .int v21, .ref o22, .ref o24, .ref o26, .ref o28, .ref o30, .int v32, .ref o33, .ref o35, .ref o37, .int v39, .ref o40, .ref o42, .ref o44, .int v46, .ref o47])), (o11, .inl (cI, 12, .inl fw12)), (o6, .inl (cI, 12, .inl fw7))]) s.heap := hP
  have hl := lv_entry ([.ref o1, .int 11, .int a2]) (n := 8) (Nat.le_of_ble_eq_true rfl)
  rw [lg_entry_eq]
  generalize (lg_sl ([.ref o1, .int 11, .int a2]) ++ List.replicate (8 - (lg_sl ([.ref o1, .int 11, .int a2])).length) Slot.unset).toArray = ls at hl ⊢
  have hl : lv_has ls 8 [(0, .ref o1), (1, .int 11), (2, .int a2)] := hl
  refine gen_Q (fun Q hQ => ?_)
  refine lv_aload_n hx hb dX12_goesOn_0 rfl (lv_at hl 0 rfl) ?_
  refine va_get (D := (dC, dI)) (ci := 12) (v := .ref o11) (C := RX12) (T := TX12) (N := 29) hx hb hts iw_X12_goesOn_X12 hown hK hP 0 rfl rfl 6 (by decide) (hts (.fieldLink RX12 19 "HolelessHouseModel" "ring" "[I") hm_X12_goesOn_1) (fun _ h9 => h9) rfl dX12_goesOn_1 ?_
  refine lv_iload_n hx hb dX12_goesOn_4 rfl (lv_at hl 1 rfl) ?_
  refine lv_iconst (v := 1) hx hb dX12_goesOn_5 (by decide) ?_
  refine lv_isub hx hb dX12_goesOn_6 (tk_i (v := 10) (by decide +kernel) ?_)
  refine va_iald hx hb hK hP 1 0 rfl rfl (vin_iv ik_10 (by decide)) dX12_goesOn_7 (lv_topi (fun x1 x1_e => ?_))
  have x1_h : Iv 0 11 x1 := iv_e x1_e (bd_at fw12_b (vin_iv ik_10 (by decide)))
  refine lv_istore_n (lv' := [(3, .int x1), (0, .ref o1), (1, .int 11), (2, .int a2)]) hx hb dX12_goesOn_8 rfl hl (by decide) rfl (fun ls hl => ?_)
  refine lv_aload_n hx hb dX12_goesOn_9 rfl (lv_at hl 1 rfl) ?_
  refine va_get (D := (dC, dI)) (ci := 12) (v := .ref o11) (C := RX12) (T := TX12) (N := 29) hx hb hts iw_X12_goesOn_X12 hown hK hP 0 rfl rfl 6 (by decide) (hts (.fieldLink RX12 19 "HolelessHouseModel" "ring" "[I") hm_X12_goesOn_1) (fun _ h9 => h9) rfl dX12_goesOn_10 ?_
  refine lv_iconst (v := 0) hx hb dX12_goesOn_13 (by decide) ?_
  refine va_iald hx hb hK hP 1 0 rfl rfl (vin_iv ik_0 (by decide)) dX12_goesOn_14 (lv_topi (fun x2 x2_e => ?_))
  have x2_h : Iv 0 11 x2 := iv_e x2_e (bd_at fw12_b (vin_iv ik_0 (by decide)))
  refine lv_iconst (v := 1) hx hb dX12_goesOn_15 (by decide) ?_
  refine lv_iadd hx hb dX12_goesOn_16 (lv_topi (fun x3 x3_e => ?_))
  have x3_h : Iv 1 12 x3 := iv_e x3_e (iv_add x2_h ik_1 (by decide))
  refine lv_istore (lv' := [(4, .int x3), (3, .int x1), (0, .ref o1), (1, .int 11), (2, .int a2)]) hx hb dX12_goesOn_17 hl (by decide) rfl (fun ls hl => ?_)
  have L3 : ∀ (N : Nat) (x812 : Int32) (H : Heap) (locs : List Loc) (ls : Array Slot), (12 - x812.toInt).toNat < N → Iv 1 12 x812 → va_P (dC, dI) vwCl ([(o1, .inr (12, [.int v2, .ref o3, .int v5, .ref o6, .int v8, .ref o9, .ref o11, .int v13, .ref o14, .int v16, .ref o17, .int v19, .int v20, .int v21, .ref o22, .ref o24, .ref o26, .ref o28, .ref o30, .int v32, .ref o33, .ref o35, .ref o37, .int v39, .ref o40, .ref o42, .ref o44, .int v46, .ref o47])), (o11, .inl (cI, 12, .inl fw12)), (o6, .inl (cI, 12, .inl fw7))]) H → va_D A ([(o1, .inr (12, [.int v2, .ref o3, .int v5, .ref o6, .int v8, .ref o9, .ref o11, .int v13, .ref o14, .int v16, .ref o17, .int v19, .int v20, .int v21, .ref o22, .ref o24, .ref o26, .ref o28, .ref o30, .int v32, .ref o33, .ref o35, .ref o37, .int v39, .ref o40, .ref o42, .ref o44, .int v46, .ref o47])), (o11, .inl (cI, 12, .inl fw12)), (o6, .inl (cI, 12, .inl fw7))]) → va_S A s.heap H locs → lv_has ls 8 [(4, .int x812), (3, .int x1), (0, .ref o1), (1, .int 11), (2, .int a2)] → W p l e ({ frames := 1, cells := 0, slots := 0, locals := 21 }) s m ([.ref o1, .int 11, .int a2] : List Value).toArray below meth c H locs 0 0 Q (F0 m 19 ls []) := by
    intro N
    induction N with
    | zero =>
      intro x812 H locs ls hM
      exact absurd hM (Nat.not_lt_zero _)
    | succ N ih3 =>
      intro x812 H locs ls hM3 x812_h hP hD hS hl
      refine lv_iload hx hb dX12_goesOn_19 (lv_at hl 0 rfl) ?_
      refine lv_aload_n hx hb dX12_goesOn_21 rfl (lv_at hl 2 rfl) ?_
      refine va_get (D := (dC, dI)) (ci := 12) (v := .int v5) (C := RX12) (T := TX12) (N := 29) hx hb hts iw_X12_goesOn_X12 hown hK hP 0 rfl rfl 2 (by decide) (hts (.fieldLink RX12 73 "HolelessHouseModel" "n" "I") hm_X12_goesOn_2) (fun _ h9 => h9) rfl dX12_goesOn_22 ?_
      refine lv_icmp_ge (tgt := 193) hx hb dX12_goesOn_25 (by decide) (fun h813 => ?_) (fun h813 => ?_)
      ·
        have qh813 := le_i h813
        refine lv_iload_n hx hb dX12_goesOn_193 rfl (lv_at hl 1 rfl) ?_
        refine lv_if_ge (tgt := 201) hx hb dX12_goesOn_194 (by decide) (fun _ => ?_) (fun h9 => absurd (d_le ik_0 x1_h (by decide)) h9)
        refine lv_iconst (v := 0) hx hb dX12_goesOn_201 (by decide) ?_
        rw [hQ]
        exact W.zret (v := 0) (ty := .boolean) hx hb hr rfl (fun t ht hW => ⟨⟨0, fw12, rfl, ⟨(iv_w ik_0 (by decide)), fw12_b⟩, by rw [ht]; exact hP, va_K.moved hW.alike hK, hD⟩, hS.F ht⟩) hS.2.2 dX12_goesOn_202
      ·
        have qh813 := nle_i h813
        have j814 : Iv 1 11 x812 := r_ltl qh813 x812_h v5_h (by decide)
        have j815 : Iv 2 12 v5 := r_ltr qh813 x812_h v5_h (by decide)
        refine lv_iconst (v := 0) hx hb dX12_goesOn_28 (by decide) ?_
        refine lv_istore (lv' := [(5, .int 0), (4, .int x812), (3, .int x1), (0, .ref o1), (1, .int 11), (2, .int a2)]) hx hb dX12_goesOn_29 hl (by decide) rfl (fun ls hl => ?_)
        refine lv_iconst (v := 0) hx hb dX12_goesOn_31 (by decide) ?_
        refine lv_istore (lv' := [(6, .int 0), (5, .int 0), (4, .int x812), (3, .int x1), (0, .ref o1), (1, .int 11), (2, .int a2)]) hx hb dX12_goesOn_32 hl (by decide) rfl (fun ls hl => ?_)
        refine lv_iconst (v := 0) hx hb dX12_goesOn_34 (by decide) ?_
        refine lv_istore (lv' := [(7, .int 0), (6, .int 0), (5, .int 0), (4, .int x812), (3, .int x1), (0, .ref o1), (1, .int 11), (2, .int a2)]) hx hb dX12_goesOn_35 hl (by decide) rfl (fun ls hl => ?_)
        have L4 : ∀ (N : Nat) (x1146 : Int32) (x1147 : Int32) (x1148 : Int32) (H : Heap) (locs : List Loc) (ls : Array Slot), (11 - x1146.toInt).toNat < N → Iv 0 11 x1146 → Iv 0 4095 x1147 → Iv 0 1 x1148 → va_P (dC, dI) vwCl ([(o1, .inr (12, [.int v2, .ref o3, .int v5, .ref o6, .int v8, .ref o9, .ref o11, .int v13, .ref o14, .int v16, .ref o17, .int v19, .int v20, .int v21, .ref o22, .ref o24, .ref o26, .ref o28, .ref o30, .int v32, .ref o33, .ref o35, .ref o37, .int v39, .ref o40, .ref o42, .ref o44, .int v46, .ref o47])), (o11, .inl (cI, 12, .inl fw12)), (o6, .inl (cI, 12, .inl fw7))]) H → va_D A ([(o1, .inr (12, [.int v2, .ref o3, .int v5, .ref o6, .int v8, .ref o9, .ref o11, .int v13, .ref o14, .int v16, .ref o17, .int v19, .int v20, .int v21, .ref o22, .ref o24, .ref o26, .ref o28, .ref o30, .int v32, .ref o33, .ref o35, .ref o37, .int v39, .ref o40, .ref o42, .ref o44, .int v46, .ref o47])), (o11, .inl (cI, 12, .inl fw12)), (o6, .inl (cI, 12, .inl fw7))]) → va_S A s.heap H locs → lv_has ls 8 [(7, .int x1146), (6, .int x1148), (5, .int x1147), (4, .int x812), (3, .int x1), (0, .ref o1), (1, .int 11), (2, .int a2)] → W p l e ({ frames := 1, cells := 0, slots := 0, locals := 21 }) s m ([.ref o1, .int 11, .int a2] : List Value).toArray below meth c H locs 0 0 Q (F0 m 37 ls []) := by
          intro N
          induction N with
          | zero =>
            intro x1146 x1147 x1148 H locs ls hM
            exact absurd hM (Nat.not_lt_zero _)
          | succ N ih4 =>
            intro x1146 x1147 x1148 H locs ls hM4 x1146_h x1147_h x1148_h hP hD hS hl
            refine lv_iload hx hb dX12_goesOn_37 (lv_at hl 0 rfl) ?_
            refine lv_iload_n hx hb dX12_goesOn_39 rfl (lv_at hl 6 rfl) ?_
            refine lv_icmp_ge (tgt := 106) hx hb dX12_goesOn_40 (by decide) (fun h1149 => ?_) (fun h1149 => ?_)
            ·
              have qh1149 := le_i h1149
              have j1150 : Iv 11 11 x1146 := r_ler qh1149 ik_11 x1146_h (by decide)
              refine lv_iconst (v := 1) hx hb dX12_goesOn_106 (by decide) ?_
              refine lv_iload_n hx hb dX12_goesOn_107 rfl (lv_at hl 6 rfl) ?_
              refine lv_iconst (v := 1) hx hb dX12_goesOn_108 (by decide) ?_
              refine lv_isub hx hb dX12_goesOn_109 (tk_i (v := 10) (by decide +kernel) ?_)
              refine lv_ishl hx hb dX12_goesOn_110 (tk_i (v := 1024) (by decide +kernel) ?_)
              refine lv_iload_n hx hb dX12_goesOn_111 rfl (lv_at hl 6 rfl) ?_
              refine lv_iload_n hx hb dX12_goesOn_112 rfl (lv_at hl 7 rfl) ?_
              refine lv_iconst (v := 1) hx hb dX12_goesOn_113 (by decide) ?_
              refine lv_isub hx hb dX12_goesOn_114 (lv_topi (fun x1151 x1151_e => ?_))
              have x1151_h : Iv 11 11 x1151 := iv_e x1151_e (iv_sub a2_h ik_1 (by decide))
              refine lv_icmp_ne (tgt := 122) hx hb dX12_goesOn_115 (by decide) (fun h9 => absurd (d_eq ik_11 x1151_h) h9) (fun _ => ?_)
              refine lv_iconst (v := 1) hx hb dX12_goesOn_118 (by decide) ?_
              refine lv_goto (tgt := 123) hx hb dX12_goesOn_119 (by decide) ?_
              refine lv_ior hx hb dX12_goesOn_123 (tk_i (v := 1025) (by decide +kernel) ?_)
              refine lv_istore (lv' := [(7, .int 1025), (6, .int x1148), (5, .int x1147), (4, .int x812), (3, .int x1), (0, .ref o1), (1, .int 11), (2, .int a2)]) hx hb dX12_goesOn_124 hl (by decide) rfl (fun ls hl => ?_)
              refine lv_iload hx hb dX12_goesOn_126 (lv_at hl 1 rfl) ?_
              refine lv_if_ne (tgt := 187) hx hb dX12_goesOn_128 (by decide) (fun h1152 => ?_) (fun h1152 => ?_)
              ·
                have j1153 : Iv 1 1 x1148 := r_nelo h1152 x1148_h ik_0 (by decide)
                obtain ⟨x1154, x1154_e⟩ : ∃ z : Int32, z = x812 + 1 := ⟨_, rfl⟩
                have x1154_h : Iv 2 12 x1154 := iv_e x1154_e (iv_add j814 ik_1 (by decide))
                refine lv_iinc (v := x1154) (lv' := [(4, .int x1154), (7, .int 1025), (6, .int x1148), (5, .int x1147), (3, .int x1), (0, .ref o1), (1, .int 11), (2, .int a2)]) hx hb dX12_goesOn_187 hl (k := 3) rfl (incN (by decide +kernel) x1154_e) (by decide) rfl (fun ls hl => ?_)
                refine lv_goto (tgt := 19) hx hb dX12_goesOn_190 (by decide) ?_
                exact ih3 x1154 _ _ _ (ms_up x1154_e j814 (by decide) hM3) (iv_w x1154_h (by decide)) hP hD hS (lv_sub hl [0, 4, 5, 6, 7] rfl)
              ·
                have j1155 : Iv 0 0 x1148 := r_eq h1152 ik_0
                refine lv_iload hx hb dX12_goesOn_131 (lv_at hl 2 rfl) ?_
                refine lv_iload hx hb dX12_goesOn_133 (lv_at hl 0 rfl) ?_
                refine lv_icmp_ne (tgt := 187) hx hb dX12_goesOn_135 (by decide) (fun h1156 => ?_) (fun h1156 => ?_)
                ·
                  obtain ⟨x1157, x1157_e⟩ : ∃ z : Int32, z = x812 + 1 := ⟨_, rfl⟩
                  have x1157_h : Iv 2 12 x1157 := iv_e x1157_e (iv_add j814 ik_1 (by decide))
                  refine lv_iinc (v := x1157) (lv' := [(4, .int x1157), (7, .int 1025), (6, .int x1148), (5, .int x1147), (3, .int x1), (0, .ref o1), (1, .int 11), (2, .int a2)]) hx hb dX12_goesOn_187 hl (k := 3) rfl (incN (by decide +kernel) x1157_e) (by decide) rfl (fun ls hl => ?_)
                  refine lv_goto (tgt := 19) hx hb dX12_goesOn_190 (by decide) ?_
                  exact ih3 x1157 _ _ _ (ms_up x1157_e j814 (by decide) hM3) (iv_w x1157_h (by decide)) hP hD hS (lv_sub hl [0, 4, 5, 6, 7] rfl)
                ·
                  have j1158 : Iv 1025 1025 x1147 := r_eq h1156 ik_1025
                  refine lv_iload_n hx hb dX12_goesOn_138 rfl (lv_at hl 6 rfl) ?_
                  refine lv_iload_n hx hb dX12_goesOn_139 rfl (lv_at hl 7 rfl) ?_
                  refine lv_iconst (v := 1) hx hb dX12_goesOn_140 (by decide) ?_
                  refine lv_isub hx hb dX12_goesOn_141 (lv_topi (fun x1159 x1159_e => ?_))
                  have x1159_h : Iv 11 11 x1159 := iv_e x1159_e (iv_sub a2_h ik_1 (by decide))
                  refine lv_icmp_ne (tgt := 159) hx hb dX12_goesOn_142 (by decide) (fun h9 => absurd (d_eq ik_11 x1159_h) h9) (fun _ => ?_)
                  refine lv_iload hx hb dX12_goesOn_145 (lv_at hl 3 rfl) ?_
                  refine lv_aload_n hx hb dX12_goesOn_147 rfl (lv_at hl 5 rfl) ?_
                  refine va_get (D := (dC, dI)) (ci := 12) (v := .ref o11) (C := RX12) (T := TX12) (N := 29) hx hb hts iw_X12_goesOn_X12 hown hK hP 0 rfl rfl 6 (by decide) (hts (.fieldLink RX12 19 "HolelessHouseModel" "ring" "[I") hm_X12_goesOn_1) (fun _ h9 => h9) rfl dX12_goesOn_148 ?_
                  refine lv_iconst (v := 1) hx hb dX12_goesOn_151 (by decide) ?_
                  refine va_iald hx hb hK hP 1 0 rfl rfl (vin_iv ik_1 (by decide)) dX12_goesOn_152 (lv_topi (fun x1160 x1160_e => ?_))
                  have x1160_h : Iv 0 11 x1160 := iv_e x1160_e (bd_at fw12_b (vin_iv ik_1 (by decide)))
                  refine lv_icmp_ge (tgt := 159) hx hb dX12_goesOn_153 (by decide) (fun h1161 => ?_) (fun h1161 => ?_)
                  ·
                    have qh1161 := le_i h1161
                    refine lv_aload_n hx hb dX12_goesOn_159 rfl (lv_at hl 5 rfl) ?_
                    refine va_get (D := (dC, dI)) (ci := 12) (v := .ref o11) (C := RX12) (T := TX12) (N := 29) hx hb hts iw_X12_goesOn_X12 hown hK hP 0 rfl rfl 6 (by decide) (hts (.fieldLink RX12 19 "HolelessHouseModel" "ring" "[I") hm_X12_goesOn_1) (fun _ h9 => h9) rfl dX12_goesOn_160 ?_
                    refine lv_iload_n hx hb dX12_goesOn_163 rfl (lv_at hl 6 rfl) ?_
                    refine lv_iload hx hb dX12_goesOn_164 (lv_at hl 3 rfl) ?_
                    refine k_iast hx hb hK hP hD hS 1 0 rfl rfl (vin_iv ik_11 (by decide)) dX12_goesOn_166 (fun f1162 H locs f1162_e hP hD hS => ?_)
                    have f1162_b : Bd 12 0 11 f1162 := bd_upd f1162_e fw12_b j814 (by decide)
                    have hP : va_P (dC, dI) vwCl ([(o1, .inr (12, [.int v2, .ref o3, .int v5, .ref o6, .int v8, .ref o9, .ref o11, .int v13, .ref o14, .int v16, .ref o17, .int v19, .int v20, .int v21, .ref o22, .ref o24, .ref o26, .ref o28, .ref o30, .int v32, .ref o33, .ref o35, .ref o37, .int v39, .ref o40, .ref o42, .ref o44, .int v46, .ref o47])), (o11, .inl (cI, 12, .inl f1162)), (o6, .inl (cI, 12, .inl fw7))]) H := hP
                    have hD : va_D A ([(o1, .inr (12, [.int v2, .ref o3, .int v5, .ref o6, .int v8, .ref o9, .ref o11, .int v13, .ref o14, .int v16, .ref o17, .int v19, .int v20, .int v21, .ref o22, .ref o24, .ref o26, .ref o28, .ref o30, .int v32, .ref o33, .ref o35, .ref o37, .int v39, .ref o40, .ref o42, .ref o44, .int v46, .ref o47])), (o11, .inl (cI, 12, .inl f1162)), (o6, .inl (cI, 12, .inl fw7))]) := hD
                    refine lv_iload_n hx hb dX12_goesOn_167 rfl (lv_at hl 6 rfl) ?_
                    refine lv_iload_n hx hb dX12_goesOn_168 rfl (lv_at hl 7 rfl) ?_
                    refine lv_iconst (v := 1) hx hb dX12_goesOn_169 (by decide) ?_
                    refine lv_isub hx hb dX12_goesOn_170 (lv_topi (fun x1163 x1163_e => ?_))
                    have x1163_h : Iv 11 11 x1163 := iv_e x1163_e (iv_sub a2_h ik_1 (by decide))
                    refine lv_icmp_eq (tgt := 185) hx hb dX12_goesOn_171 (by decide) (fun _ => ?_) (fun h9 => absurd (d_eq ik_11 x1163_h) h9)
                    refine lv_iconst (v := 1) hx hb dX12_goesOn_185 (by decide) ?_
                    rw [hQ]
                    exact W.zret (v := 1) (ty := .boolean) hx hb hr rfl (fun t ht hW => ⟨⟨1, f1162, rfl, ⟨(iv_w ik_1 (by decide)), f1162_b⟩, by rw [ht]; exact hP, va_K.moved hW.alike hK, hD⟩, hS.F ht⟩) hS.2.2 dX12_goesOn_186
                  ·
                    have qh1161 := nle_i h1161
                    have j1164 : Iv 1 10 x812 := r_ltl qh1161 j814 x1160_h (by decide)
                    have j1165 : Iv 2 11 x1160 := r_ltr qh1161 j814 x1160_h (by decide)
                    refine lv_goto (tgt := 187) hx hb dX12_goesOn_156 (by decide) ?_
                    obtain ⟨x1166, x1166_e⟩ : ∃ z : Int32, z = x812 + 1 := ⟨_, rfl⟩
                    have x1166_h : Iv 2 11 x1166 := iv_e x1166_e (iv_add j1164 ik_1 (by decide))
                    refine lv_iinc (v := x1166) (lv' := [(4, .int x1166), (7, .int 1025), (6, .int x1148), (5, .int x1147), (3, .int x1), (0, .ref o1), (1, .int 11), (2, .int a2)]) hx hb dX12_goesOn_187 hl (k := 3) rfl (incN (by decide +kernel) x1166_e) (by decide) rfl (fun ls hl => ?_)
                    refine lv_goto (tgt := 19) hx hb dX12_goesOn_190 (by decide) ?_
                    exact ih3 x1166 _ _ _ (ms_up x1166_e j1164 (by decide) hM3) (iv_w x1166_h (by decide)) hP hD hS (lv_sub hl [0, 4, 5, 6, 7] rfl)
            ·
              have qh1149 := nle_i h1149
              have j1167 : Iv 0 10 x1146 := r_ltl qh1149 x1146_h ik_11 (by decide)
              refine lv_iload hx hb dX12_goesOn_43 (lv_at hl 1 rfl) ?_
              refine lv_if_ne (tgt := 60) hx hb dX12_goesOn_45 (by decide) (fun h1168 => ?_) (fun h1168 => ?_)
              ·
                have j1169 : Iv 1 1 x1148 := r_nelo h1168 x1148_h ik_0 (by decide)
                refine lv_iconst (v := 1) hx hb dX12_goesOn_60 (by decide) ?_
                refine lv_goto (tgt := 65) hx hb dX12_goesOn_61 (by decide) ?_
                refine lv_istore (lv' := [(6, .int 1), (7, .int x1146), (5, .int x1147), (4, .int x812), (3, .int x1), (0, .ref o1), (1, .int 11), (2, .int a2)]) hx hb dX12_goesOn_65 hl (by decide) rfl (fun ls hl => ?_)
                refine lv_iload hx hb dX12_goesOn_67 (lv_at hl 2 rfl) ?_
                refine lv_aload_n hx hb dX12_goesOn_69 rfl (lv_at hl 5 rfl) ?_
                refine va_get (D := (dC, dI)) (ci := 12) (v := .ref o6) (C := RX12) (T := TX12) (N := 29) hx hb hts iw_X12_goesOn_X12 hown hK hP 0 rfl rfl 3 (by decide) (hts (.fieldLink RX12 13 "HolelessHouseModel" "near" "[I") hm_X12_goesOn_3) (fun _ h9 => h9) rfl dX12_goesOn_70 ?_
                refine lv_iload hx hb dX12_goesOn_73 (lv_at hl 3 rfl) ?_
                refine va_iald hx hb hK hP 2 0 rfl rfl (vin_iv j814 (by decide)) dX12_goesOn_75 (lv_topi (fun x1170 x1170_e => ?_))
                have x1170_h : Iv 0 4095 x1170 := iv_e x1170_e (bd_at fw7_b (vin_iv j814 (by decide)))
                refine lv_aload_n hx hb dX12_goesOn_76 rfl (lv_at hl 5 rfl) ?_
                refine va_get (D := (dC, dI)) (ci := 12) (v := .ref o11) (C := RX12) (T := TX12) (N := 29) hx hb hts iw_X12_goesOn_X12 hown hK hP 0 rfl rfl 6 (by decide) (hts (.fieldLink RX12 19 "HolelessHouseModel" "ring" "[I") hm_X12_goesOn_1) (fun _ h9 => h9) rfl dX12_goesOn_77 ?_
                refine lv_iload hx hb dX12_goesOn_80 (lv_at hl 1 rfl) ?_
                refine va_iald hx hb hK hP 1 0 rfl rfl (vin_iv j1167 (by decide)) dX12_goesOn_82 (lv_topi (fun x1171 x1171_e => ?_))
                have x1171_h : Iv 0 11 x1171 := iv_e x1171_e (bd_at fw12_b (vin_iv j1167 (by decide)))
                refine kc_i (D := (dC, dI)) (S := Unit) (wc := []) (wr := [(o1, .inr (12, [.int v2, .ref o3, .int v5, .ref o6, .int v8, .ref o9, .ref o11, .int v13, .ref o14, .int v16, .ref o17, .int v19, .int v20, .int v21, .ref o22, .ref o24, .ref o26, .ref o28, .ref o30, .int v32, .ref o33, .ref o35, .ref o37, .int v39, .ref o40, .ref o42, .ref o44, .int v46, .ref o47])), (o11, .inl (cI, 12, .inl fw12)), (o6, .inl (cI, 12, .inl fw7))]) (w1 := fun _ => []) (wn := fun _ => [(o1, .inr (12, [.int v2, .ref o3, .int v5, .ref o6, .int v8, .ref o9, .ref o11, .int v13, .ref o14, .int v16, .ref o17, .int v19, .int v20, .int v21, .ref o22, .ref o24, .ref o26, .ref o28, .ref o30, .int v32, .ref o33, .ref o35, .ref o37, .int v39, .ref o40, .ref o42, .ref o44, .int v46, .ref o47])), (o11, .inl (cI, 12, .inl fw12)), (o6, .inl (cI, 12, .inl fw7))]) (fun hPc hDc => va_runS (As := [.int x1170, .int x1171]) (rest := [.int x1147]) ⟨hx, hb, hml, hown, hts⟩ (kX12_has_1 l dC dI cI c2 cZ x1170 x1171 H.size (iv_w x1171_h (by decide))) (va_cwS 2 hts gX12_goesOn_X12_has rfl rfl rfl (by decide +kernel) ⟨Nat.le_of_ble_eq_true rfl, Nat.le_of_ble_eq_true rfl⟩) (pre_S hPc hK hDc hN) rfl rfl hl.1 rfl (lv_room (Nat.le_of_ble_eq_true rfl)) dX12_goesOn_83 ⟨Nat.le_of_ble_eq_true rfl, Nat.le_of_ble_eq_true rfl⟩) hP hD hS hA [] [0, 1, 2] [0, 1, 2] rfl rfl (by decide +kernel) (by decide +kernel) (by decide +kernel) (by decide +kernel) (fun _ => rfl) (fun x1172 _ H locs hq hP hD hS => ?_)
                obtain ⟨x1172_h, e1173⟩ := hq
                have hP : va_P (dC, dI) vwCl ([(o1, .inr (12, [.int v2, .ref o3, .int v5, .ref o6, .int v8, .ref o9, .ref o11, .int v13, .ref o14, .int v16, .ref o17, .int v19, .int v20, .int v21, .ref o22, .ref o24, .ref o26, .ref o28, .ref o30, .int v32, .ref o33, .ref o35, .ref o37, .int v39, .ref o40, .ref o42, .ref o44, .int v46, .ref o47])), (o11, .inl (cI, 12, .inl fw12)), (o6, .inl (cI, 12, .inl fw7))]) H := hP
                have hD : va_D A ([(o1, .inr (12, [.int v2, .ref o3, .int v5, .ref o6, .int v8, .ref o9, .ref o11, .int v13, .ref o14, .int v16, .ref o17, .int v19, .int v20, .int v21, .ref o22, .ref o24, .ref o26, .ref o28, .ref o30, .int v32, .ref o33, .ref o35, .ref o37, .int v39, .ref o40, .ref o42, .ref o44, .int v46, .ref o47])), (o11, .inl (cI, 12, .inl fw12)), (o6, .inl (cI, 12, .inl fw7))]) := hD
                refine lv_if_eq (tgt := 96) hx hb dX12_goesOn_86 (by decide) (fun h1174 => ?_) (fun h1174 => ?_)
                ·
                  have j1175 : Iv 0 0 x1172 := r_eq h1174 ik_0
                  have b1176 : bt x1170 (Int32.toNatClampNeg x1171) = false := has_f e1173 h1174
                  refine lv_iconst (v := 0) hx hb dX12_goesOn_96 (by decide) ?_
                  refine lv_ior hx hb dX12_goesOn_97 (lv_topi (fun x1177 x1177_e => ?_))
                  have x1177_h : Iv 0 4095 x1177 := iv_e x1177_e (iv_or 12 x1147_h ik_0 (by decide))
                  refine lv_istore (lv' := [(5, .int x1177), (6, .int 1), (7, .int x1146), (4, .int x812), (3, .int x1), (0, .ref o1), (1, .int 11), (2, .int a2)]) hx hb dX12_goesOn_98 hl (by decide) rfl (fun ls hl => ?_)
                  obtain ⟨x1178, x1178_e⟩ : ∃ z : Int32, z = x1146 + 1 := ⟨_, rfl⟩
                  have x1178_h : Iv 1 11 x1178 := iv_e x1178_e (iv_add j1167 ik_1 (by decide))
                  refine lv_iinc (v := x1178) (lv' := [(7, .int x1178), (5, .int x1177), (6, .int 1), (4, .int x812), (3, .int x1), (0, .ref o1), (1, .int 11), (2, .int a2)]) hx hb dX12_goesOn_100 hl (k := 2) rfl (incN (by decide +kernel) x1178_e) (by decide) rfl (fun ls hl => ?_)
                  refine lv_goto (tgt := 37) hx hb dX12_goesOn_103 (by decide) ?_
                  exact ih4 x1178 x1177 1 _ _ _ (ms_up x1178_e j1167 (by decide) hM4) (iv_w x1178_h (by decide)) x1177_h (iv_w ik_1 (by decide)) hP hD hS (lv_sub hl [0, 2, 1, 3, 4, 5, 6, 7] rfl)
                ·
                  have j1179 : Iv 1 1 x1172 := r_nelo h1174 x1172_h ik_0 (by decide)
                  have b1180 : bt x1170 (Int32.toNatClampNeg x1171) = true := has_t e1173 h1174
                  refine lv_iconst (v := 1) hx hb dX12_goesOn_89 (by decide) ?_
                  refine lv_iload hx hb dX12_goesOn_90 (lv_at hl 1 rfl) ?_
                  refine lv_ishl hx hb dX12_goesOn_92 (lv_topi (fun x1181 x1181_e => ?_))
                  have x1181_h : Iv 1 1024 x1181 := iv_e x1181_e (iv_shl1 j1167 (by decide))
                  refine lv_goto (tgt := 97) hx hb dX12_goesOn_93 (by decide) ?_
                  refine lv_ior hx hb dX12_goesOn_97 (lv_topi (fun x1182 x1182_e => ?_))
                  have x1182_h : Iv 0 4095 x1182 := iv_e x1182_e (iv_or 12 x1147_h x1181_h (by decide))
                  refine lv_istore (lv' := [(5, .int x1182), (6, .int 1), (7, .int x1146), (4, .int x812), (3, .int x1), (0, .ref o1), (1, .int 11), (2, .int a2)]) hx hb dX12_goesOn_98 hl (by decide) rfl (fun ls hl => ?_)
                  obtain ⟨x1183, x1183_e⟩ : ∃ z : Int32, z = x1146 + 1 := ⟨_, rfl⟩
                  have x1183_h : Iv 1 11 x1183 := iv_e x1183_e (iv_add j1167 ik_1 (by decide))
                  refine lv_iinc (v := x1183) (lv' := [(7, .int x1183), (5, .int x1182), (6, .int 1), (4, .int x812), (3, .int x1), (0, .ref o1), (1, .int 11), (2, .int a2)]) hx hb dX12_goesOn_100 hl (k := 2) rfl (incN (by decide +kernel) x1183_e) (by decide) rfl (fun ls hl => ?_)
                  refine lv_goto (tgt := 37) hx hb dX12_goesOn_103 (by decide) ?_
                  exact ih4 x1183 x1182 1 _ _ _ (ms_up x1183_e j1167 (by decide) hM4) (iv_w x1183_h (by decide)) x1182_h (iv_w ik_1 (by decide)) hP hD hS (lv_sub hl [0, 2, 1, 3, 4, 5, 6, 7] rfl)
              ·
                have j1184 : Iv 0 0 x1148 := r_eq h1168 ik_0
                refine lv_aload_n hx hb dX12_goesOn_48 rfl (lv_at hl 5 rfl) ?_
                refine va_get (D := (dC, dI)) (ci := 12) (v := .ref o11) (C := RX12) (T := TX12) (N := 29) hx hb hts iw_X12_goesOn_X12 hown hK hP 0 rfl rfl 6 (by decide) (hts (.fieldLink RX12 19 "HolelessHouseModel" "ring" "[I") hm_X12_goesOn_1) (fun _ h9 => h9) rfl dX12_goesOn_49 ?_
                refine lv_iload hx hb dX12_goesOn_52 (lv_at hl 0 rfl) ?_
                refine va_iald hx hb hK hP 1 0 rfl rfl (vin_iv j1167 (by decide)) dX12_goesOn_54 (lv_topi (fun x1185 x1185_e => ?_))
                have x1185_h : Iv 0 11 x1185 := iv_e x1185_e (bd_at fw12_b (vin_iv j1167 (by decide)))
                refine lv_iload hx hb dX12_goesOn_55 (lv_at hl 3 rfl) ?_
                refine lv_icmp_ne (tgt := 64) hx hb dX12_goesOn_57 (by decide) (fun h1186 => ?_) (fun h1186 => ?_)
                ·
                  refine lv_iconst (v := 0) hx hb dX12_goesOn_64 (by decide) ?_
                  refine lv_istore (lv' := [(6, .int 0), (7, .int x1146), (5, .int x1147), (4, .int x812), (3, .int x1), (0, .ref o1), (1, .int 11), (2, .int a2)]) hx hb dX12_goesOn_65 hl (by decide) rfl (fun ls hl => ?_)
                  refine lv_iload hx hb dX12_goesOn_67 (lv_at hl 2 rfl) ?_
                  refine lv_aload_n hx hb dX12_goesOn_69 rfl (lv_at hl 5 rfl) ?_
                  refine va_get (D := (dC, dI)) (ci := 12) (v := .ref o6) (C := RX12) (T := TX12) (N := 29) hx hb hts iw_X12_goesOn_X12 hown hK hP 0 rfl rfl 3 (by decide) (hts (.fieldLink RX12 13 "HolelessHouseModel" "near" "[I") hm_X12_goesOn_3) (fun _ h9 => h9) rfl dX12_goesOn_70 ?_
                  refine lv_iload hx hb dX12_goesOn_73 (lv_at hl 3 rfl) ?_
                  refine va_iald hx hb hK hP 2 0 rfl rfl (vin_iv j814 (by decide)) dX12_goesOn_75 (lv_topi (fun x1187 x1187_e => ?_))
                  have x1187_h : Iv 0 4095 x1187 := iv_e x1187_e (bd_at fw7_b (vin_iv j814 (by decide)))
                  refine lv_aload_n hx hb dX12_goesOn_76 rfl (lv_at hl 5 rfl) ?_
                  refine va_get (D := (dC, dI)) (ci := 12) (v := .ref o11) (C := RX12) (T := TX12) (N := 29) hx hb hts iw_X12_goesOn_X12 hown hK hP 0 rfl rfl 6 (by decide) (hts (.fieldLink RX12 19 "HolelessHouseModel" "ring" "[I") hm_X12_goesOn_1) (fun _ h9 => h9) rfl dX12_goesOn_77 ?_
                  refine lv_iload hx hb dX12_goesOn_80 (lv_at hl 1 rfl) ?_
                  refine va_iald hx hb hK hP 1 0 rfl rfl (vin_iv j1167 (by decide)) dX12_goesOn_82 (lv_topi (fun x1188 x1188_e => ?_))
                  have x1188_h : Iv 0 11 x1188 := iv_e x1188_e (bd_at fw12_b (vin_iv j1167 (by decide)))
                  refine kc_i (D := (dC, dI)) (S := Unit) (wc := []) (wr := [(o1, .inr (12, [.int v2, .ref o3, .int v5, .ref o6, .int v8, .ref o9, .ref o11, .int v13, .ref o14, .int v16, .ref o17, .int v19, .int v20, .int v21, .ref o22, .ref o24, .ref o26, .ref o28, .ref o30, .int v32, .ref o33, .ref o35, .ref o37, .int v39, .ref o40, .ref o42, .ref o44, .int v46, .ref o47])), (o11, .inl (cI, 12, .inl fw12)), (o6, .inl (cI, 12, .inl fw7))]) (w1 := fun _ => []) (wn := fun _ => [(o1, .inr (12, [.int v2, .ref o3, .int v5, .ref o6, .int v8, .ref o9, .ref o11, .int v13, .ref o14, .int v16, .ref o17, .int v19, .int v20, .int v21, .ref o22, .ref o24, .ref o26, .ref o28, .ref o30, .int v32, .ref o33, .ref o35, .ref o37, .int v39, .ref o40, .ref o42, .ref o44, .int v46, .ref o47])), (o11, .inl (cI, 12, .inl fw12)), (o6, .inl (cI, 12, .inl fw7))]) (fun hPc hDc => va_runS (As := [.int x1187, .int x1188]) (rest := [.int x1147]) ⟨hx, hb, hml, hown, hts⟩ (kX12_has_1 l dC dI cI c2 cZ x1187 x1188 H.size (iv_w x1188_h (by decide))) (va_cwS 2 hts gX12_goesOn_X12_has rfl rfl rfl (by decide +kernel) ⟨Nat.le_of_ble_eq_true rfl, Nat.le_of_ble_eq_true rfl⟩) (pre_S hPc hK hDc hN) rfl rfl hl.1 rfl (lv_room (Nat.le_of_ble_eq_true rfl)) dX12_goesOn_83 ⟨Nat.le_of_ble_eq_true rfl, Nat.le_of_ble_eq_true rfl⟩) hP hD hS hA [] [0, 1, 2] [0, 1, 2] rfl rfl (by decide +kernel) (by decide +kernel) (by decide +kernel) (by decide +kernel) (fun _ => rfl) (fun x1189 _ H locs hq hP hD hS => ?_)
                  obtain ⟨x1189_h, e1190⟩ := hq
                  have hP : va_P (dC, dI) vwCl ([(o1, .inr (12, [.int v2, .ref o3, .int v5, .ref o6, .int v8, .ref o9, .ref o11, .int v13, .ref o14, .int v16, .ref o17, .int v19, .int v20, .int v21, .ref o22, .ref o24, .ref o26, .ref o28, .ref o30, .int v32, .ref o33, .ref o35, .ref o37, .int v39, .ref o40, .ref o42, .ref o44, .int v46, .ref o47])), (o11, .inl (cI, 12, .inl fw12)), (o6, .inl (cI, 12, .inl fw7))]) H := hP
                  have hD : va_D A ([(o1, .inr (12, [.int v2, .ref o3, .int v5, .ref o6, .int v8, .ref o9, .ref o11, .int v13, .ref o14, .int v16, .ref o17, .int v19, .int v20, .int v21, .ref o22, .ref o24, .ref o26, .ref o28, .ref o30, .int v32, .ref o33, .ref o35, .ref o37, .int v39, .ref o40, .ref o42, .ref o44, .int v46, .ref o47])), (o11, .inl (cI, 12, .inl fw12)), (o6, .inl (cI, 12, .inl fw7))]) := hD
                  refine lv_if_eq (tgt := 96) hx hb dX12_goesOn_86 (by decide) (fun h1191 => ?_) (fun h1191 => ?_)
                  ·
                    have j1192 : Iv 0 0 x1189 := r_eq h1191 ik_0
                    have b1193 : bt x1187 (Int32.toNatClampNeg x1188) = false := has_f e1190 h1191
                    refine lv_iconst (v := 0) hx hb dX12_goesOn_96 (by decide) ?_
                    refine lv_ior hx hb dX12_goesOn_97 (lv_topi (fun x1194 x1194_e => ?_))
                    have x1194_h : Iv 0 4095 x1194 := iv_e x1194_e (iv_or 12 x1147_h ik_0 (by decide))
                    refine lv_istore (lv' := [(5, .int x1194), (6, .int 0), (7, .int x1146), (4, .int x812), (3, .int x1), (0, .ref o1), (1, .int 11), (2, .int a2)]) hx hb dX12_goesOn_98 hl (by decide) rfl (fun ls hl => ?_)
                    obtain ⟨x1195, x1195_e⟩ : ∃ z : Int32, z = x1146 + 1 := ⟨_, rfl⟩
                    have x1195_h : Iv 1 11 x1195 := iv_e x1195_e (iv_add j1167 ik_1 (by decide))
                    refine lv_iinc (v := x1195) (lv' := [(7, .int x1195), (5, .int x1194), (6, .int 0), (4, .int x812), (3, .int x1), (0, .ref o1), (1, .int 11), (2, .int a2)]) hx hb dX12_goesOn_100 hl (k := 2) rfl (incN (by decide +kernel) x1195_e) (by decide) rfl (fun ls hl => ?_)
                    refine lv_goto (tgt := 37) hx hb dX12_goesOn_103 (by decide) ?_
                    exact ih4 x1195 x1194 0 _ _ _ (ms_up x1195_e j1167 (by decide) hM4) (iv_w x1195_h (by decide)) x1194_h (iv_w ik_0 (by decide)) hP hD hS (lv_sub hl [0, 2, 1, 3, 4, 5, 6, 7] rfl)
                  ·
                    have j1196 : Iv 1 1 x1189 := r_nelo h1191 x1189_h ik_0 (by decide)
                    have b1197 : bt x1187 (Int32.toNatClampNeg x1188) = true := has_t e1190 h1191
                    refine lv_iconst (v := 1) hx hb dX12_goesOn_89 (by decide) ?_
                    refine lv_iload hx hb dX12_goesOn_90 (lv_at hl 1 rfl) ?_
                    refine lv_ishl hx hb dX12_goesOn_92 (lv_topi (fun x1198 x1198_e => ?_))
                    have x1198_h : Iv 1 1024 x1198 := iv_e x1198_e (iv_shl1 j1167 (by decide))
                    refine lv_goto (tgt := 97) hx hb dX12_goesOn_93 (by decide) ?_
                    refine lv_ior hx hb dX12_goesOn_97 (lv_topi (fun x1199 x1199_e => ?_))
                    have x1199_h : Iv 0 4095 x1199 := iv_e x1199_e (iv_or 12 x1147_h x1198_h (by decide))
                    refine lv_istore (lv' := [(5, .int x1199), (6, .int 0), (7, .int x1146), (4, .int x812), (3, .int x1), (0, .ref o1), (1, .int 11), (2, .int a2)]) hx hb dX12_goesOn_98 hl (by decide) rfl (fun ls hl => ?_)
                    obtain ⟨x1200, x1200_e⟩ : ∃ z : Int32, z = x1146 + 1 := ⟨_, rfl⟩
                    have x1200_h : Iv 1 11 x1200 := iv_e x1200_e (iv_add j1167 ik_1 (by decide))
                    refine lv_iinc (v := x1200) (lv' := [(7, .int x1200), (5, .int x1199), (6, .int 0), (4, .int x812), (3, .int x1), (0, .ref o1), (1, .int 11), (2, .int a2)]) hx hb dX12_goesOn_100 hl (k := 2) rfl (incN (by decide +kernel) x1200_e) (by decide) rfl (fun ls hl => ?_)
                    refine lv_goto (tgt := 37) hx hb dX12_goesOn_103 (by decide) ?_
                    exact ih4 x1200 x1199 0 _ _ _ (ms_up x1200_e j1167 (by decide) hM4) (iv_w x1200_h (by decide)) x1199_h (iv_w ik_0 (by decide)) hP hD hS (lv_sub hl [0, 2, 1, 3, 4, 5, 6, 7] rfl)
                ·
                  have j1201 : Iv 1 11 x1185 := r_eq h1186 j814
                  refine lv_iconst (v := 1) hx hb dX12_goesOn_60 (by decide) ?_
                  refine lv_goto (tgt := 65) hx hb dX12_goesOn_61 (by decide) ?_
                  refine lv_istore (lv' := [(6, .int 1), (7, .int x1146), (5, .int x1147), (4, .int x812), (3, .int x1), (0, .ref o1), (1, .int 11), (2, .int a2)]) hx hb dX12_goesOn_65 hl (by decide) rfl (fun ls hl => ?_)
                  refine lv_iload hx hb dX12_goesOn_67 (lv_at hl 2 rfl) ?_
                  refine lv_aload_n hx hb dX12_goesOn_69 rfl (lv_at hl 5 rfl) ?_
                  refine va_get (D := (dC, dI)) (ci := 12) (v := .ref o6) (C := RX12) (T := TX12) (N := 29) hx hb hts iw_X12_goesOn_X12 hown hK hP 0 rfl rfl 3 (by decide) (hts (.fieldLink RX12 13 "HolelessHouseModel" "near" "[I") hm_X12_goesOn_3) (fun _ h9 => h9) rfl dX12_goesOn_70 ?_
                  refine lv_iload hx hb dX12_goesOn_73 (lv_at hl 3 rfl) ?_
                  refine va_iald hx hb hK hP 2 0 rfl rfl (vin_iv j814 (by decide)) dX12_goesOn_75 (lv_topi (fun x1202 x1202_e => ?_))
                  have x1202_h : Iv 0 4095 x1202 := iv_e x1202_e (bd_at fw7_b (vin_iv j814 (by decide)))
                  refine lv_aload_n hx hb dX12_goesOn_76 rfl (lv_at hl 5 rfl) ?_
                  refine va_get (D := (dC, dI)) (ci := 12) (v := .ref o11) (C := RX12) (T := TX12) (N := 29) hx hb hts iw_X12_goesOn_X12 hown hK hP 0 rfl rfl 6 (by decide) (hts (.fieldLink RX12 19 "HolelessHouseModel" "ring" "[I") hm_X12_goesOn_1) (fun _ h9 => h9) rfl dX12_goesOn_77 ?_
                  refine lv_iload hx hb dX12_goesOn_80 (lv_at hl 1 rfl) ?_
                  refine va_iald hx hb hK hP 1 0 rfl rfl (vin_iv j1167 (by decide)) dX12_goesOn_82 (lv_topi (fun x1203 x1203_e => ?_))
                  have x1203_h : Iv 1 11 x1203 := iv_e (x1203_e.trans x1185_e.symm) j1201
                  refine kc_i (D := (dC, dI)) (S := Unit) (wc := []) (wr := [(o1, .inr (12, [.int v2, .ref o3, .int v5, .ref o6, .int v8, .ref o9, .ref o11, .int v13, .ref o14, .int v16, .ref o17, .int v19, .int v20, .int v21, .ref o22, .ref o24, .ref o26, .ref o28, .ref o30, .int v32, .ref o33, .ref o35, .ref o37, .int v39, .ref o40, .ref o42, .ref o44, .int v46, .ref o47])), (o11, .inl (cI, 12, .inl fw12)), (o6, .inl (cI, 12, .inl fw7))]) (w1 := fun _ => []) (wn := fun _ => [(o1, .inr (12, [.int v2, .ref o3, .int v5, .ref o6, .int v8, .ref o9, .ref o11, .int v13, .ref o14, .int v16, .ref o17, .int v19, .int v20, .int v21, .ref o22, .ref o24, .ref o26, .ref o28, .ref o30, .int v32, .ref o33, .ref o35, .ref o37, .int v39, .ref o40, .ref o42, .ref o44, .int v46, .ref o47])), (o11, .inl (cI, 12, .inl fw12)), (o6, .inl (cI, 12, .inl fw7))]) (fun hPc hDc => va_runS (As := [.int x1202, .int x1203]) (rest := [.int x1147]) ⟨hx, hb, hml, hown, hts⟩ (kX12_has_1 l dC dI cI c2 cZ x1202 x1203 H.size (iv_w x1203_h (by decide))) (va_cwS 2 hts gX12_goesOn_X12_has rfl rfl rfl (by decide +kernel) ⟨Nat.le_of_ble_eq_true rfl, Nat.le_of_ble_eq_true rfl⟩) (pre_S hPc hK hDc hN) rfl rfl hl.1 rfl (lv_room (Nat.le_of_ble_eq_true rfl)) dX12_goesOn_83 ⟨Nat.le_of_ble_eq_true rfl, Nat.le_of_ble_eq_true rfl⟩) hP hD hS hA [] [0, 1, 2] [0, 1, 2] rfl rfl (by decide +kernel) (by decide +kernel) (by decide +kernel) (by decide +kernel) (fun _ => rfl) (fun x1204 _ H locs hq hP hD hS => ?_)
                  obtain ⟨x1204_h, e1205⟩ := hq
                  have hP : va_P (dC, dI) vwCl ([(o1, .inr (12, [.int v2, .ref o3, .int v5, .ref o6, .int v8, .ref o9, .ref o11, .int v13, .ref o14, .int v16, .ref o17, .int v19, .int v20, .int v21, .ref o22, .ref o24, .ref o26, .ref o28, .ref o30, .int v32, .ref o33, .ref o35, .ref o37, .int v39, .ref o40, .ref o42, .ref o44, .int v46, .ref o47])), (o11, .inl (cI, 12, .inl fw12)), (o6, .inl (cI, 12, .inl fw7))]) H := hP
                  have hD : va_D A ([(o1, .inr (12, [.int v2, .ref o3, .int v5, .ref o6, .int v8, .ref o9, .ref o11, .int v13, .ref o14, .int v16, .ref o17, .int v19, .int v20, .int v21, .ref o22, .ref o24, .ref o26, .ref o28, .ref o30, .int v32, .ref o33, .ref o35, .ref o37, .int v39, .ref o40, .ref o42, .ref o44, .int v46, .ref o47])), (o11, .inl (cI, 12, .inl fw12)), (o6, .inl (cI, 12, .inl fw7))]) := hD
                  refine lv_if_eq (tgt := 96) hx hb dX12_goesOn_86 (by decide) (fun h1206 => ?_) (fun h1206 => ?_)
                  ·
                    have j1207 : Iv 0 0 x1204 := r_eq h1206 ik_0
                    have b1208 : bt x1202 (Int32.toNatClampNeg x1203) = false := has_f e1205 h1206
                    refine lv_iconst (v := 0) hx hb dX12_goesOn_96 (by decide) ?_
                    refine lv_ior hx hb dX12_goesOn_97 (lv_topi (fun x1209 x1209_e => ?_))
                    have x1209_h : Iv 0 4095 x1209 := iv_e x1209_e (iv_or 12 x1147_h ik_0 (by decide))
                    refine lv_istore (lv' := [(5, .int x1209), (6, .int 1), (7, .int x1146), (4, .int x812), (3, .int x1), (0, .ref o1), (1, .int 11), (2, .int a2)]) hx hb dX12_goesOn_98 hl (by decide) rfl (fun ls hl => ?_)
                    obtain ⟨x1210, x1210_e⟩ : ∃ z : Int32, z = x1146 + 1 := ⟨_, rfl⟩
                    have x1210_h : Iv 1 11 x1210 := iv_e x1210_e (iv_add j1167 ik_1 (by decide))
                    refine lv_iinc (v := x1210) (lv' := [(7, .int x1210), (5, .int x1209), (6, .int 1), (4, .int x812), (3, .int x1), (0, .ref o1), (1, .int 11), (2, .int a2)]) hx hb dX12_goesOn_100 hl (k := 2) rfl (incN (by decide +kernel) x1210_e) (by decide) rfl (fun ls hl => ?_)
                    refine lv_goto (tgt := 37) hx hb dX12_goesOn_103 (by decide) ?_
                    exact ih4 x1210 x1209 1 _ _ _ (ms_up x1210_e j1167 (by decide) hM4) (iv_w x1210_h (by decide)) x1209_h (iv_w ik_1 (by decide)) hP hD hS (lv_sub hl [0, 2, 1, 3, 4, 5, 6, 7] rfl)
                  ·
                    have j1211 : Iv 1 1 x1204 := r_nelo h1206 x1204_h ik_0 (by decide)
                    have b1212 : bt x1202 (Int32.toNatClampNeg x1203) = true := has_t e1205 h1206
                    refine lv_iconst (v := 1) hx hb dX12_goesOn_89 (by decide) ?_
                    refine lv_iload hx hb dX12_goesOn_90 (lv_at hl 1 rfl) ?_
                    refine lv_ishl hx hb dX12_goesOn_92 (lv_topi (fun x1213 x1213_e => ?_))
                    have x1213_h : Iv 1 1024 x1213 := iv_e x1213_e (iv_shl1 j1167 (by decide))
                    refine lv_goto (tgt := 97) hx hb dX12_goesOn_93 (by decide) ?_
                    refine lv_ior hx hb dX12_goesOn_97 (lv_topi (fun x1214 x1214_e => ?_))
                    have x1214_h : Iv 0 4095 x1214 := iv_e x1214_e (iv_or 12 x1147_h x1213_h (by decide))
                    refine lv_istore (lv' := [(5, .int x1214), (6, .int 1), (7, .int x1146), (4, .int x812), (3, .int x1), (0, .ref o1), (1, .int 11), (2, .int a2)]) hx hb dX12_goesOn_98 hl (by decide) rfl (fun ls hl => ?_)
                    obtain ⟨x1215, x1215_e⟩ : ∃ z : Int32, z = x1146 + 1 := ⟨_, rfl⟩
                    have x1215_h : Iv 1 11 x1215 := iv_e x1215_e (iv_add j1167 ik_1 (by decide))
                    refine lv_iinc (v := x1215) (lv' := [(7, .int x1215), (5, .int x1214), (6, .int 1), (4, .int x812), (3, .int x1), (0, .ref o1), (1, .int 11), (2, .int a2)]) hx hb dX12_goesOn_100 hl (k := 2) rfl (incN (by decide +kernel) x1215_e) (by decide) rfl (fun ls hl => ?_)
                    refine lv_goto (tgt := 37) hx hb dX12_goesOn_103 (by decide) ?_
                    exact ih4 x1215 x1214 1 _ _ _ (ms_up x1215_e j1167 (by decide) hM4) (iv_w x1215_h (by decide)) x1214_h (iv_w ik_1 (by decide)) hP hD hS (lv_sub hl [0, 2, 1, 3, 4, 5, 6, 7] rfl)
        exact L4 _ 0 0 0 _ _ _ (Nat.lt_succ_self _) (iv_w ik_0 (by decide)) (iv_w ik_0 (by decide)) (iv_w ik_0 (by decide)) hP hD hS hl
  exact L3 _ x3 _ _ _ (Nat.lt_succ_self _) x3_h hP hD hS hl
set_option maxHeartbeats 4000000 in
set_option maxRecDepth 100000 in
theorem kX12_goesOn_2 (l : Launch) (dC : Nat → ClassId) (dI : Nat → Nat → Nat) (cI c2 cZ : ClassId) (o1 : Nat) (o3 : Nat) (o6 : Nat) (o9 : Nat) (o11 : Nat) (o14 : Nat) (o17 : Nat) (o22 : Nat) (o24 : Nat) (o26 : Nat) (o28 : Nat) (o30 : Nat) (o33 : Nat) (o35 : Nat) (o37 : Nat) (o40 : Nat) (o42 : Nat) (o44 : Nat) (o47 : Nat) (v2 : Int32) (v5 : Int32) (fw7 : Nat → Int32) (v8 : Int32) (fw12 : Nat → Int32) (v13 : Int32) (v16 : Int32) (v19 : Int32) (v20 : Int32) (v21 : Int32) (v32 : Int32) (v39 : Int32) (v46 : Int32) (a2 : Int32) (sz : Nat) (v5_h : Iv 0 12 v5) (fw7_b : Bd 12 0 4095 fw7) (v8_h : Iv 0 8 v8) (fw12_b : Bd 12 0 11 fw12) (v13_h : Iv 0 12 v13) (v16_h : Iv 0 12 v16) (v19_h : Iv (-9) 12 v19) (v32_h : Iv 0 99 v32) (v39_h : Iv 0 12 v39) (v46_h : Iv 0 12 v46) (a2_h : Iv 11 12 a2) : Met l yX12_goesOn wsX12_goesOn ({ frames := 2, cells := 0, slots := 0, locals := 48 }) (va_Pc [.ref o1, .int 10, .int a2] (wPre (dC, dI) [(cI, .int), (c2, .array .int), (cZ, .boolean)] ([(o1, .inr (12, [.int v2, .ref o3, .int v5, .ref o6, .int v8, .ref o9, .ref o11, .int v13, .ref o14, .int v16, .ref o17, .int v19, .int v20, .int v21, .ref o22, .ref o24, .ref o26, .ref o28, .ref o30, .int v32, .ref o33, .ref o35, .ref o37, .int v39, .ref o40, .ref o42, .ref o44, .int v46, .ref o47])), (o11, .inl (cI, 12, .inl fw12)), (o6, .inl (cI, 12, .inl fw7))]) sz)) (va_Qi (fun (r : Int32) (u : (Nat → Int32)) => Iv 0 1 r ∧ Bd 12 0 11 u) (fun u t => wPost (dC, dI) [(cI, .int), (c2, .array .int), (cZ, .boolean)] (va_A ([(o1, .inr (12, [.int v2, .ref o3, .int v5, .ref o6, .int v8, .ref o9, .ref o11, .int v13, .ref o14, .int v16, .ref o17, .int v19, .int v20, .int v21, .ref o22, .ref o24, .ref o26, .ref o28, .ref o30, .int v32, .ref o33, .ref o35, .ref o37, .int v39, .ref o40, .ref o42, .ref o44, .int v46, .ref o47])), (o11, .inl (cI, 12, .inl fw12)), (o6, .inl (cI, 12, .inl fw7))]) sz) ([(o1, .inr (12, [.int v2, .ref o3, .int v5, .ref o6, .int v8, .ref o9, .ref o11, .int v13, .ref o14, .int v16, .ref o17, .int v19, .int v20, .int v21, .ref o22, .ref o24, .ref o26, .ref o28, .ref o30, .int v32, .ref o33, .ref o35, .ref o37, .int v39, .ref o40, .ref o42, .ref o44, .int v46, .ref o47])), (o11, .inl (cI, 12, .inl u)), (o6, .inl (cI, 12, .inl fw7))]) t) (va_A ([(o1, .inr (12, [.int v2, .ref o3, .int v5, .ref o6, .int v8, .ref o9, .ref o11, .int v13, .ref o14, .int v16, .ref o17, .int v19, .int v20, .int v21, .ref o22, .ref o24, .ref o26, .ref o28, .ref o30, .int v32, .ref o33, .ref o35, .ref o37, .int v39, .ref o40, .ref o42, .ref o44, .int v46, .ref o47])), (o11, .inl (cI, 12, .inl fw12)), (o6, .inl (cI, 12, .inl fw7))]) sz)) 0 0 (va_A ([(o1, .inr (12, [.int v2, .ref o3, .int v5, .ref o6, .int v8, .ref o9, .ref o11, .int v13, .ref o14, .int v16, .ref o17, .int v19, .int v20, .int v21, .ref o22, .ref o24, .ref o26, .ref o28, .ref o30, .int v32, .ref o33, .ref o35, .ref o37, .int v39, .ref o40, .ref o42, .ref o44, .int v46, .ref o47])), (o11, .inl (cI, 12, .inl fw12)), (o6, .inl (cI, 12, .inl fw7))]) sz) := by
  refine Met.ofW (cc := cX12_goesOn) (maxL := 8) (ret := (some .boolean)) (by decide) rfl ?_
  intro p e s m args below meth c s₁ B hml hv
  obtain ⟨rfl, hsz, hP, hK, hD0, hN⟩ := hv
  have hx := B.exec
  have hb := B.bytes
  have hr := B.returns
  have hts := atoms_spec (ws := wsX12_goesOn) B.pre
  have hown : s.vm.findClass RX12 = some m.cls := findClass_of_methodNamed B.named
  have hlocks := B.notSynchronized
  subst hsz
  have hD := hD0.self (sz := s.heap.size)
  generalize hAe : va_A ([(o1, .inr (12, [.int v2, .ref o3, .int v5, .ref o6, .int v8, .ref o9, .ref o11, .int v13, .ref o14, .int v16, .ref o17, .int v19, .int v20, .int v21, .ref o22, .ref o24, .ref o26, .ref o28, .ref o30, .int v32, .ref o33, .ref o35, .ref o37, .int v39, .ref o40, .ref o42, .ref o44, .int v46, .ref o47])), (o11, .inl (cI, 12, .inl fw12)), (o6, .inl (cI, 12, .inl fw7))]) s.heap.size = A at hD ⊢
  have hA : ∀ q : Nat, s.heap.size ≤ q → A q := fun q h => by rw [← hAe]; exact Or.inr h
  have hS : va_S A s.heap s.heap [] := va_S.rf
  have hP : va_P (dC, dI) vwCl ([(o1, .inr (12, [.int v2, .ref o3, .int v5, .ref o6, .int v8, .ref o9, .ref o11, .int v13, .ref o14, .int v16, .ref o17, .int v19, .int v20, .int v21, .ref o22, .ref o24, .ref o26, .ref o28, .ref o30, .int v32, .ref o33, .ref o35, .ref o37, .int v39, .ref o40, .ref o42, .ref o44, .int v46, .ref o47])), (o11, .inl (cI, 12, .inl fw12)), (o6, .inl (cI, 12, .inl fw7))]) s.heap := hP
  have hl := lv_entry ([.ref o1, .int 10, .int a2]) (n := 8) (Nat.le_of_ble_eq_true rfl)
  rw [lg_entry_eq]
  generalize (lg_sl ([.ref o1, .int 10, .int a2]) ++ List.replicate (8 - (lg_sl ([.ref o1, .int 10, .int a2])).length) Slot.unset).toArray = ls at hl ⊢
  have hl : lv_has ls 8 [(0, .ref o1), (1, .int 10), (2, .int a2)] := hl
  refine gen_Q (fun Q hQ => ?_)
  refine lv_aload_n hx hb dX12_goesOn_0 rfl (lv_at hl 0 rfl) ?_
  refine va_get (D := (dC, dI)) (ci := 12) (v := .ref o11) (C := RX12) (T := TX12) (N := 29) hx hb hts iw_X12_goesOn_X12 hown hK hP 0 rfl rfl 6 (by decide) (hts (.fieldLink RX12 19 "HolelessHouseModel" "ring" "[I") hm_X12_goesOn_1) (fun _ h9 => h9) rfl dX12_goesOn_1 ?_
  refine lv_iload_n hx hb dX12_goesOn_4 rfl (lv_at hl 1 rfl) ?_
  refine lv_iconst (v := 1) hx hb dX12_goesOn_5 (by decide) ?_
  refine lv_isub hx hb dX12_goesOn_6 (tk_i (v := 9) (by decide +kernel) ?_)
  refine va_iald hx hb hK hP 1 0 rfl rfl (vin_iv ik_9 (by decide)) dX12_goesOn_7 (lv_topi (fun x1 x1_e => ?_))
  have x1_h : Iv 0 11 x1 := iv_e x1_e (bd_at fw12_b (vin_iv ik_9 (by decide)))
  refine lv_istore_n (lv' := [(3, .int x1), (0, .ref o1), (1, .int 10), (2, .int a2)]) hx hb dX12_goesOn_8 rfl hl (by decide) rfl (fun ls hl => ?_)
  refine lv_aload_n hx hb dX12_goesOn_9 rfl (lv_at hl 1 rfl) ?_
  refine va_get (D := (dC, dI)) (ci := 12) (v := .ref o11) (C := RX12) (T := TX12) (N := 29) hx hb hts iw_X12_goesOn_X12 hown hK hP 0 rfl rfl 6 (by decide) (hts (.fieldLink RX12 19 "HolelessHouseModel" "ring" "[I") hm_X12_goesOn_1) (fun _ h9 => h9) rfl dX12_goesOn_10 ?_
  refine lv_iconst (v := 0) hx hb dX12_goesOn_13 (by decide) ?_
  refine va_iald hx hb hK hP 1 0 rfl rfl (vin_iv ik_0 (by decide)) dX12_goesOn_14 (lv_topi (fun x2 x2_e => ?_))
  have x2_h : Iv 0 11 x2 := iv_e x2_e (bd_at fw12_b (vin_iv ik_0 (by decide)))
  refine lv_iconst (v := 1) hx hb dX12_goesOn_15 (by decide) ?_
  refine lv_iadd hx hb dX12_goesOn_16 (lv_topi (fun x3 x3_e => ?_))
  have x3_h : Iv 1 12 x3 := iv_e x3_e (iv_add x2_h ik_1 (by decide))
  refine lv_istore (lv' := [(4, .int x3), (3, .int x1), (0, .ref o1), (1, .int 10), (2, .int a2)]) hx hb dX12_goesOn_17 hl (by decide) rfl (fun ls hl => ?_)
  have L3 : ∀ (N : Nat) (x855 : Int32) (f856 : Nat → Int32) (H : Heap) (locs : List Loc) (ls : Array Slot), (12 - x855.toInt).toNat < N → Iv 1 12 x855 → Bd 12 0 11 f856 → va_P (dC, dI) vwCl ([(o1, .inr (12, [.int v2, .ref o3, .int v5, .ref o6, .int v8, .ref o9, .ref o11, .int v13, .ref o14, .int v16, .ref o17, .int v19, .int v20, .int v21, .ref o22, .ref o24, .ref o26, .ref o28, .ref o30, .int v32, .ref o33, .ref o35, .ref o37, .int v39, .ref o40, .ref o42, .ref o44, .int v46, .ref o47])), (o11, .inl (cI, 12, .inl f856)), (o6, .inl (cI, 12, .inl fw7))]) H → va_D A ([(o1, .inr (12, [.int v2, .ref o3, .int v5, .ref o6, .int v8, .ref o9, .ref o11, .int v13, .ref o14, .int v16, .ref o17, .int v19, .int v20, .int v21, .ref o22, .ref o24, .ref o26, .ref o28, .ref o30, .int v32, .ref o33, .ref o35, .ref o37, .int v39, .ref o40, .ref o42, .ref o44, .int v46, .ref o47])), (o11, .inl (cI, 12, .inl f856)), (o6, .inl (cI, 12, .inl fw7))]) → va_S A s.heap H locs → lv_has ls 8 [(4, .int x855), (3, .int x1), (0, .ref o1), (1, .int 10), (2, .int a2)] → W p l e ({ frames := 2, cells := 0, slots := 0, locals := 48 }) s m ([.ref o1, .int 10, .int a2] : List Value).toArray below meth c H locs 0 0 Q (F0 m 19 ls []) := by
    intro N
    induction N with
    | zero =>
      intro x855 f856 H locs ls hM
      exact absurd hM (Nat.not_lt_zero _)
    | succ N ih3 =>
      intro x855 f856 H locs ls hM3 x855_h f856_b hP hD hS hl
      refine lv_iload hx hb dX12_goesOn_19 (lv_at hl 0 rfl) ?_
      refine lv_aload_n hx hb dX12_goesOn_21 rfl (lv_at hl 2 rfl) ?_
      refine va_get (D := (dC, dI)) (ci := 12) (v := .int v5) (C := RX12) (T := TX12) (N := 29) hx hb hts iw_X12_goesOn_X12 hown hK hP 0 rfl rfl 2 (by decide) (hts (.fieldLink RX12 73 "HolelessHouseModel" "n" "I") hm_X12_goesOn_2) (fun _ h9 => h9) rfl dX12_goesOn_22 ?_
      refine lv_icmp_ge (tgt := 193) hx hb dX12_goesOn_25 (by decide) (fun h857 => ?_) (fun h857 => ?_)
      ·
        have qh857 := le_i h857
        refine lv_iload_n hx hb dX12_goesOn_193 rfl (lv_at hl 1 rfl) ?_
        refine lv_if_ge (tgt := 201) hx hb dX12_goesOn_194 (by decide) (fun _ => ?_) (fun h9 => absurd (d_le ik_0 x1_h (by decide)) h9)
        refine lv_iconst (v := 0) hx hb dX12_goesOn_201 (by decide) ?_
        rw [hQ]
        exact W.zret (v := 0) (ty := .boolean) hx hb hr rfl (fun t ht hW => ⟨⟨0, f856, rfl, ⟨(iv_w ik_0 (by decide)), f856_b⟩, by rw [ht]; exact hP, va_K.moved hW.alike hK, hD⟩, hS.F ht⟩) hS.2.2 dX12_goesOn_202
      ·
        have qh857 := nle_i h857
        have j858 : Iv 1 11 x855 := r_ltl qh857 x855_h v5_h (by decide)
        have j859 : Iv 2 12 v5 := r_ltr qh857 x855_h v5_h (by decide)
        refine lv_iconst (v := 0) hx hb dX12_goesOn_28 (by decide) ?_
        refine lv_istore (lv' := [(5, .int 0), (4, .int x855), (3, .int x1), (0, .ref o1), (1, .int 10), (2, .int a2)]) hx hb dX12_goesOn_29 hl (by decide) rfl (fun ls hl => ?_)
        refine lv_iconst (v := 0) hx hb dX12_goesOn_31 (by decide) ?_
        refine lv_istore (lv' := [(6, .int 0), (5, .int 0), (4, .int x855), (3, .int x1), (0, .ref o1), (1, .int 10), (2, .int a2)]) hx hb dX12_goesOn_32 hl (by decide) rfl (fun ls hl => ?_)
        refine lv_iconst (v := 0) hx hb dX12_goesOn_34 (by decide) ?_
        refine lv_istore (lv' := [(7, .int 0), (6, .int 0), (5, .int 0), (4, .int x855), (3, .int x1), (0, .ref o1), (1, .int 10), (2, .int a2)]) hx hb dX12_goesOn_35 hl (by decide) rfl (fun ls hl => ?_)
        have L4 : ∀ (N : Nat) (x1190 : Int32) (x1191 : Int32) (x1192 : Int32) (H : Heap) (locs : List Loc) (ls : Array Slot), (11 - x1190.toInt).toNat < N → Iv 0 11 x1190 → Iv 0 4095 x1191 → Iv 0 1 x1192 → va_P (dC, dI) vwCl ([(o1, .inr (12, [.int v2, .ref o3, .int v5, .ref o6, .int v8, .ref o9, .ref o11, .int v13, .ref o14, .int v16, .ref o17, .int v19, .int v20, .int v21, .ref o22, .ref o24, .ref o26, .ref o28, .ref o30, .int v32, .ref o33, .ref o35, .ref o37, .int v39, .ref o40, .ref o42, .ref o44, .int v46, .ref o47])), (o11, .inl (cI, 12, .inl f856)), (o6, .inl (cI, 12, .inl fw7))]) H → va_D A ([(o1, .inr (12, [.int v2, .ref o3, .int v5, .ref o6, .int v8, .ref o9, .ref o11, .int v13, .ref o14, .int v16, .ref o17, .int v19, .int v20, .int v21, .ref o22, .ref o24, .ref o26, .ref o28, .ref o30, .int v32, .ref o33, .ref o35, .ref o37, .int v39, .ref o40, .ref o42, .ref o44, .int v46, .ref o47])), (o11, .inl (cI, 12, .inl f856)), (o6, .inl (cI, 12, .inl fw7))]) → va_S A s.heap H locs → lv_has ls 8 [(7, .int x1190), (6, .int x1192), (5, .int x1191), (4, .int x855), (3, .int x1), (0, .ref o1), (1, .int 10), (2, .int a2)] → W p l e ({ frames := 2, cells := 0, slots := 0, locals := 48 }) s m ([.ref o1, .int 10, .int a2] : List Value).toArray below meth c H locs 0 0 Q (F0 m 37 ls []) := by
          intro N
          induction N with
          | zero =>
            intro x1190 x1191 x1192 H locs ls hM
            exact absurd hM (Nat.not_lt_zero _)
          | succ N ih4 =>
            intro x1190 x1191 x1192 H locs ls hM4 x1190_h x1191_h x1192_h hP hD hS hl
            refine lv_iload hx hb dX12_goesOn_37 (lv_at hl 0 rfl) ?_
            refine lv_iload_n hx hb dX12_goesOn_39 rfl (lv_at hl 6 rfl) ?_
            refine lv_icmp_ge (tgt := 106) hx hb dX12_goesOn_40 (by decide) (fun h1193 => ?_) (fun h1193 => ?_)
            ·
              have qh1193 := le_i h1193
              have j1194 : Iv 10 11 x1190 := r_ler qh1193 ik_10 x1190_h (by decide)
              refine lv_iconst (v := 1) hx hb dX12_goesOn_106 (by decide) ?_
              refine lv_iload_n hx hb dX12_goesOn_107 rfl (lv_at hl 6 rfl) ?_
              refine lv_iconst (v := 1) hx hb dX12_goesOn_108 (by decide) ?_
              refine lv_isub hx hb dX12_goesOn_109 (tk_i (v := 9) (by decide +kernel) ?_)
              refine lv_ishl hx hb dX12_goesOn_110 (tk_i (v := 512) (by decide +kernel) ?_)
              refine lv_iload_n hx hb dX12_goesOn_111 rfl (lv_at hl 6 rfl) ?_
              refine lv_iload_n hx hb dX12_goesOn_112 rfl (lv_at hl 7 rfl) ?_
              refine lv_iconst (v := 1) hx hb dX12_goesOn_113 (by decide) ?_
              refine lv_isub hx hb dX12_goesOn_114 (lv_topi (fun x1195 x1195_e => ?_))
              have x1195_h : Iv 10 11 x1195 := iv_e x1195_e (iv_sub a2_h ik_1 (by decide))
              refine lv_icmp_ne (tgt := 122) hx hb dX12_goesOn_115 (by decide) (fun h1196 => ?_) (fun h1196 => ?_)
              ·
                have j1197 : Iv 11 11 x1195 := r_nelo (fun q => h1196 q.symm) x1195_h ik_10 (by decide)
                have j1198 : Iv 12 12 a2 := ivb_sub x1195_e a2_h ik_1 j1197 (by decide)
                refine lv_iconst (v := 0) hx hb dX12_goesOn_122 (by decide) ?_
                refine lv_ior hx hb dX12_goesOn_123 (tk_i (v := 512) (by decide +kernel) ?_)
                refine lv_istore (lv' := [(7, .int 512), (6, .int x1192), (5, .int x1191), (4, .int x855), (3, .int x1), (0, .ref o1), (1, .int 10), (2, .int a2)]) hx hb dX12_goesOn_124 hl (by decide) rfl (fun ls hl => ?_)
                refine lv_iload hx hb dX12_goesOn_126 (lv_at hl 1 rfl) ?_
                refine lv_if_ne (tgt := 187) hx hb dX12_goesOn_128 (by decide) (fun h1199 => ?_) (fun h1199 => ?_)
                ·
                  have j1200 : Iv 1 1 x1192 := r_nelo h1199 x1192_h ik_0 (by decide)
                  obtain ⟨x1201, x1201_e⟩ : ∃ z : Int32, z = x855 + 1 := ⟨_, rfl⟩
                  have x1201_h : Iv 2 12 x1201 := iv_e x1201_e (iv_add j858 ik_1 (by decide))
                  refine lv_iinc (v := x1201) (lv' := [(4, .int x1201), (7, .int 512), (6, .int x1192), (5, .int x1191), (3, .int x1), (0, .ref o1), (1, .int 10), (2, .int a2)]) hx hb dX12_goesOn_187 hl (k := 3) rfl (incN (by decide +kernel) x1201_e) (by decide) rfl (fun ls hl => ?_)
                  refine lv_goto (tgt := 19) hx hb dX12_goesOn_190 (by decide) ?_
                  exact ih3 x1201 f856 _ _ _ (ms_up x1201_e j858 (by decide) hM3) (iv_w x1201_h (by decide)) f856_b hP hD hS (lv_sub hl [0, 4, 5, 6, 7] rfl)
                ·
                  have j1202 : Iv 0 0 x1192 := r_eq h1199 ik_0
                  refine lv_iload hx hb dX12_goesOn_131 (lv_at hl 2 rfl) ?_
                  refine lv_iload hx hb dX12_goesOn_133 (lv_at hl 0 rfl) ?_
                  refine lv_icmp_ne (tgt := 187) hx hb dX12_goesOn_135 (by decide) (fun h1203 => ?_) (fun h1203 => ?_)
                  ·
                    obtain ⟨x1204, x1204_e⟩ : ∃ z : Int32, z = x855 + 1 := ⟨_, rfl⟩
                    have x1204_h : Iv 2 12 x1204 := iv_e x1204_e (iv_add j858 ik_1 (by decide))
                    refine lv_iinc (v := x1204) (lv' := [(4, .int x1204), (7, .int 512), (6, .int x1192), (5, .int x1191), (3, .int x1), (0, .ref o1), (1, .int 10), (2, .int a2)]) hx hb dX12_goesOn_187 hl (k := 3) rfl (incN (by decide +kernel) x1204_e) (by decide) rfl (fun ls hl => ?_)
                    refine lv_goto (tgt := 19) hx hb dX12_goesOn_190 (by decide) ?_
                    exact ih3 x1204 f856 _ _ _ (ms_up x1204_e j858 (by decide) hM3) (iv_w x1204_h (by decide)) f856_b hP hD hS (lv_sub hl [0, 4, 5, 6, 7] rfl)
                  ·
                    have j1205 : Iv 512 512 x1191 := r_eq h1203 ik_512
                    refine lv_iload_n hx hb dX12_goesOn_138 rfl (lv_at hl 6 rfl) ?_
                    refine lv_iload_n hx hb dX12_goesOn_139 rfl (lv_at hl 7 rfl) ?_
                    refine lv_iconst (v := 1) hx hb dX12_goesOn_140 (by decide) ?_
                    refine lv_isub hx hb dX12_goesOn_141 (lv_topi (fun x1206 x1206_e => ?_))
                    have x1206_h : Iv 11 11 x1206 := iv_e x1206_e (iv_sub j1198 ik_1 (by decide))
                    refine lv_icmp_ne (tgt := 159) hx hb dX12_goesOn_142 (by decide) (fun _ => ?_) (fun h9 => absurd h9 (d_ne ik_10 x1206_h (by decide)))
                    refine lv_aload_n hx hb dX12_goesOn_159 rfl (lv_at hl 5 rfl) ?_
                    refine va_get (D := (dC, dI)) (ci := 12) (v := .ref o11) (C := RX12) (T := TX12) (N := 29) hx hb hts iw_X12_goesOn_X12 hown hK hP 0 rfl rfl 6 (by decide) (hts (.fieldLink RX12 19 "HolelessHouseModel" "ring" "[I") hm_X12_goesOn_1) (fun _ h9 => h9) rfl dX12_goesOn_160 ?_
                    refine lv_iload_n hx hb dX12_goesOn_163 rfl (lv_at hl 6 rfl) ?_
                    refine lv_iload hx hb dX12_goesOn_164 (lv_at hl 3 rfl) ?_
                    refine k_iast hx hb hK hP hD hS 1 0 rfl rfl (vin_iv ik_10 (by decide)) dX12_goesOn_166 (fun f1207 H locs f1207_e hP hD hS => ?_)
                    have f1207_b : Bd 12 0 11 f1207 := bd_upd f1207_e f856_b j858 (by decide)
                    have hP : va_P (dC, dI) vwCl ([(o1, .inr (12, [.int v2, .ref o3, .int v5, .ref o6, .int v8, .ref o9, .ref o11, .int v13, .ref o14, .int v16, .ref o17, .int v19, .int v20, .int v21, .ref o22, .ref o24, .ref o26, .ref o28, .ref o30, .int v32, .ref o33, .ref o35, .ref o37, .int v39, .ref o40, .ref o42, .ref o44, .int v46, .ref o47])), (o11, .inl (cI, 12, .inl f1207)), (o6, .inl (cI, 12, .inl fw7))]) H := hP
                    have hD : va_D A ([(o1, .inr (12, [.int v2, .ref o3, .int v5, .ref o6, .int v8, .ref o9, .ref o11, .int v13, .ref o14, .int v16, .ref o17, .int v19, .int v20, .int v21, .ref o22, .ref o24, .ref o26, .ref o28, .ref o30, .int v32, .ref o33, .ref o35, .ref o37, .int v39, .ref o40, .ref o42, .ref o44, .int v46, .ref o47])), (o11, .inl (cI, 12, .inl f1207)), (o6, .inl (cI, 12, .inl fw7))]) := hD
                    refine lv_iload_n hx hb dX12_goesOn_167 rfl (lv_at hl 6 rfl) ?_
                    refine lv_iload_n hx hb dX12_goesOn_168 rfl (lv_at hl 7 rfl) ?_
                    refine lv_iconst (v := 1) hx hb dX12_goesOn_169 (by decide) ?_
                    refine lv_isub hx hb dX12_goesOn_170 (lv_topi (fun x1208 x1208_e => ?_))
                    have x1208_h : Iv 11 11 x1208 := iv_e x1208_e (iv_sub j1198 ik_1 (by decide))
                    refine lv_icmp_eq (tgt := 185) hx hb dX12_goesOn_171 (by decide) (fun h9 => absurd h9 (d_ne ik_10 x1208_h (by decide))) (fun _ => ?_)
                    refine lv_aload_n hx hb dX12_goesOn_174 rfl (lv_at hl 5 rfl) ?_
                    refine lv_iload_n hx hb dX12_goesOn_175 rfl (lv_at hl 6 rfl) ?_
                    refine lv_iconst (v := 1) hx hb dX12_goesOn_176 (by decide) ?_
                    refine lv_iadd hx hb dX12_goesOn_177 (tk_i (v := 11) (by decide +kernel) ?_)
                    refine lv_iload_n hx hb dX12_goesOn_178 rfl (lv_at hl 7 rfl) ?_
                    refine kc_i (D := (dC, dI)) (S := (Nat → Int32)) (wc := [(o1, .inr (12, [.int v2, .ref o3, .int v5, .ref o6, .int v8, .ref o9, .ref o11, .int v13, .ref o14, .int v16, .ref o17, .int v19, .int v20, .int v21, .ref o22, .ref o24, .ref o26, .ref o28, .ref o30, .int v32, .ref o33, .ref o35, .ref o37, .int v39, .ref o40, .ref o42, .ref o44, .int v46, .ref o47])), (o11, .inl (cI, 12, .inl f1207)), (o6, .inl (cI, 12, .inl fw7))]) (wr := []) (w1 := fun u => [(o1, .inr (12, [.int v2, .ref o3, .int v5, .ref o6, .int v8, .ref o9, .ref o11, .int v13, .ref o14, .int v16, .ref o17, .int v19, .int v20, .int v21, .ref o22, .ref o24, .ref o26, .ref o28, .ref o30, .int v32, .ref o33, .ref o35, .ref o37, .int v39, .ref o40, .ref o42, .ref o44, .int v46, .ref o47])), (o11, .inl (cI, 12, .inl u)), (o6, .inl (cI, 12, .inl fw7))]) (wn := fun u => [(o1, .inr (12, [.int v2, .ref o3, .int v5, .ref o6, .int v8, .ref o9, .ref o11, .int v13, .ref o14, .int v16, .ref o17, .int v19, .int v20, .int v21, .ref o22, .ref o24, .ref o26, .ref o28, .ref o30, .int v32, .ref o33, .ref o35, .ref o37, .int v39, .ref o40, .ref o42, .ref o44, .int v46, .ref o47])), (o11, .inl (cI, 12, .inl u)), (o6, .inl (cI, 12, .inl fw7))]) (fun hPc hDc => va_runV (As := [.int 11, .int a2]) (rest := []) ⟨hx, hb, hml, hown, hts⟩ (kX12_goesOn_1 l dC dI cI c2 cZ o1 o3 o6 o9 o11 o14 o17 o22 o24 o26 o28 o30 o33 o35 o37 o40 o42 o44 o47 v2 v5 fw7 v8 f1207 v13 v16 v19 v20 v21 v32 v39 v46 a2 H.size (iv_w j859 (by decide)) fw7_b v8_h f1207_b v13_h v16_h v19_h v32_h v39_h v46_h j1198) (cwV 2 hts gX12_goesOn_X12_goesOn rfl rfl rfl (by decide +kernel) ⟨Nat.le_of_ble_eq_true rfl, Nat.le_of_ble_eq_true rfl⟩) (pre_V hPc hK hDc hN (ci := 12) (q0 := 0) rfl rfl) rfl rfl hl.1 rfl (lv_room (Nat.le_of_ble_eq_true rfl)) dX12_goesOn_179 ⟨Nat.le_of_ble_eq_true rfl, Nat.le_of_ble_eq_true rfl⟩) hP hD hS hA [0, 1, 2] [] [0, 1, 2] rfl rfl (by decide +kernel) (by decide +kernel) (by decide +kernel) (by decide +kernel) (fun _ => rfl) (fun x1210 f1209 H locs hq hP hD hS => ?_)
                    obtain ⟨x1210_h, f1209_b⟩ := hq
                    have hP : va_P (dC, dI) vwCl ([(o1, .inr (12, [.int v2, .ref o3, .int v5, .ref o6, .int v8, .ref o9, .ref o11, .int v13, .ref o14, .int v16, .ref o17, .int v19, .int v20, .int v21, .ref o22, .ref o24, .ref o26, .ref o28, .ref o30, .int v32, .ref o33, .ref o35, .ref o37, .int v39, .ref o40, .ref o42, .ref o44, .int v46, .ref o47])), (o11, .inl (cI, 12, .inl f1209)), (o6, .inl (cI, 12, .inl fw7))]) H := hP
                    have hD : va_D A ([(o1, .inr (12, [.int v2, .ref o3, .int v5, .ref o6, .int v8, .ref o9, .ref o11, .int v13, .ref o14, .int v16, .ref o17, .int v19, .int v20, .int v21, .ref o22, .ref o24, .ref o26, .ref o28, .ref o30, .int v32, .ref o33, .ref o35, .ref o37, .int v39, .ref o40, .ref o42, .ref o44, .int v46, .ref o47])), (o11, .inl (cI, 12, .inl f1209)), (o6, .inl (cI, 12, .inl fw7))]) := hD
                    refine lv_if_eq (tgt := 187) hx hb dX12_goesOn_182 (by decide) (fun h1211 => ?_) (fun h1211 => ?_)
                    ·
                      have j1212 : Iv 0 0 x1210 := r_eq h1211 ik_0
                      obtain ⟨x1213, x1213_e⟩ : ∃ z : Int32, z = x855 + 1 := ⟨_, rfl⟩
                      have x1213_h : Iv 2 12 x1213 := iv_e x1213_e (iv_add j858 ik_1 (by decide))
                      refine lv_iinc (v := x1213) (lv' := [(4, .int x1213), (7, .int 512), (6, .int x1192), (5, .int x1191), (3, .int x1), (0, .ref o1), (1, .int 10), (2, .int a2)]) hx hb dX12_goesOn_187 hl (k := 3) rfl (incN (by decide +kernel) x1213_e) (by decide) rfl (fun ls hl => ?_)
                      refine lv_goto (tgt := 19) hx hb dX12_goesOn_190 (by decide) ?_
                      exact ih3 x1213 f1209 _ _ _ (ms_up x1213_e j858 (by decide) hM3) (iv_w x1213_h (by decide)) f1209_b hP hD hS (lv_sub hl [0, 4, 5, 6, 7] rfl)
                    ·
                      have j1214 : Iv 1 1 x1210 := r_nelo h1211 x1210_h ik_0 (by decide)
                      refine lv_iconst (v := 1) hx hb dX12_goesOn_185 (by decide) ?_
                      rw [hQ]
                      exact W.zret (v := 1) (ty := .boolean) hx hb hr rfl (fun t ht hW => ⟨⟨1, f1209, rfl, ⟨(iv_w ik_1 (by decide)), f1209_b⟩, by rw [ht]; exact hP, va_K.moved hW.alike hK, hD⟩, hS.F ht⟩) hS.2.2 dX12_goesOn_186
              ·
                have j1215 : Iv 10 10 x1195 := r_eq h1196.symm ik_10
                have j1216 : Iv 11 11 a2 := ivb_sub x1195_e a2_h ik_1 j1215 (by decide)
                refine lv_iconst (v := 1) hx hb dX12_goesOn_118 (by decide) ?_
                refine lv_goto (tgt := 123) hx hb dX12_goesOn_119 (by decide) ?_
                refine lv_ior hx hb dX12_goesOn_123 (tk_i (v := 513) (by decide +kernel) ?_)
                refine lv_istore (lv' := [(7, .int 513), (6, .int x1192), (5, .int x1191), (4, .int x855), (3, .int x1), (0, .ref o1), (1, .int 10), (2, .int a2)]) hx hb dX12_goesOn_124 hl (by decide) rfl (fun ls hl => ?_)
                refine lv_iload hx hb dX12_goesOn_126 (lv_at hl 1 rfl) ?_
                refine lv_if_ne (tgt := 187) hx hb dX12_goesOn_128 (by decide) (fun h1217 => ?_) (fun h1217 => ?_)
                ·
                  have j1218 : Iv 1 1 x1192 := r_nelo h1217 x1192_h ik_0 (by decide)
                  obtain ⟨x1219, x1219_e⟩ : ∃ z : Int32, z = x855 + 1 := ⟨_, rfl⟩
                  have x1219_h : Iv 2 12 x1219 := iv_e x1219_e (iv_add j858 ik_1 (by decide))
                  refine lv_iinc (v := x1219) (lv' := [(4, .int x1219), (7, .int 513), (6, .int x1192), (5, .int x1191), (3, .int x1), (0, .ref o1), (1, .int 10), (2, .int a2)]) hx hb dX12_goesOn_187 hl (k := 3) rfl (incN (by decide +kernel) x1219_e) (by decide) rfl (fun ls hl => ?_)
                  refine lv_goto (tgt := 19) hx hb dX12_goesOn_190 (by decide) ?_
                  exact ih3 x1219 f856 _ _ _ (ms_up x1219_e j858 (by decide) hM3) (iv_w x1219_h (by decide)) f856_b hP hD hS (lv_sub hl [0, 4, 5, 6, 7] rfl)
                ·
                  have j1220 : Iv 0 0 x1192 := r_eq h1217 ik_0
                  refine lv_iload hx hb dX12_goesOn_131 (lv_at hl 2 rfl) ?_
                  refine lv_iload hx hb dX12_goesOn_133 (lv_at hl 0 rfl) ?_
                  refine lv_icmp_ne (tgt := 187) hx hb dX12_goesOn_135 (by decide) (fun h1221 => ?_) (fun h1221 => ?_)
                  ·
                    obtain ⟨x1222, x1222_e⟩ : ∃ z : Int32, z = x855 + 1 := ⟨_, rfl⟩
                    have x1222_h : Iv 2 12 x1222 := iv_e x1222_e (iv_add j858 ik_1 (by decide))
                    refine lv_iinc (v := x1222) (lv' := [(4, .int x1222), (7, .int 513), (6, .int x1192), (5, .int x1191), (3, .int x1), (0, .ref o1), (1, .int 10), (2, .int a2)]) hx hb dX12_goesOn_187 hl (k := 3) rfl (incN (by decide +kernel) x1222_e) (by decide) rfl (fun ls hl => ?_)
                    refine lv_goto (tgt := 19) hx hb dX12_goesOn_190 (by decide) ?_
                    exact ih3 x1222 f856 _ _ _ (ms_up x1222_e j858 (by decide) hM3) (iv_w x1222_h (by decide)) f856_b hP hD hS (lv_sub hl [0, 4, 5, 6, 7] rfl)
                  ·
                    have j1223 : Iv 513 513 x1191 := r_eq h1221 ik_513
                    refine lv_iload_n hx hb dX12_goesOn_138 rfl (lv_at hl 6 rfl) ?_
                    refine lv_iload_n hx hb dX12_goesOn_139 rfl (lv_at hl 7 rfl) ?_
                    refine lv_iconst (v := 1) hx hb dX12_goesOn_140 (by decide) ?_
                    refine lv_isub hx hb dX12_goesOn_141 (lv_topi (fun x1224 x1224_e => ?_))
                    have x1224_h : Iv 10 10 x1224 := iv_e x1224_e (iv_sub j1216 ik_1 (by decide))
                    refine lv_icmp_ne (tgt := 159) hx hb dX12_goesOn_142 (by decide) (fun h9 => absurd (d_eq ik_10 x1224_h) h9) (fun _ => ?_)
                    refine lv_iload hx hb dX12_goesOn_145 (lv_at hl 3 rfl) ?_
                    refine lv_aload_n hx hb dX12_goesOn_147 rfl (lv_at hl 5 rfl) ?_
                    refine va_get (D := (dC, dI)) (ci := 12) (v := .ref o11) (C := RX12) (T := TX12) (N := 29) hx hb hts iw_X12_goesOn_X12 hown hK hP 0 rfl rfl 6 (by decide) (hts (.fieldLink RX12 19 "HolelessHouseModel" "ring" "[I") hm_X12_goesOn_1) (fun _ h9 => h9) rfl dX12_goesOn_148 ?_
                    refine lv_iconst (v := 1) hx hb dX12_goesOn_151 (by decide) ?_
                    refine va_iald hx hb hK hP 1 0 rfl rfl (vin_iv ik_1 (by decide)) dX12_goesOn_152 (lv_topi (fun x1225 x1225_e => ?_))
                    have x1225_h : Iv 0 11 x1225 := iv_e x1225_e (bd_at f856_b (vin_iv ik_1 (by decide)))
                    refine lv_icmp_ge (tgt := 159) hx hb dX12_goesOn_153 (by decide) (fun h1226 => ?_) (fun h1226 => ?_)
                    ·
                      have qh1226 := le_i h1226
                      refine lv_aload_n hx hb dX12_goesOn_159 rfl (lv_at hl 5 rfl) ?_
                      refine va_get (D := (dC, dI)) (ci := 12) (v := .ref o11) (C := RX12) (T := TX12) (N := 29) hx hb hts iw_X12_goesOn_X12 hown hK hP 0 rfl rfl 6 (by decide) (hts (.fieldLink RX12 19 "HolelessHouseModel" "ring" "[I") hm_X12_goesOn_1) (fun _ h9 => h9) rfl dX12_goesOn_160 ?_
                      refine lv_iload_n hx hb dX12_goesOn_163 rfl (lv_at hl 6 rfl) ?_
                      refine lv_iload hx hb dX12_goesOn_164 (lv_at hl 3 rfl) ?_
                      refine k_iast hx hb hK hP hD hS 1 0 rfl rfl (vin_iv ik_10 (by decide)) dX12_goesOn_166 (fun f1227 H locs f1227_e hP hD hS => ?_)
                      have f1227_b : Bd 12 0 11 f1227 := bd_upd f1227_e f856_b j858 (by decide)
                      have hP : va_P (dC, dI) vwCl ([(o1, .inr (12, [.int v2, .ref o3, .int v5, .ref o6, .int v8, .ref o9, .ref o11, .int v13, .ref o14, .int v16, .ref o17, .int v19, .int v20, .int v21, .ref o22, .ref o24, .ref o26, .ref o28, .ref o30, .int v32, .ref o33, .ref o35, .ref o37, .int v39, .ref o40, .ref o42, .ref o44, .int v46, .ref o47])), (o11, .inl (cI, 12, .inl f1227)), (o6, .inl (cI, 12, .inl fw7))]) H := hP
                      have hD : va_D A ([(o1, .inr (12, [.int v2, .ref o3, .int v5, .ref o6, .int v8, .ref o9, .ref o11, .int v13, .ref o14, .int v16, .ref o17, .int v19, .int v20, .int v21, .ref o22, .ref o24, .ref o26, .ref o28, .ref o30, .int v32, .ref o33, .ref o35, .ref o37, .int v39, .ref o40, .ref o42, .ref o44, .int v46, .ref o47])), (o11, .inl (cI, 12, .inl f1227)), (o6, .inl (cI, 12, .inl fw7))]) := hD
                      refine lv_iload_n hx hb dX12_goesOn_167 rfl (lv_at hl 6 rfl) ?_
                      refine lv_iload_n hx hb dX12_goesOn_168 rfl (lv_at hl 7 rfl) ?_
                      refine lv_iconst (v := 1) hx hb dX12_goesOn_169 (by decide) ?_
                      refine lv_isub hx hb dX12_goesOn_170 (lv_topi (fun x1228 x1228_e => ?_))
                      have x1228_h : Iv 10 10 x1228 := iv_e x1228_e (iv_sub j1216 ik_1 (by decide))
                      refine lv_icmp_eq (tgt := 185) hx hb dX12_goesOn_171 (by decide) (fun _ => ?_) (fun h9 => absurd (d_eq ik_10 x1228_h) h9)
                      refine lv_iconst (v := 1) hx hb dX12_goesOn_185 (by decide) ?_
                      rw [hQ]
                      exact W.zret (v := 1) (ty := .boolean) hx hb hr rfl (fun t ht hW => ⟨⟨1, f1227, rfl, ⟨(iv_w ik_1 (by decide)), f1227_b⟩, by rw [ht]; exact hP, va_K.moved hW.alike hK, hD⟩, hS.F ht⟩) hS.2.2 dX12_goesOn_186
                    ·
                      have qh1226 := nle_i h1226
                      have j1229 : Iv 1 10 x855 := r_ltl qh1226 j858 x1225_h (by decide)
                      have j1230 : Iv 2 11 x1225 := r_ltr qh1226 j858 x1225_h (by decide)
                      refine lv_goto (tgt := 187) hx hb dX12_goesOn_156 (by decide) ?_
                      obtain ⟨x1231, x1231_e⟩ : ∃ z : Int32, z = x855 + 1 := ⟨_, rfl⟩
                      have x1231_h : Iv 2 11 x1231 := iv_e x1231_e (iv_add j1229 ik_1 (by decide))
                      refine lv_iinc (v := x1231) (lv' := [(4, .int x1231), (7, .int 513), (6, .int x1192), (5, .int x1191), (3, .int x1), (0, .ref o1), (1, .int 10), (2, .int a2)]) hx hb dX12_goesOn_187 hl (k := 3) rfl (incN (by decide +kernel) x1231_e) (by decide) rfl (fun ls hl => ?_)
                      refine lv_goto (tgt := 19) hx hb dX12_goesOn_190 (by decide) ?_
                      exact ih3 x1231 f856 _ _ _ (ms_up x1231_e j1229 (by decide) hM3) (iv_w x1231_h (by decide)) f856_b hP hD hS (lv_sub hl [0, 4, 5, 6, 7] rfl)
            ·
              have qh1193 := nle_i h1193
              have j1232 : Iv 0 9 x1190 := r_ltl qh1193 x1190_h ik_10 (by decide)
              refine lv_iload hx hb dX12_goesOn_43 (lv_at hl 1 rfl) ?_
              refine lv_if_ne (tgt := 60) hx hb dX12_goesOn_45 (by decide) (fun h1233 => ?_) (fun h1233 => ?_)
              ·
                have j1234 : Iv 1 1 x1192 := r_nelo h1233 x1192_h ik_0 (by decide)
                refine lv_iconst (v := 1) hx hb dX12_goesOn_60 (by decide) ?_
                refine lv_goto (tgt := 65) hx hb dX12_goesOn_61 (by decide) ?_
                refine lv_istore (lv' := [(6, .int 1), (7, .int x1190), (5, .int x1191), (4, .int x855), (3, .int x1), (0, .ref o1), (1, .int 10), (2, .int a2)]) hx hb dX12_goesOn_65 hl (by decide) rfl (fun ls hl => ?_)
                refine lv_iload hx hb dX12_goesOn_67 (lv_at hl 2 rfl) ?_
                refine lv_aload_n hx hb dX12_goesOn_69 rfl (lv_at hl 5 rfl) ?_
                refine va_get (D := (dC, dI)) (ci := 12) (v := .ref o6) (C := RX12) (T := TX12) (N := 29) hx hb hts iw_X12_goesOn_X12 hown hK hP 0 rfl rfl 3 (by decide) (hts (.fieldLink RX12 13 "HolelessHouseModel" "near" "[I") hm_X12_goesOn_3) (fun _ h9 => h9) rfl dX12_goesOn_70 ?_
                refine lv_iload hx hb dX12_goesOn_73 (lv_at hl 3 rfl) ?_
                refine va_iald hx hb hK hP 2 0 rfl rfl (vin_iv j858 (by decide)) dX12_goesOn_75 (lv_topi (fun x1235 x1235_e => ?_))
                have x1235_h : Iv 0 4095 x1235 := iv_e x1235_e (bd_at fw7_b (vin_iv j858 (by decide)))
                refine lv_aload_n hx hb dX12_goesOn_76 rfl (lv_at hl 5 rfl) ?_
                refine va_get (D := (dC, dI)) (ci := 12) (v := .ref o11) (C := RX12) (T := TX12) (N := 29) hx hb hts iw_X12_goesOn_X12 hown hK hP 0 rfl rfl 6 (by decide) (hts (.fieldLink RX12 19 "HolelessHouseModel" "ring" "[I") hm_X12_goesOn_1) (fun _ h9 => h9) rfl dX12_goesOn_77 ?_
                refine lv_iload hx hb dX12_goesOn_80 (lv_at hl 1 rfl) ?_
                refine va_iald hx hb hK hP 1 0 rfl rfl (vin_iv j1232 (by decide)) dX12_goesOn_82 (lv_topi (fun x1236 x1236_e => ?_))
                have x1236_h : Iv 0 11 x1236 := iv_e x1236_e (bd_at f856_b (vin_iv j1232 (by decide)))
                refine kc_i (D := (dC, dI)) (S := Unit) (wc := []) (wr := [(o1, .inr (12, [.int v2, .ref o3, .int v5, .ref o6, .int v8, .ref o9, .ref o11, .int v13, .ref o14, .int v16, .ref o17, .int v19, .int v20, .int v21, .ref o22, .ref o24, .ref o26, .ref o28, .ref o30, .int v32, .ref o33, .ref o35, .ref o37, .int v39, .ref o40, .ref o42, .ref o44, .int v46, .ref o47])), (o11, .inl (cI, 12, .inl f856)), (o6, .inl (cI, 12, .inl fw7))]) (w1 := fun _ => []) (wn := fun _ => [(o1, .inr (12, [.int v2, .ref o3, .int v5, .ref o6, .int v8, .ref o9, .ref o11, .int v13, .ref o14, .int v16, .ref o17, .int v19, .int v20, .int v21, .ref o22, .ref o24, .ref o26, .ref o28, .ref o30, .int v32, .ref o33, .ref o35, .ref o37, .int v39, .ref o40, .ref o42, .ref o44, .int v46, .ref o47])), (o11, .inl (cI, 12, .inl f856)), (o6, .inl (cI, 12, .inl fw7))]) (fun hPc hDc => va_runS (As := [.int x1235, .int x1236]) (rest := [.int x1191]) ⟨hx, hb, hml, hown, hts⟩ (kX12_has_1 l dC dI cI c2 cZ x1235 x1236 H.size (iv_w x1236_h (by decide))) (va_cwS 2 hts gX12_goesOn_X12_has rfl rfl rfl (by decide +kernel) ⟨Nat.le_of_ble_eq_true rfl, Nat.le_of_ble_eq_true rfl⟩) (pre_S hPc hK hDc hN) rfl rfl hl.1 rfl (lv_room (Nat.le_of_ble_eq_true rfl)) dX12_goesOn_83 ⟨Nat.le_of_ble_eq_true rfl, Nat.le_of_ble_eq_true rfl⟩) hP hD hS hA [] [0, 1, 2] [0, 1, 2] rfl rfl (by decide +kernel) (by decide +kernel) (by decide +kernel) (by decide +kernel) (fun _ => rfl) (fun x1237 _ H locs hq hP hD hS => ?_)
                obtain ⟨x1237_h, e1238⟩ := hq
                have hP : va_P (dC, dI) vwCl ([(o1, .inr (12, [.int v2, .ref o3, .int v5, .ref o6, .int v8, .ref o9, .ref o11, .int v13, .ref o14, .int v16, .ref o17, .int v19, .int v20, .int v21, .ref o22, .ref o24, .ref o26, .ref o28, .ref o30, .int v32, .ref o33, .ref o35, .ref o37, .int v39, .ref o40, .ref o42, .ref o44, .int v46, .ref o47])), (o11, .inl (cI, 12, .inl f856)), (o6, .inl (cI, 12, .inl fw7))]) H := hP
                have hD : va_D A ([(o1, .inr (12, [.int v2, .ref o3, .int v5, .ref o6, .int v8, .ref o9, .ref o11, .int v13, .ref o14, .int v16, .ref o17, .int v19, .int v20, .int v21, .ref o22, .ref o24, .ref o26, .ref o28, .ref o30, .int v32, .ref o33, .ref o35, .ref o37, .int v39, .ref o40, .ref o42, .ref o44, .int v46, .ref o47])), (o11, .inl (cI, 12, .inl f856)), (o6, .inl (cI, 12, .inl fw7))]) := hD
                refine lv_if_eq (tgt := 96) hx hb dX12_goesOn_86 (by decide) (fun h1239 => ?_) (fun h1239 => ?_)
                ·
                  have j1240 : Iv 0 0 x1237 := r_eq h1239 ik_0
                  have b1241 : bt x1235 (Int32.toNatClampNeg x1236) = false := has_f e1238 h1239
                  refine lv_iconst (v := 0) hx hb dX12_goesOn_96 (by decide) ?_
                  refine lv_ior hx hb dX12_goesOn_97 (lv_topi (fun x1242 x1242_e => ?_))
                  have x1242_h : Iv 0 4095 x1242 := iv_e x1242_e (iv_or 12 x1191_h ik_0 (by decide))
                  refine lv_istore (lv' := [(5, .int x1242), (6, .int 1), (7, .int x1190), (4, .int x855), (3, .int x1), (0, .ref o1), (1, .int 10), (2, .int a2)]) hx hb dX12_goesOn_98 hl (by decide) rfl (fun ls hl => ?_)
                  obtain ⟨x1243, x1243_e⟩ : ∃ z : Int32, z = x1190 + 1 := ⟨_, rfl⟩
                  have x1243_h : Iv 1 10 x1243 := iv_e x1243_e (iv_add j1232 ik_1 (by decide))
                  refine lv_iinc (v := x1243) (lv' := [(7, .int x1243), (5, .int x1242), (6, .int 1), (4, .int x855), (3, .int x1), (0, .ref o1), (1, .int 10), (2, .int a2)]) hx hb dX12_goesOn_100 hl (k := 2) rfl (incN (by decide +kernel) x1243_e) (by decide) rfl (fun ls hl => ?_)
                  refine lv_goto (tgt := 37) hx hb dX12_goesOn_103 (by decide) ?_
                  exact ih4 x1243 x1242 1 _ _ _ (ms_up x1243_e j1232 (by decide) hM4) (iv_w x1243_h (by decide)) x1242_h (iv_w ik_1 (by decide)) hP hD hS (lv_sub hl [0, 2, 1, 3, 4, 5, 6, 7] rfl)
                ·
                  have j1244 : Iv 1 1 x1237 := r_nelo h1239 x1237_h ik_0 (by decide)
                  have b1245 : bt x1235 (Int32.toNatClampNeg x1236) = true := has_t e1238 h1239
                  refine lv_iconst (v := 1) hx hb dX12_goesOn_89 (by decide) ?_
                  refine lv_iload hx hb dX12_goesOn_90 (lv_at hl 1 rfl) ?_
                  refine lv_ishl hx hb dX12_goesOn_92 (lv_topi (fun x1246 x1246_e => ?_))
                  have x1246_h : Iv 1 512 x1246 := iv_e x1246_e (iv_shl1 j1232 (by decide))
                  refine lv_goto (tgt := 97) hx hb dX12_goesOn_93 (by decide) ?_
                  refine lv_ior hx hb dX12_goesOn_97 (lv_topi (fun x1247 x1247_e => ?_))
                  have x1247_h : Iv 0 4095 x1247 := iv_e x1247_e (iv_or 12 x1191_h x1246_h (by decide))
                  refine lv_istore (lv' := [(5, .int x1247), (6, .int 1), (7, .int x1190), (4, .int x855), (3, .int x1), (0, .ref o1), (1, .int 10), (2, .int a2)]) hx hb dX12_goesOn_98 hl (by decide) rfl (fun ls hl => ?_)
                  obtain ⟨x1248, x1248_e⟩ : ∃ z : Int32, z = x1190 + 1 := ⟨_, rfl⟩
                  have x1248_h : Iv 1 10 x1248 := iv_e x1248_e (iv_add j1232 ik_1 (by decide))
                  refine lv_iinc (v := x1248) (lv' := [(7, .int x1248), (5, .int x1247), (6, .int 1), (4, .int x855), (3, .int x1), (0, .ref o1), (1, .int 10), (2, .int a2)]) hx hb dX12_goesOn_100 hl (k := 2) rfl (incN (by decide +kernel) x1248_e) (by decide) rfl (fun ls hl => ?_)
                  refine lv_goto (tgt := 37) hx hb dX12_goesOn_103 (by decide) ?_
                  exact ih4 x1248 x1247 1 _ _ _ (ms_up x1248_e j1232 (by decide) hM4) (iv_w x1248_h (by decide)) x1247_h (iv_w ik_1 (by decide)) hP hD hS (lv_sub hl [0, 2, 1, 3, 4, 5, 6, 7] rfl)
              ·
                have j1249 : Iv 0 0 x1192 := r_eq h1233 ik_0
                refine lv_aload_n hx hb dX12_goesOn_48 rfl (lv_at hl 5 rfl) ?_
                refine va_get (D := (dC, dI)) (ci := 12) (v := .ref o11) (C := RX12) (T := TX12) (N := 29) hx hb hts iw_X12_goesOn_X12 hown hK hP 0 rfl rfl 6 (by decide) (hts (.fieldLink RX12 19 "HolelessHouseModel" "ring" "[I") hm_X12_goesOn_1) (fun _ h9 => h9) rfl dX12_goesOn_49 ?_
                refine lv_iload hx hb dX12_goesOn_52 (lv_at hl 0 rfl) ?_
                refine va_iald hx hb hK hP 1 0 rfl rfl (vin_iv j1232 (by decide)) dX12_goesOn_54 (lv_topi (fun x1250 x1250_e => ?_))
                have x1250_h : Iv 0 11 x1250 := iv_e x1250_e (bd_at f856_b (vin_iv j1232 (by decide)))
                refine lv_iload hx hb dX12_goesOn_55 (lv_at hl 3 rfl) ?_
                refine lv_icmp_ne (tgt := 64) hx hb dX12_goesOn_57 (by decide) (fun h1251 => ?_) (fun h1251 => ?_)
                ·
                  refine lv_iconst (v := 0) hx hb dX12_goesOn_64 (by decide) ?_
                  refine lv_istore (lv' := [(6, .int 0), (7, .int x1190), (5, .int x1191), (4, .int x855), (3, .int x1), (0, .ref o1), (1, .int 10), (2, .int a2)]) hx hb dX12_goesOn_65 hl (by decide) rfl (fun ls hl => ?_)
                  refine lv_iload hx hb dX12_goesOn_67 (lv_at hl 2 rfl) ?_
                  refine lv_aload_n hx hb dX12_goesOn_69 rfl (lv_at hl 5 rfl) ?_
                  refine va_get (D := (dC, dI)) (ci := 12) (v := .ref o6) (C := RX12) (T := TX12) (N := 29) hx hb hts iw_X12_goesOn_X12 hown hK hP 0 rfl rfl 3 (by decide) (hts (.fieldLink RX12 13 "HolelessHouseModel" "near" "[I") hm_X12_goesOn_3) (fun _ h9 => h9) rfl dX12_goesOn_70 ?_
                  refine lv_iload hx hb dX12_goesOn_73 (lv_at hl 3 rfl) ?_
                  refine va_iald hx hb hK hP 2 0 rfl rfl (vin_iv j858 (by decide)) dX12_goesOn_75 (lv_topi (fun x1252 x1252_e => ?_))
                  have x1252_h : Iv 0 4095 x1252 := iv_e x1252_e (bd_at fw7_b (vin_iv j858 (by decide)))
                  refine lv_aload_n hx hb dX12_goesOn_76 rfl (lv_at hl 5 rfl) ?_
                  refine va_get (D := (dC, dI)) (ci := 12) (v := .ref o11) (C := RX12) (T := TX12) (N := 29) hx hb hts iw_X12_goesOn_X12 hown hK hP 0 rfl rfl 6 (by decide) (hts (.fieldLink RX12 19 "HolelessHouseModel" "ring" "[I") hm_X12_goesOn_1) (fun _ h9 => h9) rfl dX12_goesOn_77 ?_
                  refine lv_iload hx hb dX12_goesOn_80 (lv_at hl 1 rfl) ?_
                  refine va_iald hx hb hK hP 1 0 rfl rfl (vin_iv j1232 (by decide)) dX12_goesOn_82 (lv_topi (fun x1253 x1253_e => ?_))
                  have x1253_h : Iv 0 11 x1253 := iv_e x1253_e (bd_at f856_b (vin_iv j1232 (by decide)))
                  refine kc_i (D := (dC, dI)) (S := Unit) (wc := []) (wr := [(o1, .inr (12, [.int v2, .ref o3, .int v5, .ref o6, .int v8, .ref o9, .ref o11, .int v13, .ref o14, .int v16, .ref o17, .int v19, .int v20, .int v21, .ref o22, .ref o24, .ref o26, .ref o28, .ref o30, .int v32, .ref o33, .ref o35, .ref o37, .int v39, .ref o40, .ref o42, .ref o44, .int v46, .ref o47])), (o11, .inl (cI, 12, .inl f856)), (o6, .inl (cI, 12, .inl fw7))]) (w1 := fun _ => []) (wn := fun _ => [(o1, .inr (12, [.int v2, .ref o3, .int v5, .ref o6, .int v8, .ref o9, .ref o11, .int v13, .ref o14, .int v16, .ref o17, .int v19, .int v20, .int v21, .ref o22, .ref o24, .ref o26, .ref o28, .ref o30, .int v32, .ref o33, .ref o35, .ref o37, .int v39, .ref o40, .ref o42, .ref o44, .int v46, .ref o47])), (o11, .inl (cI, 12, .inl f856)), (o6, .inl (cI, 12, .inl fw7))]) (fun hPc hDc => va_runS (As := [.int x1252, .int x1253]) (rest := [.int x1191]) ⟨hx, hb, hml, hown, hts⟩ (kX12_has_1 l dC dI cI c2 cZ x1252 x1253 H.size (iv_w x1253_h (by decide))) (va_cwS 2 hts gX12_goesOn_X12_has rfl rfl rfl (by decide +kernel) ⟨Nat.le_of_ble_eq_true rfl, Nat.le_of_ble_eq_true rfl⟩) (pre_S hPc hK hDc hN) rfl rfl hl.1 rfl (lv_room (Nat.le_of_ble_eq_true rfl)) dX12_goesOn_83 ⟨Nat.le_of_ble_eq_true rfl, Nat.le_of_ble_eq_true rfl⟩) hP hD hS hA [] [0, 1, 2] [0, 1, 2] rfl rfl (by decide +kernel) (by decide +kernel) (by decide +kernel) (by decide +kernel) (fun _ => rfl) (fun x1254 _ H locs hq hP hD hS => ?_)
                  obtain ⟨x1254_h, e1255⟩ := hq
                  have hP : va_P (dC, dI) vwCl ([(o1, .inr (12, [.int v2, .ref o3, .int v5, .ref o6, .int v8, .ref o9, .ref o11, .int v13, .ref o14, .int v16, .ref o17, .int v19, .int v20, .int v21, .ref o22, .ref o24, .ref o26, .ref o28, .ref o30, .int v32, .ref o33, .ref o35, .ref o37, .int v39, .ref o40, .ref o42, .ref o44, .int v46, .ref o47])), (o11, .inl (cI, 12, .inl f856)), (o6, .inl (cI, 12, .inl fw7))]) H := hP
                  have hD : va_D A ([(o1, .inr (12, [.int v2, .ref o3, .int v5, .ref o6, .int v8, .ref o9, .ref o11, .int v13, .ref o14, .int v16, .ref o17, .int v19, .int v20, .int v21, .ref o22, .ref o24, .ref o26, .ref o28, .ref o30, .int v32, .ref o33, .ref o35, .ref o37, .int v39, .ref o40, .ref o42, .ref o44, .int v46, .ref o47])), (o11, .inl (cI, 12, .inl f856)), (o6, .inl (cI, 12, .inl fw7))]) := hD
                  refine lv_if_eq (tgt := 96) hx hb dX12_goesOn_86 (by decide) (fun h1256 => ?_) (fun h1256 => ?_)
                  ·
                    have j1257 : Iv 0 0 x1254 := r_eq h1256 ik_0
                    have b1258 : bt x1252 (Int32.toNatClampNeg x1253) = false := has_f e1255 h1256
                    refine lv_iconst (v := 0) hx hb dX12_goesOn_96 (by decide) ?_
                    refine lv_ior hx hb dX12_goesOn_97 (lv_topi (fun x1259 x1259_e => ?_))
                    have x1259_h : Iv 0 4095 x1259 := iv_e x1259_e (iv_or 12 x1191_h ik_0 (by decide))
                    refine lv_istore (lv' := [(5, .int x1259), (6, .int 0), (7, .int x1190), (4, .int x855), (3, .int x1), (0, .ref o1), (1, .int 10), (2, .int a2)]) hx hb dX12_goesOn_98 hl (by decide) rfl (fun ls hl => ?_)
                    obtain ⟨x1260, x1260_e⟩ : ∃ z : Int32, z = x1190 + 1 := ⟨_, rfl⟩
                    have x1260_h : Iv 1 10 x1260 := iv_e x1260_e (iv_add j1232 ik_1 (by decide))
                    refine lv_iinc (v := x1260) (lv' := [(7, .int x1260), (5, .int x1259), (6, .int 0), (4, .int x855), (3, .int x1), (0, .ref o1), (1, .int 10), (2, .int a2)]) hx hb dX12_goesOn_100 hl (k := 2) rfl (incN (by decide +kernel) x1260_e) (by decide) rfl (fun ls hl => ?_)
                    refine lv_goto (tgt := 37) hx hb dX12_goesOn_103 (by decide) ?_
                    exact ih4 x1260 x1259 0 _ _ _ (ms_up x1260_e j1232 (by decide) hM4) (iv_w x1260_h (by decide)) x1259_h (iv_w ik_0 (by decide)) hP hD hS (lv_sub hl [0, 2, 1, 3, 4, 5, 6, 7] rfl)
                  ·
                    have j1261 : Iv 1 1 x1254 := r_nelo h1256 x1254_h ik_0 (by decide)
                    have b1262 : bt x1252 (Int32.toNatClampNeg x1253) = true := has_t e1255 h1256
                    refine lv_iconst (v := 1) hx hb dX12_goesOn_89 (by decide) ?_
                    refine lv_iload hx hb dX12_goesOn_90 (lv_at hl 1 rfl) ?_
                    refine lv_ishl hx hb dX12_goesOn_92 (lv_topi (fun x1263 x1263_e => ?_))
                    have x1263_h : Iv 1 512 x1263 := iv_e x1263_e (iv_shl1 j1232 (by decide))
                    refine lv_goto (tgt := 97) hx hb dX12_goesOn_93 (by decide) ?_
                    refine lv_ior hx hb dX12_goesOn_97 (lv_topi (fun x1264 x1264_e => ?_))
                    have x1264_h : Iv 0 4095 x1264 := iv_e x1264_e (iv_or 12 x1191_h x1263_h (by decide))
                    refine lv_istore (lv' := [(5, .int x1264), (6, .int 0), (7, .int x1190), (4, .int x855), (3, .int x1), (0, .ref o1), (1, .int 10), (2, .int a2)]) hx hb dX12_goesOn_98 hl (by decide) rfl (fun ls hl => ?_)
                    obtain ⟨x1265, x1265_e⟩ : ∃ z : Int32, z = x1190 + 1 := ⟨_, rfl⟩
                    have x1265_h : Iv 1 10 x1265 := iv_e x1265_e (iv_add j1232 ik_1 (by decide))
                    refine lv_iinc (v := x1265) (lv' := [(7, .int x1265), (5, .int x1264), (6, .int 0), (4, .int x855), (3, .int x1), (0, .ref o1), (1, .int 10), (2, .int a2)]) hx hb dX12_goesOn_100 hl (k := 2) rfl (incN (by decide +kernel) x1265_e) (by decide) rfl (fun ls hl => ?_)
                    refine lv_goto (tgt := 37) hx hb dX12_goesOn_103 (by decide) ?_
                    exact ih4 x1265 x1264 0 _ _ _ (ms_up x1265_e j1232 (by decide) hM4) (iv_w x1265_h (by decide)) x1264_h (iv_w ik_0 (by decide)) hP hD hS (lv_sub hl [0, 2, 1, 3, 4, 5, 6, 7] rfl)
                ·
                  have j1266 : Iv 1 11 x1250 := r_eq h1251 j858
                  refine lv_iconst (v := 1) hx hb dX12_goesOn_60 (by decide) ?_
                  refine lv_goto (tgt := 65) hx hb dX12_goesOn_61 (by decide) ?_
                  refine lv_istore (lv' := [(6, .int 1), (7, .int x1190), (5, .int x1191), (4, .int x855), (3, .int x1), (0, .ref o1), (1, .int 10), (2, .int a2)]) hx hb dX12_goesOn_65 hl (by decide) rfl (fun ls hl => ?_)
                  refine lv_iload hx hb dX12_goesOn_67 (lv_at hl 2 rfl) ?_
                  refine lv_aload_n hx hb dX12_goesOn_69 rfl (lv_at hl 5 rfl) ?_
                  refine va_get (D := (dC, dI)) (ci := 12) (v := .ref o6) (C := RX12) (T := TX12) (N := 29) hx hb hts iw_X12_goesOn_X12 hown hK hP 0 rfl rfl 3 (by decide) (hts (.fieldLink RX12 13 "HolelessHouseModel" "near" "[I") hm_X12_goesOn_3) (fun _ h9 => h9) rfl dX12_goesOn_70 ?_
                  refine lv_iload hx hb dX12_goesOn_73 (lv_at hl 3 rfl) ?_
                  refine va_iald hx hb hK hP 2 0 rfl rfl (vin_iv j858 (by decide)) dX12_goesOn_75 (lv_topi (fun x1267 x1267_e => ?_))
                  have x1267_h : Iv 0 4095 x1267 := iv_e x1267_e (bd_at fw7_b (vin_iv j858 (by decide)))
                  refine lv_aload_n hx hb dX12_goesOn_76 rfl (lv_at hl 5 rfl) ?_
                  refine va_get (D := (dC, dI)) (ci := 12) (v := .ref o11) (C := RX12) (T := TX12) (N := 29) hx hb hts iw_X12_goesOn_X12 hown hK hP 0 rfl rfl 6 (by decide) (hts (.fieldLink RX12 19 "HolelessHouseModel" "ring" "[I") hm_X12_goesOn_1) (fun _ h9 => h9) rfl dX12_goesOn_77 ?_
                  refine lv_iload hx hb dX12_goesOn_80 (lv_at hl 1 rfl) ?_
                  refine va_iald hx hb hK hP 1 0 rfl rfl (vin_iv j1232 (by decide)) dX12_goesOn_82 (lv_topi (fun x1268 x1268_e => ?_))
                  have x1268_h : Iv 1 11 x1268 := iv_e (x1268_e.trans x1250_e.symm) j1266
                  refine kc_i (D := (dC, dI)) (S := Unit) (wc := []) (wr := [(o1, .inr (12, [.int v2, .ref o3, .int v5, .ref o6, .int v8, .ref o9, .ref o11, .int v13, .ref o14, .int v16, .ref o17, .int v19, .int v20, .int v21, .ref o22, .ref o24, .ref o26, .ref o28, .ref o30, .int v32, .ref o33, .ref o35, .ref o37, .int v39, .ref o40, .ref o42, .ref o44, .int v46, .ref o47])), (o11, .inl (cI, 12, .inl f856)), (o6, .inl (cI, 12, .inl fw7))]) (w1 := fun _ => []) (wn := fun _ => [(o1, .inr (12, [.int v2, .ref o3, .int v5, .ref o6, .int v8, .ref o9, .ref o11, .int v13, .ref o14, .int v16, .ref o17, .int v19, .int v20, .int v21, .ref o22, .ref o24, .ref o26, .ref o28, .ref o30, .int v32, .ref o33, .ref o35, .ref o37, .int v39, .ref o40, .ref o42, .ref o44, .int v46, .ref o47])), (o11, .inl (cI, 12, .inl f856)), (o6, .inl (cI, 12, .inl fw7))]) (fun hPc hDc => va_runS (As := [.int x1267, .int x1268]) (rest := [.int x1191]) ⟨hx, hb, hml, hown, hts⟩ (kX12_has_1 l dC dI cI c2 cZ x1267 x1268 H.size (iv_w x1268_h (by decide))) (va_cwS 2 hts gX12_goesOn_X12_has rfl rfl rfl (by decide +kernel) ⟨Nat.le_of_ble_eq_true rfl, Nat.le_of_ble_eq_true rfl⟩) (pre_S hPc hK hDc hN) rfl rfl hl.1 rfl (lv_room (Nat.le_of_ble_eq_true rfl)) dX12_goesOn_83 ⟨Nat.le_of_ble_eq_true rfl, Nat.le_of_ble_eq_true rfl⟩) hP hD hS hA [] [0, 1, 2] [0, 1, 2] rfl rfl (by decide +kernel) (by decide +kernel) (by decide +kernel) (by decide +kernel) (fun _ => rfl) (fun x1269 _ H locs hq hP hD hS => ?_)
                  obtain ⟨x1269_h, e1270⟩ := hq
                  have hP : va_P (dC, dI) vwCl ([(o1, .inr (12, [.int v2, .ref o3, .int v5, .ref o6, .int v8, .ref o9, .ref o11, .int v13, .ref o14, .int v16, .ref o17, .int v19, .int v20, .int v21, .ref o22, .ref o24, .ref o26, .ref o28, .ref o30, .int v32, .ref o33, .ref o35, .ref o37, .int v39, .ref o40, .ref o42, .ref o44, .int v46, .ref o47])), (o11, .inl (cI, 12, .inl f856)), (o6, .inl (cI, 12, .inl fw7))]) H := hP
                  have hD : va_D A ([(o1, .inr (12, [.int v2, .ref o3, .int v5, .ref o6, .int v8, .ref o9, .ref o11, .int v13, .ref o14, .int v16, .ref o17, .int v19, .int v20, .int v21, .ref o22, .ref o24, .ref o26, .ref o28, .ref o30, .int v32, .ref o33, .ref o35, .ref o37, .int v39, .ref o40, .ref o42, .ref o44, .int v46, .ref o47])), (o11, .inl (cI, 12, .inl f856)), (o6, .inl (cI, 12, .inl fw7))]) := hD
                  refine lv_if_eq (tgt := 96) hx hb dX12_goesOn_86 (by decide) (fun h1271 => ?_) (fun h1271 => ?_)
                  ·
                    have j1272 : Iv 0 0 x1269 := r_eq h1271 ik_0
                    have b1273 : bt x1267 (Int32.toNatClampNeg x1268) = false := has_f e1270 h1271
                    refine lv_iconst (v := 0) hx hb dX12_goesOn_96 (by decide) ?_
                    refine lv_ior hx hb dX12_goesOn_97 (lv_topi (fun x1274 x1274_e => ?_))
                    have x1274_h : Iv 0 4095 x1274 := iv_e x1274_e (iv_or 12 x1191_h ik_0 (by decide))
                    refine lv_istore (lv' := [(5, .int x1274), (6, .int 1), (7, .int x1190), (4, .int x855), (3, .int x1), (0, .ref o1), (1, .int 10), (2, .int a2)]) hx hb dX12_goesOn_98 hl (by decide) rfl (fun ls hl => ?_)
                    obtain ⟨x1275, x1275_e⟩ : ∃ z : Int32, z = x1190 + 1 := ⟨_, rfl⟩
                    have x1275_h : Iv 1 10 x1275 := iv_e x1275_e (iv_add j1232 ik_1 (by decide))
                    refine lv_iinc (v := x1275) (lv' := [(7, .int x1275), (5, .int x1274), (6, .int 1), (4, .int x855), (3, .int x1), (0, .ref o1), (1, .int 10), (2, .int a2)]) hx hb dX12_goesOn_100 hl (k := 2) rfl (incN (by decide +kernel) x1275_e) (by decide) rfl (fun ls hl => ?_)
                    refine lv_goto (tgt := 37) hx hb dX12_goesOn_103 (by decide) ?_
                    exact ih4 x1275 x1274 1 _ _ _ (ms_up x1275_e j1232 (by decide) hM4) (iv_w x1275_h (by decide)) x1274_h (iv_w ik_1 (by decide)) hP hD hS (lv_sub hl [0, 2, 1, 3, 4, 5, 6, 7] rfl)
                  ·
                    have j1276 : Iv 1 1 x1269 := r_nelo h1271 x1269_h ik_0 (by decide)
                    have b1277 : bt x1267 (Int32.toNatClampNeg x1268) = true := has_t e1270 h1271
                    refine lv_iconst (v := 1) hx hb dX12_goesOn_89 (by decide) ?_
                    refine lv_iload hx hb dX12_goesOn_90 (lv_at hl 1 rfl) ?_
                    refine lv_ishl hx hb dX12_goesOn_92 (lv_topi (fun x1278 x1278_e => ?_))
                    have x1278_h : Iv 1 512 x1278 := iv_e x1278_e (iv_shl1 j1232 (by decide))
                    refine lv_goto (tgt := 97) hx hb dX12_goesOn_93 (by decide) ?_
                    refine lv_ior hx hb dX12_goesOn_97 (lv_topi (fun x1279 x1279_e => ?_))
                    have x1279_h : Iv 0 4095 x1279 := iv_e x1279_e (iv_or 12 x1191_h x1278_h (by decide))
                    refine lv_istore (lv' := [(5, .int x1279), (6, .int 1), (7, .int x1190), (4, .int x855), (3, .int x1), (0, .ref o1), (1, .int 10), (2, .int a2)]) hx hb dX12_goesOn_98 hl (by decide) rfl (fun ls hl => ?_)
                    obtain ⟨x1280, x1280_e⟩ : ∃ z : Int32, z = x1190 + 1 := ⟨_, rfl⟩
                    have x1280_h : Iv 1 10 x1280 := iv_e x1280_e (iv_add j1232 ik_1 (by decide))
                    refine lv_iinc (v := x1280) (lv' := [(7, .int x1280), (5, .int x1279), (6, .int 1), (4, .int x855), (3, .int x1), (0, .ref o1), (1, .int 10), (2, .int a2)]) hx hb dX12_goesOn_100 hl (k := 2) rfl (incN (by decide +kernel) x1280_e) (by decide) rfl (fun ls hl => ?_)
                    refine lv_goto (tgt := 37) hx hb dX12_goesOn_103 (by decide) ?_
                    exact ih4 x1280 x1279 1 _ _ _ (ms_up x1280_e j1232 (by decide) hM4) (iv_w x1280_h (by decide)) x1279_h (iv_w ik_1 (by decide)) hP hD hS (lv_sub hl [0, 2, 1, 3, 4, 5, 6, 7] rfl)
        exact L4 _ 0 0 0 _ _ _ (Nat.lt_succ_self _) (iv_w ik_0 (by decide)) (iv_w ik_0 (by decide)) (iv_w ik_0 (by decide)) hP hD hS hl
  exact L3 _ x3 fw12 _ _ _ (Nat.lt_succ_self _) x3_h fw12_b hP hD hS hl
