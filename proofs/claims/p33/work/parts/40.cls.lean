set_option maxHeartbeats 4000000 in
set_option maxRecDepth 100000 in
theorem kX1_gather_4 (l : Launch) (dC : Nat → ClassId) (dI : Nat → Nat → Nat) (cI c2 cZ : ClassId) (o1 : Nat) (o3 : Nat) (o5 : Nat) (o7 : Nat) (o9 : Nat) (v2 : Int32) (fw4 : Nat → Int32) (fw6 : Nat → Int32) (v11 : Int32) (v12 : Int32) (v13 : Int32) (a1 : Int32) (a2 : Int32) (a3 : Int32) (sz : Nat) (v2_h : Iv 0 1 v2) (fw4_b : Bd 12 0 4095 fw4) (v11_h : Iv 0 81 v11) (a1_h : Iv 0 4095 a1) (a2_h : Iv 0 4095 a2) (a3_h : Iv 0 4095 a3) : Met l yX1_gather wsX1_gather ({ frames := 4, cells := 0, slots := 0, locals := 96 }) (va_Pc [.ref o1, .int a1, .int a2, .int a3, .int 10] (wPre (dC, dI) [(cI, .int), (c2, .array .int), (cZ, .boolean)] ([(o1, .inr (1, [.int v2, .ref o3, .ref o5, .ref o7, .ref o9, .int v11, .int v12, .int v13])), (o3, .inl (cI, 12, .inl fw4)), (o5, .inl (cI, 81, .inl fw6))]) sz)) (va_Qv (fun (u : Int32 × (Nat → Int32)) => Iv 0 81 u.1) (fun u t => wPost (dC, dI) [(cI, .int), (c2, .array .int), (cZ, .boolean)] (va_A ([(o1, .inr (1, [.int v2, .ref o3, .ref o5, .ref o7, .ref o9, .int v11, .int v12, .int v13])), (o3, .inl (cI, 12, .inl fw4)), (o5, .inl (cI, 81, .inl fw6))]) sz) ([(o1, .inr (1, [.int v2, .ref o3, .ref o5, .ref o7, .ref o9, .int u.1, .int v12, .int v13])), (o3, .inl (cI, 12, .inl fw4)), (o5, .inl (cI, 81, .inl u.2))]) t) (va_A ([(o1, .inr (1, [.int v2, .ref o3, .ref o5, .ref o7, .ref o9, .int v11, .int v12, .int v13])), (o3, .inl (cI, 12, .inl fw4)), (o5, .inl (cI, 81, .inl fw6))]) sz)) 0 0 (va_A ([(o1, .inr (1, [.int v2, .ref o3, .ref o5, .ref o7, .ref o9, .int v11, .int v12, .int v13])), (o3, .inl (cI, 12, .inl fw4)), (o5, .inl (cI, 81, .inl fw6))]) sz) := by
  refine Met.ofW (cc := cX1_gather) (maxL := 7) (ret := none) (by decide) rfl ?_
  intro p e s m args below meth c s₁ B hml hv
  obtain ⟨rfl, hsz, hP, hK, hD0, hN⟩ := hv
  have hx := B.exec
  have hb := B.bytes
  have hr := B.returns
  have hts := atoms_spec (ws := wsX1_gather) B.pre
  have hown : s.vm.findClass RX1 = some m.cls := findClass_of_methodNamed B.named
  have hlocks := B.notSynchronized
  subst hsz
  have hD := hD0.self (sz := s.heap.size)
  generalize hAe : va_A ([(o1, .inr (1, [.int v2, .ref o3, .ref o5, .ref o7, .ref o9, .int v11, .int v12, .int v13])), (o3, .inl (cI, 12, .inl fw4)), (o5, .inl (cI, 81, .inl fw6))]) s.heap.size = A at hD ⊢
  have hA : ∀ q : Nat, s.heap.size ≤ q → A q := fun q h => by rw [← hAe]; exact Or.inr h
  have hS : va_S A s.heap s.heap [] := va_S.rf
  have hP : va_P (dC, dI) vwCl ([(o1, .inr (1, [.int v2, .ref o3, .ref o5, .ref o7, .ref o9, .int v11, .int v12, .int v13])), (o3, .inl (cI, 12, .inl fw4)), (o5, .inl (cI, 81, .inl fw6))]) s.heap := hP
  have hl := lv_entry ([.ref o1, .int a1, .int a2, .int a3, .int 10]) (n := 7) (Nat.le_of_ble_eq_true rfl)
  rw [lg_entry_eq]
  generalize (lg_sl ([.ref o1, .int a1, .int a2, .int a3, .int 10]) ++ List.replicate (7 - (lg_sl ([.ref o1, .int a1, .int a2, .int a3, .int 10])).length) Slot.unset).toArray = ls at hl ⊢
  have hl : lv_has ls 7 [(0, .ref o1), (1, .int a1), (2, .int a2), (3, .int a3), (4, .int 10)] := hl
  refine gen_Q (fun Q hQ => ?_)
  refine lv_iload hx hb dX1_gather_0 (lv_at hl 4 rfl) ?_
  refine lv_bipush (v := 12) hx hb dX1_gather_2 (by decide) ?_
  refine lv_icmp_gt (tgt := 16) hx hb dX1_gather_4 (by decide) (fun h9 => absurd h9 (by decide +kernel)) (fun _ => ?_)
  refine lv_aload_n hx hb dX1_gather_7 rfl (lv_at hl 0 rfl) ?_
  refine lv_iload_n hx hb dX1_gather_8 rfl (lv_at hl 2 rfl) ?_
  refine lv_iload_n hx hb dX1_gather_9 rfl (lv_at hl 3 rfl) ?_
  refine kc_i (D := (dC, dI)) (S := Unit) (wc := [(o1, .inr (1, [.int v2, .ref o3, .ref o5, .ref o7, .ref o9, .int v11, .int v12, .int v13])), (o3, .inl (cI, 12, .inl fw4))]) (wr := [(o5, .inl (cI, 81, .inl fw6))]) (w1 := fun _ => [(o1, .inr (1, [.int v2, .ref o3, .ref o5, .ref o7, .ref o9, .int v11, .int v12, .int v13])), (o3, .inl (cI, 12, .inl fw4))]) (wn := fun _ => [(o1, .inr (1, [.int v2, .ref o3, .ref o5, .ref o7, .ref o9, .int v11, .int v12, .int v13])), (o3, .inl (cI, 12, .inl fw4)), (o5, .inl (cI, 81, .inl fw6))]) (fun hPc hDc => va_runV (As := [.int a2, .int a3]) (rest := []) ⟨hx, hb, hml, hown, hts⟩ (kX1_canNotBeGreat_1 l dC dI cI c2 cZ o1 o3 o5 o7 o9 v2 fw4 v11 v12 v13 a2 a3 s.heap.size v2_h fw4_b v11_h a2_h a3_h) (cwV 2 hts gX1_gather_X1_canNotBeGreat rfl rfl rfl (by decide +kernel) ⟨Nat.le_of_ble_eq_true rfl, Nat.le_of_ble_eq_true rfl⟩) (pre_V hPc hK hDc hN (ci := 1) (q0 := 0) rfl rfl) rfl rfl hl.1 rfl (lv_room (Nat.le_of_ble_eq_true rfl)) dX1_gather_10 ⟨Nat.le_of_ble_eq_true rfl, Nat.le_of_ble_eq_true rfl⟩) hP hD hS hA [0, 1] [2] [1, 2, 0] rfl rfl (by decide +kernel) (by decide +kernel) (by decide +kernel) (by decide +kernel) (fun _ => rfl) (fun x1 _ H locs hq hP hD hS => ?_)
  have x1_h := hq
  have hP : va_P (dC, dI) vwCl ([(o1, .inr (1, [.int v2, .ref o3, .ref o5, .ref o7, .ref o9, .int v11, .int v12, .int v13])), (o3, .inl (cI, 12, .inl fw4)), (o5, .inl (cI, 81, .inl fw6))]) H := hP
  have hD : va_D A ([(o1, .inr (1, [.int v2, .ref o3, .ref o5, .ref o7, .ref o9, .int v11, .int v12, .int v13])), (o3, .inl (cI, 12, .inl fw4)), (o5, .inl (cI, 81, .inl fw6))]) := hD
  refine lv_if_eq (tgt := 17) hx hb dX1_gather_13 (by decide) (fun h2 => ?_) (fun h2 => ?_)
  ·
    have j3 : Iv 0 0 x1 := r_eq h2 ik_0
    refine lv_iload_n hx hb dX1_gather_17 rfl (lv_at hl 2 rfl) ?_
    refine lv_if_ne (tgt := 27) hx hb dX1_gather_18 (by decide) (fun h4 => ?_) (fun h4 => ?_)
    ·
      have j5 : Iv 1 4095 a2 := r_nelo h4 a2_h ik_0 (by decide)
      refine lv_bipush (v := 31) hx hb dX1_gather_27 (by decide) ?_
      refine lv_iload_n hx hb dX1_gather_29 rfl (lv_at hl 2 rfl) ?_
      refine kc_i (D := (dC, dI)) (S := Unit) (wc := []) (wr := [(o1, .inr (1, [.int v2, .ref o3, .ref o5, .ref o7, .ref o9, .int v11, .int v12, .int v13])), (o3, .inl (cI, 12, .inl fw4)), (o5, .inl (cI, 81, .inl fw6))]) (w1 := fun _ => []) (wn := fun _ => [(o1, .inr (1, [.int v2, .ref o3, .ref o5, .ref o7, .ref o9, .int v11, .int v12, .int v13])), (o3, .inl (cI, 12, .inl fw4)), (o5, .inl (cI, 81, .inl fw6))]) (fun hPc hDc => va_runS (As := [.int a2]) (rest := [.int 31]) ⟨hx, hb, hml, hown, hts⟩ (kJ6_numberOfLeadingZeros_0f7a4_1 l dC dI cI c2 cZ a2 H.size j5) (va_cwS 1 hts gX1_gather_J6_numberOfLeadingZeros_0f7a4 rfl rfl rfl (by decide +kernel) ⟨Nat.le_of_ble_eq_true rfl, Nat.le_of_ble_eq_true rfl⟩) (pre_S hPc hK hDc hN) rfl rfl hl.1 rfl (lv_room (Nat.le_of_ble_eq_true rfl)) dX1_gather_30 ⟨Nat.le_of_ble_eq_true rfl, Nat.le_of_ble_eq_true rfl⟩) hP hD hS hA [] [0, 1, 2] [0, 1, 2] rfl rfl (by decide +kernel) (by decide +kernel) (by decide +kernel) (by decide +kernel) (fun _ => rfl) (fun x6 _ H locs hq hP hD hS => ?_)
      have x6_h := hq
      have hP : va_P (dC, dI) vwCl ([(o1, .inr (1, [.int v2, .ref o3, .ref o5, .ref o7, .ref o9, .int v11, .int v12, .int v13])), (o3, .inl (cI, 12, .inl fw4)), (o5, .inl (cI, 81, .inl fw6))]) H := hP
      have hD : va_D A ([(o1, .inr (1, [.int v2, .ref o3, .ref o5, .ref o7, .ref o9, .int v11, .int v12, .int v13])), (o3, .inl (cI, 12, .inl fw4)), (o5, .inl (cI, 81, .inl fw6))]) := hD
      refine lv_isub hx hb dX1_gather_33 (lv_topi (fun x7 x7_e => ?_))
      have x7_h : Iv 0 11 x7 := iv_e x7_e (iv_sub ik_31 x6_h (by decide))
      refine lv_istore (lv' := [(5, .int x7), (0, .ref o1), (1, .int a1), (2, .int a2), (3, .int a3), (4, .int 10)]) hx hb dX1_gather_34 hl (by decide) rfl (fun ls hl => ?_)
      refine lv_iload_n hx hb dX1_gather_36 rfl (lv_at hl 3 rfl) ?_
      refine lv_iconst (v := 1) hx hb dX1_gather_37 (by decide) ?_
      refine lv_iload hx hb dX1_gather_38 (lv_at hl 0 rfl) ?_
      refine lv_ishl hx hb dX1_gather_40 (lv_topi (fun x8 x8_e => ?_))
      have x8_h : Iv 1 2048 x8 := iv_e x8_e (iv_shl1 x7_h (by decide))
      refine lv_iconst (v := (-1)) hx hb dX1_gather_41 (by decide) ?_
      refine lv_ixor hx hb dX1_gather_42 (lv_topi (fun x9 x9_e => ?_))
      refine lv_iand hx hb dX1_gather_43 (lv_topi (fun x10 x10_e => ?_))
      have x10_h : Iv 0 4095 x10 := iv_e x10_e (iv_andL _ j5 (by decide))
      refine lv_istore (lv' := [(6, .int x10), (5, .int x7), (0, .ref o1), (1, .int a1), (2, .int a2), (3, .int a3), (4, .int 10)]) hx hb dX1_gather_44 hl (by decide) rfl (fun ls hl => ?_)
      refine lv_aload_n hx hb dX1_gather_46 rfl (lv_at hl 2 rfl) ?_
      refine lv_iload_n hx hb dX1_gather_47 rfl (lv_at hl 3 rfl) ?_
      refine lv_iload hx hb dX1_gather_48 (lv_at hl 0 rfl) ?_
      refine lv_iload_n hx hb dX1_gather_50 rfl (lv_at hl 5 rfl) ?_
      refine lv_iconst (v := 1) hx hb dX1_gather_51 (by decide) ?_
      refine lv_iload hx hb dX1_gather_52 (lv_at hl 1 rfl) ?_
      refine lv_ishl hx hb dX1_gather_54 (lv_topi (fun x11 x11_e => ?_))
      have x11_h : Iv 1 2048 x11 := iv_e x11_e (iv_shl1 x7_h (by decide))
      refine lv_ior hx hb dX1_gather_55 (lv_topi (fun x12 x12_e => ?_))
      have x12_h : Iv 0 4095 x12 := iv_e x12_e (iv_or 12 a3_h x11_h (by decide))
      refine lv_iload hx hb dX1_gather_56 (lv_at hl 6 rfl) ?_
      refine lv_iconst (v := 1) hx hb dX1_gather_58 (by decide) ?_
      refine lv_iadd hx hb dX1_gather_59 (tk_i (v := 11) (by decide +kernel) ?_)
      refine kc_v (D := (dC, dI)) (S := Int32 × (Nat → Int32)) (wc := [(o1, .inr (1, [.int v2, .ref o3, .ref o5, .ref o7, .ref o9, .int v11, .int v12, .int v13])), (o3, .inl (cI, 12, .inl fw4)), (o5, .inl (cI, 81, .inl fw6))]) (wr := []) (w1 := fun u => [(o1, .inr (1, [.int v2, .ref o3, .ref o5, .ref o7, .ref o9, .int u.1, .int v12, .int v13])), (o3, .inl (cI, 12, .inl fw4)), (o5, .inl (cI, 81, .inl u.2))]) (wn := fun u => [(o1, .inr (1, [.int v2, .ref o3, .ref o5, .ref o7, .ref o9, .int u.1, .int v12, .int v13])), (o3, .inl (cI, 12, .inl fw4)), (o5, .inl (cI, 81, .inl u.2))]) (fun hPc hDc => va_runS (As := [.ref o1, .int a1, .int x10, .int x12, .int 11]) (rest := []) ⟨hx, hb, hml, hown, hts⟩ (kX1_gather_3 l dC dI cI c2 cZ o1 o3 o5 o7 o9 v2 fw4 fw6 v11 v12 v13 a1 x10 x12 H.size v2_h fw4_b v11_h a1_h x10_h x12_h) (va_cwS 5 hts gX1_gather_X1_gather rfl rfl rfl (by decide +kernel) ⟨Nat.le_of_ble_eq_true rfl, Nat.le_of_ble_eq_true rfl⟩) (pre_S hPc hK hDc hN) rfl rfl hl.1 rfl (lv_room (Nat.le_of_ble_eq_true rfl)) dX1_gather_60 ⟨Nat.le_of_ble_eq_true rfl, Nat.le_of_ble_eq_true rfl⟩) hP hD hS hA [0, 1, 2] [] [0, 1, 2] rfl rfl (by decide +kernel) (by decide +kernel) (by decide +kernel) (by decide +kernel) (fun _ => rfl) (fun u H locs hq hP hD hS => ?_)
      obtain ⟨y13, f14⟩ := u
      have y13_h := hq
      have hP : va_P (dC, dI) vwCl ([(o1, .inr (1, [.int v2, .ref o3, .ref o5, .ref o7, .ref o9, .int y13, .int v12, .int v13])), (o3, .inl (cI, 12, .inl fw4)), (o5, .inl (cI, 81, .inl f14))]) H := hP
      have hD : va_D A ([(o1, .inr (1, [.int v2, .ref o3, .ref o5, .ref o7, .ref o9, .int y13, .int v12, .int v13])), (o3, .inl (cI, 12, .inl fw4)), (o5, .inl (cI, 81, .inl f14))]) := hD
      refine lv_aload_n hx hb dX1_gather_63 rfl (lv_at hl 2 rfl) ?_
      refine lv_iload_n hx hb dX1_gather_64 rfl (lv_at hl 3 rfl) ?_
      refine lv_iconst (v := 1) hx hb dX1_gather_65 (by decide) ?_
      refine lv_iload hx hb dX1_gather_66 (lv_at hl 1 rfl) ?_
      refine lv_ishl hx hb dX1_gather_68 (lv_topi (fun x15 x15_e => ?_))
      have x15_h : Iv 1 2048 x15 := iv_e x15_e (iv_shl1 x7_h (by decide))
      refine lv_ior hx hb dX1_gather_69 (lv_topi (fun x16 x16_e => ?_))
      have x16_h : Iv 0 4095 x16 := iv_e x16_e (iv_or 12 a1_h x15_h (by decide))
      refine lv_iload hx hb dX1_gather_70 (lv_at hl 0 rfl) ?_
      refine lv_aload_n hx hb dX1_gather_72 rfl (lv_at hl 2 rfl) ?_
      refine va_get (D := (dC, dI)) (ci := 1) (v := .ref o3) (C := RX1) (T := TX1) (N := 8) hx hb hts iw_X1_gather_X1 hown hK hP 0 rfl rfl 1 (by decide) (hts (.fieldLink RX1 9 "HolelessHouse$Cliques" "near" "[I") hm_X1_gather_1) (fun _ h9 => h9) rfl dX1_gather_73 ?_
      refine lv_iload hx hb dX1_gather_76 (lv_at hl 1 rfl) ?_
      refine va_iald hx hb hK hP 1 0 rfl rfl (vin_iv x7_h (by decide)) dX1_gather_78 (lv_topi (fun x17 x17_e => ?_))
      have x17_h : Iv 0 4095 x17 := iv_e x17_e (bd_at fw4_b (vin_iv x7_h (by decide)))
      refine lv_iand hx hb dX1_gather_79 (lv_topi (fun x18 x18_e => ?_))
      have x18_h : Iv 0 4095 x18 := iv_e x18_e (iv_andL _ x10_h (by decide))
      refine lv_iload_n hx hb dX1_gather_80 rfl (lv_at hl 5 rfl) ?_
      refine lv_aload_n hx hb dX1_gather_81 rfl (lv_at hl 2 rfl) ?_
      refine va_get (D := (dC, dI)) (ci := 1) (v := .ref o3) (C := RX1) (T := TX1) (N := 8) hx hb hts iw_X1_gather_X1 hown hK hP 0 rfl rfl 1 (by decide) (hts (.fieldLink RX1 9 "HolelessHouse$Cliques" "near" "[I") hm_X1_gather_1) (fun _ h9 => h9) rfl dX1_gather_82 ?_
      refine lv_iload hx hb dX1_gather_85 (lv_at hl 1 rfl) ?_
      refine va_iald hx hb hK hP 1 0 rfl rfl (vin_iv x7_h (by decide)) dX1_gather_87 (lv_topi (fun x19 x19_e => ?_))
      have x19_h : Iv 0 4095 x19 := iv_e x19_e (bd_at fw4_b (vin_iv x7_h (by decide)))
      refine lv_iand hx hb dX1_gather_88 (lv_topi (fun x20 x20_e => ?_))
      have x20_h : Iv 0 4095 x20 := iv_e x20_e (iv_andL _ a3_h (by decide))
      refine lv_iload hx hb dX1_gather_89 (lv_at hl 6 rfl) ?_
      refine lv_iconst (v := 1) hx hb dX1_gather_91 (by decide) ?_
      refine lv_iadd hx hb dX1_gather_92 (tk_i (v := 11) (by decide +kernel) ?_)
      refine kc_v (D := (dC, dI)) (S := Int32 × (Nat → Int32)) (wc := [(o1, .inr (1, [.int v2, .ref o3, .ref o5, .ref o7, .ref o9, .int y13, .int v12, .int v13])), (o3, .inl (cI, 12, .inl fw4)), (o5, .inl (cI, 81, .inl f14))]) (wr := []) (w1 := fun u => [(o1, .inr (1, [.int v2, .ref o3, .ref o5, .ref o7, .ref o9, .int u.1, .int v12, .int v13])), (o3, .inl (cI, 12, .inl fw4)), (o5, .inl (cI, 81, .inl u.2))]) (wn := fun u => [(o1, .inr (1, [.int v2, .ref o3, .ref o5, .ref o7, .ref o9, .int u.1, .int v12, .int v13])), (o3, .inl (cI, 12, .inl fw4)), (o5, .inl (cI, 81, .inl u.2))]) (fun hPc hDc => va_runS (As := [.ref o1, .int x16, .int x18, .int x20, .int 11]) (rest := []) ⟨hx, hb, hml, hown, hts⟩ (kX1_gather_3 l dC dI cI c2 cZ o1 o3 o5 o7 o9 v2 fw4 f14 y13 v12 v13 x16 x18 x20 H.size v2_h fw4_b y13_h x16_h x18_h x20_h) (va_cwS 5 hts gX1_gather_X1_gather rfl rfl rfl (by decide +kernel) ⟨Nat.le_of_ble_eq_true rfl, Nat.le_of_ble_eq_true rfl⟩) (pre_S hPc hK hDc hN) rfl rfl hl.1 rfl (lv_room (Nat.le_of_ble_eq_true rfl)) dX1_gather_93 ⟨Nat.le_of_ble_eq_true rfl, Nat.le_of_ble_eq_true rfl⟩) hP hD hS hA [0, 1, 2] [] [0, 1, 2] rfl rfl (by decide +kernel) (by decide +kernel) (by decide +kernel) (by decide +kernel) (fun _ => rfl) (fun u H locs hq hP hD hS => ?_)
      obtain ⟨y21, f22⟩ := u
      have y21_h := hq
      have hP : va_P (dC, dI) vwCl ([(o1, .inr (1, [.int v2, .ref o3, .ref o5, .ref o7, .ref o9, .int y21, .int v12, .int v13])), (o3, .inl (cI, 12, .inl fw4)), (o5, .inl (cI, 81, .inl f22))]) H := hP
      have hD : va_D A ([(o1, .inr (1, [.int v2, .ref o3, .ref o5, .ref o7, .ref o9, .int y21, .int v12, .int v13])), (o3, .inl (cI, 12, .inl fw4)), (o5, .inl (cI, 81, .inl f22))]) := hD
      rw [hQ]
      exact W.vret hx hb hr (fun t ht hW => ⟨⟨(y21, f22), rfl, y21_h, by rw [ht]; exact hP, va_K.moved hW.alike hK, hD⟩, hS.F ht⟩) hS.2.2 dX1_gather_96
    ·
      have j23 : Iv 0 0 a2 := r_eq h4 ik_0
      refine lv_aload_n hx hb dX1_gather_21 rfl (lv_at hl 0 rfl) ?_
      refine lv_iload_n hx hb dX1_gather_22 rfl (lv_at hl 1 rfl) ?_
      refine kc_v (D := (dC, dI)) (S := Int32 × (Nat → Int32)) (wc := [(o1, .inr (1, [.int v2, .ref o3, .ref o5, .ref o7, .ref o9, .int v11, .int v12, .int v13])), (o5, .inl (cI, 81, .inl fw6))]) (wr := [(o3, .inl (cI, 12, .inl fw4))]) (w1 := fun u => [(o1, .inr (1, [.int v2, .ref o3, .ref o5, .ref o7, .ref o9, .int u.1, .int v12, .int v13])), (o5, .inl (cI, 81, .inl u.2))]) (wn := fun u => [(o1, .inr (1, [.int v2, .ref o3, .ref o5, .ref o7, .ref o9, .int u.1, .int v12, .int v13])), (o3, .inl (cI, 12, .inl fw4)), (o5, .inl (cI, 81, .inl u.2))]) (fun hPc hDc => va_runV (As := [.int a1]) (rest := []) ⟨hx, hb, hml, hown, hts⟩ (kX1_keep_1 l dC dI cI c2 cZ o1 o3 o5 o7 o9 v2 fw6 v11 v12 v13 a1 H.size v2_h v11_h a1_h) (cwV 1 hts gX1_gather_X1_keep rfl rfl rfl (by decide +kernel) ⟨Nat.le_of_ble_eq_true rfl, Nat.le_of_ble_eq_true rfl⟩) (pre_V hPc hK hDc hN (ci := 1) (q0 := 0) rfl rfl) rfl rfl hl.1 rfl (lv_room (Nat.le_of_ble_eq_true rfl)) dX1_gather_23 ⟨Nat.le_of_ble_eq_true rfl, Nat.le_of_ble_eq_true rfl⟩) hP hD hS hA [0, 2] [1] [1, 0, 2] rfl rfl (by decide +kernel) (by decide +kernel) (by decide +kernel) (by decide +kernel) (fun _ => rfl) (fun u H locs hq hP hD hS => ?_)
      obtain ⟨y24, f25⟩ := u
      have y24_h := hq
      have hP : va_P (dC, dI) vwCl ([(o1, .inr (1, [.int v2, .ref o3, .ref o5, .ref o7, .ref o9, .int y24, .int v12, .int v13])), (o3, .inl (cI, 12, .inl fw4)), (o5, .inl (cI, 81, .inl f25))]) H := hP
      have hD : va_D A ([(o1, .inr (1, [.int v2, .ref o3, .ref o5, .ref o7, .ref o9, .int y24, .int v12, .int v13])), (o3, .inl (cI, 12, .inl fw4)), (o5, .inl (cI, 81, .inl f25))]) := hD
      rw [hQ]
      exact W.vret hx hb hr (fun t ht hW => ⟨⟨(y24, f25), rfl, y24_h, by rw [ht]; exact hP, va_K.moved hW.alike hK, hD⟩, hS.F ht⟩) hS.2.2 dX1_gather_26
  ·
    have j26 : Iv 1 1 x1 := r_nelo h2 x1_h ik_0 (by decide)
    rw [hQ]
    exact W.vret hx hb hr (fun t ht hW => ⟨⟨(v11, fw6), rfl, v11_h, by rw [ht]; exact hP, va_K.moved hW.alike hK, hD⟩, hS.F ht⟩) hS.2.2 dX1_gather_16
set_option maxHeartbeats 4000000 in
set_option maxRecDepth 100000 in
theorem kX1_gather_5 (l : Launch) (dC : Nat → ClassId) (dI : Nat → Nat → Nat) (cI c2 cZ : ClassId) (o1 : Nat) (o3 : Nat) (o5 : Nat) (o7 : Nat) (o9 : Nat) (v2 : Int32) (fw4 : Nat → Int32) (fw6 : Nat → Int32) (v11 : Int32) (v12 : Int32) (v13 : Int32) (a1 : Int32) (a2 : Int32) (a3 : Int32) (sz : Nat) (v2_h : Iv 0 1 v2) (fw4_b : Bd 12 0 4095 fw4) (v11_h : Iv 0 81 v11) (a1_h : Iv 0 4095 a1) (a2_h : Iv 0 4095 a2) (a3_h : Iv 0 4095 a3) : Met l yX1_gather wsX1_gather ({ frames := 5, cells := 0, slots := 0, locals := 122 }) (va_Pc [.ref o1, .int a1, .int a2, .int a3, .int 9] (wPre (dC, dI) [(cI, .int), (c2, .array .int), (cZ, .boolean)] ([(o1, .inr (1, [.int v2, .ref o3, .ref o5, .ref o7, .ref o9, .int v11, .int v12, .int v13])), (o3, .inl (cI, 12, .inl fw4)), (o5, .inl (cI, 81, .inl fw6))]) sz)) (va_Qv (fun (u : Int32 × (Nat → Int32)) => Iv 0 81 u.1) (fun u t => wPost (dC, dI) [(cI, .int), (c2, .array .int), (cZ, .boolean)] (va_A ([(o1, .inr (1, [.int v2, .ref o3, .ref o5, .ref o7, .ref o9, .int v11, .int v12, .int v13])), (o3, .inl (cI, 12, .inl fw4)), (o5, .inl (cI, 81, .inl fw6))]) sz) ([(o1, .inr (1, [.int v2, .ref o3, .ref o5, .ref o7, .ref o9, .int u.1, .int v12, .int v13])), (o3, .inl (cI, 12, .inl fw4)), (o5, .inl (cI, 81, .inl u.2))]) t) (va_A ([(o1, .inr (1, [.int v2, .ref o3, .ref o5, .ref o7, .ref o9, .int v11, .int v12, .int v13])), (o3, .inl (cI, 12, .inl fw4)), (o5, .inl (cI, 81, .inl fw6))]) sz)) 0 0 (va_A ([(o1, .inr (1, [.int v2, .ref o3, .ref o5, .ref o7, .ref o9, .int v11, .int v12, .int v13])), (o3, .inl (cI, 12, .inl fw4)), (o5, .inl (cI, 81, .inl fw6))]) sz) := by
  refine Met.ofW (cc := cX1_gather) (maxL := 7) (ret := none) (by decide) rfl ?_
  intro p e s m args below meth c s₁ B hml hv
  obtain ⟨rfl, hsz, hP, hK, hD0, hN⟩ := hv
  have hx := B.exec
  have hb := B.bytes
  have hr := B.returns
  have hts := atoms_spec (ws := wsX1_gather) B.pre
  have hown : s.vm.findClass RX1 = some m.cls := findClass_of_methodNamed B.named
  have hlocks := B.notSynchronized
  subst hsz
  have hD := hD0.self (sz := s.heap.size)
  generalize hAe : va_A ([(o1, .inr (1, [.int v2, .ref o3, .ref o5, .ref o7, .ref o9, .int v11, .int v12, .int v13])), (o3, .inl (cI, 12, .inl fw4)), (o5, .inl (cI, 81, .inl fw6))]) s.heap.size = A at hD ⊢
  have hA : ∀ q : Nat, s.heap.size ≤ q → A q := fun q h => by rw [← hAe]; exact Or.inr h
  have hS : va_S A s.heap s.heap [] := va_S.rf
  have hP : va_P (dC, dI) vwCl ([(o1, .inr (1, [.int v2, .ref o3, .ref o5, .ref o7, .ref o9, .int v11, .int v12, .int v13])), (o3, .inl (cI, 12, .inl fw4)), (o5, .inl (cI, 81, .inl fw6))]) s.heap := hP
  have hl := lv_entry ([.ref o1, .int a1, .int a2, .int a3, .int 9]) (n := 7) (Nat.le_of_ble_eq_true rfl)
  rw [lg_entry_eq]
  generalize (lg_sl ([.ref o1, .int a1, .int a2, .int a3, .int 9]) ++ List.replicate (7 - (lg_sl ([.ref o1, .int a1, .int a2, .int a3, .int 9])).length) Slot.unset).toArray = ls at hl ⊢
  have hl : lv_has ls 7 [(0, .ref o1), (1, .int a1), (2, .int a2), (3, .int a3), (4, .int 9)] := hl
  refine gen_Q (fun Q hQ => ?_)
  refine lv_iload hx hb dX1_gather_0 (lv_at hl 4 rfl) ?_
  refine lv_bipush (v := 12) hx hb dX1_gather_2 (by decide) ?_
  refine lv_icmp_gt (tgt := 16) hx hb dX1_gather_4 (by decide) (fun h9 => absurd h9 (by decide +kernel)) (fun _ => ?_)
  refine lv_aload_n hx hb dX1_gather_7 rfl (lv_at hl 0 rfl) ?_
  refine lv_iload_n hx hb dX1_gather_8 rfl (lv_at hl 2 rfl) ?_
  refine lv_iload_n hx hb dX1_gather_9 rfl (lv_at hl 3 rfl) ?_
  refine kc_i (D := (dC, dI)) (S := Unit) (wc := [(o1, .inr (1, [.int v2, .ref o3, .ref o5, .ref o7, .ref o9, .int v11, .int v12, .int v13])), (o3, .inl (cI, 12, .inl fw4))]) (wr := [(o5, .inl (cI, 81, .inl fw6))]) (w1 := fun _ => [(o1, .inr (1, [.int v2, .ref o3, .ref o5, .ref o7, .ref o9, .int v11, .int v12, .int v13])), (o3, .inl (cI, 12, .inl fw4))]) (wn := fun _ => [(o1, .inr (1, [.int v2, .ref o3, .ref o5, .ref o7, .ref o9, .int v11, .int v12, .int v13])), (o3, .inl (cI, 12, .inl fw4)), (o5, .inl (cI, 81, .inl fw6))]) (fun hPc hDc => va_runV (As := [.int a2, .int a3]) (rest := []) ⟨hx, hb, hml, hown, hts⟩ (kX1_canNotBeGreat_1 l dC dI cI c2 cZ o1 o3 o5 o7 o9 v2 fw4 v11 v12 v13 a2 a3 s.heap.size v2_h fw4_b v11_h a2_h a3_h) (cwV 2 hts gX1_gather_X1_canNotBeGreat rfl rfl rfl (by decide +kernel) ⟨Nat.le_of_ble_eq_true rfl, Nat.le_of_ble_eq_true rfl⟩) (pre_V hPc hK hDc hN (ci := 1) (q0 := 0) rfl rfl) rfl rfl hl.1 rfl (lv_room (Nat.le_of_ble_eq_true rfl)) dX1_gather_10 ⟨Nat.le_of_ble_eq_true rfl, Nat.le_of_ble_eq_true rfl⟩) hP hD hS hA [0, 1] [2] [1, 2, 0] rfl rfl (by decide +kernel) (by decide +kernel) (by decide +kernel) (by decide +kernel) (fun _ => rfl) (fun x1 _ H locs hq hP hD hS => ?_)
  have x1_h := hq
  have hP : va_P (dC, dI) vwCl ([(o1, .inr (1, [.int v2, .ref o3, .ref o5, .ref o7, .ref o9, .int v11, .int v12, .int v13])), (o3, .inl (cI, 12, .inl fw4)), (o5, .inl (cI, 81, .inl fw6))]) H := hP
  have hD : va_D A ([(o1, .inr (1, [.int v2, .ref o3, .ref o5, .ref o7, .ref o9, .int v11, .int v12, .int v13])), (o3, .inl (cI, 12, .inl fw4)), (o5, .inl (cI, 81, .inl fw6))]) := hD
  refine lv_if_eq (tgt := 17) hx hb dX1_gather_13 (by decide) (fun h2 => ?_) (fun h2 => ?_)
  ·
    have j3 : Iv 0 0 x1 := r_eq h2 ik_0
    refine lv_iload_n hx hb dX1_gather_17 rfl (lv_at hl 2 rfl) ?_
    refine lv_if_ne (tgt := 27) hx hb dX1_gather_18 (by decide) (fun h4 => ?_) (fun h4 => ?_)
    ·
      have j5 : Iv 1 4095 a2 := r_nelo h4 a2_h ik_0 (by decide)
      refine lv_bipush (v := 31) hx hb dX1_gather_27 (by decide) ?_
      refine lv_iload_n hx hb dX1_gather_29 rfl (lv_at hl 2 rfl) ?_
      refine kc_i (D := (dC, dI)) (S := Unit) (wc := []) (wr := [(o1, .inr (1, [.int v2, .ref o3, .ref o5, .ref o7, .ref o9, .int v11, .int v12, .int v13])), (o3, .inl (cI, 12, .inl fw4)), (o5, .inl (cI, 81, .inl fw6))]) (w1 := fun _ => []) (wn := fun _ => [(o1, .inr (1, [.int v2, .ref o3, .ref o5, .ref o7, .ref o9, .int v11, .int v12, .int v13])), (o3, .inl (cI, 12, .inl fw4)), (o5, .inl (cI, 81, .inl fw6))]) (fun hPc hDc => va_runS (As := [.int a2]) (rest := [.int 31]) ⟨hx, hb, hml, hown, hts⟩ (kJ6_numberOfLeadingZeros_0f7a4_1 l dC dI cI c2 cZ a2 H.size j5) (va_cwS 1 hts gX1_gather_J6_numberOfLeadingZeros_0f7a4 rfl rfl rfl (by decide +kernel) ⟨Nat.le_of_ble_eq_true rfl, Nat.le_of_ble_eq_true rfl⟩) (pre_S hPc hK hDc hN) rfl rfl hl.1 rfl (lv_room (Nat.le_of_ble_eq_true rfl)) dX1_gather_30 ⟨Nat.le_of_ble_eq_true rfl, Nat.le_of_ble_eq_true rfl⟩) hP hD hS hA [] [0, 1, 2] [0, 1, 2] rfl rfl (by decide +kernel) (by decide +kernel) (by decide +kernel) (by decide +kernel) (fun _ => rfl) (fun x6 _ H locs hq hP hD hS => ?_)
      have x6_h := hq
      have hP : va_P (dC, dI) vwCl ([(o1, .inr (1, [.int v2, .ref o3, .ref o5, .ref o7, .ref o9, .int v11, .int v12, .int v13])), (o3, .inl (cI, 12, .inl fw4)), (o5, .inl (cI, 81, .inl fw6))]) H := hP
      have hD : va_D A ([(o1, .inr (1, [.int v2, .ref o3, .ref o5, .ref o7, .ref o9, .int v11, .int v12, .int v13])), (o3, .inl (cI, 12, .inl fw4)), (o5, .inl (cI, 81, .inl fw6))]) := hD
      refine lv_isub hx hb dX1_gather_33 (lv_topi (fun x7 x7_e => ?_))
      have x7_h : Iv 0 11 x7 := iv_e x7_e (iv_sub ik_31 x6_h (by decide))
      refine lv_istore (lv' := [(5, .int x7), (0, .ref o1), (1, .int a1), (2, .int a2), (3, .int a3), (4, .int 9)]) hx hb dX1_gather_34 hl (by decide) rfl (fun ls hl => ?_)
      refine lv_iload_n hx hb dX1_gather_36 rfl (lv_at hl 3 rfl) ?_
      refine lv_iconst (v := 1) hx hb dX1_gather_37 (by decide) ?_
      refine lv_iload hx hb dX1_gather_38 (lv_at hl 0 rfl) ?_
      refine lv_ishl hx hb dX1_gather_40 (lv_topi (fun x8 x8_e => ?_))
      have x8_h : Iv 1 2048 x8 := iv_e x8_e (iv_shl1 x7_h (by decide))
      refine lv_iconst (v := (-1)) hx hb dX1_gather_41 (by decide) ?_
      refine lv_ixor hx hb dX1_gather_42 (lv_topi (fun x9 x9_e => ?_))
      refine lv_iand hx hb dX1_gather_43 (lv_topi (fun x10 x10_e => ?_))
      have x10_h : Iv 0 4095 x10 := iv_e x10_e (iv_andL _ j5 (by decide))
      refine lv_istore (lv' := [(6, .int x10), (5, .int x7), (0, .ref o1), (1, .int a1), (2, .int a2), (3, .int a3), (4, .int 9)]) hx hb dX1_gather_44 hl (by decide) rfl (fun ls hl => ?_)
      refine lv_aload_n hx hb dX1_gather_46 rfl (lv_at hl 2 rfl) ?_
      refine lv_iload_n hx hb dX1_gather_47 rfl (lv_at hl 3 rfl) ?_
      refine lv_iload hx hb dX1_gather_48 (lv_at hl 0 rfl) ?_
      refine lv_iload_n hx hb dX1_gather_50 rfl (lv_at hl 5 rfl) ?_
      refine lv_iconst (v := 1) hx hb dX1_gather_51 (by decide) ?_
      refine lv_iload hx hb dX1_gather_52 (lv_at hl 1 rfl) ?_
      refine lv_ishl hx hb dX1_gather_54 (lv_topi (fun x11 x11_e => ?_))
      have x11_h : Iv 1 2048 x11 := iv_e x11_e (iv_shl1 x7_h (by decide))
      refine lv_ior hx hb dX1_gather_55 (lv_topi (fun x12 x12_e => ?_))
      have x12_h : Iv 0 4095 x12 := iv_e x12_e (iv_or 12 a3_h x11_h (by decide))
      refine lv_iload hx hb dX1_gather_56 (lv_at hl 6 rfl) ?_
      refine lv_iconst (v := 1) hx hb dX1_gather_58 (by decide) ?_
      refine lv_iadd hx hb dX1_gather_59 (tk_i (v := 10) (by decide +kernel) ?_)
      refine kc_v (D := (dC, dI)) (S := Int32 × (Nat → Int32)) (wc := [(o1, .inr (1, [.int v2, .ref o3, .ref o5, .ref o7, .ref o9, .int v11, .int v12, .int v13])), (o3, .inl (cI, 12, .inl fw4)), (o5, .inl (cI, 81, .inl fw6))]) (wr := []) (w1 := fun u => [(o1, .inr (1, [.int v2, .ref o3, .ref o5, .ref o7, .ref o9, .int u.1, .int v12, .int v13])), (o3, .inl (cI, 12, .inl fw4)), (o5, .inl (cI, 81, .inl u.2))]) (wn := fun u => [(o1, .inr (1, [.int v2, .ref o3, .ref o5, .ref o7, .ref o9, .int u.1, .int v12, .int v13])), (o3, .inl (cI, 12, .inl fw4)), (o5, .inl (cI, 81, .inl u.2))]) (fun hPc hDc => va_runS (As := [.ref o1, .int a1, .int x10, .int x12, .int 10]) (rest := []) ⟨hx, hb, hml, hown, hts⟩ (kX1_gather_4 l dC dI cI c2 cZ o1 o3 o5 o7 o9 v2 fw4 fw6 v11 v12 v13 a1 x10 x12 H.size v2_h fw4_b v11_h a1_h x10_h x12_h) (va_cwS 5 hts gX1_gather_X1_gather rfl rfl rfl (by decide +kernel) ⟨Nat.le_of_ble_eq_true rfl, Nat.le_of_ble_eq_true rfl⟩) (pre_S hPc hK hDc hN) rfl rfl hl.1 rfl (lv_room (Nat.le_of_ble_eq_true rfl)) dX1_gather_60 ⟨Nat.le_of_ble_eq_true rfl, Nat.le_of_ble_eq_true rfl⟩) hP hD hS hA [0, 1, 2] [] [0, 1, 2] rfl rfl (by decide +kernel) (by decide +kernel) (by decide +kernel) (by decide +kernel) (fun _ => rfl) (fun u H locs hq hP hD hS => ?_)
      obtain ⟨y13, f14⟩ := u
      have y13_h := hq
      have hP : va_P (dC, dI) vwCl ([(o1, .inr (1, [.int v2, .ref o3, .ref o5, .ref o7, .ref o9, .int y13, .int v12, .int v13])), (o3, .inl (cI, 12, .inl fw4)), (o5, .inl (cI, 81, .inl f14))]) H := hP
      have hD : va_D A ([(o1, .inr (1, [.int v2, .ref o3, .ref o5, .ref o7, .ref o9, .int y13, .int v12, .int v13])), (o3, .inl (cI, 12, .inl fw4)), (o5, .inl (cI, 81, .inl f14))]) := hD
      refine lv_aload_n hx hb dX1_gather_63 rfl (lv_at hl 2 rfl) ?_
      refine lv_iload_n hx hb dX1_gather_64 rfl (lv_at hl 3 rfl) ?_
      refine lv_iconst (v := 1) hx hb dX1_gather_65 (by decide) ?_
      refine lv_iload hx hb dX1_gather_66 (lv_at hl 1 rfl) ?_
      refine lv_ishl hx hb dX1_gather_68 (lv_topi (fun x15 x15_e => ?_))
      have x15_h : Iv 1 2048 x15 := iv_e x15_e (iv_shl1 x7_h (by decide))
      refine lv_ior hx hb dX1_gather_69 (lv_topi (fun x16 x16_e => ?_))
      have x16_h : Iv 0 4095 x16 := iv_e x16_e (iv_or 12 a1_h x15_h (by decide))
      refine lv_iload hx hb dX1_gather_70 (lv_at hl 0 rfl) ?_
      refine lv_aload_n hx hb dX1_gather_72 rfl (lv_at hl 2 rfl) ?_
      refine va_get (D := (dC, dI)) (ci := 1) (v := .ref o3) (C := RX1) (T := TX1) (N := 8) hx hb hts iw_X1_gather_X1 hown hK hP 0 rfl rfl 1 (by decide) (hts (.fieldLink RX1 9 "HolelessHouse$Cliques" "near" "[I") hm_X1_gather_1) (fun _ h9 => h9) rfl dX1_gather_73 ?_
      refine lv_iload hx hb dX1_gather_76 (lv_at hl 1 rfl) ?_
      refine va_iald hx hb hK hP 1 0 rfl rfl (vin_iv x7_h (by decide)) dX1_gather_78 (lv_topi (fun x17 x17_e => ?_))
      have x17_h : Iv 0 4095 x17 := iv_e x17_e (bd_at fw4_b (vin_iv x7_h (by decide)))
      refine lv_iand hx hb dX1_gather_79 (lv_topi (fun x18 x18_e => ?_))
      have x18_h : Iv 0 4095 x18 := iv_e x18_e (iv_andL _ x10_h (by decide))
      refine lv_iload_n hx hb dX1_gather_80 rfl (lv_at hl 5 rfl) ?_
      refine lv_aload_n hx hb dX1_gather_81 rfl (lv_at hl 2 rfl) ?_
      refine va_get (D := (dC, dI)) (ci := 1) (v := .ref o3) (C := RX1) (T := TX1) (N := 8) hx hb hts iw_X1_gather_X1 hown hK hP 0 rfl rfl 1 (by decide) (hts (.fieldLink RX1 9 "HolelessHouse$Cliques" "near" "[I") hm_X1_gather_1) (fun _ h9 => h9) rfl dX1_gather_82 ?_
      refine lv_iload hx hb dX1_gather_85 (lv_at hl 1 rfl) ?_
      refine va_iald hx hb hK hP 1 0 rfl rfl (vin_iv x7_h (by decide)) dX1_gather_87 (lv_topi (fun x19 x19_e => ?_))
      have x19_h : Iv 0 4095 x19 := iv_e x19_e (bd_at fw4_b (vin_iv x7_h (by decide)))
      refine lv_iand hx hb dX1_gather_88 (lv_topi (fun x20 x20_e => ?_))
      have x20_h : Iv 0 4095 x20 := iv_e x20_e (iv_andL _ a3_h (by decide))
      refine lv_iload hx hb dX1_gather_89 (lv_at hl 6 rfl) ?_
      refine lv_iconst (v := 1) hx hb dX1_gather_91 (by decide) ?_
      refine lv_iadd hx hb dX1_gather_92 (tk_i (v := 10) (by decide +kernel) ?_)
      refine kc_v (D := (dC, dI)) (S := Int32 × (Nat → Int32)) (wc := [(o1, .inr (1, [.int v2, .ref o3, .ref o5, .ref o7, .ref o9, .int y13, .int v12, .int v13])), (o3, .inl (cI, 12, .inl fw4)), (o5, .inl (cI, 81, .inl f14))]) (wr := []) (w1 := fun u => [(o1, .inr (1, [.int v2, .ref o3, .ref o5, .ref o7, .ref o9, .int u.1, .int v12, .int v13])), (o3, .inl (cI, 12, .inl fw4)), (o5, .inl (cI, 81, .inl u.2))]) (wn := fun u => [(o1, .inr (1, [.int v2, .ref o3, .ref o5, .ref o7, .ref o9, .int u.1, .int v12, .int v13])), (o3, .inl (cI, 12, .inl fw4)), (o5, .inl (cI, 81, .inl u.2))]) (fun hPc hDc => va_runS (As := [.ref o1, .int x16, .int x18, .int x20, .int 10]) (rest := []) ⟨hx, hb, hml, hown, hts⟩ (kX1_gather_4 l dC dI cI c2 cZ o1 o3 o5 o7 o9 v2 fw4 f14 y13 v12 v13 x16 x18 x20 H.size v2_h fw4_b y13_h x16_h x18_h x20_h) (va_cwS 5 hts gX1_gather_X1_gather rfl rfl rfl (by decide +kernel) ⟨Nat.le_of_ble_eq_true rfl, Nat.le_of_ble_eq_true rfl⟩) (pre_S hPc hK hDc hN) rfl rfl hl.1 rfl (lv_room (Nat.le_of_ble_eq_true rfl)) dX1_gather_93 ⟨Nat.le_of_ble_eq_true rfl, Nat.le_of_ble_eq_true rfl⟩) hP hD hS hA [0, 1, 2] [] [0, 1, 2] rfl rfl (by decide +kernel) (by decide +kernel) (by decide +kernel) (by decide +kernel) (fun _ => rfl) (fun u H locs hq hP hD hS => ?_)
      obtain ⟨y21, f22⟩ := u
      have y21_h := hq
      have hP : va_P (dC, dI) vwCl ([(o1, .inr (1, [.int v2, .ref o3, .ref o5, .ref o7, .ref o9, .int y21, .int v12, .int v13])), (o3, .inl (cI, 12, .inl fw4)), (o5, .inl (cI, 81, .inl f22))]) H := hP
      have hD : va_D A ([(o1, .inr (1, [.int v2, .ref o3, .ref o5, .ref o7, .ref o9, .int y21, .int v12, .int v13])), (o3, .inl (cI, 12, .inl fw4)), (o5, .inl (cI, 81, .inl f22))]) := hD
      rw [hQ]
      exact W.vret hx hb hr (fun t ht hW => ⟨⟨(y21, f22), rfl, y21_h, by rw [ht]; exact hP, va_K.moved hW.alike hK, hD⟩, hS.F ht⟩) hS.2.2 dX1_gather_96
    ·
      have j23 : Iv 0 0 a2 := r_eq h4 ik_0
      refine lv_aload_n hx hb dX1_gather_21 rfl (lv_at hl 0 rfl) ?_
      refine lv_iload_n hx hb dX1_gather_22 rfl (lv_at hl 1 rfl) ?_
      refine kc_v (D := (dC, dI)) (S := Int32 × (Nat → Int32)) (wc := [(o1, .inr (1, [.int v2, .ref o3, .ref o5, .ref o7, .ref o9, .int v11, .int v12, .int v13])), (o5, .inl (cI, 81, .inl fw6))]) (wr := [(o3, .inl (cI, 12, .inl fw4))]) (w1 := fun u => [(o1, .inr (1, [.int v2, .ref o3, .ref o5, .ref o7, .ref o9, .int u.1, .int v12, .int v13])), (o5, .inl (cI, 81, .inl u.2))]) (wn := fun u => [(o1, .inr (1, [.int v2, .ref o3, .ref o5, .ref o7, .ref o9, .int u.1, .int v12, .int v13])), (o3, .inl (cI, 12, .inl fw4)), (o5, .inl (cI, 81, .inl u.2))]) (fun hPc hDc => va_runV (As := [.int a1]) (rest := []) ⟨hx, hb, hml, hown, hts⟩ (kX1_keep_1 l dC dI cI c2 cZ o1 o3 o5 o7 o9 v2 fw6 v11 v12 v13 a1 H.size v2_h v11_h a1_h) (cwV 1 hts gX1_gather_X1_keep rfl rfl rfl (by decide +kernel) ⟨Nat.le_of_ble_eq_true rfl, Nat.le_of_ble_eq_true rfl⟩) (pre_V hPc hK hDc hN (ci := 1) (q0 := 0) rfl rfl) rfl rfl hl.1 rfl (lv_room (Nat.le_of_ble_eq_true rfl)) dX1_gather_23 ⟨Nat.le_of_ble_eq_true rfl, Nat.le_of_ble_eq_true rfl⟩) hP hD hS hA [0, 2] [1] [1, 0, 2] rfl rfl (by decide +kernel) (by decide +kernel) (by decide +kernel) (by decide +kernel) (fun _ => rfl) (fun u H locs hq hP hD hS => ?_)
      obtain ⟨y24, f25⟩ := u
      have y24_h := hq
      have hP : va_P (dC, dI) vwCl ([(o1, .inr (1, [.int v2, .ref o3, .ref o5, .ref o7, .ref o9, .int y24, .int v12, .int v13])), (o3, .inl (cI, 12, .inl fw4)), (o5, .inl (cI, 81, .inl f25))]) H := hP
      have hD : va_D A ([(o1, .inr (1, [.int v2, .ref o3, .ref o5, .ref o7, .ref o9, .int y24, .int v12, .int v13])), (o3, .inl (cI, 12, .inl fw4)), (o5, .inl (cI, 81, .inl f25))]) := hD
      rw [hQ]
      exact W.vret hx hb hr (fun t ht hW => ⟨⟨(y24, f25), rfl, y24_h, by rw [ht]; exact hP, va_K.moved hW.alike hK, hD⟩, hS.F ht⟩) hS.2.2 dX1_gather_26
  ·
    have j26 : Iv 1 1 x1 := r_nelo h2 x1_h ik_0 (by decide)
    rw [hQ]
    exact W.vret hx hb hr (fun t ht hW => ⟨⟨(v11, fw6), rfl, v11_h, by rw [ht]; exact hP, va_K.moved hW.alike hK, hD⟩, hS.F ht⟩) hS.2.2 dX1_gather_16
set_option maxHeartbeats 4000000 in
set_option maxRecDepth 100000 in
theorem kX1_gather_6 (l : Launch) (dC : Nat → ClassId) (dI : Nat → Nat → Nat) (cI c2 cZ : ClassId) (o1 : Nat) (o3 : Nat) (o5 : Nat) (o7 : Nat) (o9 : Nat) (v2 : Int32) (fw4 : Nat → Int32) (fw6 : Nat → Int32) (v11 : Int32) (v12 : Int32) (v13 : Int32) (a1 : Int32) (a2 : Int32) (a3 : Int32) (sz : Nat) (v2_h : Iv 0 1 v2) (fw4_b : Bd 12 0 4095 fw4) (v11_h : Iv 0 81 v11) (a1_h : Iv 0 4095 a1) (a2_h : Iv 0 4095 a2) (a3_h : Iv 0 4095 a3) : Met l yX1_gather wsX1_gather ({ frames := 6, cells := 0, slots := 0, locals := 148 }) (va_Pc [.ref o1, .int a1, .int a2, .int a3, .int 8] (wPre (dC, dI) [(cI, .int), (c2, .array .int), (cZ, .boolean)] ([(o1, .inr (1, [.int v2, .ref o3, .ref o5, .ref o7, .ref o9, .int v11, .int v12, .int v13])), (o3, .inl (cI, 12, .inl fw4)), (o5, .inl (cI, 81, .inl fw6))]) sz)) (va_Qv (fun (u : Int32 × (Nat → Int32)) => Iv 0 81 u.1) (fun u t => wPost (dC, dI) [(cI, .int), (c2, .array .int), (cZ, .boolean)] (va_A ([(o1, .inr (1, [.int v2, .ref o3, .ref o5, .ref o7, .ref o9, .int v11, .int v12, .int v13])), (o3, .inl (cI, 12, .inl fw4)), (o5, .inl (cI, 81, .inl fw6))]) sz) ([(o1, .inr (1, [.int v2, .ref o3, .ref o5, .ref o7, .ref o9, .int u.1, .int v12, .int v13])), (o3, .inl (cI, 12, .inl fw4)), (o5, .inl (cI, 81, .inl u.2))]) t) (va_A ([(o1, .inr (1, [.int v2, .ref o3, .ref o5, .ref o7, .ref o9, .int v11, .int v12, .int v13])), (o3, .inl (cI, 12, .inl fw4)), (o5, .inl (cI, 81, .inl fw6))]) sz)) 0 0 (va_A ([(o1, .inr (1, [.int v2, .ref o3, .ref o5, .ref o7, .ref o9, .int v11, .int v12, .int v13])), (o3, .inl (cI, 12, .inl fw4)), (o5, .inl (cI, 81, .inl fw6))]) sz) := by
  refine Met.ofW (cc := cX1_gather) (maxL := 7) (ret := none) (by decide) rfl ?_
  intro p e s m args below meth c s₁ B hml hv
  obtain ⟨rfl, hsz, hP, hK, hD0, hN⟩ := hv
  have hx := B.exec
  have hb := B.bytes
  have hr := B.returns
  have hts := atoms_spec (ws := wsX1_gather) B.pre
  have hown : s.vm.findClass RX1 = some m.cls := findClass_of_methodNamed B.named
  have hlocks := B.notSynchronized
  subst hsz
  have hD := hD0.self (sz := s.heap.size)
  generalize hAe : va_A ([(o1, .inr (1, [.int v2, .ref o3, .ref o5, .ref o7, .ref o9, .int v11, .int v12, .int v13])), (o3, .inl (cI, 12, .inl fw4)), (o5, .inl (cI, 81, .inl fw6))]) s.heap.size = A at hD ⊢
  have hA : ∀ q : Nat, s.heap.size ≤ q → A q := fun q h => by rw [← hAe]; exact Or.inr h
  have hS : va_S A s.heap s.heap [] := va_S.rf
  have hP : va_P (dC, dI) vwCl ([(o1, .inr (1, [.int v2, .ref o3, .ref o5, .ref o7, .ref o9, .int v11, .int v12, .int v13])), (o3, .inl (cI, 12, .inl fw4)), (o5, .inl (cI, 81, .inl fw6))]) s.heap := hP
  have hl := lv_entry ([.ref o1, .int a1, .int a2, .int a3, .int 8]) (n := 7) (Nat.le_of_ble_eq_true rfl)
  rw [lg_entry_eq]
  generalize (lg_sl ([.ref o1, .int a1, .int a2, .int a3, .int 8]) ++ List.replicate (7 - (lg_sl ([.ref o1, .int a1, .int a2, .int a3, .int 8])).length) Slot.unset).toArray = ls at hl ⊢
  have hl : lv_has ls 7 [(0, .ref o1), (1, .int a1), (2, .int a2), (3, .int a3), (4, .int 8)] := hl
  refine gen_Q (fun Q hQ => ?_)
  refine lv_iload hx hb dX1_gather_0 (lv_at hl 4 rfl) ?_
  refine lv_bipush (v := 12) hx hb dX1_gather_2 (by decide) ?_
  refine lv_icmp_gt (tgt := 16) hx hb dX1_gather_4 (by decide) (fun h9 => absurd h9 (by decide +kernel)) (fun _ => ?_)
  refine lv_aload_n hx hb dX1_gather_7 rfl (lv_at hl 0 rfl) ?_
  refine lv_iload_n hx hb dX1_gather_8 rfl (lv_at hl 2 rfl) ?_
  refine lv_iload_n hx hb dX1_gather_9 rfl (lv_at hl 3 rfl) ?_
  refine kc_i (D := (dC, dI)) (S := Unit) (wc := [(o1, .inr (1, [.int v2, .ref o3, .ref o5, .ref o7, .ref o9, .int v11, .int v12, .int v13])), (o3, .inl (cI, 12, .inl fw4))]) (wr := [(o5, .inl (cI, 81, .inl fw6))]) (w1 := fun _ => [(o1, .inr (1, [.int v2, .ref o3, .ref o5, .ref o7, .ref o9, .int v11, .int v12, .int v13])), (o3, .inl (cI, 12, .inl fw4))]) (wn := fun _ => [(o1, .inr (1, [.int v2, .ref o3, .ref o5, .ref o7, .ref o9, .int v11, .int v12, .int v13])), (o3, .inl (cI, 12, .inl fw4)), (o5, .inl (cI, 81, .inl fw6))]) (fun hPc hDc => va_runV (As := [.int a2, .int a3]) (rest := []) ⟨hx, hb, hml, hown, hts⟩ (kX1_canNotBeGreat_1 l dC dI cI c2 cZ o1 o3 o5 o7 o9 v2 fw4 v11 v12 v13 a2 a3 s.heap.size v2_h fw4_b v11_h a2_h a3_h) (cwV 2 hts gX1_gather_X1_canNotBeGreat rfl rfl rfl (by decide +kernel) ⟨Nat.le_of_ble_eq_true rfl, Nat.le_of_ble_eq_true rfl⟩) (pre_V hPc hK hDc hN (ci := 1) (q0 := 0) rfl rfl) rfl rfl hl.1 rfl (lv_room (Nat.le_of_ble_eq_true rfl)) dX1_gather_10 ⟨Nat.le_of_ble_eq_true rfl, Nat.le_of_ble_eq_true rfl⟩) hP hD hS hA [0, 1] [2] [1, 2, 0] rfl rfl (by decide +kernel) (by decide +kernel) (by decide +kernel) (by decide +kernel) (fun _ => rfl) (fun x1 _ H locs hq hP hD hS => ?_)
  have x1_h := hq
  have hP : va_P (dC, dI) vwCl ([(o1, .inr (1, [.int v2, .ref o3, .ref o5, .ref o7, .ref o9, .int v11, .int v12, .int v13])), (o3, .inl (cI, 12, .inl fw4)), (o5, .inl (cI, 81, .inl fw6))]) H := hP
  have hD : va_D A ([(o1, .inr (1, [.int v2, .ref o3, .ref o5, .ref o7, .ref o9, .int v11, .int v12, .int v13])), (o3, .inl (cI, 12, .inl fw4)), (o5, .inl (cI, 81, .inl fw6))]) := hD
  refine lv_if_eq (tgt := 17) hx hb dX1_gather_13 (by decide) (fun h2 => ?_) (fun h2 => ?_)
  ·
    have j3 : Iv 0 0 x1 := r_eq h2 ik_0
    refine lv_iload_n hx hb dX1_gather_17 rfl (lv_at hl 2 rfl) ?_
    refine lv_if_ne (tgt := 27) hx hb dX1_gather_18 (by decide) (fun h4 => ?_) (fun h4 => ?_)
    ·
      have j5 : Iv 1 4095 a2 := r_nelo h4 a2_h ik_0 (by decide)
      refine lv_bipush (v := 31) hx hb dX1_gather_27 (by decide) ?_
      refine lv_iload_n hx hb dX1_gather_29 rfl (lv_at hl 2 rfl) ?_
      refine kc_i (D := (dC, dI)) (S := Unit) (wc := []) (wr := [(o1, .inr (1, [.int v2, .ref o3, .ref o5, .ref o7, .ref o9, .int v11, .int v12, .int v13])), (o3, .inl (cI, 12, .inl fw4)), (o5, .inl (cI, 81, .inl fw6))]) (w1 := fun _ => []) (wn := fun _ => [(o1, .inr (1, [.int v2, .ref o3, .ref o5, .ref o7, .ref o9, .int v11, .int v12, .int v13])), (o3, .inl (cI, 12, .inl fw4)), (o5, .inl (cI, 81, .inl fw6))]) (fun hPc hDc => va_runS (As := [.int a2]) (rest := [.int 31]) ⟨hx, hb, hml, hown, hts⟩ (kJ6_numberOfLeadingZeros_0f7a4_1 l dC dI cI c2 cZ a2 H.size j5) (va_cwS 1 hts gX1_gather_J6_numberOfLeadingZeros_0f7a4 rfl rfl rfl (by decide +kernel) ⟨Nat.le_of_ble_eq_true rfl, Nat.le_of_ble_eq_true rfl⟩) (pre_S hPc hK hDc hN) rfl rfl hl.1 rfl (lv_room (Nat.le_of_ble_eq_true rfl)) dX1_gather_30 ⟨Nat.le_of_ble_eq_true rfl, Nat.le_of_ble_eq_true rfl⟩) hP hD hS hA [] [0, 1, 2] [0, 1, 2] rfl rfl (by decide +kernel) (by decide +kernel) (by decide +kernel) (by decide +kernel) (fun _ => rfl) (fun x6 _ H locs hq hP hD hS => ?_)
      have x6_h := hq
      have hP : va_P (dC, dI) vwCl ([(o1, .inr (1, [.int v2, .ref o3, .ref o5, .ref o7, .ref o9, .int v11, .int v12, .int v13])), (o3, .inl (cI, 12, .inl fw4)), (o5, .inl (cI, 81, .inl fw6))]) H := hP
      have hD : va_D A ([(o1, .inr (1, [.int v2, .ref o3, .ref o5, .ref o7, .ref o9, .int v11, .int v12, .int v13])), (o3, .inl (cI, 12, .inl fw4)), (o5, .inl (cI, 81, .inl fw6))]) := hD
      refine lv_isub hx hb dX1_gather_33 (lv_topi (fun x7 x7_e => ?_))
      have x7_h : Iv 0 11 x7 := iv_e x7_e (iv_sub ik_31 x6_h (by decide))
      refine lv_istore (lv' := [(5, .int x7), (0, .ref o1), (1, .int a1), (2, .int a2), (3, .int a3), (4, .int 8)]) hx hb dX1_gather_34 hl (by decide) rfl (fun ls hl => ?_)
      refine lv_iload_n hx hb dX1_gather_36 rfl (lv_at hl 3 rfl) ?_
      refine lv_iconst (v := 1) hx hb dX1_gather_37 (by decide) ?_
      refine lv_iload hx hb dX1_gather_38 (lv_at hl 0 rfl) ?_
      refine lv_ishl hx hb dX1_gather_40 (lv_topi (fun x8 x8_e => ?_))
      have x8_h : Iv 1 2048 x8 := iv_e x8_e (iv_shl1 x7_h (by decide))
      refine lv_iconst (v := (-1)) hx hb dX1_gather_41 (by decide) ?_
      refine lv_ixor hx hb dX1_gather_42 (lv_topi (fun x9 x9_e => ?_))
      refine lv_iand hx hb dX1_gather_43 (lv_topi (fun x10 x10_e => ?_))
      have x10_h : Iv 0 4095 x10 := iv_e x10_e (iv_andL _ j5 (by decide))
      refine lv_istore (lv' := [(6, .int x10), (5, .int x7), (0, .ref o1), (1, .int a1), (2, .int a2), (3, .int a3), (4, .int 8)]) hx hb dX1_gather_44 hl (by decide) rfl (fun ls hl => ?_)
      refine lv_aload_n hx hb dX1_gather_46 rfl (lv_at hl 2 rfl) ?_
      refine lv_iload_n hx hb dX1_gather_47 rfl (lv_at hl 3 rfl) ?_
      refine lv_iload hx hb dX1_gather_48 (lv_at hl 0 rfl) ?_
      refine lv_iload_n hx hb dX1_gather_50 rfl (lv_at hl 5 rfl) ?_
      refine lv_iconst (v := 1) hx hb dX1_gather_51 (by decide) ?_
      refine lv_iload hx hb dX1_gather_52 (lv_at hl 1 rfl) ?_
      refine lv_ishl hx hb dX1_gather_54 (lv_topi (fun x11 x11_e => ?_))
      have x11_h : Iv 1 2048 x11 := iv_e x11_e (iv_shl1 x7_h (by decide))
      refine lv_ior hx hb dX1_gather_55 (lv_topi (fun x12 x12_e => ?_))
      have x12_h : Iv 0 4095 x12 := iv_e x12_e (iv_or 12 a3_h x11_h (by decide))
      refine lv_iload hx hb dX1_gather_56 (lv_at hl 6 rfl) ?_
      refine lv_iconst (v := 1) hx hb dX1_gather_58 (by decide) ?_
      refine lv_iadd hx hb dX1_gather_59 (tk_i (v := 9) (by decide +kernel) ?_)
      refine kc_v (D := (dC, dI)) (S := Int32 × (Nat → Int32)) (wc := [(o1, .inr (1, [.int v2, .ref o3, .ref o5, .ref o7, .ref o9, .int v11, .int v12, .int v13])), (o3, .inl (cI, 12, .inl fw4)), (o5, .inl (cI, 81, .inl fw6))]) (wr := []) (w1 := fun u => [(o1, .inr (1, [.int v2, .ref o3, .ref o5, .ref o7, .ref o9, .int u.1, .int v12, .int v13])), (o3, .inl (cI, 12, .inl fw4)), (o5, .inl (cI, 81, .inl u.2))]) (wn := fun u => [(o1, .inr (1, [.int v2, .ref o3, .ref o5, .ref o7, .ref o9, .int u.1, .int v12, .int v13])), (o3, .inl (cI, 12, .inl fw4)), (o5, .inl (cI, 81, .inl u.2))]) (fun hPc hDc => va_runS (As := [.ref o1, .int a1, .int x10, .int x12, .int 9]) (rest := []) ⟨hx, hb, hml, hown, hts⟩ (kX1_gather_5 l dC dI cI c2 cZ o1 o3 o5 o7 o9 v2 fw4 fw6 v11 v12 v13 a1 x10 x12 H.size v2_h fw4_b v11_h a1_h x10_h x12_h) (va_cwS 5 hts gX1_gather_X1_gather rfl rfl rfl (by decide +kernel) ⟨Nat.le_of_ble_eq_true rfl, Nat.le_of_ble_eq_true rfl⟩) (pre_S hPc hK hDc hN) rfl rfl hl.1 rfl (lv_room (Nat.le_of_ble_eq_true rfl)) dX1_gather_60 ⟨Nat.le_of_ble_eq_true rfl, Nat.le_of_ble_eq_true rfl⟩) hP hD hS hA [0, 1, 2] [] [0, 1, 2] rfl rfl (by decide +kernel) (by decide +kernel) (by decide +kernel) (by decide +kernel) (fun _ => rfl) (fun u H locs hq hP hD hS => ?_)
      obtain ⟨y13, f14⟩ := u
      have y13_h := hq
      have hP : va_P (dC, dI) vwCl ([(o1, .inr (1, [.int v2, .ref o3, .ref o5, .ref o7, .ref o9, .int y13, .int v12, .int v13])), (o3, .inl (cI, 12, .inl fw4)), (o5, .inl (cI, 81, .inl f14))]) H := hP
      have hD : va_D A ([(o1, .inr (1, [.int v2, .ref o3, .ref o5, .ref o7, .ref o9, .int y13, .int v12, .int v13])), (o3, .inl (cI, 12, .inl fw4)), (o5, .inl (cI, 81, .inl f14))]) := hD
      refine lv_aload_n hx hb dX1_gather_63 rfl (lv_at hl 2 rfl) ?_
      refine lv_iload_n hx hb dX1_gather_64 rfl (lv_at hl 3 rfl) ?_
      refine lv_iconst (v := 1) hx hb dX1_gather_65 (by decide) ?_
      refine lv_iload hx hb dX1_gather_66 (lv_at hl 1 rfl) ?_
      refine lv_ishl hx hb dX1_gather_68 (lv_topi (fun x15 x15_e => ?_))
      have x15_h : Iv 1 2048 x15 := iv_e x15_e (iv_shl1 x7_h (by decide))
      refine lv_ior hx hb dX1_gather_69 (lv_topi (fun x16 x16_e => ?_))
      have x16_h : Iv 0 4095 x16 := iv_e x16_e (iv_or 12 a1_h x15_h (by decide))
      refine lv_iload hx hb dX1_gather_70 (lv_at hl 0 rfl) ?_
      refine lv_aload_n hx hb dX1_gather_72 rfl (lv_at hl 2 rfl) ?_
      refine va_get (D := (dC, dI)) (ci := 1) (v := .ref o3) (C := RX1) (T := TX1) (N := 8) hx hb hts iw_X1_gather_X1 hown hK hP 0 rfl rfl 1 (by decide) (hts (.fieldLink RX1 9 "HolelessHouse$Cliques" "near" "[I") hm_X1_gather_1) (fun _ h9 => h9) rfl dX1_gather_73 ?_
      refine lv_iload hx hb dX1_gather_76 (lv_at hl 1 rfl) ?_
      refine va_iald hx hb hK hP 1 0 rfl rfl (vin_iv x7_h (by decide)) dX1_gather_78 (lv_topi (fun x17 x17_e => ?_))
      have x17_h : Iv 0 4095 x17 := iv_e x17_e (bd_at fw4_b (vin_iv x7_h (by decide)))
      refine lv_iand hx hb dX1_gather_79 (lv_topi (fun x18 x18_e => ?_))
      have x18_h : Iv 0 4095 x18 := iv_e x18_e (iv_andL _ x10_h (by decide))
      refine lv_iload_n hx hb dX1_gather_80 rfl (lv_at hl 5 rfl) ?_
      refine lv_aload_n hx hb dX1_gather_81 rfl (lv_at hl 2 rfl) ?_
      refine va_get (D := (dC, dI)) (ci := 1) (v := .ref o3) (C := RX1) (T := TX1) (N := 8) hx hb hts iw_X1_gather_X1 hown hK hP 0 rfl rfl 1 (by decide) (hts (.fieldLink RX1 9 "HolelessHouse$Cliques" "near" "[I") hm_X1_gather_1) (fun _ h9 => h9) rfl dX1_gather_82 ?_
      refine lv_iload hx hb dX1_gather_85 (lv_at hl 1 rfl) ?_
      refine va_iald hx hb hK hP 1 0 rfl rfl (vin_iv x7_h (by decide)) dX1_gather_87 (lv_topi (fun x19 x19_e => ?_))
      have x19_h : Iv 0 4095 x19 := iv_e x19_e (bd_at fw4_b (vin_iv x7_h (by decide)))
      refine lv_iand hx hb dX1_gather_88 (lv_topi (fun x20 x20_e => ?_))
      have x20_h : Iv 0 4095 x20 := iv_e x20_e (iv_andL _ a3_h (by decide))
      refine lv_iload hx hb dX1_gather_89 (lv_at hl 6 rfl) ?_
      refine lv_iconst (v := 1) hx hb dX1_gather_91 (by decide) ?_
      refine lv_iadd hx hb dX1_gather_92 (tk_i (v := 9) (by decide +kernel) ?_)
      refine kc_v (D := (dC, dI)) (S := Int32 × (Nat → Int32)) (wc := [(o1, .inr (1, [.int v2, .ref o3, .ref o5, .ref o7, .ref o9, .int y13, .int v12, .int v13])), (o3, .inl (cI, 12, .inl fw4)), (o5, .inl (cI, 81, .inl f14))]) (wr := []) (w1 := fun u => [(o1, .inr (1, [.int v2, .ref o3, .ref o5, .ref o7, .ref o9, .int u.1, .int v12, .int v13])), (o3, .inl (cI, 12, .inl fw4)), (o5, .inl (cI, 81, .inl u.2))]) (wn := fun u => [(o1, .inr (1, [.int v2, .ref o3, .ref o5, .ref o7, .ref o9, .int u.1, .int v12, .int v13])), (o3, .inl (cI, 12, .inl fw4)), (o5, .inl (cI, 81, .inl u.2))]) (fun hPc hDc => va_runS (As := [.ref o1, .int x16, .int x18, .int x20, .int 9]) (rest := []) ⟨hx, hb, hml, hown, hts⟩ (kX1_gather_5 l dC dI cI c2 cZ o1 o3 o5 o7 o9 v2 fw4 f14 y13 v12 v13 x16 x18 x20 H.size v2_h fw4_b y13_h x16_h x18_h x20_h) (va_cwS 5 hts gX1_gather_X1_gather rfl rfl rfl (by decide +kernel) ⟨Nat.le_of_ble_eq_true rfl, Nat.le_of_ble_eq_true rfl⟩) (pre_S hPc hK hDc hN) rfl rfl hl.1 rfl (lv_room (Nat.le_of_ble_eq_true rfl)) dX1_gather_93 ⟨Nat.le_of_ble_eq_true rfl, Nat.le_of_ble_eq_true rfl⟩) hP hD hS hA [0, 1, 2] [] [0, 1, 2] rfl rfl (by decide +kernel) (by decide +kernel) (by decide +kernel) (by decide +kernel) (fun _ => rfl) (fun u H locs hq hP hD hS => ?_)
      obtain ⟨y21, f22⟩ := u
      have y21_h := hq
      have hP : va_P (dC, dI) vwCl ([(o1, .inr (1, [.int v2, .ref o3, .ref o5, .ref o7, .ref o9, .int y21, .int v12, .int v13])), (o3, .inl (cI, 12, .inl fw4)), (o5, .inl (cI, 81, .inl f22))]) H := hP
      have hD : va_D A ([(o1, .inr (1, [.int v2, .ref o3, .ref o5, .ref o7, .ref o9, .int y21, .int v12, .int v13])), (o3, .inl (cI, 12, .inl fw4)), (o5, .inl (cI, 81, .inl f22))]) := hD
      rw [hQ]
      exact W.vret hx hb hr (fun t ht hW => ⟨⟨(y21, f22), rfl, y21_h, by rw [ht]; exact hP, va_K.moved hW.alike hK, hD⟩, hS.F ht⟩) hS.2.2 dX1_gather_96
    ·
      have j23 : Iv 0 0 a2 := r_eq h4 ik_0
      refine lv_aload_n hx hb dX1_gather_21 rfl (lv_at hl 0 rfl) ?_
      refine lv_iload_n hx hb dX1_gather_22 rfl (lv_at hl 1 rfl) ?_
      refine kc_v (D := (dC, dI)) (S := Int32 × (Nat → Int32)) (wc := [(o1, .inr (1, [.int v2, .ref o3, .ref o5, .ref o7, .ref o9, .int v11, .int v12, .int v13])), (o5, .inl (cI, 81, .inl fw6))]) (wr := [(o3, .inl (cI, 12, .inl fw4))]) (w1 := fun u => [(o1, .inr (1, [.int v2, .ref o3, .ref o5, .ref o7, .ref o9, .int u.1, .int v12, .int v13])), (o5, .inl (cI, 81, .inl u.2))]) (wn := fun u => [(o1, .inr (1, [.int v2, .ref o3, .ref o5, .ref o7, .ref o9, .int u.1, .int v12, .int v13])), (o3, .inl (cI, 12, .inl fw4)), (o5, .inl (cI, 81, .inl u.2))]) (fun hPc hDc => va_runV (As := [.int a1]) (rest := []) ⟨hx, hb, hml, hown, hts⟩ (kX1_keep_1 l dC dI cI c2 cZ o1 o3 o5 o7 o9 v2 fw6 v11 v12 v13 a1 H.size v2_h v11_h a1_h) (cwV 1 hts gX1_gather_X1_keep rfl rfl rfl (by decide +kernel) ⟨Nat.le_of_ble_eq_true rfl, Nat.le_of_ble_eq_true rfl⟩) (pre_V hPc hK hDc hN (ci := 1) (q0 := 0) rfl rfl) rfl rfl hl.1 rfl (lv_room (Nat.le_of_ble_eq_true rfl)) dX1_gather_23 ⟨Nat.le_of_ble_eq_true rfl, Nat.le_of_ble_eq_true rfl⟩) hP hD hS hA [0, 2] [1] [1, 0, 2] rfl rfl (by decide +kernel) (by decide +kernel) (by decide +kernel) (by decide +kernel) (fun _ => rfl) (fun u H locs hq hP hD hS => ?_)
      obtain ⟨y24, f25⟩ := u
      have y24_h := hq
      have hP : va_P (dC, dI) vwCl ([(o1, .inr (1, [.int v2, .ref o3, .ref o5, .ref o7, .ref o9, .int y24, .int v12, .int v13])), (o3, .inl (cI, 12, .inl fw4)), (o5, .inl (cI, 81, .inl f25))]) H := hP
      have hD : va_D A ([(o1, .inr (1, [.int v2, .ref o3, .ref o5, .ref o7, .ref o9, .int y24, .int v12, .int v13])), (o3, .inl (cI, 12, .inl fw4)), (o5, .inl (cI, 81, .inl f25))]) := hD
      rw [hQ]
      exact W.vret hx hb hr (fun t ht hW => ⟨⟨(y24, f25), rfl, y24_h, by rw [ht]; exact hP, va_K.moved hW.alike hK, hD⟩, hS.F ht⟩) hS.2.2 dX1_gather_26
  ·
    have j26 : Iv 1 1 x1 := r_nelo h2 x1_h ik_0 (by decide)
    rw [hQ]
    exact W.vret hx hb hr (fun t ht hW => ⟨⟨(v11, fw6), rfl, v11_h, by rw [ht]; exact hP, va_K.moved hW.alike hK, hD⟩, hS.F ht⟩) hS.2.2 dX1_gather_16
set_option maxHeartbeats 4000000 in
set_option maxRecDepth 100000 in
theorem kX1_gather_7 (l : Launch) (dC : Nat → ClassId) (dI : Nat → Nat → Nat) (cI c2 cZ : ClassId) (o1 : Nat) (o3 : Nat) (o5 : Nat) (o7 : Nat) (o9 : Nat) (v2 : Int32) (fw4 : Nat → Int32) (fw6 : Nat → Int32) (v11 : Int32) (v12 : Int32) (v13 : Int32) (a1 : Int32) (a2 : Int32) (a3 : Int32) (sz : Nat) (v2_h : Iv 0 1 v2) (fw4_b : Bd 12 0 4095 fw4) (v11_h : Iv 0 81 v11) (a1_h : Iv 0 4095 a1) (a2_h : Iv 0 4095 a2) (a3_h : Iv 0 4095 a3) : Met l yX1_gather wsX1_gather ({ frames := 7, cells := 0, slots := 0, locals := 174 }) (va_Pc [.ref o1, .int a1, .int a2, .int a3, .int 7] (wPre (dC, dI) [(cI, .int), (c2, .array .int), (cZ, .boolean)] ([(o1, .inr (1, [.int v2, .ref o3, .ref o5, .ref o7, .ref o9, .int v11, .int v12, .int v13])), (o3, .inl (cI, 12, .inl fw4)), (o5, .inl (cI, 81, .inl fw6))]) sz)) (va_Qv (fun (u : Int32 × (Nat → Int32)) => Iv 0 81 u.1) (fun u t => wPost (dC, dI) [(cI, .int), (c2, .array .int), (cZ, .boolean)] (va_A ([(o1, .inr (1, [.int v2, .ref o3, .ref o5, .ref o7, .ref o9, .int v11, .int v12, .int v13])), (o3, .inl (cI, 12, .inl fw4)), (o5, .inl (cI, 81, .inl fw6))]) sz) ([(o1, .inr (1, [.int v2, .ref o3, .ref o5, .ref o7, .ref o9, .int u.1, .int v12, .int v13])), (o3, .inl (cI, 12, .inl fw4)), (o5, .inl (cI, 81, .inl u.2))]) t) (va_A ([(o1, .inr (1, [.int v2, .ref o3, .ref o5, .ref o7, .ref o9, .int v11, .int v12, .int v13])), (o3, .inl (cI, 12, .inl fw4)), (o5, .inl (cI, 81, .inl fw6))]) sz)) 0 0 (va_A ([(o1, .inr (1, [.int v2, .ref o3, .ref o5, .ref o7, .ref o9, .int v11, .int v12, .int v13])), (o3, .inl (cI, 12, .inl fw4)), (o5, .inl (cI, 81, .inl fw6))]) sz) := by
  refine Met.ofW (cc := cX1_gather) (maxL := 7) (ret := none) (by decide) rfl ?_
  intro p e s m args below meth c s₁ B hml hv
  obtain ⟨rfl, hsz, hP, hK, hD0, hN⟩ := hv
  have hx := B.exec
  have hb := B.bytes
  have hr := B.returns
  have hts := atoms_spec (ws := wsX1_gather) B.pre
  have hown : s.vm.findClass RX1 = some m.cls := findClass_of_methodNamed B.named
  have hlocks := B.notSynchronized
  subst hsz
  have hD := hD0.self (sz := s.heap.size)
  generalize hAe : va_A ([(o1, .inr (1, [.int v2, .ref o3, .ref o5, .ref o7, .ref o9, .int v11, .int v12, .int v13])), (o3, .inl (cI, 12, .inl fw4)), (o5, .inl (cI, 81, .inl fw6))]) s.heap.size = A at hD ⊢
  have hA : ∀ q : Nat, s.heap.size ≤ q → A q := fun q h => by rw [← hAe]; exact Or.inr h
  have hS : va_S A s.heap s.heap [] := va_S.rf
  have hP : va_P (dC, dI) vwCl ([(o1, .inr (1, [.int v2, .ref o3, .ref o5, .ref o7, .ref o9, .int v11, .int v12, .int v13])), (o3, .inl (cI, 12, .inl fw4)), (o5, .inl (cI, 81, .inl fw6))]) s.heap := hP
  have hl := lv_entry ([.ref o1, .int a1, .int a2, .int a3, .int 7]) (n := 7) (Nat.le_of_ble_eq_true rfl)
  rw [lg_entry_eq]
  generalize (lg_sl ([.ref o1, .int a1, .int a2, .int a3, .int 7]) ++ List.replicate (7 - (lg_sl ([.ref o1, .int a1, .int a2, .int a3, .int 7])).length) Slot.unset).toArray = ls at hl ⊢
  have hl : lv_has ls 7 [(0, .ref o1), (1, .int a1), (2, .int a2), (3, .int a3), (4, .int 7)] := hl
  refine gen_Q (fun Q hQ => ?_)
  refine lv_iload hx hb dX1_gather_0 (lv_at hl 4 rfl) ?_
  refine lv_bipush (v := 12) hx hb dX1_gather_2 (by decide) ?_
  refine lv_icmp_gt (tgt := 16) hx hb dX1_gather_4 (by decide) (fun h9 => absurd h9 (by decide +kernel)) (fun _ => ?_)
  refine lv_aload_n hx hb dX1_gather_7 rfl (lv_at hl 0 rfl) ?_
  refine lv_iload_n hx hb dX1_gather_8 rfl (lv_at hl 2 rfl) ?_
  refine lv_iload_n hx hb dX1_gather_9 rfl (lv_at hl 3 rfl) ?_
  refine kc_i (D := (dC, dI)) (S := Unit) (wc := [(o1, .inr (1, [.int v2, .ref o3, .ref o5, .ref o7, .ref o9, .int v11, .int v12, .int v13])), (o3, .inl (cI, 12, .inl fw4))]) (wr := [(o5, .inl (cI, 81, .inl fw6))]) (w1 := fun _ => [(o1, .inr (1, [.int v2, .ref o3, .ref o5, .ref o7, .ref o9, .int v11, .int v12, .int v13])), (o3, .inl (cI, 12, .inl fw4))]) (wn := fun _ => [(o1, .inr (1, [.int v2, .ref o3, .ref o5, .ref o7, .ref o9, .int v11, .int v12, .int v13])), (o3, .inl (cI, 12, .inl fw4)), (o5, .inl (cI, 81, .inl fw6))]) (fun hPc hDc => va_runV (As := [.int a2, .int a3]) (rest := []) ⟨hx, hb, hml, hown, hts⟩ (kX1_canNotBeGreat_1 l dC dI cI c2 cZ o1 o3 o5 o7 o9 v2 fw4 v11 v12 v13 a2 a3 s.heap.size v2_h fw4_b v11_h a2_h a3_h) (cwV 2 hts gX1_gather_X1_canNotBeGreat rfl rfl rfl (by decide +kernel) ⟨Nat.le_of_ble_eq_true rfl, Nat.le_of_ble_eq_true rfl⟩) (pre_V hPc hK hDc hN (ci := 1) (q0 := 0) rfl rfl) rfl rfl hl.1 rfl (lv_room (Nat.le_of_ble_eq_true rfl)) dX1_gather_10 ⟨Nat.le_of_ble_eq_true rfl, Nat.le_of_ble_eq_true rfl⟩) hP hD hS hA [0, 1] [2] [1, 2, 0] rfl rfl (by decide +kernel) (by decide +kernel) (by decide +kernel) (by decide +kernel) (fun _ => rfl) (fun x1 _ H locs hq hP hD hS => ?_)
  have x1_h := hq
  have hP : va_P (dC, dI) vwCl ([(o1, .inr (1, [.int v2, .ref o3, .ref o5, .ref o7, .ref o9, .int v11, .int v12, .int v13])), (o3, .inl (cI, 12, .inl fw4)), (o5, .inl (cI, 81, .inl fw6))]) H := hP
  have hD : va_D A ([(o1, .inr (1, [.int v2, .ref o3, .ref o5, .ref o7, .ref o9, .int v11, .int v12, .int v13])), (o3, .inl (cI, 12, .inl fw4)), (o5, .inl (cI, 81, .inl fw6))]) := hD
  refine lv_if_eq (tgt := 17) hx hb dX1_gather_13 (by decide) (fun h2 => ?_) (fun h2 => ?_)
  ·
    have j3 : Iv 0 0 x1 := r_eq h2 ik_0
    refine lv_iload_n hx hb dX1_gather_17 rfl (lv_at hl 2 rfl) ?_
    refine lv_if_ne (tgt := 27) hx hb dX1_gather_18 (by decide) (fun h4 => ?_) (fun h4 => ?_)
    ·
      have j5 : Iv 1 4095 a2 := r_nelo h4 a2_h ik_0 (by decide)
      refine lv_bipush (v := 31) hx hb dX1_gather_27 (by decide) ?_
      refine lv_iload_n hx hb dX1_gather_29 rfl (lv_at hl 2 rfl) ?_
      refine kc_i (D := (dC, dI)) (S := Unit) (wc := []) (wr := [(o1, .inr (1, [.int v2, .ref o3, .ref o5, .ref o7, .ref o9, .int v11, .int v12, .int v13])), (o3, .inl (cI, 12, .inl fw4)), (o5, .inl (cI, 81, .inl fw6))]) (w1 := fun _ => []) (wn := fun _ => [(o1, .inr (1, [.int v2, .ref o3, .ref o5, .ref o7, .ref o9, .int v11, .int v12, .int v13])), (o3, .inl (cI, 12, .inl fw4)), (o5, .inl (cI, 81, .inl fw6))]) (fun hPc hDc => va_runS (As := [.int a2]) (rest := [.int 31]) ⟨hx, hb, hml, hown, hts⟩ (kJ6_numberOfLeadingZeros_0f7a4_1 l dC dI cI c2 cZ a2 H.size j5) (va_cwS 1 hts gX1_gather_J6_numberOfLeadingZeros_0f7a4 rfl rfl rfl (by decide +kernel) ⟨Nat.le_of_ble_eq_true rfl, Nat.le_of_ble_eq_true rfl⟩) (pre_S hPc hK hDc hN) rfl rfl hl.1 rfl (lv_room (Nat.le_of_ble_eq_true rfl)) dX1_gather_30 ⟨Nat.le_of_ble_eq_true rfl, Nat.le_of_ble_eq_true rfl⟩) hP hD hS hA [] [0, 1, 2] [0, 1, 2] rfl rfl (by decide +kernel) (by decide +kernel) (by decide +kernel) (by decide +kernel) (fun _ => rfl) (fun x6 _ H locs hq hP hD hS => ?_)
      have x6_h := hq
      have hP : va_P (dC, dI) vwCl ([(o1, .inr (1, [.int v2, .ref o3, .ref o5, .ref o7, .ref o9, .int v11, .int v12, .int v13])), (o3, .inl (cI, 12, .inl fw4)), (o5, .inl (cI, 81, .inl fw6))]) H := hP
      have hD : va_D A ([(o1, .inr (1, [.int v2, .ref o3, .ref o5, .ref o7, .ref o9, .int v11, .int v12, .int v13])), (o3, .inl (cI, 12, .inl fw4)), (o5, .inl (cI, 81, .inl fw6))]) := hD
      refine lv_isub hx hb dX1_gather_33 (lv_topi (fun x7 x7_e => ?_))
      have x7_h : Iv 0 11 x7 := iv_e x7_e (iv_sub ik_31 x6_h (by decide))
      refine lv_istore (lv' := [(5, .int x7), (0, .ref o1), (1, .int a1), (2, .int a2), (3, .int a3), (4, .int 7)]) hx hb dX1_gather_34 hl (by decide) rfl (fun ls hl => ?_)
      refine lv_iload_n hx hb dX1_gather_36 rfl (lv_at hl 3 rfl) ?_
      refine lv_iconst (v := 1) hx hb dX1_gather_37 (by decide) ?_
      refine lv_iload hx hb dX1_gather_38 (lv_at hl 0 rfl) ?_
      refine lv_ishl hx hb dX1_gather_40 (lv_topi (fun x8 x8_e => ?_))
      have x8_h : Iv 1 2048 x8 := iv_e x8_e (iv_shl1 x7_h (by decide))
      refine lv_iconst (v := (-1)) hx hb dX1_gather_41 (by decide) ?_
      refine lv_ixor hx hb dX1_gather_42 (lv_topi (fun x9 x9_e => ?_))
      refine lv_iand hx hb dX1_gather_43 (lv_topi (fun x10 x10_e => ?_))
      have x10_h : Iv 0 4095 x10 := iv_e x10_e (iv_andL _ j5 (by decide))
      refine lv_istore (lv' := [(6, .int x10), (5, .int x7), (0, .ref o1), (1, .int a1), (2, .int a2), (3, .int a3), (4, .int 7)]) hx hb dX1_gather_44 hl (by decide) rfl (fun ls hl => ?_)
      refine lv_aload_n hx hb dX1_gather_46 rfl (lv_at hl 2 rfl) ?_
      refine lv_iload_n hx hb dX1_gather_47 rfl (lv_at hl 3 rfl) ?_
      refine lv_iload hx hb dX1_gather_48 (lv_at hl 0 rfl) ?_
      refine lv_iload_n hx hb dX1_gather_50 rfl (lv_at hl 5 rfl) ?_
      refine lv_iconst (v := 1) hx hb dX1_gather_51 (by decide) ?_
      refine lv_iload hx hb dX1_gather_52 (lv_at hl 1 rfl) ?_
      refine lv_ishl hx hb dX1_gather_54 (lv_topi (fun x11 x11_e => ?_))
      have x11_h : Iv 1 2048 x11 := iv_e x11_e (iv_shl1 x7_h (by decide))
      refine lv_ior hx hb dX1_gather_55 (lv_topi (fun x12 x12_e => ?_))
      have x12_h : Iv 0 4095 x12 := iv_e x12_e (iv_or 12 a3_h x11_h (by decide))
      refine lv_iload hx hb dX1_gather_56 (lv_at hl 6 rfl) ?_
      refine lv_iconst (v := 1) hx hb dX1_gather_58 (by decide) ?_
      refine lv_iadd hx hb dX1_gather_59 (tk_i (v := 8) (by decide +kernel) ?_)
      refine kc_v (D := (dC, dI)) (S := Int32 × (Nat → Int32)) (wc := [(o1, .inr (1, [.int v2, .ref o3, .ref o5, .ref o7, .ref o9, .int v11, .int v12, .int v13])), (o3, .inl (cI, 12, .inl fw4)), (o5, .inl (cI, 81, .inl fw6))]) (wr := []) (w1 := fun u => [(o1, .inr (1, [.int v2, .ref o3, .ref o5, .ref o7, .ref o9, .int u.1, .int v12, .int v13])), (o3, .inl (cI, 12, .inl fw4)), (o5, .inl (cI, 81, .inl u.2))]) (wn := fun u => [(o1, .inr (1, [.int v2, .ref o3, .ref o5, .ref o7, .ref o9, .int u.1, .int v12, .int v13])), (o3, .inl (cI, 12, .inl fw4)), (o5, .inl (cI, 81, .inl u.2))]) (fun hPc hDc => va_runS (As := [.ref o1, .int a1, .int x10, .int x12, .int 8]) (rest := []) ⟨hx, hb, hml, hown, hts⟩ (kX1_gather_6 l dC dI cI c2 cZ o1 o3 o5 o7 o9 v2 fw4 fw6 v11 v12 v13 a1 x10 x12 H.size v2_h fw4_b v11_h a1_h x10_h x12_h) (va_cwS 5 hts gX1_gather_X1_gather rfl rfl rfl (by decide +kernel) ⟨Nat.le_of_ble_eq_true rfl, Nat.le_of_ble_eq_true rfl⟩) (pre_S hPc hK hDc hN) rfl rfl hl.1 rfl (lv_room (Nat.le_of_ble_eq_true rfl)) dX1_gather_60 ⟨Nat.le_of_ble_eq_true rfl, Nat.le_of_ble_eq_true rfl⟩) hP hD hS hA [0, 1, 2] [] [0, 1, 2] rfl rfl (by decide +kernel) (by decide +kernel) (by decide +kernel) (by decide +kernel) (fun _ => rfl) (fun u H locs hq hP hD hS => ?_)
      obtain ⟨y13, f14⟩ := u
      have y13_h := hq
      have hP : va_P (dC, dI) vwCl ([(o1, .inr (1, [.int v2, .ref o3, .ref o5, .ref o7, .ref o9, .int y13, .int v12, .int v13])), (o3, .inl (cI, 12, .inl fw4)), (o5, .inl (cI, 81, .inl f14))]) H := hP
      have hD : va_D A ([(o1, .inr (1, [.int v2, .ref o3, .ref o5, .ref o7, .ref o9, .int y13, .int v12, .int v13])), (o3, .inl (cI, 12, .inl fw4)), (o5, .inl (cI, 81, .inl f14))]) := hD
      refine lv_aload_n hx hb dX1_gather_63 rfl (lv_at hl 2 rfl) ?_
      refine lv_iload_n hx hb dX1_gather_64 rfl (lv_at hl 3 rfl) ?_
      refine lv_iconst (v := 1) hx hb dX1_gather_65 (by decide) ?_
      refine lv_iload hx hb dX1_gather_66 (lv_at hl 1 rfl) ?_
      refine lv_ishl hx hb dX1_gather_68 (lv_topi (fun x15 x15_e => ?_))
      have x15_h : Iv 1 2048 x15 := iv_e x15_e (iv_shl1 x7_h (by decide))
      refine lv_ior hx hb dX1_gather_69 (lv_topi (fun x16 x16_e => ?_))
      have x16_h : Iv 0 4095 x16 := iv_e x16_e (iv_or 12 a1_h x15_h (by decide))
      refine lv_iload hx hb dX1_gather_70 (lv_at hl 0 rfl) ?_
      refine lv_aload_n hx hb dX1_gather_72 rfl (lv_at hl 2 rfl) ?_
      refine va_get (D := (dC, dI)) (ci := 1) (v := .ref o3) (C := RX1) (T := TX1) (N := 8) hx hb hts iw_X1_gather_X1 hown hK hP 0 rfl rfl 1 (by decide) (hts (.fieldLink RX1 9 "HolelessHouse$Cliques" "near" "[I") hm_X1_gather_1) (fun _ h9 => h9) rfl dX1_gather_73 ?_
      refine lv_iload hx hb dX1_gather_76 (lv_at hl 1 rfl) ?_
      refine va_iald hx hb hK hP 1 0 rfl rfl (vin_iv x7_h (by decide)) dX1_gather_78 (lv_topi (fun x17 x17_e => ?_))
      have x17_h : Iv 0 4095 x17 := iv_e x17_e (bd_at fw4_b (vin_iv x7_h (by decide)))
      refine lv_iand hx hb dX1_gather_79 (lv_topi (fun x18 x18_e => ?_))
      have x18_h : Iv 0 4095 x18 := iv_e x18_e (iv_andL _ x10_h (by decide))
      refine lv_iload_n hx hb dX1_gather_80 rfl (lv_at hl 5 rfl) ?_
      refine lv_aload_n hx hb dX1_gather_81 rfl (lv_at hl 2 rfl) ?_
      refine va_get (D := (dC, dI)) (ci := 1) (v := .ref o3) (C := RX1) (T := TX1) (N := 8) hx hb hts iw_X1_gather_X1 hown hK hP 0 rfl rfl 1 (by decide) (hts (.fieldLink RX1 9 "HolelessHouse$Cliques" "near" "[I") hm_X1_gather_1) (fun _ h9 => h9) rfl dX1_gather_82 ?_
      refine lv_iload hx hb dX1_gather_85 (lv_at hl 1 rfl) ?_
      refine va_iald hx hb hK hP 1 0 rfl rfl (vin_iv x7_h (by decide)) dX1_gather_87 (lv_topi (fun x19 x19_e => ?_))
      have x19_h : Iv 0 4095 x19 := iv_e x19_e (bd_at fw4_b (vin_iv x7_h (by decide)))
      refine lv_iand hx hb dX1_gather_88 (lv_topi (fun x20 x20_e => ?_))
      have x20_h : Iv 0 4095 x20 := iv_e x20_e (iv_andL _ a3_h (by decide))
      refine lv_iload hx hb dX1_gather_89 (lv_at hl 6 rfl) ?_
      refine lv_iconst (v := 1) hx hb dX1_gather_91 (by decide) ?_
      refine lv_iadd hx hb dX1_gather_92 (tk_i (v := 8) (by decide +kernel) ?_)
      refine kc_v (D := (dC, dI)) (S := Int32 × (Nat → Int32)) (wc := [(o1, .inr (1, [.int v2, .ref o3, .ref o5, .ref o7, .ref o9, .int y13, .int v12, .int v13])), (o3, .inl (cI, 12, .inl fw4)), (o5, .inl (cI, 81, .inl f14))]) (wr := []) (w1 := fun u => [(o1, .inr (1, [.int v2, .ref o3, .ref o5, .ref o7, .ref o9, .int u.1, .int v12, .int v13])), (o3, .inl (cI, 12, .inl fw4)), (o5, .inl (cI, 81, .inl u.2))]) (wn := fun u => [(o1, .inr (1, [.int v2, .ref o3, .ref o5, .ref o7, .ref o9, .int u.1, .int v12, .int v13])), (o3, .inl (cI, 12, .inl fw4)), (o5, .inl (cI, 81, .inl u.2))]) (fun hPc hDc => va_runS (As := [.ref o1, .int x16, .int x18, .int x20, .int 8]) (rest := []) ⟨hx, hb, hml, hown, hts⟩ (kX1_gather_6 l dC dI cI c2 cZ o1 o3 o5 o7 o9 v2 fw4 f14 y13 v12 v13 x16 x18 x20 H.size v2_h fw4_b y13_h x16_h x18_h x20_h) (va_cwS 5 hts gX1_gather_X1_gather rfl rfl rfl (by decide +kernel) ⟨Nat.le_of_ble_eq_true rfl, Nat.le_of_ble_eq_true rfl⟩) (pre_S hPc hK hDc hN) rfl rfl hl.1 rfl (lv_room (Nat.le_of_ble_eq_true rfl)) dX1_gather_93 ⟨Nat.le_of_ble_eq_true rfl, Nat.le_of_ble_eq_true rfl⟩) hP hD hS hA [0, 1, 2] [] [0, 1, 2] rfl rfl (by decide +kernel) (by decide +kernel) (by decide +kernel) (by decide +kernel) (fun _ => rfl) (fun u H locs hq hP hD hS => ?_)
      obtain ⟨y21, f22⟩ := u
      have y21_h := hq
      have hP : va_P (dC, dI) vwCl ([(o1, .inr (1, [.int v2, .ref o3, .ref o5, .ref o7, .ref o9, .int y21, .int v12, .int v13])), (o3, .inl (cI, 12, .inl fw4)), (o5, .inl (cI, 81, .inl f22))]) H := hP
      have hD : va_D A ([(o1, .inr (1, [.int v2, .ref o3, .ref o5, .ref o7, .ref o9, .int y21, .int v12, .int v13])), (o3, .inl (cI, 12, .inl fw4)), (o5, .inl (cI, 81, .inl f22))]) := hD
      rw [hQ]
      exact W.vret hx hb hr (fun t ht hW => ⟨⟨(y21, f22), rfl, y21_h, by rw [ht]; exact hP, va_K.moved hW.alike hK, hD⟩, hS.F ht⟩) hS.2.2 dX1_gather_96
    ·
      have j23 : Iv 0 0 a2 := r_eq h4 ik_0
      refine lv_aload_n hx hb dX1_gather_21 rfl (lv_at hl 0 rfl) ?_
      refine lv_iload_n hx hb dX1_gather_22 rfl (lv_at hl 1 rfl) ?_
      refine kc_v (D := (dC, dI)) (S := Int32 × (Nat → Int32)) (wc := [(o1, .inr (1, [.int v2, .ref o3, .ref o5, .ref o7, .ref o9, .int v11, .int v12, .int v13])), (o5, .inl (cI, 81, .inl fw6))]) (wr := [(o3, .inl (cI, 12, .inl fw4))]) (w1 := fun u => [(o1, .inr (1, [.int v2, .ref o3, .ref o5, .ref o7, .ref o9, .int u.1, .int v12, .int v13])), (o5, .inl (cI, 81, .inl u.2))]) (wn := fun u => [(o1, .inr (1, [.int v2, .ref o3, .ref o5, .ref o7, .ref o9, .int u.1, .int v12, .int v13])), (o3, .inl (cI, 12, .inl fw4)), (o5, .inl (cI, 81, .inl u.2))]) (fun hPc hDc => va_runV (As := [.int a1]) (rest := []) ⟨hx, hb, hml, hown, hts⟩ (kX1_keep_1 l dC dI cI c2 cZ o1 o3 o5 o7 o9 v2 fw6 v11 v12 v13 a1 H.size v2_h v11_h a1_h) (cwV 1 hts gX1_gather_X1_keep rfl rfl rfl (by decide +kernel) ⟨Nat.le_of_ble_eq_true rfl, Nat.le_of_ble_eq_true rfl⟩) (pre_V hPc hK hDc hN (ci := 1) (q0 := 0) rfl rfl) rfl rfl hl.1 rfl (lv_room (Nat.le_of_ble_eq_true rfl)) dX1_gather_23 ⟨Nat.le_of_ble_eq_true rfl, Nat.le_of_ble_eq_true rfl⟩) hP hD hS hA [0, 2] [1] [1, 0, 2] rfl rfl (by decide +kernel) (by decide +kernel) (by decide +kernel) (by decide +kernel) (fun _ => rfl) (fun u H locs hq hP hD hS => ?_)
      obtain ⟨y24, f25⟩ := u
      have y24_h := hq
      have hP : va_P (dC, dI) vwCl ([(o1, .inr (1, [.int v2, .ref o3, .ref o5, .ref o7, .ref o9, .int y24, .int v12, .int v13])), (o3, .inl (cI, 12, .inl fw4)), (o5, .inl (cI, 81, .inl f25))]) H := hP
      have hD : va_D A ([(o1, .inr (1, [.int v2, .ref o3, .ref o5, .ref o7, .ref o9, .int y24, .int v12, .int v13])), (o3, .inl (cI, 12, .inl fw4)), (o5, .inl (cI, 81, .inl f25))]) := hD
      rw [hQ]
      exact W.vret hx hb hr (fun t ht hW => ⟨⟨(y24, f25), rfl, y24_h, by rw [ht]; exact hP, va_K.moved hW.alike hK, hD⟩, hS.F ht⟩) hS.2.2 dX1_gather_26
  ·
    have j26 : Iv 1 1 x1 := r_nelo h2 x1_h ik_0 (by decide)
    rw [hQ]
    exact W.vret hx hb hr (fun t ht hW => ⟨⟨(v11, fw6), rfl, v11_h, by rw [ht]; exact hP, va_K.moved hW.alike hK, hD⟩, hS.F ht⟩) hS.2.2 dX1_gather_16
set_option maxHeartbeats 4000000 in
set_option maxRecDepth 100000 in
theorem kX1_gather_8 (l : Launch) (dC : Nat → ClassId) (dI : Nat → Nat → Nat) (cI c2 cZ : ClassId) (o1 : Nat) (o3 : Nat) (o5 : Nat) (o7 : Nat) (o9 : Nat) (v2 : Int32) (fw4 : Nat → Int32) (fw6 : Nat → Int32) (v11 : Int32) (v12 : Int32) (v13 : Int32) (a1 : Int32) (a2 : Int32) (a3 : Int32) (sz : Nat) (v2_h : Iv 0 1 v2) (fw4_b : Bd 12 0 4095 fw4) (v11_h : Iv 0 81 v11) (a1_h : Iv 0 4095 a1) (a2_h : Iv 0 4095 a2) (a3_h : Iv 0 4095 a3) : Met l yX1_gather wsX1_gather ({ frames := 8, cells := 0, slots := 0, locals := 200 }) (va_Pc [.ref o1, .int a1, .int a2, .int a3, .int 6] (wPre (dC, dI) [(cI, .int), (c2, .array .int), (cZ, .boolean)] ([(o1, .inr (1, [.int v2, .ref o3, .ref o5, .ref o7, .ref o9, .int v11, .int v12, .int v13])), (o3, .inl (cI, 12, .inl fw4)), (o5, .inl (cI, 81, .inl fw6))]) sz)) (va_Qv (fun (u : Int32 × (Nat → Int32)) => Iv 0 81 u.1) (fun u t => wPost (dC, dI) [(cI, .int), (c2, .array .int), (cZ, .boolean)] (va_A ([(o1, .inr (1, [.int v2, .ref o3, .ref o5, .ref o7, .ref o9, .int v11, .int v12, .int v13])), (o3, .inl (cI, 12, .inl fw4)), (o5, .inl (cI, 81, .inl fw6))]) sz) ([(o1, .inr (1, [.int v2, .ref o3, .ref o5, .ref o7, .ref o9, .int u.1, .int v12, .int v13])), (o3, .inl (cI, 12, .inl fw4)), (o5, .inl (cI, 81, .inl u.2))]) t) (va_A ([(o1, .inr (1, [.int v2, .ref o3, .ref o5, .ref o7, .ref o9, .int v11, .int v12, .int v13])), (o3, .inl (cI, 12, .inl fw4)), (o5, .inl (cI, 81, .inl fw6))]) sz)) 0 0 (va_A ([(o1, .inr (1, [.int v2, .ref o3, .ref o5, .ref o7, .ref o9, .int v11, .int v12, .int v13])), (o3, .inl (cI, 12, .inl fw4)), (o5, .inl (cI, 81, .inl fw6))]) sz) := by
  refine Met.ofW (cc := cX1_gather) (maxL := 7) (ret := none) (by decide) rfl ?_
  intro p e s m args below meth c s₁ B hml hv
  obtain ⟨rfl, hsz, hP, hK, hD0, hN⟩ := hv
  have hx := B.exec
  have hb := B.bytes
  have hr := B.returns
  have hts := atoms_spec (ws := wsX1_gather) B.pre
  have hown : s.vm.findClass RX1 = some m.cls := findClass_of_methodNamed B.named
  have hlocks := B.notSynchronized
  subst hsz
  have hD := hD0.self (sz := s.heap.size)
  generalize hAe : va_A ([(o1, .inr (1, [.int v2, .ref o3, .ref o5, .ref o7, .ref o9, .int v11, .int v12, .int v13])), (o3, .inl (cI, 12, .inl fw4)), (o5, .inl (cI, 81, .inl fw6))]) s.heap.size = A at hD ⊢
  have hA : ∀ q : Nat, s.heap.size ≤ q → A q := fun q h => by rw [← hAe]; exact Or.inr h
  have hS : va_S A s.heap s.heap [] := va_S.rf
  have hP : va_P (dC, dI) vwCl ([(o1, .inr (1, [.int v2, .ref o3, .ref o5, .ref o7, .ref o9, .int v11, .int v12, .int v13])), (o3, .inl (cI, 12, .inl fw4)), (o5, .inl (cI, 81, .inl fw6))]) s.heap := hP
  have hl := lv_entry ([.ref o1, .int a1, .int a2, .int a3, .int 6]) (n := 7) (Nat.le_of_ble_eq_true rfl)
  rw [lg_entry_eq]
  generalize (lg_sl ([.ref o1, .int a1, .int a2, .int a3, .int 6]) ++ List.replicate (7 - (lg_sl ([.ref o1, .int a1, .int a2, .int a3, .int 6])).length) Slot.unset).toArray = ls at hl ⊢
  have hl : lv_has ls 7 [(0, .ref o1), (1, .int a1), (2, .int a2), (3, .int a3), (4, .int 6)] := hl
  refine gen_Q (fun Q hQ => ?_)
  refine lv_iload hx hb dX1_gather_0 (lv_at hl 4 rfl) ?_
  refine lv_bipush (v := 12) hx hb dX1_gather_2 (by decide) ?_
  refine lv_icmp_gt (tgt := 16) hx hb dX1_gather_4 (by decide) (fun h9 => absurd h9 (by decide +kernel)) (fun _ => ?_)
  refine lv_aload_n hx hb dX1_gather_7 rfl (lv_at hl 0 rfl) ?_
  refine lv_iload_n hx hb dX1_gather_8 rfl (lv_at hl 2 rfl) ?_
  refine lv_iload_n hx hb dX1_gather_9 rfl (lv_at hl 3 rfl) ?_
  refine kc_i (D := (dC, dI)) (S := Unit) (wc := [(o1, .inr (1, [.int v2, .ref o3, .ref o5, .ref o7, .ref o9, .int v11, .int v12, .int v13])), (o3, .inl (cI, 12, .inl fw4))]) (wr := [(o5, .inl (cI, 81, .inl fw6))]) (w1 := fun _ => [(o1, .inr (1, [.int v2, .ref o3, .ref o5, .ref o7, .ref o9, .int v11, .int v12, .int v13])), (o3, .inl (cI, 12, .inl fw4))]) (wn := fun _ => [(o1, .inr (1, [.int v2, .ref o3, .ref o5, .ref o7, .ref o9, .int v11, .int v12, .int v13])), (o3, .inl (cI, 12, .inl fw4)), (o5, .inl (cI, 81, .inl fw6))]) (fun hPc hDc => va_runV (As := [.int a2, .int a3]) (rest := []) ⟨hx, hb, hml, hown, hts⟩ (kX1_canNotBeGreat_1 l dC dI cI c2 cZ o1 o3 o5 o7 o9 v2 fw4 v11 v12 v13 a2 a3 s.heap.size v2_h fw4_b v11_h a2_h a3_h) (cwV 2 hts gX1_gather_X1_canNotBeGreat rfl rfl rfl (by decide +kernel) ⟨Nat.le_of_ble_eq_true rfl, Nat.le_of_ble_eq_true rfl⟩) (pre_V hPc hK hDc hN (ci := 1) (q0 := 0) rfl rfl) rfl rfl hl.1 rfl (lv_room (Nat.le_of_ble_eq_true rfl)) dX1_gather_10 ⟨Nat.le_of_ble_eq_true rfl, Nat.le_of_ble_eq_true rfl⟩) hP hD hS hA [0, 1] [2] [1, 2, 0] rfl rfl (by decide +kernel) (by decide +kernel) (by decide +kernel) (by decide +kernel) (fun _ => rfl) (fun x1 _ H locs hq hP hD hS => ?_)
  have x1_h := hq
  have hP : va_P (dC, dI) vwCl ([(o1, .inr (1, [.int v2, .ref o3, .ref o5, .ref o7, .ref o9, .int v11, .int v12, .int v13])), (o3, .inl (cI, 12, .inl fw4)), (o5, .inl (cI, 81, .inl fw6))]) H := hP
  have hD : va_D A ([(o1, .inr (1, [.int v2, .ref o3, .ref o5, .ref o7, .ref o9, .int v11, .int v12, .int v13])), (o3, .inl (cI, 12, .inl fw4)), (o5, .inl (cI, 81, .inl fw6))]) := hD
  refine lv_if_eq (tgt := 17) hx hb dX1_gather_13 (by decide) (fun h2 => ?_) (fun h2 => ?_)
  ·
    have j3 : Iv 0 0 x1 := r_eq h2 ik_0
    refine lv_iload_n hx hb dX1_gather_17 rfl (lv_at hl 2 rfl) ?_
    refine lv_if_ne (tgt := 27) hx hb dX1_gather_18 (by decide) (fun h4 => ?_) (fun h4 => ?_)
    ·
      have j5 : Iv 1 4095 a2 := r_nelo h4 a2_h ik_0 (by decide)
      refine lv_bipush (v := 31) hx hb dX1_gather_27 (by decide) ?_
      refine lv_iload_n hx hb dX1_gather_29 rfl (lv_at hl 2 rfl) ?_
      refine kc_i (D := (dC, dI)) (S := Unit) (wc := []) (wr := [(o1, .inr (1, [.int v2, .ref o3, .ref o5, .ref o7, .ref o9, .int v11, .int v12, .int v13])), (o3, .inl (cI, 12, .inl fw4)), (o5, .inl (cI, 81, .inl fw6))]) (w1 := fun _ => []) (wn := fun _ => [(o1, .inr (1, [.int v2, .ref o3, .ref o5, .ref o7, .ref o9, .int v11, .int v12, .int v13])), (o3, .inl (cI, 12, .inl fw4)), (o5, .inl (cI, 81, .inl fw6))]) (fun hPc hDc => va_runS (As := [.int a2]) (rest := [.int 31]) ⟨hx, hb, hml, hown, hts⟩ (kJ6_numberOfLeadingZeros_0f7a4_1 l dC dI cI c2 cZ a2 H.size j5) (va_cwS 1 hts gX1_gather_J6_numberOfLeadingZeros_0f7a4 rfl rfl rfl (by decide +kernel) ⟨Nat.le_of_ble_eq_true rfl, Nat.le_of_ble_eq_true rfl⟩) (pre_S hPc hK hDc hN) rfl rfl hl.1 rfl (lv_room (Nat.le_of_ble_eq_true rfl)) dX1_gather_30 ⟨Nat.le_of_ble_eq_true rfl, Nat.le_of_ble_eq_true rfl⟩) hP hD hS hA [] [0, 1, 2] [0, 1, 2] rfl rfl (by decide +kernel) (by decide +kernel) (by decide +kernel) (by decide +kernel) (fun _ => rfl) (fun x6 _ H locs hq hP hD hS => ?_)
      have x6_h := hq
      have hP : va_P (dC, dI) vwCl ([(o1, .inr (1, [.int v2, .ref o3, .ref o5, .ref o7, .ref o9, .int v11, .int v12, .int v13])), (o3, .inl (cI, 12, .inl fw4)), (o5, .inl (cI, 81, .inl fw6))]) H := hP
      have hD : va_D A ([(o1, .inr (1, [.int v2, .ref o3, .ref o5, .ref o7, .ref o9, .int v11, .int v12, .int v13])), (o3, .inl (cI, 12, .inl fw4)), (o5, .inl (cI, 81, .inl fw6))]) := hD
      refine lv_isub hx hb dX1_gather_33 (lv_topi (fun x7 x7_e => ?_))
      have x7_h : Iv 0 11 x7 := iv_e x7_e (iv_sub ik_31 x6_h (by decide))
      refine lv_istore (lv' := [(5, .int x7), (0, .ref o1), (1, .int a1), (2, .int a2), (3, .int a3), (4, .int 6)]) hx hb dX1_gather_34 hl (by decide) rfl (fun ls hl => ?_)
      refine lv_iload_n hx hb dX1_gather_36 rfl (lv_at hl 3 rfl) ?_
      refine lv_iconst (v := 1) hx hb dX1_gather_37 (by decide) ?_
      refine lv_iload hx hb dX1_gather_38 (lv_at hl 0 rfl) ?_
      refine lv_ishl hx hb dX1_gather_40 (lv_topi (fun x8 x8_e => ?_))
      have x8_h : Iv 1 2048 x8 := iv_e x8_e (iv_shl1 x7_h (by decide))
      refine lv_iconst (v := (-1)) hx hb dX1_gather_41 (by decide) ?_
      refine lv_ixor hx hb dX1_gather_42 (lv_topi (fun x9 x9_e => ?_))
      refine lv_iand hx hb dX1_gather_43 (lv_topi (fun x10 x10_e => ?_))
      have x10_h : Iv 0 4095 x10 := iv_e x10_e (iv_andL _ j5 (by decide))
      refine lv_istore (lv' := [(6, .int x10), (5, .int x7), (0, .ref o1), (1, .int a1), (2, .int a2), (3, .int a3), (4, .int 6)]) hx hb dX1_gather_44 hl (by decide) rfl (fun ls hl => ?_)
      refine lv_aload_n hx hb dX1_gather_46 rfl (lv_at hl 2 rfl) ?_
      refine lv_iload_n hx hb dX1_gather_47 rfl (lv_at hl 3 rfl) ?_
      refine lv_iload hx hb dX1_gather_48 (lv_at hl 0 rfl) ?_
      refine lv_iload_n hx hb dX1_gather_50 rfl (lv_at hl 5 rfl) ?_
      refine lv_iconst (v := 1) hx hb dX1_gather_51 (by decide) ?_
      refine lv_iload hx hb dX1_gather_52 (lv_at hl 1 rfl) ?_
      refine lv_ishl hx hb dX1_gather_54 (lv_topi (fun x11 x11_e => ?_))
      have x11_h : Iv 1 2048 x11 := iv_e x11_e (iv_shl1 x7_h (by decide))
      refine lv_ior hx hb dX1_gather_55 (lv_topi (fun x12 x12_e => ?_))
      have x12_h : Iv 0 4095 x12 := iv_e x12_e (iv_or 12 a3_h x11_h (by decide))
      refine lv_iload hx hb dX1_gather_56 (lv_at hl 6 rfl) ?_
      refine lv_iconst (v := 1) hx hb dX1_gather_58 (by decide) ?_
      refine lv_iadd hx hb dX1_gather_59 (tk_i (v := 7) (by decide +kernel) ?_)
      refine kc_v (D := (dC, dI)) (S := Int32 × (Nat → Int32)) (wc := [(o1, .inr (1, [.int v2, .ref o3, .ref o5, .ref o7, .ref o9, .int v11, .int v12, .int v13])), (o3, .inl (cI, 12, .inl fw4)), (o5, .inl (cI, 81, .inl fw6))]) (wr := []) (w1 := fun u => [(o1, .inr (1, [.int v2, .ref o3, .ref o5, .ref o7, .ref o9, .int u.1, .int v12, .int v13])), (o3, .inl (cI, 12, .inl fw4)), (o5, .inl (cI, 81, .inl u.2))]) (wn := fun u => [(o1, .inr (1, [.int v2, .ref o3, .ref o5, .ref o7, .ref o9, .int u.1, .int v12, .int v13])), (o3, .inl (cI, 12, .inl fw4)), (o5, .inl (cI, 81, .inl u.2))]) (fun hPc hDc => va_runS (As := [.ref o1, .int a1, .int x10, .int x12, .int 7]) (rest := []) ⟨hx, hb, hml, hown, hts⟩ (kX1_gather_7 l dC dI cI c2 cZ o1 o3 o5 o7 o9 v2 fw4 fw6 v11 v12 v13 a1 x10 x12 H.size v2_h fw4_b v11_h a1_h x10_h x12_h) (va_cwS 5 hts gX1_gather_X1_gather rfl rfl rfl (by decide +kernel) ⟨Nat.le_of_ble_eq_true rfl, Nat.le_of_ble_eq_true rfl⟩) (pre_S hPc hK hDc hN) rfl rfl hl.1 rfl (lv_room (Nat.le_of_ble_eq_true rfl)) dX1_gather_60 ⟨Nat.le_of_ble_eq_true rfl, Nat.le_of_ble_eq_true rfl⟩) hP hD hS hA [0, 1, 2] [] [0, 1, 2] rfl rfl (by decide +kernel) (by decide +kernel) (by decide +kernel) (by decide +kernel) (fun _ => rfl) (fun u H locs hq hP hD hS => ?_)
      obtain ⟨y13, f14⟩ := u
      have y13_h := hq
      have hP : va_P (dC, dI) vwCl ([(o1, .inr (1, [.int v2, .ref o3, .ref o5, .ref o7, .ref o9, .int y13, .int v12, .int v13])), (o3, .inl (cI, 12, .inl fw4)), (o5, .inl (cI, 81, .inl f14))]) H := hP
      have hD : va_D A ([(o1, .inr (1, [.int v2, .ref o3, .ref o5, .ref o7, .ref o9, .int y13, .int v12, .int v13])), (o3, .inl (cI, 12, .inl fw4)), (o5, .inl (cI, 81, .inl f14))]) := hD
      refine lv_aload_n hx hb dX1_gather_63 rfl (lv_at hl 2 rfl) ?_
      refine lv_iload_n hx hb dX1_gather_64 rfl (lv_at hl 3 rfl) ?_
      refine lv_iconst (v := 1) hx hb dX1_gather_65 (by decide) ?_
      refine lv_iload hx hb dX1_gather_66 (lv_at hl 1 rfl) ?_
      refine lv_ishl hx hb dX1_gather_68 (lv_topi (fun x15 x15_e => ?_))
      have x15_h : Iv 1 2048 x15 := iv_e x15_e (iv_shl1 x7_h (by decide))
      refine lv_ior hx hb dX1_gather_69 (lv_topi (fun x16 x16_e => ?_))
      have x16_h : Iv 0 4095 x16 := iv_e x16_e (iv_or 12 a1_h x15_h (by decide))
      refine lv_iload hx hb dX1_gather_70 (lv_at hl 0 rfl) ?_
      refine lv_aload_n hx hb dX1_gather_72 rfl (lv_at hl 2 rfl) ?_
      refine va_get (D := (dC, dI)) (ci := 1) (v := .ref o3) (C := RX1) (T := TX1) (N := 8) hx hb hts iw_X1_gather_X1 hown hK hP 0 rfl rfl 1 (by decide) (hts (.fieldLink RX1 9 "HolelessHouse$Cliques" "near" "[I") hm_X1_gather_1) (fun _ h9 => h9) rfl dX1_gather_73 ?_
      refine lv_iload hx hb dX1_gather_76 (lv_at hl 1 rfl) ?_
      refine va_iald hx hb hK hP 1 0 rfl rfl (vin_iv x7_h (by decide)) dX1_gather_78 (lv_topi (fun x17 x17_e => ?_))
      have x17_h : Iv 0 4095 x17 := iv_e x17_e (bd_at fw4_b (vin_iv x7_h (by decide)))
      refine lv_iand hx hb dX1_gather_79 (lv_topi (fun x18 x18_e => ?_))
      have x18_h : Iv 0 4095 x18 := iv_e x18_e (iv_andL _ x10_h (by decide))
      refine lv_iload_n hx hb dX1_gather_80 rfl (lv_at hl 5 rfl) ?_
      refine lv_aload_n hx hb dX1_gather_81 rfl (lv_at hl 2 rfl) ?_
      refine va_get (D := (dC, dI)) (ci := 1) (v := .ref o3) (C := RX1) (T := TX1) (N := 8) hx hb hts iw_X1_gather_X1 hown hK hP 0 rfl rfl 1 (by decide) (hts (.fieldLink RX1 9 "HolelessHouse$Cliques" "near" "[I") hm_X1_gather_1) (fun _ h9 => h9) rfl dX1_gather_82 ?_
      refine lv_iload hx hb dX1_gather_85 (lv_at hl 1 rfl) ?_
      refine va_iald hx hb hK hP 1 0 rfl rfl (vin_iv x7_h (by decide)) dX1_gather_87 (lv_topi (fun x19 x19_e => ?_))
      have x19_h : Iv 0 4095 x19 := iv_e x19_e (bd_at fw4_b (vin_iv x7_h (by decide)))
      refine lv_iand hx hb dX1_gather_88 (lv_topi (fun x20 x20_e => ?_))
      have x20_h : Iv 0 4095 x20 := iv_e x20_e (iv_andL _ a3_h (by decide))
      refine lv_iload hx hb dX1_gather_89 (lv_at hl 6 rfl) ?_
      refine lv_iconst (v := 1) hx hb dX1_gather_91 (by decide) ?_
      refine lv_iadd hx hb dX1_gather_92 (tk_i (v := 7) (by decide +kernel) ?_)
      refine kc_v (D := (dC, dI)) (S := Int32 × (Nat → Int32)) (wc := [(o1, .inr (1, [.int v2, .ref o3, .ref o5, .ref o7, .ref o9, .int y13, .int v12, .int v13])), (o3, .inl (cI, 12, .inl fw4)), (o5, .inl (cI, 81, .inl f14))]) (wr := []) (w1 := fun u => [(o1, .inr (1, [.int v2, .ref o3, .ref o5, .ref o7, .ref o9, .int u.1, .int v12, .int v13])), (o3, .inl (cI, 12, .inl fw4)), (o5, .inl (cI, 81, .inl u.2))]) (wn := fun u => [(o1, .inr (1, [.int v2, .ref o3, .ref o5, .ref o7, .ref o9, .int u.1, .int v12, .int v13])), (o3, .inl (cI, 12, .inl fw4)), (o5, .inl (cI, 81, .inl u.2))]) (fun hPc hDc => va_runS (As := [.ref o1, .int x16, .int x18, .int x20, .int 7]) (rest := []) ⟨hx, hb, hml, hown, hts⟩ (kX1_gather_7 l dC dI cI c2 cZ o1 o3 o5 o7 o9 v2 fw4 f14 y13 v12 v13 x16 x18 x20 H.size v2_h fw4_b y13_h x16_h x18_h x20_h) (va_cwS 5 hts gX1_gather_X1_gather rfl rfl rfl (by decide +kernel) ⟨Nat.le_of_ble_eq_true rfl, Nat.le_of_ble_eq_true rfl⟩) (pre_S hPc hK hDc hN) rfl rfl hl.1 rfl (lv_room (Nat.le_of_ble_eq_true rfl)) dX1_gather_93 ⟨Nat.le_of_ble_eq_true rfl, Nat.le_of_ble_eq_true rfl⟩) hP hD hS hA [0, 1, 2] [] [0, 1, 2] rfl rfl (by decide +kernel) (by decide +kernel) (by decide +kernel) (by decide +kernel) (fun _ => rfl) (fun u H locs hq hP hD hS => ?_)
      obtain ⟨y21, f22⟩ := u
      have y21_h := hq
      have hP : va_P (dC, dI) vwCl ([(o1, .inr (1, [.int v2, .ref o3, .ref o5, .ref o7, .ref o9, .int y21, .int v12, .int v13])), (o3, .inl (cI, 12, .inl fw4)), (o5, .inl (cI, 81, .inl f22))]) H := hP
      have hD : va_D A ([(o1, .inr (1, [.int v2, .ref o3, .ref o5, .ref o7, .ref o9, .int y21, .int v12, .int v13])), (o3, .inl (cI, 12, .inl fw4)), (o5, .inl (cI, 81, .inl f22))]) := hD
      rw [hQ]
      exact W.vret hx hb hr (fun t ht hW => ⟨⟨(y21, f22), rfl, y21_h, by rw [ht]; exact hP, va_K.moved hW.alike hK, hD⟩, hS.F ht⟩) hS.2.2 dX1_gather_96
    ·
      have j23 : Iv 0 0 a2 := r_eq h4 ik_0
      refine lv_aload_n hx hb dX1_gather_21 rfl (lv_at hl 0 rfl) ?_
      refine lv_iload_n hx hb dX1_gather_22 rfl (lv_at hl 1 rfl) ?_
      refine kc_v (D := (dC, dI)) (S := Int32 × (Nat → Int32)) (wc := [(o1, .inr (1, [.int v2, .ref o3, .ref o5, .ref o7, .ref o9, .int v11, .int v12, .int v13])), (o5, .inl (cI, 81, .inl fw6))]) (wr := [(o3, .inl (cI, 12, .inl fw4))]) (w1 := fun u => [(o1, .inr (1, [.int v2, .ref o3, .ref o5, .ref o7, .ref o9, .int u.1, .int v12, .int v13])), (o5, .inl (cI, 81, .inl u.2))]) (wn := fun u => [(o1, .inr (1, [.int v2, .ref o3, .ref o5, .ref o7, .ref o9, .int u.1, .int v12, .int v13])), (o3, .inl (cI, 12, .inl fw4)), (o5, .inl (cI, 81, .inl u.2))]) (fun hPc hDc => va_runV (As := [.int a1]) (rest := []) ⟨hx, hb, hml, hown, hts⟩ (kX1_keep_1 l dC dI cI c2 cZ o1 o3 o5 o7 o9 v2 fw6 v11 v12 v13 a1 H.size v2_h v11_h a1_h) (cwV 1 hts gX1_gather_X1_keep rfl rfl rfl (by decide +kernel) ⟨Nat.le_of_ble_eq_true rfl, Nat.le_of_ble_eq_true rfl⟩) (pre_V hPc hK hDc hN (ci := 1) (q0 := 0) rfl rfl) rfl rfl hl.1 rfl (lv_room (Nat.le_of_ble_eq_true rfl)) dX1_gather_23 ⟨Nat.le_of_ble_eq_true rfl, Nat.le_of_ble_eq_true rfl⟩) hP hD hS hA [0, 2] [1] [1, 0, 2] rfl rfl (by decide +kernel) (by decide +kernel) (by decide +kernel) (by decide +kernel) (fun _ => rfl) (fun u H locs hq hP hD hS => ?_)
      obtain ⟨y24, f25⟩ := u
      have y24_h := hq
      have hP : va_P (dC, dI) vwCl ([(o1, .inr (1, [.int v2, .ref o3, .ref o5, .ref o7, .ref o9, .int y24, .int v12, .int v13])), (o3, .inl (cI, 12, .inl fw4)), (o5, .inl (cI, 81, .inl f25))]) H := hP
      have hD : va_D A ([(o1, .inr (1, [.int v2, .ref o3, .ref o5, .ref o7, .ref o9, .int y24, .int v12, .int v13])), (o3, .inl (cI, 12, .inl fw4)), (o5, .inl (cI, 81, .inl f25))]) := hD
      rw [hQ]
      exact W.vret hx hb hr (fun t ht hW => ⟨⟨(y24, f25), rfl, y24_h, by rw [ht]; exact hP, va_K.moved hW.alike hK, hD⟩, hS.F ht⟩) hS.2.2 dX1_gather_26
  ·
    have j26 : Iv 1 1 x1 := r_nelo h2 x1_h ik_0 (by decide)
    rw [hQ]
    exact W.vret hx hb hr (fun t ht hW => ⟨⟨(v11, fw6), rfl, v11_h, by rw [ht]; exact hP, va_K.moved hW.alike hK, hD⟩, hS.F ht⟩) hS.2.2 dX1_gather_16
set_option maxHeartbeats 4000000 in
set_option maxRecDepth 100000 in
theorem kX1_gather_9 (l : Launch) (dC : Nat → ClassId) (dI : Nat → Nat → Nat) (cI c2 cZ : ClassId) (o1 : Nat) (o3 : Nat) (o5 : Nat) (o7 : Nat) (o9 : Nat) (v2 : Int32) (fw4 : Nat → Int32) (fw6 : Nat → Int32) (v11 : Int32) (v12 : Int32) (v13 : Int32) (a1 : Int32) (a2 : Int32) (a3 : Int32) (sz : Nat) (v2_h : Iv 0 1 v2) (fw4_b : Bd 12 0 4095 fw4) (v11_h : Iv 0 81 v11) (a1_h : Iv 0 4095 a1) (a2_h : Iv 0 4095 a2) (a3_h : Iv 0 4095 a3) : Met l yX1_gather wsX1_gather ({ frames := 9, cells := 0, slots := 0, locals := 226 }) (va_Pc [.ref o1, .int a1, .int a2, .int a3, .int 5] (wPre (dC, dI) [(cI, .int), (c2, .array .int), (cZ, .boolean)] ([(o1, .inr (1, [.int v2, .ref o3, .ref o5, .ref o7, .ref o9, .int v11, .int v12, .int v13])), (o3, .inl (cI, 12, .inl fw4)), (o5, .inl (cI, 81, .inl fw6))]) sz)) (va_Qv (fun (u : Int32 × (Nat → Int32)) => Iv 0 81 u.1) (fun u t => wPost (dC, dI) [(cI, .int), (c2, .array .int), (cZ, .boolean)] (va_A ([(o1, .inr (1, [.int v2, .ref o3, .ref o5, .ref o7, .ref o9, .int v11, .int v12, .int v13])), (o3, .inl (cI, 12, .inl fw4)), (o5, .inl (cI, 81, .inl fw6))]) sz) ([(o1, .inr (1, [.int v2, .ref o3, .ref o5, .ref o7, .ref o9, .int u.1, .int v12, .int v13])), (o3, .inl (cI, 12, .inl fw4)), (o5, .inl (cI, 81, .inl u.2))]) t) (va_A ([(o1, .inr (1, [.int v2, .ref o3, .ref o5, .ref o7, .ref o9, .int v11, .int v12, .int v13])), (o3, .inl (cI, 12, .inl fw4)), (o5, .inl (cI, 81, .inl fw6))]) sz)) 0 0 (va_A ([(o1, .inr (1, [.int v2, .ref o3, .ref o5, .ref o7, .ref o9, .int v11, .int v12, .int v13])), (o3, .inl (cI, 12, .inl fw4)), (o5, .inl (cI, 81, .inl fw6))]) sz) := by
  refine Met.ofW (cc := cX1_gather) (maxL := 7) (ret := none) (by decide) rfl ?_
  intro p e s m args below meth c s₁ B hml hv
  obtain ⟨rfl, hsz, hP, hK, hD0, hN⟩ := hv
  have hx := B.exec
  have hb := B.bytes
  have hr := B.returns
  have hts := atoms_spec (ws := wsX1_gather) B.pre
  have hown : s.vm.findClass RX1 = some m.cls := findClass_of_methodNamed B.named
  have hlocks := B.notSynchronized
  subst hsz
  have hD := hD0.self (sz := s.heap.size)
  generalize hAe : va_A ([(o1, .inr (1, [.int v2, .ref o3, .ref o5, .ref o7, .ref o9, .int v11, .int v12, .int v13])), (o3, .inl (cI, 12, .inl fw4)), (o5, .inl (cI, 81, .inl fw6))]) s.heap.size = A at hD ⊢
  have hA : ∀ q : Nat, s.heap.size ≤ q → A q := fun q h => by rw [← hAe]; exact Or.inr h
  have hS : va_S A s.heap s.heap [] := va_S.rf
  have hP : va_P (dC, dI) vwCl ([(o1, .inr (1, [.int v2, .ref o3, .ref o5, .ref o7, .ref o9, .int v11, .int v12, .int v13])), (o3, .inl (cI, 12, .inl fw4)), (o5, .inl (cI, 81, .inl fw6))]) s.heap := hP
  have hl := lv_entry ([.ref o1, .int a1, .int a2, .int a3, .int 5]) (n := 7) (Nat.le_of_ble_eq_true rfl)
  rw [lg_entry_eq]
  generalize (lg_sl ([.ref o1, .int a1, .int a2, .int a3, .int 5]) ++ List.replicate (7 - (lg_sl ([.ref o1, .int a1, .int a2, .int a3, .int 5])).length) Slot.unset).toArray = ls at hl ⊢
  have hl : lv_has ls 7 [(0, .ref o1), (1, .int a1), (2, .int a2), (3, .int a3), (4, .int 5)] := hl
  refine gen_Q (fun Q hQ => ?_)
  refine lv_iload hx hb dX1_gather_0 (lv_at hl 4 rfl) ?_
  refine lv_bipush (v := 12) hx hb dX1_gather_2 (by decide) ?_
  refine lv_icmp_gt (tgt := 16) hx hb dX1_gather_4 (by decide) (fun h9 => absurd h9 (by decide +kernel)) (fun _ => ?_)
  refine lv_aload_n hx hb dX1_gather_7 rfl (lv_at hl 0 rfl) ?_
  refine lv_iload_n hx hb dX1_gather_8 rfl (lv_at hl 2 rfl) ?_
  refine lv_iload_n hx hb dX1_gather_9 rfl (lv_at hl 3 rfl) ?_
  refine kc_i (D := (dC, dI)) (S := Unit) (wc := [(o1, .inr (1, [.int v2, .ref o3, .ref o5, .ref o7, .ref o9, .int v11, .int v12, .int v13])), (o3, .inl (cI, 12, .inl fw4))]) (wr := [(o5, .inl (cI, 81, .inl fw6))]) (w1 := fun _ => [(o1, .inr (1, [.int v2, .ref o3, .ref o5, .ref o7, .ref o9, .int v11, .int v12, .int v13])), (o3, .inl (cI, 12, .inl fw4))]) (wn := fun _ => [(o1, .inr (1, [.int v2, .ref o3, .ref o5, .ref o7, .ref o9, .int v11, .int v12, .int v13])), (o3, .inl (cI, 12, .inl fw4)), (o5, .inl (cI, 81, .inl fw6))]) (fun hPc hDc => va_runV (As := [.int a2, .int a3]) (rest := []) ⟨hx, hb, hml, hown, hts⟩ (kX1_canNotBeGreat_1 l dC dI cI c2 cZ o1 o3 o5 o7 o9 v2 fw4 v11 v12 v13 a2 a3 s.heap.size v2_h fw4_b v11_h a2_h a3_h) (cwV 2 hts gX1_gather_X1_canNotBeGreat rfl rfl rfl (by decide +kernel) ⟨Nat.le_of_ble_eq_true rfl, Nat.le_of_ble_eq_true rfl⟩) (pre_V hPc hK hDc hN (ci := 1) (q0 := 0) rfl rfl) rfl rfl hl.1 rfl (lv_room (Nat.le_of_ble_eq_true rfl)) dX1_gather_10 ⟨Nat.le_of_ble_eq_true rfl, Nat.le_of_ble_eq_true rfl⟩) hP hD hS hA [0, 1] [2] [1, 2, 0] rfl rfl (by decide +kernel) (by decide +kernel) (by decide +kernel) (by decide +kernel) (fun _ => rfl) (fun x1 _ H locs hq hP hD hS => ?_)
  have x1_h := hq
  have hP : va_P (dC, dI) vwCl ([(o1, .inr (1, [.int v2, .ref o3, .ref o5, .ref o7, .ref o9, .int v11, .int v12, .int v13])), (o3, .inl (cI, 12, .inl fw4)), (o5, .inl (cI, 81, .inl fw6))]) H := hP
  have hD : va_D A ([(o1, .inr (1, [.int v2, .ref o3, .ref o5, .ref o7, .ref o9, .int v11, .int v12, .int v13])), (o3, .inl (cI, 12, .inl fw4)), (o5, .inl (cI, 81, .inl fw6))]) := hD
  refine lv_if_eq (tgt := 17) hx hb dX1_gather_13 (by decide) (fun h2 => ?_) (fun h2 => ?_)
  ·
    have j3 : Iv 0 0 x1 := r_eq h2 ik_0
    refine lv_iload_n hx hb dX1_gather_17 rfl (lv_at hl 2 rfl) ?_
    refine lv_if_ne (tgt := 27) hx hb dX1_gather_18 (by decide) (fun h4 => ?_) (fun h4 => ?_)
    ·
      have j5 : Iv 1 4095 a2 := r_nelo h4 a2_h ik_0 (by decide)
      refine lv_bipush (v := 31) hx hb dX1_gather_27 (by decide) ?_
      refine lv_iload_n hx hb dX1_gather_29 rfl (lv_at hl 2 rfl) ?_
      refine kc_i (D := (dC, dI)) (S := Unit) (wc := []) (wr := [(o1, .inr (1, [.int v2, .ref o3, .ref o5, .ref o7, .ref o9, .int v11, .int v12, .int v13])), (o3, .inl (cI, 12, .inl fw4)), (o5, .inl (cI, 81, .inl fw6))]) (w1 := fun _ => []) (wn := fun _ => [(o1, .inr (1, [.int v2, .ref o3, .ref o5, .ref o7, .ref o9, .int v11, .int v12, .int v13])), (o3, .inl (cI, 12, .inl fw4)), (o5, .inl (cI, 81, .inl fw6))]) (fun hPc hDc => va_runS (As := [.int a2]) (rest := [.int 31]) ⟨hx, hb, hml, hown, hts⟩ (kJ6_numberOfLeadingZeros_0f7a4_1 l dC dI cI c2 cZ a2 H.size j5) (va_cwS 1 hts gX1_gather_J6_numberOfLeadingZeros_0f7a4 rfl rfl rfl (by decide +kernel) ⟨Nat.le_of_ble_eq_true rfl, Nat.le_of_ble_eq_true rfl⟩) (pre_S hPc hK hDc hN) rfl rfl hl.1 rfl (lv_room (Nat.le_of_ble_eq_true rfl)) dX1_gather_30 ⟨Nat.le_of_ble_eq_true rfl, Nat.le_of_ble_eq_true rfl⟩) hP hD hS hA [] [0, 1, 2] [0, 1, 2] rfl rfl (by decide +kernel) (by decide +kernel) (by decide +kernel) (by decide +kernel) (fun _ => rfl) (fun x6 _ H locs hq hP hD hS => ?_)
      have x6_h := hq
      have hP : va_P (dC, dI) vwCl ([(o1, .inr (1, [.int v2, .ref o3, .ref o5, .ref o7, .ref o9, .int v11, .int v12, .int v13])), (o3, .inl (cI, 12, .inl fw4)), (o5, .inl (cI, 81, .inl fw6))]) H := hP
      have hD : va_D A ([(o1, .inr (1, [.int v2, .ref o3, .ref o5, .ref o7, .ref o9, .int v11, .int v12, .int v13])), (o3, .inl (cI, 12, .inl fw4)), (o5, .inl (cI, 81, .inl fw6))]) := hD
      refine lv_isub hx hb dX1_gather_33 (lv_topi (fun x7 x7_e => ?_))
      have x7_h : Iv 0 11 x7 := iv_e x7_e (iv_sub ik_31 x6_h (by decide))
      refine lv_istore (lv' := [(5, .int x7), (0, .ref o1), (1, .int a1), (2, .int a2), (3, .int a3), (4, .int 5)]) hx hb dX1_gather_34 hl (by decide) rfl (fun ls hl => ?_)
      refine lv_iload_n hx hb dX1_gather_36 rfl (lv_at hl 3 rfl) ?_
      refine lv_iconst (v := 1) hx hb dX1_gather_37 (by decide) ?_
      refine lv_iload hx hb dX1_gather_38 (lv_at hl 0 rfl) ?_
      refine lv_ishl hx hb dX1_gather_40 (lv_topi (fun x8 x8_e => ?_))
      have x8_h : Iv 1 2048 x8 := iv_e x8_e (iv_shl1 x7_h (by decide))
      refine lv_iconst (v := (-1)) hx hb dX1_gather_41 (by decide) ?_
      refine lv_ixor hx hb dX1_gather_42 (lv_topi (fun x9 x9_e => ?_))
      refine lv_iand hx hb dX1_gather_43 (lv_topi (fun x10 x10_e => ?_))
      have x10_h : Iv 0 4095 x10 := iv_e x10_e (iv_andL _ j5 (by decide))
      refine lv_istore (lv' := [(6, .int x10), (5, .int x7), (0, .ref o1), (1, .int a1), (2, .int a2), (3, .int a3), (4, .int 5)]) hx hb dX1_gather_44 hl (by decide) rfl (fun ls hl => ?_)
      refine lv_aload_n hx hb dX1_gather_46 rfl (lv_at hl 2 rfl) ?_
      refine lv_iload_n hx hb dX1_gather_47 rfl (lv_at hl 3 rfl) ?_
      refine lv_iload hx hb dX1_gather_48 (lv_at hl 0 rfl) ?_
      refine lv_iload_n hx hb dX1_gather_50 rfl (lv_at hl 5 rfl) ?_
      refine lv_iconst (v := 1) hx hb dX1_gather_51 (by decide) ?_
      refine lv_iload hx hb dX1_gather_52 (lv_at hl 1 rfl) ?_
      refine lv_ishl hx hb dX1_gather_54 (lv_topi (fun x11 x11_e => ?_))
      have x11_h : Iv 1 2048 x11 := iv_e x11_e (iv_shl1 x7_h (by decide))
      refine lv_ior hx hb dX1_gather_55 (lv_topi (fun x12 x12_e => ?_))
      have x12_h : Iv 0 4095 x12 := iv_e x12_e (iv_or 12 a3_h x11_h (by decide))
      refine lv_iload hx hb dX1_gather_56 (lv_at hl 6 rfl) ?_
      refine lv_iconst (v := 1) hx hb dX1_gather_58 (by decide) ?_
      refine lv_iadd hx hb dX1_gather_59 (tk_i (v := 6) (by decide +kernel) ?_)
      refine kc_v (D := (dC, dI)) (S := Int32 × (Nat → Int32)) (wc := [(o1, .inr (1, [.int v2, .ref o3, .ref o5, .ref o7, .ref o9, .int v11, .int v12, .int v13])), (o3, .inl (cI, 12, .inl fw4)), (o5, .inl (cI, 81, .inl fw6))]) (wr := []) (w1 := fun u => [(o1, .inr (1, [.int v2, .ref o3, .ref o5, .ref o7, .ref o9, .int u.1, .int v12, .int v13])), (o3, .inl (cI, 12, .inl fw4)), (o5, .inl (cI, 81, .inl u.2))]) (wn := fun u => [(o1, .inr (1, [.int v2, .ref o3, .ref o5, .ref o7, .ref o9, .int u.1, .int v12, .int v13])), (o3, .inl (cI, 12, .inl fw4)), (o5, .inl (cI, 81, .inl u.2))]) (fun hPc hDc => va_runS (As := [.ref o1, .int a1, .int x10, .int x12, .int 6]) (rest := []) ⟨hx, hb, hml, hown, hts⟩ (kX1_gather_8 l dC dI cI c2 cZ o1 o3 o5 o7 o9 v2 fw4 fw6 v11 v12 v13 a1 x10 x12 H.size v2_h fw4_b v11_h a1_h x10_h x12_h) (va_cwS 5 hts gX1_gather_X1_gather rfl rfl rfl (by decide +kernel) ⟨Nat.le_of_ble_eq_true rfl, Nat.le_of_ble_eq_true rfl⟩) (pre_S hPc hK hDc hN) rfl rfl hl.1 rfl (lv_room (Nat.le_of_ble_eq_true rfl)) dX1_gather_60 ⟨Nat.le_of_ble_eq_true rfl, Nat.le_of_ble_eq_true rfl⟩) hP hD hS hA [0, 1, 2] [] [0, 1, 2] rfl rfl (by decide +kernel) (by decide +kernel) (by decide +kernel) (by decide +kernel) (fun _ => rfl) (fun u H locs hq hP hD hS => ?_)
      obtain ⟨y13, f14⟩ := u
      have y13_h := hq
      have hP : va_P (dC, dI) vwCl ([(o1, .inr (1, [.int v2, .ref o3, .ref o5, .ref o7, .ref o9, .int y13, .int v12, .int v13])), (o3, .inl (cI, 12, .inl fw4)), (o5, .inl (cI, 81, .inl f14))]) H := hP
      have hD : va_D A ([(o1, .inr (1, [.int v2, .ref o3, .ref o5, .ref o7, .ref o9, .int y13, .int v12, .int v13])), (o3, .inl (cI, 12, .inl fw4)), (o5, .inl (cI, 81, .inl f14))]) := hD
      refine lv_aload_n hx hb dX1_gather_63 rfl (lv_at hl 2 rfl) ?_
      refine lv_iload_n hx hb dX1_gather_64 rfl (lv_at hl 3 rfl) ?_
      refine lv_iconst (v := 1) hx hb dX1_gather_65 (by decide) ?_
      refine lv_iload hx hb dX1_gather_66 (lv_at hl 1 rfl) ?_
      refine lv_ishl hx hb dX1_gather_68 (lv_topi (fun x15 x15_e => ?_))
      have x15_h : Iv 1 2048 x15 := iv_e x15_e (iv_shl1 x7_h (by decide))
      refine lv_ior hx hb dX1_gather_69 (lv_topi (fun x16 x16_e => ?_))
      have x16_h : Iv 0 4095 x16 := iv_e x16_e (iv_or 12 a1_h x15_h (by decide))
      refine lv_iload hx hb dX1_gather_70 (lv_at hl 0 rfl) ?_
      refine lv_aload_n hx hb dX1_gather_72 rfl (lv_at hl 2 rfl) ?_
      refine va_get (D := (dC, dI)) (ci := 1) (v := .ref o3) (C := RX1) (T := TX1) (N := 8) hx hb hts iw_X1_gather_X1 hown hK hP 0 rfl rfl 1 (by decide) (hts (.fieldLink RX1 9 "HolelessHouse$Cliques" "near" "[I") hm_X1_gather_1) (fun _ h9 => h9) rfl dX1_gather_73 ?_
      refine lv_iload hx hb dX1_gather_76 (lv_at hl 1 rfl) ?_
      refine va_iald hx hb hK hP 1 0 rfl rfl (vin_iv x7_h (by decide)) dX1_gather_78 (lv_topi (fun x17 x17_e => ?_))
      have x17_h : Iv 0 4095 x17 := iv_e x17_e (bd_at fw4_b (vin_iv x7_h (by decide)))
      refine lv_iand hx hb dX1_gather_79 (lv_topi (fun x18 x18_e => ?_))
      have x18_h : Iv 0 4095 x18 := iv_e x18_e (iv_andL _ x10_h (by decide))
      refine lv_iload_n hx hb dX1_gather_80 rfl (lv_at hl 5 rfl) ?_
      refine lv_aload_n hx hb dX1_gather_81 rfl (lv_at hl 2 rfl) ?_
      refine va_get (D := (dC, dI)) (ci := 1) (v := .ref o3) (C := RX1) (T := TX1) (N := 8) hx hb hts iw_X1_gather_X1 hown hK hP 0 rfl rfl 1 (by decide) (hts (.fieldLink RX1 9 "HolelessHouse$Cliques" "near" "[I") hm_X1_gather_1) (fun _ h9 => h9) rfl dX1_gather_82 ?_
      refine lv_iload hx hb dX1_gather_85 (lv_at hl 1 rfl) ?_
      refine va_iald hx hb hK hP 1 0 rfl rfl (vin_iv x7_h (by decide)) dX1_gather_87 (lv_topi (fun x19 x19_e => ?_))
      have x19_h : Iv 0 4095 x19 := iv_e x19_e (bd_at fw4_b (vin_iv x7_h (by decide)))
      refine lv_iand hx hb dX1_gather_88 (lv_topi (fun x20 x20_e => ?_))
      have x20_h : Iv 0 4095 x20 := iv_e x20_e (iv_andL _ a3_h (by decide))
      refine lv_iload hx hb dX1_gather_89 (lv_at hl 6 rfl) ?_
      refine lv_iconst (v := 1) hx hb dX1_gather_91 (by decide) ?_
      refine lv_iadd hx hb dX1_gather_92 (tk_i (v := 6) (by decide +kernel) ?_)
      refine kc_v (D := (dC, dI)) (S := Int32 × (Nat → Int32)) (wc := [(o1, .inr (1, [.int v2, .ref o3, .ref o5, .ref o7, .ref o9, .int y13, .int v12, .int v13])), (o3, .inl (cI, 12, .inl fw4)), (o5, .inl (cI, 81, .inl f14))]) (wr := []) (w1 := fun u => [(o1, .inr (1, [.int v2, .ref o3, .ref o5, .ref o7, .ref o9, .int u.1, .int v12, .int v13])), (o3, .inl (cI, 12, .inl fw4)), (o5, .inl (cI, 81, .inl u.2))]) (wn := fun u => [(o1, .inr (1, [.int v2, .ref o3, .ref o5, .ref o7, .ref o9, .int u.1, .int v12, .int v13])), (o3, .inl (cI, 12, .inl fw4)), (o5, .inl (cI, 81, .inl u.2))]) (fun hPc hDc => va_runS (As := [.ref o1, .int x16, .int x18, .int x20, .int 6]) (rest := []) ⟨hx, hb, hml, hown, hts⟩ (kX1_gather_8 l dC dI cI c2 cZ o1 o3 o5 o7 o9 v2 fw4 f14 y13 v12 v13 x16 x18 x20 H.size v2_h fw4_b y13_h x16_h x18_h x20_h) (va_cwS 5 hts gX1_gather_X1_gather rfl rfl rfl (by decide +kernel) ⟨Nat.le_of_ble_eq_true rfl, Nat.le_of_ble_eq_true rfl⟩) (pre_S hPc hK hDc hN) rfl rfl hl.1 rfl (lv_room (Nat.le_of_ble_eq_true rfl)) dX1_gather_93 ⟨Nat.le_of_ble_eq_true rfl, Nat.le_of_ble_eq_true rfl⟩) hP hD hS hA [0, 1, 2] [] [0, 1, 2] rfl rfl (by decide +kernel) (by decide +kernel) (by decide +kernel) (by decide +kernel) (fun _ => rfl) (fun u H locs hq hP hD hS => ?_)
      obtain ⟨y21, f22⟩ := u
      have y21_h := hq
      have hP : va_P (dC, dI) vwCl ([(o1, .inr (1, [.int v2, .ref o3, .ref o5, .ref o7, .ref o9, .int y21, .int v12, .int v13])), (o3, .inl (cI, 12, .inl fw4)), (o5, .inl (cI, 81, .inl f22))]) H := hP
      have hD : va_D A ([(o1, .inr (1, [.int v2, .ref o3, .ref o5, .ref o7, .ref o9, .int y21, .int v12, .int v13])), (o3, .inl (cI, 12, .inl fw4)), (o5, .inl (cI, 81, .inl f22))]) := hD
      rw [hQ]
      exact W.vret hx hb hr (fun t ht hW => ⟨⟨(y21, f22), rfl, y21_h, by rw [ht]; exact hP, va_K.moved hW.alike hK, hD⟩, hS.F ht⟩) hS.2.2 dX1_gather_96
    ·
      have j23 : Iv 0 0 a2 := r_eq h4 ik_0
      refine lv_aload_n hx hb dX1_gather_21 rfl (lv_at hl 0 rfl) ?_
      refine lv_iload_n hx hb dX1_gather_22 rfl (lv_at hl 1 rfl) ?_
      refine kc_v (D := (dC, dI)) (S := Int32 × (Nat → Int32)) (wc := [(o1, .inr (1, [.int v2, .ref o3, .ref o5, .ref o7, .ref o9, .int v11, .int v12, .int v13])), (o5, .inl (cI, 81, .inl fw6))]) (wr := [(o3, .inl (cI, 12, .inl fw4))]) (w1 := fun u => [(o1, .inr (1, [.int v2, .ref o3, .ref o5, .ref o7, .ref o9, .int u.1, .int v12, .int v13])), (o5, .inl (cI, 81, .inl u.2))]) (wn := fun u => [(o1, .inr (1, [.int v2, .ref o3, .ref o5, .ref o7, .ref o9, .int u.1, .int v12, .int v13])), (o3, .inl (cI, 12, .inl fw4)), (o5, .inl (cI, 81, .inl u.2))]) (fun hPc hDc => va_runV (As := [.int a1]) (rest := []) ⟨hx, hb, hml, hown, hts⟩ (kX1_keep_1 l dC dI cI c2 cZ o1 o3 o5 o7 o9 v2 fw6 v11 v12 v13 a1 H.size v2_h v11_h a1_h) (cwV 1 hts gX1_gather_X1_keep rfl rfl rfl (by decide +kernel) ⟨Nat.le_of_ble_eq_true rfl, Nat.le_of_ble_eq_true rfl⟩) (pre_V hPc hK hDc hN (ci := 1) (q0 := 0) rfl rfl) rfl rfl hl.1 rfl (lv_room (Nat.le_of_ble_eq_true rfl)) dX1_gather_23 ⟨Nat.le_of_ble_eq_true rfl, Nat.le_of_ble_eq_true rfl⟩) hP hD hS hA [0, 2] [1] [1, 0, 2] rfl rfl (by decide +kernel) (by decide +kernel) (by decide +kernel) (by decide +kernel) (fun _ => rfl) (fun u H locs hq hP hD hS => ?_)
      obtain ⟨y24, f25⟩ := u
      have y24_h := hq
      have hP : va_P (dC, dI) vwCl ([(o1, .inr (1, [.int v2, .ref o3, .ref o5, .ref o7, .ref o9, .int y24, .int v12, .int v13])), (o3, .inl (cI, 12, .inl fw4)), (o5, .inl (cI, 81, .inl f25))]) H := hP
      have hD : va_D A ([(o1, .inr (1, [.int v2, .ref o3, .ref o5, .ref o7, .ref o9, .int y24, .int v12, .int v13])), (o3, .inl (cI, 12, .inl fw4)), (o5, .inl (cI, 81, .inl f25))]) := hD
      rw [hQ]
      exact W.vret hx hb hr (fun t ht hW => ⟨⟨(y24, f25), rfl, y24_h, by rw [ht]; exact hP, va_K.moved hW.alike hK, hD⟩, hS.F ht⟩) hS.2.2 dX1_gather_26
  ·
    have j26 : Iv 1 1 x1 := r_nelo h2 x1_h ik_0 (by decide)
    rw [hQ]
    exact W.vret hx hb hr (fun t ht hW => ⟨⟨(v11, fw6), rfl, v11_h, by rw [ht]; exact hP, va_K.moved hW.alike hK, hD⟩, hS.F ht⟩) hS.2.2 dX1_gather_16
set_option maxHeartbeats 4000000 in
set_option maxRecDepth 100000 in
theorem kX1_gather_10 (l : Launch) (dC : Nat → ClassId) (dI : Nat → Nat → Nat) (cI c2 cZ : ClassId) (o1 : Nat) (o3 : Nat) (o5 : Nat) (o7 : Nat) (o9 : Nat) (v2 : Int32) (fw4 : Nat → Int32) (fw6 : Nat → Int32) (v11 : Int32) (v12 : Int32) (v13 : Int32) (a1 : Int32) (a2 : Int32) (a3 : Int32) (sz : Nat) (v2_h : Iv 0 1 v2) (fw4_b : Bd 12 0 4095 fw4) (v11_h : Iv 0 81 v11) (a1_h : Iv 0 4095 a1) (a2_h : Iv 0 4095 a2) (a3_h : Iv 0 4095 a3) : Met l yX1_gather wsX1_gather ({ frames := 10, cells := 0, slots := 0, locals := 252 }) (va_Pc [.ref o1, .int a1, .int a2, .int a3, .int 4] (wPre (dC, dI) [(cI, .int), (c2, .array .int), (cZ, .boolean)] ([(o1, .inr (1, [.int v2, .ref o3, .ref o5, .ref o7, .ref o9, .int v11, .int v12, .int v13])), (o3, .inl (cI, 12, .inl fw4)), (o5, .inl (cI, 81, .inl fw6))]) sz)) (va_Qv (fun (u : Int32 × (Nat → Int32)) => Iv 0 81 u.1) (fun u t => wPost (dC, dI) [(cI, .int), (c2, .array .int), (cZ, .boolean)] (va_A ([(o1, .inr (1, [.int v2, .ref o3, .ref o5, .ref o7, .ref o9, .int v11, .int v12, .int v13])), (o3, .inl (cI, 12, .inl fw4)), (o5, .inl (cI, 81, .inl fw6))]) sz) ([(o1, .inr (1, [.int v2, .ref o3, .ref o5, .ref o7, .ref o9, .int u.1, .int v12, .int v13])), (o3, .inl (cI, 12, .inl fw4)), (o5, .inl (cI, 81, .inl u.2))]) t) (va_A ([(o1, .inr (1, [.int v2, .ref o3, .ref o5, .ref o7, .ref o9, .int v11, .int v12, .int v13])), (o3, .inl (cI, 12, .inl fw4)), (o5, .inl (cI, 81, .inl fw6))]) sz)) 0 0 (va_A ([(o1, .inr (1, [.int v2, .ref o3, .ref o5, .ref o7, .ref o9, .int v11, .int v12, .int v13])), (o3, .inl (cI, 12, .inl fw4)), (o5, .inl (cI, 81, .inl fw6))]) sz) := by
  refine Met.ofW (cc := cX1_gather) (maxL := 7) (ret := none) (by decide) rfl ?_
  intro p e s m args below meth c s₁ B hml hv
  obtain ⟨rfl, hsz, hP, hK, hD0, hN⟩ := hv
  have hx := B.exec
  have hb := B.bytes
  have hr := B.returns
  have hts := atoms_spec (ws := wsX1_gather) B.pre
  have hown : s.vm.findClass RX1 = some m.cls := findClass_of_methodNamed B.named
  have hlocks := B.notSynchronized
  subst hsz
  have hD := hD0.self (sz := s.heap.size)
  generalize hAe : va_A ([(o1, .inr (1, [.int v2, .ref o3, .ref o5, .ref o7, .ref o9, .int v11, .int v12, .int v13])), (o3, .inl (cI, 12, .inl fw4)), (o5, .inl (cI, 81, .inl fw6))]) s.heap.size = A at hD ⊢
  have hA : ∀ q : Nat, s.heap.size ≤ q → A q := fun q h => by rw [← hAe]; exact Or.inr h
  have hS : va_S A s.heap s.heap [] := va_S.rf
  have hP : va_P (dC, dI) vwCl ([(o1, .inr (1, [.int v2, .ref o3, .ref o5, .ref o7, .ref o9, .int v11, .int v12, .int v13])), (o3, .inl (cI, 12, .inl fw4)), (o5, .inl (cI, 81, .inl fw6))]) s.heap := hP
  have hl := lv_entry ([.ref o1, .int a1, .int a2, .int a3, .int 4]) (n := 7) (Nat.le_of_ble_eq_true rfl)
  rw [lg_entry_eq]
  generalize (lg_sl ([.ref o1, .int a1, .int a2, .int a3, .int 4]) ++ List.replicate (7 - (lg_sl ([.ref o1, .int a1, .int a2, .int a3, .int 4])).length) Slot.unset).toArray = ls at hl ⊢
  have hl : lv_has ls 7 [(0, .ref o1), (1, .int a1), (2, .int a2), (3, .int a3), (4, .int 4)] := hl
  refine gen_Q (fun Q hQ => ?_)
  refine lv_iload hx hb dX1_gather_0 (lv_at hl 4 rfl) ?_
  refine lv_bipush (v := 12) hx hb dX1_gather_2 (by decide) ?_
  refine lv_icmp_gt (tgt := 16) hx hb dX1_gather_4 (by decide) (fun h9 => absurd h9 (by decide +kernel)) (fun _ => ?_)
  refine lv_aload_n hx hb dX1_gather_7 rfl (lv_at hl 0 rfl) ?_
  refine lv_iload_n hx hb dX1_gather_8 rfl (lv_at hl 2 rfl) ?_
  refine lv_iload_n hx hb dX1_gather_9 rfl (lv_at hl 3 rfl) ?_
  refine kc_i (D := (dC, dI)) (S := Unit) (wc := [(o1, .inr (1, [.int v2, .ref o3, .ref o5, .ref o7, .ref o9, .int v11, .int v12, .int v13])), (o3, .inl (cI, 12, .inl fw4))]) (wr := [(o5, .inl (cI, 81, .inl fw6))]) (w1 := fun _ => [(o1, .inr (1, [.int v2, .ref o3, .ref o5, .ref o7, .ref o9, .int v11, .int v12, .int v13])), (o3, .inl (cI, 12, .inl fw4))]) (wn := fun _ => [(o1, .inr (1, [.int v2, .ref o3, .ref o5, .ref o7, .ref o9, .int v11, .int v12, .int v13])), (o3, .inl (cI, 12, .inl fw4)), (o5, .inl (cI, 81, .inl fw6))]) (fun hPc hDc => va_runV (As := [.int a2, .int a3]) (rest := []) ⟨hx, hb, hml, hown, hts⟩ (kX1_canNotBeGreat_1 l dC dI cI c2 cZ o1 o3 o5 o7 o9 v2 fw4 v11 v12 v13 a2 a3 s.heap.size v2_h fw4_b v11_h a2_h a3_h) (cwV 2 hts gX1_gather_X1_canNotBeGreat rfl rfl rfl (by decide +kernel) ⟨Nat.le_of_ble_eq_true rfl, Nat.le_of_ble_eq_true rfl⟩) (pre_V hPc hK hDc hN (ci := 1) (q0 := 0) rfl rfl) rfl rfl hl.1 rfl (lv_room (Nat.le_of_ble_eq_true rfl)) dX1_gather_10 ⟨Nat.le_of_ble_eq_true rfl, Nat.le_of_ble_eq_true rfl⟩) hP hD hS hA [0, 1] [2] [1, 2, 0] rfl rfl (by decide +kernel) (by decide +kernel) (by decide +kernel) (by decide +kernel) (fun _ => rfl) (fun x1 _ H locs hq hP hD hS => ?_)
  have x1_h := hq
  have hP : va_P (dC, dI) vwCl ([(o1, .inr (1, [.int v2, .ref o3, .ref o5, .ref o7, .ref o9, .int v11, .int v12, .int v13])), (o3, .inl (cI, 12, .inl fw4)), (o5, .inl (cI, 81, .inl fw6))]) H := hP
  have hD : va_D A ([(o1, .inr (1, [.int v2, .ref o3, .ref o5, .ref o7, .ref o9, .int v11, .int v12, .int v13])), (o3, .inl (cI, 12, .inl fw4)), (o5, .inl (cI, 81, .inl fw6))]) := hD
  refine lv_if_eq (tgt := 17) hx hb dX1_gather_13 (by decide) (fun h2 => ?_) (fun h2 => ?_)
  ·
    have j3 : Iv 0 0 x1 := r_eq h2 ik_0
    refine lv_iload_n hx hb dX1_gather_17 rfl (lv_at hl 2 rfl) ?_
    refine lv_if_ne (tgt := 27) hx hb dX1_gather_18 (by decide) (fun h4 => ?_) (fun h4 => ?_)
    ·
      have j5 : Iv 1 4095 a2 := r_nelo h4 a2_h ik_0 (by decide)
      refine lv_bipush (v := 31) hx hb dX1_gather_27 (by decide) ?_
      refine lv_iload_n hx hb dX1_gather_29 rfl (lv_at hl 2 rfl) ?_
      refine kc_i (D := (dC, dI)) (S := Unit) (wc := []) (wr := [(o1, .inr (1, [.int v2, .ref o3, .ref o5, .ref o7, .ref o9, .int v11, .int v12, .int v13])), (o3, .inl (cI, 12, .inl fw4)), (o5, .inl (cI, 81, .inl fw6))]) (w1 := fun _ => []) (wn := fun _ => [(o1, .inr (1, [.int v2, .ref o3, .ref o5, .ref o7, .ref o9, .int v11, .int v12, .int v13])), (o3, .inl (cI, 12, .inl fw4)), (o5, .inl (cI, 81, .inl fw6))]) (fun hPc hDc => va_runS (As := [.int a2]) (rest := [.int 31]) ⟨hx, hb, hml, hown, hts⟩ (kJ6_numberOfLeadingZeros_0f7a4_1 l dC dI cI c2 cZ a2 H.size j5) (va_cwS 1 hts gX1_gather_J6_numberOfLeadingZeros_0f7a4 rfl rfl rfl (by decide +kernel) ⟨Nat.le_of_ble_eq_true rfl, Nat.le_of_ble_eq_true rfl⟩) (pre_S hPc hK hDc hN) rfl rfl hl.1 rfl (lv_room (Nat.le_of_ble_eq_true rfl)) dX1_gather_30 ⟨Nat.le_of_ble_eq_true rfl, Nat.le_of_ble_eq_true rfl⟩) hP hD hS hA [] [0, 1, 2] [0, 1, 2] rfl rfl (by decide +kernel) (by decide +kernel) (by decide +kernel) (by decide +kernel) (fun _ => rfl) (fun x6 _ H locs hq hP hD hS => ?_)
      have x6_h := hq
      have hP : va_P (dC, dI) vwCl ([(o1, .inr (1, [.int v2, .ref o3, .ref o5, .ref o7, .ref o9, .int v11, .int v12, .int v13])), (o3, .inl (cI, 12, .inl fw4)), (o5, .inl (cI, 81, .inl fw6))]) H := hP
      have hD : va_D A ([(o1, .inr (1, [.int v2, .ref o3, .ref o5, .ref o7, .ref o9, .int v11, .int v12, .int v13])), (o3, .inl (cI, 12, .inl fw4)), (o5, .inl (cI, 81, .inl fw6))]) := hD
      refine lv_isub hx hb dX1_gather_33 (lv_topi (fun x7 x7_e => ?_))
      have x7_h : Iv 0 11 x7 := iv_e x7_e (iv_sub ik_31 x6_h (by decide))
      refine lv_istore (lv' := [(5, .int x7), (0, .ref o1), (1, .int a1), (2, .int a2), (3, .int a3), (4, .int 4)]) hx hb dX1_gather_34 hl (by decide) rfl (fun ls hl => ?_)
      refine lv_iload_n hx hb dX1_gather_36 rfl (lv_at hl 3 rfl) ?_
      refine lv_iconst (v := 1) hx hb dX1_gather_37 (by decide) ?_
      refine lv_iload hx hb dX1_gather_38 (lv_at hl 0 rfl) ?_
      refine lv_ishl hx hb dX1_gather_40 (lv_topi (fun x8 x8_e => ?_))
      have x8_h : Iv 1 2048 x8 := iv_e x8_e (iv_shl1 x7_h (by decide))
      refine lv_iconst (v := (-1)) hx hb dX1_gather_41 (by decide) ?_
      refine lv_ixor hx hb dX1_gather_42 (lv_topi (fun x9 x9_e => ?_))
      refine lv_iand hx hb dX1_gather_43 (lv_topi (fun x10 x10_e => ?_))
      have x10_h : Iv 0 4095 x10 := iv_e x10_e (iv_andL _ j5 (by decide))
      refine lv_istore (lv' := [(6, .int x10), (5, .int x7), (0, .ref o1), (1, .int a1), (2, .int a2), (3, .int a3), (4, .int 4)]) hx hb dX1_gather_44 hl (by decide) rfl (fun ls hl => ?_)
      refine lv_aload_n hx hb dX1_gather_46 rfl (lv_at hl 2 rfl) ?_
      refine lv_iload_n hx hb dX1_gather_47 rfl (lv_at hl 3 rfl) ?_
      refine lv_iload hx hb dX1_gather_48 (lv_at hl 0 rfl) ?_
      refine lv_iload_n hx hb dX1_gather_50 rfl (lv_at hl 5 rfl) ?_
      refine lv_iconst (v := 1) hx hb dX1_gather_51 (by decide) ?_
      refine lv_iload hx hb dX1_gather_52 (lv_at hl 1 rfl) ?_
      refine lv_ishl hx hb dX1_gather_54 (lv_topi (fun x11 x11_e => ?_))
      have x11_h : Iv 1 2048 x11 := iv_e x11_e (iv_shl1 x7_h (by decide))
      refine lv_ior hx hb dX1_gather_55 (lv_topi (fun x12 x12_e => ?_))
      have x12_h : Iv 0 4095 x12 := iv_e x12_e (iv_or 12 a3_h x11_h (by decide))
      refine lv_iload hx hb dX1_gather_56 (lv_at hl 6 rfl) ?_
      refine lv_iconst (v := 1) hx hb dX1_gather_58 (by decide) ?_
      refine lv_iadd hx hb dX1_gather_59 (tk_i (v := 5) (by decide +kernel) ?_)
      refine kc_v (D := (dC, dI)) (S := Int32 × (Nat → Int32)) (wc := [(o1, .inr (1, [.int v2, .ref o3, .ref o5, .ref o7, .ref o9, .int v11, .int v12, .int v13])), (o3, .inl (cI, 12, .inl fw4)), (o5, .inl (cI, 81, .inl fw6))]) (wr := []) (w1 := fun u => [(o1, .inr (1, [.int v2, .ref o3, .ref o5, .ref o7, .ref o9, .int u.1, .int v12, .int v13])), (o3, .inl (cI, 12, .inl fw4)), (o5, .inl (cI, 81, .inl u.2))]) (wn := fun u => [(o1, .inr (1, [.int v2, .ref o3, .ref o5, .ref o7, .ref o9, .int u.1, .int v12, .int v13])), (o3, .inl (cI, 12, .inl fw4)), (o5, .inl (cI, 81, .inl u.2))]) (fun hPc hDc => va_runS (As := [.ref o1, .int a1, .int x10, .int x12, .int 5]) (rest := []) ⟨hx, hb, hml, hown, hts⟩ (kX1_gather_9 l dC dI cI c2 cZ o1 o3 o5 o7 o9 v2 fw4 fw6 v11 v12 v13 a1 x10 x12 H.size v2_h fw4_b v11_h a1_h x10_h x12_h) (va_cwS 5 hts gX1_gather_X1_gather rfl rfl rfl (by decide +kernel) ⟨Nat.le_of_ble_eq_true rfl, Nat.le_of_ble_eq_true rfl⟩) (pre_S hPc hK hDc hN) rfl rfl hl.1 rfl (lv_room (Nat.le_of_ble_eq_true rfl)) dX1_gather_60 ⟨Nat.le_of_ble_eq_true rfl, Nat.le_of_ble_eq_true rfl⟩) hP hD hS hA [0, 1, 2] [] [0, 1, 2] rfl rfl (by decide +kernel) (by decide +kernel) (by decide +kernel) (by decide +kernel) (fun _ => rfl) (fun u H locs hq hP hD hS => ?_)
      obtain ⟨y13, f14⟩ := u
      have y13_h := hq
      have hP : va_P (dC, dI) vwCl ([(o1, .inr (1, [.int v2, .ref o3, .ref o5, .ref o7, .ref o9, .int y13, .int v12, .int v13])), (o3, .inl (cI, 12, .inl fw4)), (o5, .inl (cI, 81, .inl f14))]) H := hP
      have hD : va_D A ([(o1, .inr (1, [.int v2, .ref o3, .ref o5, .ref o7, .ref o9, .int y13, .int v12, .int v13])), (o3, .inl (cI, 12, .inl fw4)), (o5, .inl (cI, 81, .inl f14))]) := hD
      refine lv_aload_n hx hb dX1_gather_63 rfl (lv_at hl 2 rfl) ?_
      refine lv_iload_n hx hb dX1_gather_64 rfl (lv_at hl 3 rfl) ?_
      refine lv_iconst (v := 1) hx hb dX1_gather_65 (by decide) ?_
      refine lv_iload hx hb dX1_gather_66 (lv_at hl 1 rfl) ?_
      refine lv_ishl hx hb dX1_gather_68 (lv_topi (fun x15 x15_e => ?_))
      have x15_h : Iv 1 2048 x15 := iv_e x15_e (iv_shl1 x7_h (by decide))
      refine lv_ior hx hb dX1_gather_69 (lv_topi (fun x16 x16_e => ?_))
      have x16_h : Iv 0 4095 x16 := iv_e x16_e (iv_or 12 a1_h x15_h (by decide))
      refine lv_iload hx hb dX1_gather_70 (lv_at hl 0 rfl) ?_
      refine lv_aload_n hx hb dX1_gather_72 rfl (lv_at hl 2 rfl) ?_
      refine va_get (D := (dC, dI)) (ci := 1) (v := .ref o3) (C := RX1) (T := TX1) (N := 8) hx hb hts iw_X1_gather_X1 hown hK hP 0 rfl rfl 1 (by decide) (hts (.fieldLink RX1 9 "HolelessHouse$Cliques" "near" "[I") hm_X1_gather_1) (fun _ h9 => h9) rfl dX1_gather_73 ?_
      refine lv_iload hx hb dX1_gather_76 (lv_at hl 1 rfl) ?_
      refine va_iald hx hb hK hP 1 0 rfl rfl (vin_iv x7_h (by decide)) dX1_gather_78 (lv_topi (fun x17 x17_e => ?_))
      have x17_h : Iv 0 4095 x17 := iv_e x17_e (bd_at fw4_b (vin_iv x7_h (by decide)))
      refine lv_iand hx hb dX1_gather_79 (lv_topi (fun x18 x18_e => ?_))
      have x18_h : Iv 0 4095 x18 := iv_e x18_e (iv_andL _ x10_h (by decide))
      refine lv_iload_n hx hb dX1_gather_80 rfl (lv_at hl 5 rfl) ?_
      refine lv_aload_n hx hb dX1_gather_81 rfl (lv_at hl 2 rfl) ?_
      refine va_get (D := (dC, dI)) (ci := 1) (v := .ref o3) (C := RX1) (T := TX1) (N := 8) hx hb hts iw_X1_gather_X1 hown hK hP 0 rfl rfl 1 (by decide) (hts (.fieldLink RX1 9 "HolelessHouse$Cliques" "near" "[I") hm_X1_gather_1) (fun _ h9 => h9) rfl dX1_gather_82 ?_
      refine lv_iload hx hb dX1_gather_85 (lv_at hl 1 rfl) ?_
      refine va_iald hx hb hK hP 1 0 rfl rfl (vin_iv x7_h (by decide)) dX1_gather_87 (lv_topi (fun x19 x19_e => ?_))
      have x19_h : Iv 0 4095 x19 := iv_e x19_e (bd_at fw4_b (vin_iv x7_h (by decide)))
      refine lv_iand hx hb dX1_gather_88 (lv_topi (fun x20 x20_e => ?_))
      have x20_h : Iv 0 4095 x20 := iv_e x20_e (iv_andL _ a3_h (by decide))
      refine lv_iload hx hb dX1_gather_89 (lv_at hl 6 rfl) ?_
      refine lv_iconst (v := 1) hx hb dX1_gather_91 (by decide) ?_
      refine lv_iadd hx hb dX1_gather_92 (tk_i (v := 5) (by decide +kernel) ?_)
      refine kc_v (D := (dC, dI)) (S := Int32 × (Nat → Int32)) (wc := [(o1, .inr (1, [.int v2, .ref o3, .ref o5, .ref o7, .ref o9, .int y13, .int v12, .int v13])), (o3, .inl (cI, 12, .inl fw4)), (o5, .inl (cI, 81, .inl f14))]) (wr := []) (w1 := fun u => [(o1, .inr (1, [.int v2, .ref o3, .ref o5, .ref o7, .ref o9, .int u.1, .int v12, .int v13])), (o3, .inl (cI, 12, .inl fw4)), (o5, .inl (cI, 81, .inl u.2))]) (wn := fun u => [(o1, .inr (1, [.int v2, .ref o3, .ref o5, .ref o7, .ref o9, .int u.1, .int v12, .int v13])), (o3, .inl (cI, 12, .inl fw4)), (o5, .inl (cI, 81, .inl u.2))]) (fun hPc hDc => va_runS (As := [.ref o1, .int x16, .int x18, .int x20, .int 5]) (rest := []) ⟨hx, hb, hml, hown, hts⟩ (kX1_gather_9 l dC dI cI c2 cZ o1 o3 o5 o7 o9 v2 fw4 f14 y13 v12 v13 x16 x18 x20 H.size v2_h fw4_b y13_h x16_h x18_h x20_h) (va_cwS 5 hts gX1_gather_X1_gather rfl rfl rfl (by decide +kernel) ⟨Nat.le_of_ble_eq_true rfl, Nat.le_of_ble_eq_true rfl⟩) (pre_S hPc hK hDc hN) rfl rfl hl.1 rfl (lv_room (Nat.le_of_ble_eq_true rfl)) dX1_gather_93 ⟨Nat.le_of_ble_eq_true rfl, Nat.le_of_ble_eq_true rfl⟩) hP hD hS hA [0, 1, 2] [] [0, 1, 2] rfl rfl (by decide +kernel) (by decide +kernel) (by decide +kernel) (by decide +kernel) (fun _ => rfl) (fun u H locs hq hP hD hS => ?_)
      obtain ⟨y21, f22⟩ := u
      have y21_h := hq
      have hP : va_P (dC, dI) vwCl ([(o1, .inr (1, [.int v2, .ref o3, .ref o5, .ref o7, .ref o9, .int y21, .int v12, .int v13])), (o3, .inl (cI, 12, .inl fw4)), (o5, .inl (cI, 81, .inl f22))]) H := hP
      have hD : va_D A ([(o1, .inr (1, [.int v2, .ref o3, .ref o5, .ref o7, .ref o9, .int y21, .int v12, .int v13])), (o3, .inl (cI, 12, .inl fw4)), (o5, .inl (cI, 81, .inl f22))]) := hD
      rw [hQ]
      exact W.vret hx hb hr (fun t ht hW => ⟨⟨(y21, f22), rfl, y21_h, by rw [ht]; exact hP, va_K.moved hW.alike hK, hD⟩, hS.F ht⟩) hS.2.2 dX1_gather_96
    ·
      have j23 : Iv 0 0 a2 := r_eq h4 ik_0
      refine lv_aload_n hx hb dX1_gather_21 rfl (lv_at hl 0 rfl) ?_
      refine lv_iload_n hx hb dX1_gather_22 rfl (lv_at hl 1 rfl) ?_
      refine kc_v (D := (dC, dI)) (S := Int32 × (Nat → Int32)) (wc := [(o1, .inr (1, [.int v2, .ref o3, .ref o5, .ref o7, .ref o9, .int v11, .int v12, .int v13])), (o5, .inl (cI, 81, .inl fw6))]) (wr := [(o3, .inl (cI, 12, .inl fw4))]) (w1 := fun u => [(o1, .inr (1, [.int v2, .ref o3, .ref o5, .ref o7, .ref o9, .int u.1, .int v12, .int v13])), (o5, .inl (cI, 81, .inl u.2))]) (wn := fun u => [(o1, .inr (1, [.int v2, .ref o3, .ref o5, .ref o7, .ref o9, .int u.1, .int v12, .int v13])), (o3, .inl (cI, 12, .inl fw4)), (o5, .inl (cI, 81, .inl u.2))]) (fun hPc hDc => va_runV (As := [.int a1]) (rest := []) ⟨hx, hb, hml, hown, hts⟩ (kX1_keep_1 l dC dI cI c2 cZ o1 o3 o5 o7 o9 v2 fw6 v11 v12 v13 a1 H.size v2_h v11_h a1_h) (cwV 1 hts gX1_gather_X1_keep rfl rfl rfl (by decide +kernel) ⟨Nat.le_of_ble_eq_true rfl, Nat.le_of_ble_eq_true rfl⟩) (pre_V hPc hK hDc hN (ci := 1) (q0 := 0) rfl rfl) rfl rfl hl.1 rfl (lv_room (Nat.le_of_ble_eq_true rfl)) dX1_gather_23 ⟨Nat.le_of_ble_eq_true rfl, Nat.le_of_ble_eq_true rfl⟩) hP hD hS hA [0, 2] [1] [1, 0, 2] rfl rfl (by decide +kernel) (by decide +kernel) (by decide +kernel) (by decide +kernel) (fun _ => rfl) (fun u H locs hq hP hD hS => ?_)
      obtain ⟨y24, f25⟩ := u
      have y24_h := hq
      have hP : va_P (dC, dI) vwCl ([(o1, .inr (1, [.int v2, .ref o3, .ref o5, .ref o7, .ref o9, .int y24, .int v12, .int v13])), (o3, .inl (cI, 12, .inl fw4)), (o5, .inl (cI, 81, .inl f25))]) H := hP
      have hD : va_D A ([(o1, .inr (1, [.int v2, .ref o3, .ref o5, .ref o7, .ref o9, .int y24, .int v12, .int v13])), (o3, .inl (cI, 12, .inl fw4)), (o5, .inl (cI, 81, .inl f25))]) := hD
      rw [hQ]
      exact W.vret hx hb hr (fun t ht hW => ⟨⟨(y24, f25), rfl, y24_h, by rw [ht]; exact hP, va_K.moved hW.alike hK, hD⟩, hS.F ht⟩) hS.2.2 dX1_gather_26
  ·
    have j26 : Iv 1 1 x1 := r_nelo h2 x1_h ik_0 (by decide)
    rw [hQ]
    exact W.vret hx hb hr (fun t ht hW => ⟨⟨(v11, fw6), rfl, v11_h, by rw [ht]; exact hP, va_K.moved hW.alike hK, hD⟩, hS.F ht⟩) hS.2.2 dX1_gather_16
set_option maxHeartbeats 4000000 in
set_option maxRecDepth 100000 in
theorem kX1_gather_11 (l : Launch) (dC : Nat → ClassId) (dI : Nat → Nat → Nat) (cI c2 cZ : ClassId) (o1 : Nat) (o3 : Nat) (o5 : Nat) (o7 : Nat) (o9 : Nat) (v2 : Int32) (fw4 : Nat → Int32) (fw6 : Nat → Int32) (v11 : Int32) (v12 : Int32) (v13 : Int32) (a1 : Int32) (a2 : Int32) (a3 : Int32) (sz : Nat) (v2_h : Iv 0 1 v2) (fw4_b : Bd 12 0 4095 fw4) (v11_h : Iv 0 81 v11) (a1_h : Iv 0 4095 a1) (a2_h : Iv 0 4095 a2) (a3_h : Iv 0 4095 a3) : Met l yX1_gather wsX1_gather ({ frames := 11, cells := 0, slots := 0, locals := 278 }) (va_Pc [.ref o1, .int a1, .int a2, .int a3, .int 3] (wPre (dC, dI) [(cI, .int), (c2, .array .int), (cZ, .boolean)] ([(o1, .inr (1, [.int v2, .ref o3, .ref o5, .ref o7, .ref o9, .int v11, .int v12, .int v13])), (o3, .inl (cI, 12, .inl fw4)), (o5, .inl (cI, 81, .inl fw6))]) sz)) (va_Qv (fun (u : Int32 × (Nat → Int32)) => Iv 0 81 u.1) (fun u t => wPost (dC, dI) [(cI, .int), (c2, .array .int), (cZ, .boolean)] (va_A ([(o1, .inr (1, [.int v2, .ref o3, .ref o5, .ref o7, .ref o9, .int v11, .int v12, .int v13])), (o3, .inl (cI, 12, .inl fw4)), (o5, .inl (cI, 81, .inl fw6))]) sz) ([(o1, .inr (1, [.int v2, .ref o3, .ref o5, .ref o7, .ref o9, .int u.1, .int v12, .int v13])), (o3, .inl (cI, 12, .inl fw4)), (o5, .inl (cI, 81, .inl u.2))]) t) (va_A ([(o1, .inr (1, [.int v2, .ref o3, .ref o5, .ref o7, .ref o9, .int v11, .int v12, .int v13])), (o3, .inl (cI, 12, .inl fw4)), (o5, .inl (cI, 81, .inl fw6))]) sz)) 0 0 (va_A ([(o1, .inr (1, [.int v2, .ref o3, .ref o5, .ref o7, .ref o9, .int v11, .int v12, .int v13])), (o3, .inl (cI, 12, .inl fw4)), (o5, .inl (cI, 81, .inl fw6))]) sz) := by
  refine Met.ofW (cc := cX1_gather) (maxL := 7) (ret := none) (by decide) rfl ?_
  intro p e s m args below meth c s₁ B hml hv
  obtain ⟨rfl, hsz, hP, hK, hD0, hN⟩ := hv
  have hx := B.exec
  have hb := B.bytes
  have hr := B.returns
  have hts := atoms_spec (ws := wsX1_gather) B.pre
  have hown : s.vm.findClass RX1 = some m.cls := findClass_of_methodNamed B.named
  have hlocks := B.notSynchronized
  subst hsz
  have hD := hD0.self (sz := s.heap.size)
  generalize hAe : va_A ([(o1, .inr (1, [.int v2, .ref o3, .ref o5, .ref o7, .ref o9, .int v11, .int v12, .int v13])), (o3, .inl (cI, 12, .inl fw4)), (o5, .inl (cI, 81, .inl fw6))]) s.heap.size = A at hD ⊢
  have hA : ∀ q : Nat, s.heap.size ≤ q → A q := fun q h => by rw [← hAe]; exact Or.inr h
  have hS : va_S A s.heap s.heap [] := va_S.rf
  have hP : va_P (dC, dI) vwCl ([(o1, .inr (1, [.int v2, .ref o3, .ref o5, .ref o7, .ref o9, .int v11, .int v12, .int v13])), (o3, .inl (cI, 12, .inl fw4)), (o5, .inl (cI, 81, .inl fw6))]) s.heap := hP
  have hl := lv_entry ([.ref o1, .int a1, .int a2, .int a3, .int 3]) (n := 7) (Nat.le_of_ble_eq_true rfl)
  rw [lg_entry_eq]
  generalize (lg_sl ([.ref o1, .int a1, .int a2, .int a3, .int 3]) ++ List.replicate (7 - (lg_sl ([.ref o1, .int a1, .int a2, .int a3, .int 3])).length) Slot.unset).toArray = ls at hl ⊢
  have hl : lv_has ls 7 [(0, .ref o1), (1, .int a1), (2, .int a2), (3, .int a3), (4, .int 3)] := hl
  refine gen_Q (fun Q hQ => ?_)
  refine lv_iload hx hb dX1_gather_0 (lv_at hl 4 rfl) ?_
  refine lv_bipush (v := 12) hx hb dX1_gather_2 (by decide) ?_
  refine lv_icmp_gt (tgt := 16) hx hb dX1_gather_4 (by decide) (fun h9 => absurd h9 (by decide +kernel)) (fun _ => ?_)
  refine lv_aload_n hx hb dX1_gather_7 rfl (lv_at hl 0 rfl) ?_
  refine lv_iload_n hx hb dX1_gather_8 rfl (lv_at hl 2 rfl) ?_
  refine lv_iload_n hx hb dX1_gather_9 rfl (lv_at hl 3 rfl) ?_
  refine kc_i (D := (dC, dI)) (S := Unit) (wc := [(o1, .inr (1, [.int v2, .ref o3, .ref o5, .ref o7, .ref o9, .int v11, .int v12, .int v13])), (o3, .inl (cI, 12, .inl fw4))]) (wr := [(o5, .inl (cI, 81, .inl fw6))]) (w1 := fun _ => [(o1, .inr (1, [.int v2, .ref o3, .ref o5, .ref o7, .ref o9, .int v11, .int v12, .int v13])), (o3, .inl (cI, 12, .inl fw4))]) (wn := fun _ => [(o1, .inr (1, [.int v2, .ref o3, .ref o5, .ref o7, .ref o9, .int v11, .int v12, .int v13])), (o3, .inl (cI, 12, .inl fw4)), (o5, .inl (cI, 81, .inl fw6))]) (fun hPc hDc => va_runV (As := [.int a2, .int a3]) (rest := []) ⟨hx, hb, hml, hown, hts⟩ (kX1_canNotBeGreat_1 l dC dI cI c2 cZ o1 o3 o5 o7 o9 v2 fw4 v11 v12 v13 a2 a3 s.heap.size v2_h fw4_b v11_h a2_h a3_h) (cwV 2 hts gX1_gather_X1_canNotBeGreat rfl rfl rfl (by decide +kernel) ⟨Nat.le_of_ble_eq_true rfl, Nat.le_of_ble_eq_true rfl⟩) (pre_V hPc hK hDc hN (ci := 1) (q0 := 0) rfl rfl) rfl rfl hl.1 rfl (lv_room (Nat.le_of_ble_eq_true rfl)) dX1_gather_10 ⟨Nat.le_of_ble_eq_true rfl, Nat.le_of_ble_eq_true rfl⟩) hP hD hS hA [0, 1] [2] [1, 2, 0] rfl rfl (by decide +kernel) (by decide +kernel) (by decide +kernel) (by decide +kernel) (fun _ => rfl) (fun x1 _ H locs hq hP hD hS => ?_)
  have x1_h := hq
  have hP : va_P (dC, dI) vwCl ([(o1, .inr (1, [.int v2, .ref o3, .ref o5, .ref o7, .ref o9, .int v11, .int v12, .int v13])), (o3, .inl (cI, 12, .inl fw4)), (o5, .inl (cI, 81, .inl fw6))]) H := hP
  have hD : va_D A ([(o1, .inr (1, [.int v2, .ref o3, .ref o5, .ref o7, .ref o9, .int v11, .int v12, .int v13])), (o3, .inl (cI, 12, .inl fw4)), (o5, .inl (cI, 81, .inl fw6))]) := hD
  refine lv_if_eq (tgt := 17) hx hb dX1_gather_13 (by decide) (fun h2 => ?_) (fun h2 => ?_)
  ·
    have j3 : Iv 0 0 x1 := r_eq h2 ik_0
    refine lv_iload_n hx hb dX1_gather_17 rfl (lv_at hl 2 rfl) ?_
    refine lv_if_ne (tgt := 27) hx hb dX1_gather_18 (by decide) (fun h4 => ?_) (fun h4 => ?_)
    ·
      have j5 : Iv 1 4095 a2 := r_nelo h4 a2_h ik_0 (by decide)
      refine lv_bipush (v := 31) hx hb dX1_gather_27 (by decide) ?_
      refine lv_iload_n hx hb dX1_gather_29 rfl (lv_at hl 2 rfl) ?_
      refine kc_i (D := (dC, dI)) (S := Unit) (wc := []) (wr := [(o1, .inr (1, [.int v2, .ref o3, .ref o5, .ref o7, .ref o9, .int v11, .int v12, .int v13])), (o3, .inl (cI, 12, .inl fw4)), (o5, .inl (cI, 81, .inl fw6))]) (w1 := fun _ => []) (wn := fun _ => [(o1, .inr (1, [.int v2, .ref o3, .ref o5, .ref o7, .ref o9, .int v11, .int v12, .int v13])), (o3, .inl (cI, 12, .inl fw4)), (o5, .inl (cI, 81, .inl fw6))]) (fun hPc hDc => va_runS (As := [.int a2]) (rest := [.int 31]) ⟨hx, hb, hml, hown, hts⟩ (kJ6_numberOfLeadingZeros_0f7a4_1 l dC dI cI c2 cZ a2 H.size j5) (va_cwS 1 hts gX1_gather_J6_numberOfLeadingZeros_0f7a4 rfl rfl rfl (by decide +kernel) ⟨Nat.le_of_ble_eq_true rfl, Nat.le_of_ble_eq_true rfl⟩) (pre_S hPc hK hDc hN) rfl rfl hl.1 rfl (lv_room (Nat.le_of_ble_eq_true rfl)) dX1_gather_30 ⟨Nat.le_of_ble_eq_true rfl, Nat.le_of_ble_eq_true rfl⟩) hP hD hS hA [] [0, 1, 2] [0, 1, 2] rfl rfl (by decide +kernel) (by decide +kernel) (by decide +kernel) (by decide +kernel) (fun _ => rfl) (fun x6 _ H locs hq hP hD hS => ?_)
      have x6_h := hq
      have hP : va_P (dC, dI) vwCl ([(o1, .inr (1, [.int v2, .ref o3, .ref o5, .ref o7, .ref o9, .int v11, .int v12, .int v13])), (o3, .inl (cI, 12, .inl fw4)), (o5, .inl (cI, 81, .inl fw6))]) H := hP
      have hD : va_D A ([(o1, .inr (1, [.int v2, .ref o3, .ref o5, .ref o7, .ref o9, .int v11, .int v12, .int v13])), (o3, .inl (cI, 12, .inl fw4)), (o5, .inl (cI, 81, .inl fw6))]) := hD
      refine lv_isub hx hb dX1_gather_33 (lv_topi (fun x7 x7_e => ?_))
      have x7_h : Iv 0 11 x7 := iv_e x7_e (iv_sub ik_31 x6_h (by decide))
      refine lv_istore (lv' := [(5, .int x7), (0, .ref o1), (1, .int a1), (2, .int a2), (3, .int a3), (4, .int 3)]) hx hb dX1_gather_34 hl (by decide) rfl (fun ls hl => ?_)
      refine lv_iload_n hx hb dX1_gather_36 rfl (lv_at hl 3 rfl) ?_
      refine lv_iconst (v := 1) hx hb dX1_gather_37 (by decide) ?_
      refine lv_iload hx hb dX1_gather_38 (lv_at hl 0 rfl) ?_
      refine lv_ishl hx hb dX1_gather_40 (lv_topi (fun x8 x8_e => ?_))
      have x8_h : Iv 1 2048 x8 := iv_e x8_e (iv_shl1 x7_h (by decide))
      refine lv_iconst (v := (-1)) hx hb dX1_gather_41 (by decide) ?_
      refine lv_ixor hx hb dX1_gather_42 (lv_topi (fun x9 x9_e => ?_))
      refine lv_iand hx hb dX1_gather_43 (lv_topi (fun x10 x10_e => ?_))
      have x10_h : Iv 0 4095 x10 := iv_e x10_e (iv_andL _ j5 (by decide))
      refine lv_istore (lv' := [(6, .int x10), (5, .int x7), (0, .ref o1), (1, .int a1), (2, .int a2), (3, .int a3), (4, .int 3)]) hx hb dX1_gather_44 hl (by decide) rfl (fun ls hl => ?_)
      refine lv_aload_n hx hb dX1_gather_46 rfl (lv_at hl 2 rfl) ?_
      refine lv_iload_n hx hb dX1_gather_47 rfl (lv_at hl 3 rfl) ?_
      refine lv_iload hx hb dX1_gather_48 (lv_at hl 0 rfl) ?_
      refine lv_iload_n hx hb dX1_gather_50 rfl (lv_at hl 5 rfl) ?_
      refine lv_iconst (v := 1) hx hb dX1_gather_51 (by decide) ?_
      refine lv_iload hx hb dX1_gather_52 (lv_at hl 1 rfl) ?_
      refine lv_ishl hx hb dX1_gather_54 (lv_topi (fun x11 x11_e => ?_))
      have x11_h : Iv 1 2048 x11 := iv_e x11_e (iv_shl1 x7_h (by decide))
      refine lv_ior hx hb dX1_gather_55 (lv_topi (fun x12 x12_e => ?_))
      have x12_h : Iv 0 4095 x12 := iv_e x12_e (iv_or 12 a3_h x11_h (by decide))
      refine lv_iload hx hb dX1_gather_56 (lv_at hl 6 rfl) ?_
      refine lv_iconst (v := 1) hx hb dX1_gather_58 (by decide) ?_
      refine lv_iadd hx hb dX1_gather_59 (tk_i (v := 4) (by decide +kernel) ?_)
      refine kc_v (D := (dC, dI)) (S := Int32 × (Nat → Int32)) (wc := [(o1, .inr (1, [.int v2, .ref o3, .ref o5, .ref o7, .ref o9, .int v11, .int v12, .int v13])), (o3, .inl (cI, 12, .inl fw4)), (o5, .inl (cI, 81, .inl fw6))]) (wr := []) (w1 := fun u => [(o1, .inr (1, [.int v2, .ref o3, .ref o5, .ref o7, .ref o9, .int u.1, .int v12, .int v13])), (o3, .inl (cI, 12, .inl fw4)), (o5, .inl (cI, 81, .inl u.2))]) (wn := fun u => [(o1, .inr (1, [.int v2, .ref o3, .ref o5, .ref o7, .ref o9, .int u.1, .int v12, .int v13])), (o3, .inl (cI, 12, .inl fw4)), (o5, .inl (cI, 81, .inl u.2))]) (fun hPc hDc => va_runS (As := [.ref o1, .int a1, .int x10, .int x12, .int 4]) (rest := []) ⟨hx, hb, hml, hown, hts⟩ (kX1_gather_10 l dC dI cI c2 cZ o1 o3 o5 o7 o9 v2 fw4 fw6 v11 v12 v13 a1 x10 x12 H.size v2_h fw4_b v11_h a1_h x10_h x12_h) (va_cwS 5 hts gX1_gather_X1_gather rfl rfl rfl (by decide +kernel) ⟨Nat.le_of_ble_eq_true rfl, Nat.le_of_ble_eq_true rfl⟩) (pre_S hPc hK hDc hN) rfl rfl hl.1 rfl (lv_room (Nat.le_of_ble_eq_true rfl)) dX1_gather_60 ⟨Nat.le_of_ble_eq_true rfl, Nat.le_of_ble_eq_true rfl⟩) hP hD hS hA [0, 1, 2] [] [0, 1, 2] rfl rfl (by decide +kernel) (by decide +kernel) (by decide +kernel) (by decide +kernel) (fun _ => rfl) (fun u H locs hq hP hD hS => ?_)
      obtain ⟨y13, f14⟩ := u
      have y13_h := hq
      have hP : va_P (dC, dI) vwCl ([(o1, .inr (1, [.int v2, .ref o3, .ref o5, .ref o7, .ref o9, .int y13, .int v12, .int v13])), (o3, .inl (cI, 12, .inl fw4)), (o5, .inl (cI, 81, .inl f14))]) H := hP
      have hD : va_D A ([(o1, .inr (1, [.int v2, .ref o3, .ref o5, .ref o7, .ref o9, .int y13, .int v12, .int v13])), (o3, .inl (cI, 12, .inl fw4)), (o5, .inl (cI, 81, .inl f14))]) := hD
      refine lv_aload_n hx hb dX1_gather_63 rfl (lv_at hl 2 rfl) ?_
      refine lv_iload_n hx hb dX1_gather_64 rfl (lv_at hl 3 rfl) ?_
      refine lv_iconst (v := 1) hx hb dX1_gather_65 (by decide) ?_
      refine lv_iload hx hb dX1_gather_66 (lv_at hl 1 rfl) ?_
      refine lv_ishl hx hb dX1_gather_68 (lv_topi (fun x15 x15_e => ?_))
      have x15_h : Iv 1 2048 x15 := iv_e x15_e (iv_shl1 x7_h (by decide))
      refine lv_ior hx hb dX1_gather_69 (lv_topi (fun x16 x16_e => ?_))
      have x16_h : Iv 0 4095 x16 := iv_e x16_e (iv_or 12 a1_h x15_h (by decide))
      refine lv_iload hx hb dX1_gather_70 (lv_at hl 0 rfl) ?_
      refine lv_aload_n hx hb dX1_gather_72 rfl (lv_at hl 2 rfl) ?_
      refine va_get (D := (dC, dI)) (ci := 1) (v := .ref o3) (C := RX1) (T := TX1) (N := 8) hx hb hts iw_X1_gather_X1 hown hK hP 0 rfl rfl 1 (by decide) (hts (.fieldLink RX1 9 "HolelessHouse$Cliques" "near" "[I") hm_X1_gather_1) (fun _ h9 => h9) rfl dX1_gather_73 ?_
      refine lv_iload hx hb dX1_gather_76 (lv_at hl 1 rfl) ?_
      refine va_iald hx hb hK hP 1 0 rfl rfl (vin_iv x7_h (by decide)) dX1_gather_78 (lv_topi (fun x17 x17_e => ?_))
      have x17_h : Iv 0 4095 x17 := iv_e x17_e (bd_at fw4_b (vin_iv x7_h (by decide)))
      refine lv_iand hx hb dX1_gather_79 (lv_topi (fun x18 x18_e => ?_))
      have x18_h : Iv 0 4095 x18 := iv_e x18_e (iv_andL _ x10_h (by decide))
      refine lv_iload_n hx hb dX1_gather_80 rfl (lv_at hl 5 rfl) ?_
      refine lv_aload_n hx hb dX1_gather_81 rfl (lv_at hl 2 rfl) ?_
      refine va_get (D := (dC, dI)) (ci := 1) (v := .ref o3) (C := RX1) (T := TX1) (N := 8) hx hb hts iw_X1_gather_X1 hown hK hP 0 rfl rfl 1 (by decide) (hts (.fieldLink RX1 9 "HolelessHouse$Cliques" "near" "[I") hm_X1_gather_1) (fun _ h9 => h9) rfl dX1_gather_82 ?_
      refine lv_iload hx hb dX1_gather_85 (lv_at hl 1 rfl) ?_
      refine va_iald hx hb hK hP 1 0 rfl rfl (vin_iv x7_h (by decide)) dX1_gather_87 (lv_topi (fun x19 x19_e => ?_))
      have x19_h : Iv 0 4095 x19 := iv_e x19_e (bd_at fw4_b (vin_iv x7_h (by decide)))
      refine lv_iand hx hb dX1_gather_88 (lv_topi (fun x20 x20_e => ?_))
      have x20_h : Iv 0 4095 x20 := iv_e x20_e (iv_andL _ a3_h (by decide))
      refine lv_iload hx hb dX1_gather_89 (lv_at hl 6 rfl) ?_
      refine lv_iconst (v := 1) hx hb dX1_gather_91 (by decide) ?_
      refine lv_iadd hx hb dX1_gather_92 (tk_i (v := 4) (by decide +kernel) ?_)
      refine kc_v (D := (dC, dI)) (S := Int32 × (Nat → Int32)) (wc := [(o1, .inr (1, [.int v2, .ref o3, .ref o5, .ref o7, .ref o9, .int y13, .int v12, .int v13])), (o3, .inl (cI, 12, .inl fw4)), (o5, .inl (cI, 81, .inl f14))]) (wr := []) (w1 := fun u => [(o1, .inr (1, [.int v2, .ref o3, .ref o5, .ref o7, .ref o9, .int u.1, .int v12, .int v13])), (o3, .inl (cI, 12, .inl fw4)), (o5, .inl (cI, 81, .inl u.2))]) (wn := fun u => [(o1, .inr (1, [.int v2, .ref o3, .ref o5, .ref o7, .ref o9, .int u.1, .int v12, .int v13])), (o3, .inl (cI, 12, .inl fw4)), (o5, .inl (cI, 81, .inl u.2))]) (fun hPc hDc => va_runS (As := [.ref o1, .int x16, .int x18, .int x20, .int 4]) (rest := []) ⟨hx, hb, hml, hown, hts⟩ (kX1_gather_10 l dC dI cI c2 cZ o1 o3 o5 o7 o9 v2 fw4 f14 y13 v12 v13 x16 x18 x20 H.size v2_h fw4_b y13_h x16_h x18_h x20_h) (va_cwS 5 hts gX1_gather_X1_gather rfl rfl rfl (by decide +kernel) ⟨Nat.le_of_ble_eq_true rfl, Nat.le_of_ble_eq_true rfl⟩) (pre_S hPc hK hDc hN) rfl rfl hl.1 rfl (lv_room (Nat.le_of_ble_eq_true rfl)) dX1_gather_93 ⟨Nat.le_of_ble_eq_true rfl, Nat.le_of_ble_eq_true rfl⟩) hP hD hS hA [0, 1, 2] [] [0, 1, 2] rfl rfl (by decide +kernel) (by decide +kernel) (by decide +kernel) (by decide +kernel) (fun _ => rfl) (fun u H locs hq hP hD hS => ?_)
      obtain ⟨y21, f22⟩ := u
      have y21_h := hq
      have hP : va_P (dC, dI) vwCl ([(o1, .inr (1, [.int v2, .ref o3, .ref o5, .ref o7, .ref o9, .int y21, .int v12, .int v13])), (o3, .inl (cI, 12, .inl fw4)), (o5, .inl (cI, 81, .inl f22))]) H := hP
      have hD : va_D A ([(o1, .inr (1, [.int v2, .ref o3, .ref o5, .ref o7, .ref o9, .int y21, .int v12, .int v13])), (o3, .inl (cI, 12, .inl fw4)), (o5, .inl (cI, 81, .inl f22))]) := hD
      rw [hQ]
      exact W.vret hx hb hr (fun t ht hW => ⟨⟨(y21, f22), rfl, y21_h, by rw [ht]; exact hP, va_K.moved hW.alike hK, hD⟩, hS.F ht⟩) hS.2.2 dX1_gather_96
    ·
      have j23 : Iv 0 0 a2 := r_eq h4 ik_0
      refine lv_aload_n hx hb dX1_gather_21 rfl (lv_at hl 0 rfl) ?_
      refine lv_iload_n hx hb dX1_gather_22 rfl (lv_at hl 1 rfl) ?_
      refine kc_v (D := (dC, dI)) (S := Int32 × (Nat → Int32)) (wc := [(o1, .inr (1, [.int v2, .ref o3, .ref o5, .ref o7, .ref o9, .int v11, .int v12, .int v13])), (o5, .inl (cI, 81, .inl fw6))]) (wr := [(o3, .inl (cI, 12, .inl fw4))]) (w1 := fun u => [(o1, .inr (1, [.int v2, .ref o3, .ref o5, .ref o7, .ref o9, .int u.1, .int v12, .int v13])), (o5, .inl (cI, 81, .inl u.2))]) (wn := fun u => [(o1, .inr (1, [.int v2, .ref o3, .ref o5, .ref o7, .ref o9, .int u.1, .int v12, .int v13])), (o3, .inl (cI, 12, .inl fw4)), (o5, .inl (cI, 81, .inl u.2))]) (fun hPc hDc => va_runV (As := [.int a1]) (rest := []) ⟨hx, hb, hml, hown, hts⟩ (kX1_keep_1 l dC dI cI c2 cZ o1 o3 o5 o7 o9 v2 fw6 v11 v12 v13 a1 H.size v2_h v11_h a1_h) (cwV 1 hts gX1_gather_X1_keep rfl rfl rfl (by decide +kernel) ⟨Nat.le_of_ble_eq_true rfl, Nat.le_of_ble_eq_true rfl⟩) (pre_V hPc hK hDc hN (ci := 1) (q0 := 0) rfl rfl) rfl rfl hl.1 rfl (lv_room (Nat.le_of_ble_eq_true rfl)) dX1_gather_23 ⟨Nat.le_of_ble_eq_true rfl, Nat.le_of_ble_eq_true rfl⟩) hP hD hS hA [0, 2] [1] [1, 0, 2] rfl rfl (by decide +kernel) (by decide +kernel) (by decide +kernel) (by decide +kernel) (fun _ => rfl) (fun u H locs hq hP hD hS => ?_)
      obtain ⟨y24, f25⟩ := u
      have y24_h := hq
      have hP : va_P (dC, dI) vwCl ([(o1, .inr (1, [.int v2, .ref o3, .ref o5, .ref o7, .ref o9, .int y24, .int v12, .int v13])), (o3, .inl (cI, 12, .inl fw4)), (o5, .inl (cI, 81, .inl f25))]) H := hP
      have hD : va_D A ([(o1, .inr (1, [.int v2, .ref o3, .ref o5, .ref o7, .ref o9, .int y24, .int v12, .int v13])), (o3, .inl (cI, 12, .inl fw4)), (o5, .inl (cI, 81, .inl f25))]) := hD
      rw [hQ]
      exact W.vret hx hb hr (fun t ht hW => ⟨⟨(y24, f25), rfl, y24_h, by rw [ht]; exact hP, va_K.moved hW.alike hK, hD⟩, hS.F ht⟩) hS.2.2 dX1_gather_26
  ·
    have j26 : Iv 1 1 x1 := r_nelo h2 x1_h ik_0 (by decide)
    rw [hQ]
    exact W.vret hx hb hr (fun t ht hW => ⟨⟨(v11, fw6), rfl, v11_h, by rw [ht]; exact hP, va_K.moved hW.alike hK, hD⟩, hS.F ht⟩) hS.2.2 dX1_gather_16
set_option maxHeartbeats 4000000 in
set_option maxRecDepth 100000 in
theorem kX1_gather_12 (l : Launch) (dC : Nat → ClassId) (dI : Nat → Nat → Nat) (cI c2 cZ : ClassId) (o1 : Nat) (o3 : Nat) (o5 : Nat) (o7 : Nat) (o9 : Nat) (v2 : Int32) (fw4 : Nat → Int32) (fw6 : Nat → Int32) (v11 : Int32) (v12 : Int32) (v13 : Int32) (a1 : Int32) (a2 : Int32) (a3 : Int32) (sz : Nat) (v2_h : Iv 0 1 v2) (fw4_b : Bd 12 0 4095 fw4) (v11_h : Iv 0 81 v11) (a1_h : Iv 0 4095 a1) (a2_h : Iv 0 4095 a2) (a3_h : Iv 0 4095 a3) : Met l yX1_gather wsX1_gather ({ frames := 12, cells := 0, slots := 0, locals := 304 }) (va_Pc [.ref o1, .int a1, .int a2, .int a3, .int 2] (wPre (dC, dI) [(cI, .int), (c2, .array .int), (cZ, .boolean)] ([(o1, .inr (1, [.int v2, .ref o3, .ref o5, .ref o7, .ref o9, .int v11, .int v12, .int v13])), (o3, .inl (cI, 12, .inl fw4)), (o5, .inl (cI, 81, .inl fw6))]) sz)) (va_Qv (fun (u : Int32 × (Nat → Int32)) => Iv 0 81 u.1) (fun u t => wPost (dC, dI) [(cI, .int), (c2, .array .int), (cZ, .boolean)] (va_A ([(o1, .inr (1, [.int v2, .ref o3, .ref o5, .ref o7, .ref o9, .int v11, .int v12, .int v13])), (o3, .inl (cI, 12, .inl fw4)), (o5, .inl (cI, 81, .inl fw6))]) sz) ([(o1, .inr (1, [.int v2, .ref o3, .ref o5, .ref o7, .ref o9, .int u.1, .int v12, .int v13])), (o3, .inl (cI, 12, .inl fw4)), (o5, .inl (cI, 81, .inl u.2))]) t) (va_A ([(o1, .inr (1, [.int v2, .ref o3, .ref o5, .ref o7, .ref o9, .int v11, .int v12, .int v13])), (o3, .inl (cI, 12, .inl fw4)), (o5, .inl (cI, 81, .inl fw6))]) sz)) 0 0 (va_A ([(o1, .inr (1, [.int v2, .ref o3, .ref o5, .ref o7, .ref o9, .int v11, .int v12, .int v13])), (o3, .inl (cI, 12, .inl fw4)), (o5, .inl (cI, 81, .inl fw6))]) sz) := by
  refine Met.ofW (cc := cX1_gather) (maxL := 7) (ret := none) (by decide) rfl ?_
  intro p e s m args below meth c s₁ B hml hv
  obtain ⟨rfl, hsz, hP, hK, hD0, hN⟩ := hv
  have hx := B.exec
  have hb := B.bytes
  have hr := B.returns
  have hts := atoms_spec (ws := wsX1_gather) B.pre
  have hown : s.vm.findClass RX1 = some m.cls := findClass_of_methodNamed B.named
  have hlocks := B.notSynchronized
  subst hsz
  have hD := hD0.self (sz := s.heap.size)
  generalize hAe : va_A ([(o1, .inr (1, [.int v2, .ref o3, .ref o5, .ref o7, .ref o9, .int v11, .int v12, .int v13])), (o3, .inl (cI, 12, .inl fw4)), (o5, .inl (cI, 81, .inl fw6))]) s.heap.size = A at hD ⊢
  have hA : ∀ q : Nat, s.heap.size ≤ q → A q := fun q h => by rw [← hAe]; exact Or.inr h
  have hS : va_S A s.heap s.heap [] := va_S.rf
  have hP : va_P (dC, dI) vwCl ([(o1, .inr (1, [.int v2, .ref o3, .ref o5, .ref o7, .ref o9, .int v11, .int v12, .int v13])), (o3, .inl (cI, 12, .inl fw4)), (o5, .inl (cI, 81, .inl fw6))]) s.heap := hP
  have hl := lv_entry ([.ref o1, .int a1, .int a2, .int a3, .int 2]) (n := 7) (Nat.le_of_ble_eq_true rfl)
  rw [lg_entry_eq]
  generalize (lg_sl ([.ref o1, .int a1, .int a2, .int a3, .int 2]) ++ List.replicate (7 - (lg_sl ([.ref o1, .int a1, .int a2, .int a3, .int 2])).length) Slot.unset).toArray = ls at hl ⊢
  have hl : lv_has ls 7 [(0, .ref o1), (1, .int a1), (2, .int a2), (3, .int a3), (4, .int 2)] := hl
  refine gen_Q (fun Q hQ => ?_)
  refine lv_iload hx hb dX1_gather_0 (lv_at hl 4 rfl) ?_
  refine lv_bipush (v := 12) hx hb dX1_gather_2 (by decide) ?_
  refine lv_icmp_gt (tgt := 16) hx hb dX1_gather_4 (by decide) (fun h9 => absurd h9 (by decide +kernel)) (fun _ => ?_)
  refine lv_aload_n hx hb dX1_gather_7 rfl (lv_at hl 0 rfl) ?_
  refine lv_iload_n hx hb dX1_gather_8 rfl (lv_at hl 2 rfl) ?_
  refine lv_iload_n hx hb dX1_gather_9 rfl (lv_at hl 3 rfl) ?_
  refine kc_i (D := (dC, dI)) (S := Unit) (wc := [(o1, .inr (1, [.int v2, .ref o3, .ref o5, .ref o7, .ref o9, .int v11, .int v12, .int v13])), (o3, .inl (cI, 12, .inl fw4))]) (wr := [(o5, .inl (cI, 81, .inl fw6))]) (w1 := fun _ => [(o1, .inr (1, [.int v2, .ref o3, .ref o5, .ref o7, .ref o9, .int v11, .int v12, .int v13])), (o3, .inl (cI, 12, .inl fw4))]) (wn := fun _ => [(o1, .inr (1, [.int v2, .ref o3, .ref o5, .ref o7, .ref o9, .int v11, .int v12, .int v13])), (o3, .inl (cI, 12, .inl fw4)), (o5, .inl (cI, 81, .inl fw6))]) (fun hPc hDc => va_runV (As := [.int a2, .int a3]) (rest := []) ⟨hx, hb, hml, hown, hts⟩ (kX1_canNotBeGreat_1 l dC dI cI c2 cZ o1 o3 o5 o7 o9 v2 fw4 v11 v12 v13 a2 a3 s.heap.size v2_h fw4_b v11_h a2_h a3_h) (cwV 2 hts gX1_gather_X1_canNotBeGreat rfl rfl rfl (by decide +kernel) ⟨Nat.le_of_ble_eq_true rfl, Nat.le_of_ble_eq_true rfl⟩) (pre_V hPc hK hDc hN (ci := 1) (q0 := 0) rfl rfl) rfl rfl hl.1 rfl (lv_room (Nat.le_of_ble_eq_true rfl)) dX1_gather_10 ⟨Nat.le_of_ble_eq_true rfl, Nat.le_of_ble_eq_true rfl⟩) hP hD hS hA [0, 1] [2] [1, 2, 0] rfl rfl (by decide +kernel) (by decide +kernel) (by decide +kernel) (by decide +kernel) (fun _ => rfl) (fun x1 _ H locs hq hP hD hS => ?_)
  have x1_h := hq
  have hP : va_P (dC, dI) vwCl ([(o1, .inr (1, [.int v2, .ref o3, .ref o5, .ref o7, .ref o9, .int v11, .int v12, .int v13])), (o3, .inl (cI, 12, .inl fw4)), (o5, .inl (cI, 81, .inl fw6))]) H := hP
  have hD : va_D A ([(o1, .inr (1, [.int v2, .ref o3, .ref o5, .ref o7, .ref o9, .int v11, .int v12, .int v13])), (o3, .inl (cI, 12, .inl fw4)), (o5, .inl (cI, 81, .inl fw6))]) := hD
  refine lv_if_eq (tgt := 17) hx hb dX1_gather_13 (by decide) (fun h2 => ?_) (fun h2 => ?_)
  ·
    have j3 : Iv 0 0 x1 := r_eq h2 ik_0
    refine lv_iload_n hx hb dX1_gather_17 rfl (lv_at hl 2 rfl) ?_
    refine lv_if_ne (tgt := 27) hx hb dX1_gather_18 (by decide) (fun h4 => ?_) (fun h4 => ?_)
    ·
      have j5 : Iv 1 4095 a2 := r_nelo h4 a2_h ik_0 (by decide)
      refine lv_bipush (v := 31) hx hb dX1_gather_27 (by decide) ?_
      refine lv_iload_n hx hb dX1_gather_29 rfl (lv_at hl 2 rfl) ?_
      refine kc_i (D := (dC, dI)) (S := Unit) (wc := []) (wr := [(o1, .inr (1, [.int v2, .ref o3, .ref o5, .ref o7, .ref o9, .int v11, .int v12, .int v13])), (o3, .inl (cI, 12, .inl fw4)), (o5, .inl (cI, 81, .inl fw6))]) (w1 := fun _ => []) (wn := fun _ => [(o1, .inr (1, [.int v2, .ref o3, .ref o5, .ref o7, .ref o9, .int v11, .int v12, .int v13])), (o3, .inl (cI, 12, .inl fw4)), (o5, .inl (cI, 81, .inl fw6))]) (fun hPc hDc => va_runS (As := [.int a2]) (rest := [.int 31]) ⟨hx, hb, hml, hown, hts⟩ (kJ6_numberOfLeadingZeros_0f7a4_1 l dC dI cI c2 cZ a2 H.size j5) (va_cwS 1 hts gX1_gather_J6_numberOfLeadingZeros_0f7a4 rfl rfl rfl (by decide +kernel) ⟨Nat.le_of_ble_eq_true rfl, Nat.le_of_ble_eq_true rfl⟩) (pre_S hPc hK hDc hN) rfl rfl hl.1 rfl (lv_room (Nat.le_of_ble_eq_true rfl)) dX1_gather_30 ⟨Nat.le_of_ble_eq_true rfl, Nat.le_of_ble_eq_true rfl⟩) hP hD hS hA [] [0, 1, 2] [0, 1, 2] rfl rfl (by decide +kernel) (by decide +kernel) (by decide +kernel) (by decide +kernel) (fun _ => rfl) (fun x6 _ H locs hq hP hD hS => ?_)
      have x6_h := hq
      have hP : va_P (dC, dI) vwCl ([(o1, .inr (1, [.int v2, .ref o3, .ref o5, .ref o7, .ref o9, .int v11, .int v12, .int v13])), (o3, .inl (cI, 12, .inl fw4)), (o5, .inl (cI, 81, .inl fw6))]) H := hP
      have hD : va_D A ([(o1, .inr (1, [.int v2, .ref o3, .ref o5, .ref o7, .ref o9, .int v11, .int v12, .int v13])), (o3, .inl (cI, 12, .inl fw4)), (o5, .inl (cI, 81, .inl fw6))]) := hD
      refine lv_isub hx hb dX1_gather_33 (lv_topi (fun x7 x7_e => ?_))
      have x7_h : Iv 0 11 x7 := iv_e x7_e (iv_sub ik_31 x6_h (by decide))
      refine lv_istore (lv' := [(5, .int x7), (0, .ref o1), (1, .int a1), (2, .int a2), (3, .int a3), (4, .int 2)]) hx hb dX1_gather_34 hl (by decide) rfl (fun ls hl => ?_)
      refine lv_iload_n hx hb dX1_gather_36 rfl (lv_at hl 3 rfl) ?_
      refine lv_iconst (v := 1) hx hb dX1_gather_37 (by decide) ?_
      refine lv_iload hx hb dX1_gather_38 (lv_at hl 0 rfl) ?_
      refine lv_ishl hx hb dX1_gather_40 (lv_topi (fun x8 x8_e => ?_))
      have x8_h : Iv 1 2048 x8 := iv_e x8_e (iv_shl1 x7_h (by decide))
      refine lv_iconst (v := (-1)) hx hb dX1_gather_41 (by decide) ?_
      refine lv_ixor hx hb dX1_gather_42 (lv_topi (fun x9 x9_e => ?_))
      refine lv_iand hx hb dX1_gather_43 (lv_topi (fun x10 x10_e => ?_))
      have x10_h : Iv 0 4095 x10 := iv_e x10_e (iv_andL _ j5 (by decide))
      refine lv_istore (lv' := [(6, .int x10), (5, .int x7), (0, .ref o1), (1, .int a1), (2, .int a2), (3, .int a3), (4, .int 2)]) hx hb dX1_gather_44 hl (by decide) rfl (fun ls hl => ?_)
      refine lv_aload_n hx hb dX1_gather_46 rfl (lv_at hl 2 rfl) ?_
      refine lv_iload_n hx hb dX1_gather_47 rfl (lv_at hl 3 rfl) ?_
      refine lv_iload hx hb dX1_gather_48 (lv_at hl 0 rfl) ?_
      refine lv_iload_n hx hb dX1_gather_50 rfl (lv_at hl 5 rfl) ?_
      refine lv_iconst (v := 1) hx hb dX1_gather_51 (by decide) ?_
      refine lv_iload hx hb dX1_gather_52 (lv_at hl 1 rfl) ?_
      refine lv_ishl hx hb dX1_gather_54 (lv_topi (fun x11 x11_e => ?_))
      have x11_h : Iv 1 2048 x11 := iv_e x11_e (iv_shl1 x7_h (by decide))
      refine lv_ior hx hb dX1_gather_55 (lv_topi (fun x12 x12_e => ?_))
      have x12_h : Iv 0 4095 x12 := iv_e x12_e (iv_or 12 a3_h x11_h (by decide))
      refine lv_iload hx hb dX1_gather_56 (lv_at hl 6 rfl) ?_
      refine lv_iconst (v := 1) hx hb dX1_gather_58 (by decide) ?_
      refine lv_iadd hx hb dX1_gather_59 (tk_i (v := 3) (by decide +kernel) ?_)
      refine kc_v (D := (dC, dI)) (S := Int32 × (Nat → Int32)) (wc := [(o1, .inr (1, [.int v2, .ref o3, .ref o5, .ref o7, .ref o9, .int v11, .int v12, .int v13])), (o3, .inl (cI, 12, .inl fw4)), (o5, .inl (cI, 81, .inl fw6))]) (wr := []) (w1 := fun u => [(o1, .inr (1, [.int v2, .ref o3, .ref o5, .ref o7, .ref o9, .int u.1, .int v12, .int v13])), (o3, .inl (cI, 12, .inl fw4)), (o5, .inl (cI, 81, .inl u.2))]) (wn := fun u => [(o1, .inr (1, [.int v2, .ref o3, .ref o5, .ref o7, .ref o9, .int u.1, .int v12, .int v13])), (o3, .inl (cI, 12, .inl fw4)), (o5, .inl (cI, 81, .inl u.2))]) (fun hPc hDc => va_runS (As := [.ref o1, .int a1, .int x10, .int x12, .int 3]) (rest := []) ⟨hx, hb, hml, hown, hts⟩ (kX1_gather_11 l dC dI cI c2 cZ o1 o3 o5 o7 o9 v2 fw4 fw6 v11 v12 v13 a1 x10 x12 H.size v2_h fw4_b v11_h a1_h x10_h x12_h) (va_cwS 5 hts gX1_gather_X1_gather rfl rfl rfl (by decide +kernel) ⟨Nat.le_of_ble_eq_true rfl, Nat.le_of_ble_eq_true rfl⟩) (pre_S hPc hK hDc hN) rfl rfl hl.1 rfl (lv_room (Nat.le_of_ble_eq_true rfl)) dX1_gather_60 ⟨Nat.le_of_ble_eq_true rfl, Nat.le_of_ble_eq_true rfl⟩) hP hD hS hA [0, 1, 2] [] [0, 1, 2] rfl rfl (by decide +kernel) (by decide +kernel) (by decide +kernel) (by decide +kernel) (fun _ => rfl) (fun u H locs hq hP hD hS => ?_)
      obtain ⟨y13, f14⟩ := u
      have y13_h := hq
      have hP : va_P (dC, dI) vwCl ([(o1, .inr (1, [.int v2, .ref o3, .ref o5, .ref o7, .ref o9, .int y13, .int v12, .int v13])), (o3, .inl (cI, 12, .inl fw4)), (o5, .inl (cI, 81, .inl f14))]) H := hP
      have hD : va_D A ([(o1, .inr (1, [.int v2, .ref o3, .ref o5, .ref o7, .ref o9, .int y13, .int v12, .int v13])), (o3, .inl (cI, 12, .inl fw4)), (o5, .inl (cI, 81, .inl f14))]) := hD
      refine lv_aload_n hx hb dX1_gather_63 rfl (lv_at hl 2 rfl) ?_
      refine lv_iload_n hx hb dX1_gather_64 rfl (lv_at hl 3 rfl) ?_
      refine lv_iconst (v := 1) hx hb dX1_gather_65 (by decide) ?_
      refine lv_iload hx hb dX1_gather_66 (lv_at hl 1 rfl) ?_
      refine lv_ishl hx hb dX1_gather_68 (lv_topi (fun x15 x15_e => ?_))
      have x15_h : Iv 1 2048 x15 := iv_e x15_e (iv_shl1 x7_h (by decide))
      refine lv_ior hx hb dX1_gather_69 (lv_topi (fun x16 x16_e => ?_))
      have x16_h : Iv 0 4095 x16 := iv_e x16_e (iv_or 12 a1_h x15_h (by decide))
      refine lv_iload hx hb dX1_gather_70 (lv_at hl 0 rfl) ?_
      refine lv_aload_n hx hb dX1_gather_72 rfl (lv_at hl 2 rfl) ?_
      refine va_get (D := (dC, dI)) (ci := 1) (v := .ref o3) (C := RX1) (T := TX1) (N := 8) hx hb hts iw_X1_gather_X1 hown hK hP 0 rfl rfl 1 (by decide) (hts (.fieldLink RX1 9 "HolelessHouse$Cliques" "near" "[I") hm_X1_gather_1) (fun _ h9 => h9) rfl dX1_gather_73 ?_
      refine lv_iload hx hb dX1_gather_76 (lv_at hl 1 rfl) ?_
      refine va_iald hx hb hK hP 1 0 rfl rfl (vin_iv x7_h (by decide)) dX1_gather_78 (lv_topi (fun x17 x17_e => ?_))
      have x17_h : Iv 0 4095 x17 := iv_e x17_e (bd_at fw4_b (vin_iv x7_h (by decide)))
      refine lv_iand hx hb dX1_gather_79 (lv_topi (fun x18 x18_e => ?_))
      have x18_h : Iv 0 4095 x18 := iv_e x18_e (iv_andL _ x10_h (by decide))
      refine lv_iload_n hx hb dX1_gather_80 rfl (lv_at hl 5 rfl) ?_
      refine lv_aload_n hx hb dX1_gather_81 rfl (lv_at hl 2 rfl) ?_
      refine va_get (D := (dC, dI)) (ci := 1) (v := .ref o3) (C := RX1) (T := TX1) (N := 8) hx hb hts iw_X1_gather_X1 hown hK hP 0 rfl rfl 1 (by decide) (hts (.fieldLink RX1 9 "HolelessHouse$Cliques" "near" "[I") hm_X1_gather_1) (fun _ h9 => h9) rfl dX1_gather_82 ?_
      refine lv_iload hx hb dX1_gather_85 (lv_at hl 1 rfl) ?_
      refine va_iald hx hb hK hP 1 0 rfl rfl (vin_iv x7_h (by decide)) dX1_gather_87 (lv_topi (fun x19 x19_e => ?_))
      have x19_h : Iv 0 4095 x19 := iv_e x19_e (bd_at fw4_b (vin_iv x7_h (by decide)))
      refine lv_iand hx hb dX1_gather_88 (lv_topi (fun x20 x20_e => ?_))
      have x20_h : Iv 0 4095 x20 := iv_e x20_e (iv_andL _ a3_h (by decide))
      refine lv_iload hx hb dX1_gather_89 (lv_at hl 6 rfl) ?_
      refine lv_iconst (v := 1) hx hb dX1_gather_91 (by decide) ?_
      refine lv_iadd hx hb dX1_gather_92 (tk_i (v := 3) (by decide +kernel) ?_)
      refine kc_v (D := (dC, dI)) (S := Int32 × (Nat → Int32)) (wc := [(o1, .inr (1, [.int v2, .ref o3, .ref o5, .ref o7, .ref o9, .int y13, .int v12, .int v13])), (o3, .inl (cI, 12, .inl fw4)), (o5, .inl (cI, 81, .inl f14))]) (wr := []) (w1 := fun u => [(o1, .inr (1, [.int v2, .ref o3, .ref o5, .ref o7, .ref o9, .int u.1, .int v12, .int v13])), (o3, .inl (cI, 12, .inl fw4)), (o5, .inl (cI, 81, .inl u.2))]) (wn := fun u => [(o1, .inr (1, [.int v2, .ref o3, .ref o5, .ref o7, .ref o9, .int u.1, .int v12, .int v13])), (o3, .inl (cI, 12, .inl fw4)), (o5, .inl (cI, 81, .inl u.2))]) (fun hPc hDc => va_runS (As := [.ref o1, .int x16, .int x18, .int x20, .int 3]) (rest := []) ⟨hx, hb, hml, hown, hts⟩ (kX1_gather_11 l dC dI cI c2 cZ o1 o3 o5 o7 o9 v2 fw4 f14 y13 v12 v13 x16 x18 x20 H.size v2_h fw4_b y13_h x16_h x18_h x20_h) (va_cwS 5 hts gX1_gather_X1_gather rfl rfl rfl (by decide +kernel) ⟨Nat.le_of_ble_eq_true rfl, Nat.le_of_ble_eq_true rfl⟩) (pre_S hPc hK hDc hN) rfl rfl hl.1 rfl (lv_room (Nat.le_of_ble_eq_true rfl)) dX1_gather_93 ⟨Nat.le_of_ble_eq_true rfl, Nat.le_of_ble_eq_true rfl⟩) hP hD hS hA [0, 1, 2] [] [0, 1, 2] rfl rfl (by decide +kernel) (by decide +kernel) (by decide +kernel) (by decide +kernel) (fun _ => rfl) (fun u H locs hq hP hD hS => ?_)
      obtain ⟨y21, f22⟩ := u
      have y21_h := hq
      have hP : va_P (dC, dI) vwCl ([(o1, .inr (1, [.int v2, .ref o3, .ref o5, .ref o7, .ref o9, .int y21, .int v12, .int v13])), (o3, .inl (cI, 12, .inl fw4)), (o5, .inl (cI, 81, .inl f22))]) H := hP
      have hD : va_D A ([(o1, .inr (1, [.int v2, .ref o3, .ref o5, .ref o7, .ref o9, .int y21, .int v12, .int v13])), (o3, .inl (cI, 12, .inl fw4)), (o5, .inl (cI, 81, .inl f22))]) := hD
      rw [hQ]
      exact W.vret hx hb hr (fun t ht hW => ⟨⟨(y21, f22), rfl, y21_h, by rw [ht]; exact hP, va_K.moved hW.alike hK, hD⟩, hS.F ht⟩) hS.2.2 dX1_gather_96
    ·
      have j23 : Iv 0 0 a2 := r_eq h4 ik_0
      refine lv_aload_n hx hb dX1_gather_21 rfl (lv_at hl 0 rfl) ?_
      refine lv_iload_n hx hb dX1_gather_22 rfl (lv_at hl 1 rfl) ?_
      refine kc_v (D := (dC, dI)) (S := Int32 × (Nat → Int32)) (wc := [(o1, .inr (1, [.int v2, .ref o3, .ref o5, .ref o7, .ref o9, .int v11, .int v12, .int v13])), (o5, .inl (cI, 81, .inl fw6))]) (wr := [(o3, .inl (cI, 12, .inl fw4))]) (w1 := fun u => [(o1, .inr (1, [.int v2, .ref o3, .ref o5, .ref o7, .ref o9, .int u.1, .int v12, .int v13])), (o5, .inl (cI, 81, .inl u.2))]) (wn := fun u => [(o1, .inr (1, [.int v2, .ref o3, .ref o5, .ref o7, .ref o9, .int u.1, .int v12, .int v13])), (o3, .inl (cI, 12, .inl fw4)), (o5, .inl (cI, 81, .inl u.2))]) (fun hPc hDc => va_runV (As := [.int a1]) (rest := []) ⟨hx, hb, hml, hown, hts⟩ (kX1_keep_1 l dC dI cI c2 cZ o1 o3 o5 o7 o9 v2 fw6 v11 v12 v13 a1 H.size v2_h v11_h a1_h) (cwV 1 hts gX1_gather_X1_keep rfl rfl rfl (by decide +kernel) ⟨Nat.le_of_ble_eq_true rfl, Nat.le_of_ble_eq_true rfl⟩) (pre_V hPc hK hDc hN (ci := 1) (q0 := 0) rfl rfl) rfl rfl hl.1 rfl (lv_room (Nat.le_of_ble_eq_true rfl)) dX1_gather_23 ⟨Nat.le_of_ble_eq_true rfl, Nat.le_of_ble_eq_true rfl⟩) hP hD hS hA [0, 2] [1] [1, 0, 2] rfl rfl (by decide +kernel) (by decide +kernel) (by decide +kernel) (by decide +kernel) (fun _ => rfl) (fun u H locs hq hP hD hS => ?_)
      obtain ⟨y24, f25⟩ := u
      have y24_h := hq
      have hP : va_P (dC, dI) vwCl ([(o1, .inr (1, [.int v2, .ref o3, .ref o5, .ref o7, .ref o9, .int y24, .int v12, .int v13])), (o3, .inl (cI, 12, .inl fw4)), (o5, .inl (cI, 81, .inl f25))]) H := hP
      have hD : va_D A ([(o1, .inr (1, [.int v2, .ref o3, .ref o5, .ref o7, .ref o9, .int y24, .int v12, .int v13])), (o3, .inl (cI, 12, .inl fw4)), (o5, .inl (cI, 81, .inl f25))]) := hD
      rw [hQ]
      exact W.vret hx hb hr (fun t ht hW => ⟨⟨(y24, f25), rfl, y24_h, by rw [ht]; exact hP, va_K.moved hW.alike hK, hD⟩, hS.F ht⟩) hS.2.2 dX1_gather_26
  ·
    have j26 : Iv 1 1 x1 := r_nelo h2 x1_h ik_0 (by decide)
    rw [hQ]
    exact W.vret hx hb hr (fun t ht hW => ⟨⟨(v11, fw6), rfl, v11_h, by rw [ht]; exact hP, va_K.moved hW.alike hK, hD⟩, hS.F ht⟩) hS.2.2 dX1_gather_16
