theorem hm_X1_bring_1 : (.fieldLink RX1 28 "HolelessHouse$Cliques" "madeFor" "I" : Cond) ∈ wsX1_bring := List.mem_of_getElem? (i := 1) rfl
theorem hm_X1_bring_2 : (.fieldLink RX1 24 "HolelessHouse$Cliques" "size" "I" : Cond) ∈ wsX1_bring := List.mem_of_getElem? (i := 2) rfl
theorem hm_X1_bring_6 : (.initialized RX4 : Cond) ∈ wsX1_bring := List.mem_of_getElem? (i := 6) rfl
theorem hm_X1_bring_5 : (.instanceMethod yX4_all : Cond) ∈ wsX1_bring := List.mem_of_getElem? (i := 5) rfl
theorem hm_X1_bring_7 : (.selects RX4 yX4_all yX4_all : Cond) ∈ wsX1_bring := List.mem_of_getElem? (i := 7) rfl
theorem hm_X1_bring_3 : (.fieldLink RX1 9 "HolelessHouse$Cliques" "near" "[I" : Cond) ∈ wsX1_bring := List.mem_of_getElem? (i := 3) rfl
theorem hm_X1_bring_4 : (.fieldLink RX1 34 "HolelessHouse$Cliques" "turned" "Z" : Cond) ∈ wsX1_bring := List.mem_of_getElem? (i := 4) rfl
theorem hm_X1_has_1 : (.fieldLink RX1 24 "HolelessHouse$Cliques" "size" "I" : Cond) ∈ wsX1_has := List.mem_of_getElem? (i := 1) rfl
theorem hm_X11_clique_1 : (.fieldLink RX11 42 "HolelessHouse" "cliques" "LHolelessHouse$Cliques;" : Cond) ∈ wsX11_clique := List.mem_of_getElem? (i := 1) rfl
theorem hm_X11_clique_2 : (.fieldLink RX11 10 "HolelessHouse" "graph" "LHolelessHouse$Graph;" : Cond) ∈ wsX11_clique := List.mem_of_getElem? (i := 2) rfl
theorem hm_X11_clique_4 : (.initialized RX1 : Cond) ∈ wsX11_clique := List.mem_of_getElem? (i := 4) rfl
theorem hm_X11_clique_3 : (.instanceMethod yX1_bring : Cond) ∈ wsX11_clique := List.mem_of_getElem? (i := 3) rfl
theorem hm_X11_clique_5 : (.selects RX1 yX1_bring yX1_bring : Cond) ∈ wsX11_clique := List.mem_of_getElem? (i := 5) rfl
theorem hm_X11_clique_36 : (.instanceMethod yX1_has : Cond) ∈ wsX11_clique := List.mem_of_getElem? (i := 36) rfl
theorem hm_X11_clique_37 : (.selects RX1 yX1_has yX1_has : Cond) ∈ wsX11_clique := List.mem_of_getElem? (i := 37) rfl
theorem hm_X1_widest_1 : (.fieldLink RX1 24 "HolelessHouse$Cliques" "size" "I" : Cond) ∈ wsX1_widest := List.mem_of_getElem? (i := 1) rfl
theorem hm_X1_widest_2 : (.fieldLink RX1 15 "HolelessHouse$Cliques" "sets" "[I" : Cond) ∈ wsX1_widest := List.mem_of_getElem? (i := 2) rfl
theorem hm_X11_greatest_1 : (.fieldLink RX11 42 "HolelessHouse" "cliques" "LHolelessHouse$Cliques;" : Cond) ∈ wsX11_greatest := List.mem_of_getElem? (i := 1) rfl
theorem hm_X11_greatest_2 : (.fieldLink RX11 10 "HolelessHouse" "graph" "LHolelessHouse$Graph;" : Cond) ∈ wsX11_greatest := List.mem_of_getElem? (i := 2) rfl
theorem hm_X11_greatest_4 : (.initialized RX1 : Cond) ∈ wsX11_greatest := List.mem_of_getElem? (i := 4) rfl
theorem hm_X11_greatest_3 : (.instanceMethod yX1_bring : Cond) ∈ wsX11_greatest := List.mem_of_getElem? (i := 3) rfl
theorem hm_X11_greatest_5 : (.selects RX1 yX1_bring yX1_bring : Cond) ∈ wsX11_greatest := List.mem_of_getElem? (i := 5) rfl
theorem hm_X11_greatest_36 : (.instanceMethod yX1_widest : Cond) ∈ wsX11_greatest := List.mem_of_getElem? (i := 36) rfl
theorem hm_X11_greatest_37 : (.selects RX1 yX1_widest yX1_widest : Cond) ∈ wsX11_greatest := List.mem_of_getElem? (i := 37) rfl
theorem hm_X4_isLoose_1 : (.fieldLink RX4 15 "HolelessHouse$Graph" "size" "I" : Cond) ∈ wsX4_isLoose := List.mem_of_getElem? (i := 1) rfl
theorem hm_X4_isLoose_4 : (.initialized RX11 : Cond) ∈ wsX4_isLoose := List.mem_of_getElem? (i := 4) rfl
theorem hm_X4_isLoose_3 : (.static yX11_in : Cond) ∈ wsX4_isLoose := List.mem_of_getElem? (i := 3) rfl
theorem hm_X4_isLoose_2 : (.fieldLink RX4 9 "HolelessHouse$Graph" "near" "[I" : Cond) ∈ wsX4_isLoose := List.mem_of_getElem? (i := 2) rfl
theorem hm_X11_sort_1 : (.fieldLink RX11 10 "HolelessHouse" "graph" "LHolelessHouse$Graph;" : Cond) ∈ wsX11_sort := List.mem_of_getElem? (i := 1) rfl
theorem hm_X11_sort_3 : (.initialized RX4 : Cond) ∈ wsX11_sort := List.mem_of_getElem? (i := 3) rfl
theorem hm_X11_sort_2 : (.instanceMethod yX4_all : Cond) ∈ wsX11_sort := List.mem_of_getElem? (i := 2) rfl
theorem hm_X11_sort_4 : (.selects RX4 yX4_all yX4_all : Cond) ∈ wsX11_sort := List.mem_of_getElem? (i := 4) rfl
theorem hm_X11_sort_7 : (.instanceMethod yX4_isClique : Cond) ∈ wsX11_sort := List.mem_of_getElem? (i := 7) rfl
theorem hm_X11_sort_8 : (.selects RX4 yX4_isClique yX4_isClique : Cond) ∈ wsX11_sort := List.mem_of_getElem? (i := 8) rfl
theorem hm_X11_sort_14 : (.instanceMethod yX4_isLoose : Cond) ∈ wsX11_sort := List.mem_of_getElem? (i := 14) rfl
theorem hm_X11_sort_15 : (.selects RX4 yX4_isLoose yX4_isLoose : Cond) ∈ wsX11_sort := List.mem_of_getElem? (i := 15) rfl
theorem hm_X7_paints_1 : (.fieldLink RX7 18 "HolelessHouse$Paint" "most" "I" : Cond) ∈ wsX7_paints := List.mem_of_getElem? (i := 1) rfl
theorem hm_X7_paints_2 : (.fieldLink RX7 15 "HolelessHouse$Paint" "worn" "[I" : Cond) ∈ wsX7_paints := List.mem_of_getElem? (i := 2) rfl
theorem hm_X7_paints_3 : (.fieldLink RX7 9 "HolelessHouse$Paint" "hues" "[I" : Cond) ∈ wsX7_paints := List.mem_of_getElem? (i := 3) rfl
theorem hm_X7_paints_4 : (.methodLink RX7 46 Lib.Math.max.name : Cond) ∈ wsX7_paints := List.mem_of_getElem? (i := 4) rfl
theorem hm_X7_paints_5 : (.static Lib.Math.max.name : Cond) ∈ wsX7_paints := List.mem_of_getElem? (i := 5) rfl
theorem hm_X7_paints_6 : (.initialized "java/lang/Math" : Cond) ∈ wsX7_paints := List.mem_of_getElem? (i := 6) rfl
theorem hm_X7_paints_7 : (.code Lib.Math.max.name Lib.Math.max.code 2 (some .int) : Cond) ∈ wsX7_paints := List.mem_of_getElem? (i := 7) rfl
set_option maxHeartbeats 4000000 in
set_option maxRecDepth 100000 in
theorem kX1_gather_13 (l : Launch) (dC : Nat → ClassId) (dI : Nat → Nat → Nat) (cI c2 cZ : ClassId) (o1 : Nat) (o3 : Nat) (o5 : Nat) (o7 : Nat) (o9 : Nat) (v2 : Int32) (fw4 : Nat → Int32) (fw6 : Nat → Int32) (v11 : Int32) (v12 : Int32) (v13 : Int32) (a1 : Int32) (a2 : Int32) (a3 : Int32) (sz : Nat) (v2_h : Iv 0 1 v2) (fw4_b : Bd 12 0 4095 fw4) (v11_h : Iv 0 81 v11) (a1_h : Iv 0 4095 a1) (a2_h : Iv 0 4095 a2) (a3_h : Iv 0 4095 a3) : Met l yX1_gather wsX1_gather ({ frames := 13, cells := 0, slots := 0, locals := 330 }) (va_Pc [.ref o1, .int a1, .int a2, .int a3, .int 1] (wPre (dC, dI) [(cI, .int), (c2, .array .int), (cZ, .boolean)] ([(o1, .inr (1, [.int v2, .ref o3, .ref o5, .ref o7, .ref o9, .int v11, .int v12, .int v13])), (o3, .inl (cI, 12, .inl fw4)), (o5, .inl (cI, 81, .inl fw6))]) sz)) (va_Qv (fun (u : Int32 × (Nat → Int32)) => Iv 0 81 u.1) (fun u t => wPost (dC, dI) [(cI, .int), (c2, .array .int), (cZ, .boolean)] (va_A ([(o1, .inr (1, [.int v2, .ref o3, .ref o5, .ref o7, .ref o9, .int v11, .int v12, .int v13])), (o3, .inl (cI, 12, .inl fw4)), (o5, .inl (cI, 81, .inl fw6))]) sz) ([(o1, .inr (1, [.int v2, .ref o3, .ref o5, .ref o7, .ref o9, .int u.1, .int v12, .int v13])), (o3, .inl (cI, 12, .inl fw4)), (o5, .inl (cI, 81, .inl u.2))]) t) (va_A ([(o1, .inr (1, [.int v2, .ref o3, .ref o5, .ref o7, .ref o9, .int v11, .int v12, .int v13])), (o3, .inl (cI, 12, .inl fw4)), (o5, .inl (cI, 81, .inl fw6))]) sz)) 0 0 (va_A ([(o1, .inr (1, [.int v2, .ref o3, .ref o5, .ref o7, .ref o9, .int v11, .int v12, .int v13])), (o3, .inl (cI, 12, .inl fw4)), (o5, .inl (cI, 81, .inl fw6))]) sz) := by
  refine Met.ofW (cc := cX1_gather) (maxL := 7) (ret := none) (by decide) rfl ?_
  intro p e s m args below meth c s₁ B hml hv
  obtain ⟨rfl, hsz, hP, hK, hD0, hN⟩ := hv
  have hx := B.exec
  have hb := B.bytes
  have hr := B.returns
  have hts := atoms_spec (ws := wsX1_gather) B.pre
  have hown : s.vm.findClass RX1 = some m.cls := findClass_of_methodNamed B.named
  have hlocks := B.notSynchronized
  subst hsz
  have hD := hD0.self (sz := s.heap.size)
  generalize hAe : va_A ([(o1, .inr (1, [.int v2, .ref o3, .ref o5, .ref o7, .ref o9, .int v11, .int v12, .int v13])), (o3, .inl (cI, 12, .inl fw4)), (o5, .inl (cI, 81, .inl fw6))]) s.heap.size = A at hD ⊢
  have hA : ∀ q : Nat, s.heap.size ≤ q → A q := fun q h => by rw [← hAe]; exact Or.inr h
  have hS : va_S A s.heap s.heap [] := va_S.rf
  have hP : va_P (dC, dI) vwCl ([(o1, .inr (1, [.int v2, .ref o3, .ref o5, .ref o7, .ref o9, .int v11, .int v12, .int v13])), (o3, .inl (cI, 12, .inl fw4)), (o5, .inl (cI, 81, .inl fw6))]) s.heap := hP
  have hl := lv_entry ([.ref o1, .int a1, .int a2, .int a3, .int 1]) (n := 7) (Nat.le_of_ble_eq_true rfl)
  rw [lg_entry_eq]
  generalize (lg_sl ([.ref o1, .int a1, .int a2, .int a3, .int 1]) ++ List.replicate (7 - (lg_sl ([.ref o1, .int a1, .int a2, .int a3, .int 1])).length) Slot.unset).toArray = ls at hl ⊢
  have hl : lv_has ls 7 [(0, .ref o1), (1, .int a1), (2, .int a2), (3, .int a3), (4, .int 1)] := hl
  refine gen_Q (fun Q hQ => ?_)
  refine lv_iload hx hb dX1_gather_0 (lv_at hl 4 rfl) ?_
  refine lv_bipush (v := 12) hx hb dX1_gather_2 (by decide) ?_
  refine lv_icmp_gt (tgt := 16) hx hb dX1_gather_4 (by decide) (fun h9 => absurd h9 (by decide +kernel)) (fun _ => ?_)
  refine lv_aload_n hx hb dX1_gather_7 rfl (lv_at hl 0 rfl) ?_
  refine lv_iload_n hx hb dX1_gather_8 rfl (lv_at hl 2 rfl) ?_
  refine lv_iload_n hx hb dX1_gather_9 rfl (lv_at hl 3 rfl) ?_
  refine kc_i (D := (dC, dI)) (S := Unit) (wc := [(o1, .inr (1, [.int v2, .ref o3, .ref o5, .ref o7, .ref o9, .int v11, .int v12, .int v13])), (o3, .inl (cI, 12, .inl fw4))]) (wr := [(o5, .inl (cI, 81, .inl fw6))]) (w1 := fun _ => [(o1, .inr (1, [.int v2, .ref o3, .ref o5, .ref o7, .ref o9, .int v11, .int v12, .int v13])), (o3, .inl (cI, 12, .inl fw4))]) (wn := fun _ => [(o1, .inr (1, [.int v2, .ref o3, .ref o5, .ref o7, .ref o9, .int v11, .int v12, .int v13])), (o3, .inl (cI, 12, .inl fw4)), (o5, .inl (cI, 81, .inl fw6))]) (fun hPc hDc => va_runV (As := [.int a2, .int a3]) (rest := []) ⟨hx, hb, hml, hown, hts⟩ (kX1_canNotBeGreat_1 l dC dI cI c2 cZ o1 o3 o5 o7 o9 v2 fw4 v11 v12 v13 a2 a3 s.heap.size v2_h fw4_b v11_h a2_h a3_h) (cwV 2 hts gX1_gather_X1_canNotBeGreat rfl rfl rfl (by decide +kernel) ⟨Nat.le_of_ble_eq_true rfl, Nat.le_of_ble_eq_true rfl⟩) (pre_V hPc hK hDc hN (ci := 1) (q0 := 0) rfl rfl) rfl rfl hl.1 rfl (lv_room (Nat.le_of_ble_eq_true rfl)) dX1_gather_10 ⟨Nat.le_of_ble_eq_true rfl, Nat.le_of_ble_eq_true rfl⟩) hP hD hS hA [0, 1] [2] [1, 2, 0] rfl rfl (by decide +kernel) (by decide +kernel) (by decide +kernel) (by decide +kernel) (fun _ => rfl) (fun x1 _ H locs hq hP hD hS => ?_)
  have x1_h := hq
  have hP : va_P (dC, dI) vwCl ([(o1, .inr (1, [.int v2, .ref o3, .ref o5, .ref o7, .ref o9, .int v11, .int v12, .int v13])), (o3, .inl (cI, 12, .inl fw4)), (o5, .inl (cI, 81, .inl fw6))]) H := hP
  have hD : va_D A ([(o1, .inr (1, [.int v2, .ref o3, .ref o5, .ref o7, .ref o9, .int v11, .int v12, .int v13])), (o3, .inl (cI, 12, .inl fw4)), (o5, .inl (cI, 81, .inl fw6))]) := hD
  refine lv_if_eq (tgt := 17) hx hb dX1_gather_13 (by decide) (fun h2 => ?_) (fun h2 => ?_)
  ·
    have j3 : Iv 0 0 x1 := r_eq h2 ik_0
    refine lv_iload_n hx hb dX1_gather_17 rfl (lv_at hl 2 rfl) ?_
    refine lv_if_ne (tgt := 27) hx hb dX1_gather_18 (by decide) (fun h4 => ?_) (fun h4 => ?_)
    ·
      have j5 : Iv 1 4095 a2 := r_nelo h4 a2_h ik_0 (by decide)
      refine lv_bipush (v := 31) hx hb dX1_gather_27 (by decide) ?_
      refine lv_iload_n hx hb dX1_gather_29 rfl (lv_at hl 2 rfl) ?_
      refine kc_i (D := (dC, dI)) (S := Unit) (wc := []) (wr := [(o1, .inr (1, [.int v2, .ref o3, .ref o5, .ref o7, .ref o9, .int v11, .int v12, .int v13])), (o3, .inl (cI, 12, .inl fw4)), (o5, .inl (cI, 81, .inl fw6))]) (w1 := fun _ => []) (wn := fun _ => [(o1, .inr (1, [.int v2, .ref o3, .ref o5, .ref o7, .ref o9, .int v11, .int v12, .int v13])), (o3, .inl (cI, 12, .inl fw4)), (o5, .inl (cI, 81, .inl fw6))]) (fun hPc hDc => va_runS (As := [.int a2]) (rest := [.int 31]) ⟨hx, hb, hml, hown, hts⟩ (kJ6_numberOfLeadingZeros_0f7a4_1 l dC dI cI c2 cZ a2 H.size j5) (va_cwS 1 hts gX1_gather_J6_numberOfLeadingZeros_0f7a4 rfl rfl rfl (by decide +kernel) ⟨Nat.le_of_ble_eq_true rfl, Nat.le_of_ble_eq_true rfl⟩) (pre_S hPc hK hDc hN) rfl rfl hl.1 rfl (lv_room (Nat.le_of_ble_eq_true rfl)) dX1_gather_30 ⟨Nat.le_of_ble_eq_true rfl, Nat.le_of_ble_eq_true rfl⟩) hP hD hS hA [] [0, 1, 2] [0, 1, 2] rfl rfl (by decide +kernel) (by decide +kernel) (by decide +kernel) (by decide +kernel) (fun _ => rfl) (fun x6 _ H locs hq hP hD hS => ?_)
      have x6_h := hq
      have hP : va_P (dC, dI) vwCl ([(o1, .inr (1, [.int v2, .ref o3, .ref o5, .ref o7, .ref o9, .int v11, .int v12, .int v13])), (o3, .inl (cI, 12, .inl fw4)), (o5, .inl (cI, 81, .inl fw6))]) H := hP
      have hD : va_D A ([(o1, .inr (1, [.int v2, .ref o3, .ref o5, .ref o7, .ref o9, .int v11, .int v12, .int v13])), (o3, .inl (cI, 12, .inl fw4)), (o5, .inl (cI, 81, .inl fw6))]) := hD
      refine lv_isub hx hb dX1_gather_33 (lv_topi (fun x7 x7_e => ?_))
      have x7_h : Iv 0 11 x7 := iv_e x7_e (iv_sub ik_31 x6_h (by decide))
      refine lv_istore (lv' := [(5, .int x7), (0, .ref o1), (1, .int a1), (2, .int a2), (3, .int a3), (4, .int 1)]) hx hb dX1_gather_34 hl (by decide) rfl (fun ls hl => ?_)
      refine lv_iload_n hx hb dX1_gather_36 rfl (lv_at hl 3 rfl) ?_
      refine lv_iconst (v := 1) hx hb dX1_gather_37 (by decide) ?_
      refine lv_iload hx hb dX1_gather_38 (lv_at hl 0 rfl) ?_
      refine lv_ishl hx hb dX1_gather_40 (lv_topi (fun x8 x8_e => ?_))
      have x8_h : Iv 1 2048 x8 := iv_e x8_e (iv_shl1 x7_h (by decide))
      refine lv_iconst (v := (-1)) hx hb dX1_gather_41 (by decide) ?_
      refine lv_ixor hx hb dX1_gather_42 (lv_topi (fun x9 x9_e => ?_))
      refine lv_iand hx hb dX1_gather_43 (lv_topi (fun x10 x10_e => ?_))
      have x10_h : Iv 0 4095 x10 := iv_e x10_e (iv_andL _ j5 (by decide))
      refine lv_istore (lv' := [(6, .int x10), (5, .int x7), (0, .ref o1), (1, .int a1), (2, .int a2), (3, .int a3), (4, .int 1)]) hx hb dX1_gather_44 hl (by decide) rfl (fun ls hl => ?_)
      refine lv_aload_n hx hb dX1_gather_46 rfl (lv_at hl 2 rfl) ?_
      refine lv_iload_n hx hb dX1_gather_47 rfl (lv_at hl 3 rfl) ?_
      refine lv_iload hx hb dX1_gather_48 (lv_at hl 0 rfl) ?_
      refine lv_iload_n hx hb dX1_gather_50 rfl (lv_at hl 5 rfl) ?_
      refine lv_iconst (v := 1) hx hb dX1_gather_51 (by decide) ?_
      refine lv_iload hx hb dX1_gather_52 (lv_at hl 1 rfl) ?_
      refine lv_ishl hx hb dX1_gather_54 (lv_topi (fun x11 x11_e => ?_))
      have x11_h : Iv 1 2048 x11 := iv_e x11_e (iv_shl1 x7_h (by decide))
      refine lv_ior hx hb dX1_gather_55 (lv_topi (fun x12 x12_e => ?_))
      have x12_h : Iv 0 4095 x12 := iv_e x12_e (iv_or 12 a3_h x11_h (by decide))
      refine lv_iload hx hb dX1_gather_56 (lv_at hl 6 rfl) ?_
      refine lv_iconst (v := 1) hx hb dX1_gather_58 (by decide) ?_
      refine lv_iadd hx hb dX1_gather_59 (tk_i (v := 2) (by decide +kernel) ?_)
      refine kc_v (D := (dC, dI)) (S := Int32 × (Nat → Int32)) (wc := [(o1, .inr (1, [.int v2, .ref o3, .ref o5, .ref o7, .ref o9, .int v11, .int v12, .int v13])), (o3, .inl (cI, 12, .inl fw4)), (o5, .inl (cI, 81, .inl fw6))]) (wr := []) (w1 := fun u => [(o1, .inr (1, [.int v2, .ref o3, .ref o5, .ref o7, .ref o9, .int u.1, .int v12, .int v13])), (o3, .inl (cI, 12, .inl fw4)), (o5, .inl (cI, 81, .inl u.2))]) (wn := fun u => [(o1, .inr (1, [.int v2, .ref o3, .ref o5, .ref o7, .ref o9, .int u.1, .int v12, .int v13])), (o3, .inl (cI, 12, .inl fw4)), (o5, .inl (cI, 81, .inl u.2))]) (fun hPc hDc => va_runS (As := [.ref o1, .int a1, .int x10, .int x12, .int 2]) (rest := []) ⟨hx, hb, hml, hown, hts⟩ (kX1_gather_12 l dC dI cI c2 cZ o1 o3 o5 o7 o9 v2 fw4 fw6 v11 v12 v13 a1 x10 x12 H.size v2_h fw4_b v11_h a1_h x10_h x12_h) (va_cwS 5 hts gX1_gather_X1_gather rfl rfl rfl (by decide +kernel) ⟨Nat.le_of_ble_eq_true rfl, Nat.le_of_ble_eq_true rfl⟩) (pre_S hPc hK hDc hN) rfl rfl hl.1 rfl (lv_room (Nat.le_of_ble_eq_true rfl)) dX1_gather_60 ⟨Nat.le_of_ble_eq_true rfl, Nat.le_of_ble_eq_true rfl⟩) hP hD hS hA [0, 1, 2] [] [0, 1, 2] rfl rfl (by decide +kernel) (by decide +kernel) (by decide +kernel) (by decide +kernel) (fun _ => rfl) (fun u H locs hq hP hD hS => ?_)
      obtain ⟨y13, f14⟩ := u
      have y13_h := hq
      have hP : va_P (dC, dI) vwCl ([(o1, .inr (1, [.int v2, .ref o3, .ref o5, .ref o7, .ref o9, .int y13, .int v12, .int v13])), (o3, .inl (cI, 12, .inl fw4)), (o5, .inl (cI, 81, .inl f14))]) H := hP
      have hD : va_D A ([(o1, .inr (1, [.int v2, .ref o3, .ref o5, .ref o7, .ref o9, .int y13, .int v12, .int v13])), (o3, .inl (cI, 12, .inl fw4)), (o5, .inl (cI, 81, .inl f14))]) := hD
      refine lv_aload_n hx hb dX1_gather_63 rfl (lv_at hl 2 rfl) ?_
      refine lv_iload_n hx hb dX1_gather_64 rfl (lv_at hl 3 rfl) ?_
      refine lv_iconst (v := 1) hx hb dX1_gather_65 (by decide) ?_
      refine lv_iload hx hb dX1_gather_66 (lv_at hl 1 rfl) ?_
      refine lv_ishl hx hb dX1_gather_68 (lv_topi (fun x15 x15_e => ?_))
      have x15_h : Iv 1 2048 x15 := iv_e x15_e (iv_shl1 x7_h (by decide))
      refine lv_ior hx hb dX1_gather_69 (lv_topi (fun x16 x16_e => ?_))
      have x16_h : Iv 0 4095 x16 := iv_e x16_e (iv_or 12 a1_h x15_h (by decide))
      refine lv_iload hx hb dX1_gather_70 (lv_at hl 0 rfl) ?_
      refine lv_aload_n hx hb dX1_gather_72 rfl (lv_at hl 2 rfl) ?_
      refine va_get (D := (dC, dI)) (ci := 1) (v := .ref o3) (C := RX1) (T := TX1) (N := 8) hx hb hts iw_X1_gather_X1 hown hK hP 0 rfl rfl 1 (by decide) (hts (.fieldLink RX1 9 "HolelessHouse$Cliques" "near" "[I") hm_X1_gather_1) (fun _ h9 => h9) rfl dX1_gather_73 ?_
      refine lv_iload hx hb dX1_gather_76 (lv_at hl 1 rfl) ?_
      refine va_iald hx hb hK hP 1 0 rfl rfl (vin_iv x7_h (by decide)) dX1_gather_78 (lv_topi (fun x17 x17_e => ?_))
      have x17_h : Iv 0 4095 x17 := iv_e x17_e (bd_at fw4_b (vin_iv x7_h (by decide)))
      refine lv_iand hx hb dX1_gather_79 (lv_topi (fun x18 x18_e => ?_))
      have x18_h : Iv 0 4095 x18 := iv_e x18_e (iv_andL _ x10_h (by decide))
      refine lv_iload_n hx hb dX1_gather_80 rfl (lv_at hl 5 rfl) ?_
      refine lv_aload_n hx hb dX1_gather_81 rfl (lv_at hl 2 rfl) ?_
      refine va_get (D := (dC, dI)) (ci := 1) (v := .ref o3) (C := RX1) (T := TX1) (N := 8) hx hb hts iw_X1_gather_X1 hown hK hP 0 rfl rfl 1 (by decide) (hts (.fieldLink RX1 9 "HolelessHouse$Cliques" "near" "[I") hm_X1_gather_1) (fun _ h9 => h9) rfl dX1_gather_82 ?_
      refine lv_iload hx hb dX1_gather_85 (lv_at hl 1 rfl) ?_
      refine va_iald hx hb hK hP 1 0 rfl rfl (vin_iv x7_h (by decide)) dX1_gather_87 (lv_topi (fun x19 x19_e => ?_))
      have x19_h : Iv 0 4095 x19 := iv_e x19_e (bd_at fw4_b (vin_iv x7_h (by decide)))
      refine lv_iand hx hb dX1_gather_88 (lv_topi (fun x20 x20_e => ?_))
      have x20_h : Iv 0 4095 x20 := iv_e x20_e (iv_andL _ a3_h (by decide))
      refine lv_iload hx hb dX1_gather_89 (lv_at hl 6 rfl) ?_
      refine lv_iconst (v := 1) hx hb dX1_gather_91 (by decide) ?_
      refine lv_iadd hx hb dX1_gather_92 (tk_i (v := 2) (by decide +kernel) ?_)
      refine kc_v (D := (dC, dI)) (S := Int32 × (Nat → Int32)) (wc := [(o1, .inr (1, [.int v2, .ref o3, .ref o5, .ref o7, .ref o9, .int y13, .int v12, .int v13])), (o3, .inl (cI, 12, .inl fw4)), (o5, .inl (cI, 81, .inl f14))]) (wr := []) (w1 := fun u => [(o1, .inr (1, [.int v2, .ref o3, .ref o5, .ref o7, .ref o9, .int u.1, .int v12, .int v13])), (o3, .inl (cI, 12, .inl fw4)), (o5, .inl (cI, 81, .inl u.2))]) (wn := fun u => [(o1, .inr (1, [.int v2, .ref o3, .ref o5, .ref o7, .ref o9, .int u.1, .int v12, .int v13])), (o3, .inl (cI, 12, .inl fw4)), (o5, .inl (cI, 81, .inl u.2))]) (fun hPc hDc => va_runS (As := [.ref o1, .int x16, .int x18, .int x20, .int 2]) (rest := []) ⟨hx, hb, hml, hown, hts⟩ (kX1_gather_12 l dC dI cI c2 cZ o1 o3 o5 o7 o9 v2 fw4 f14 y13 v12 v13 x16 x18 x20 H.size v2_h fw4_b y13_h x16_h x18_h x20_h) (va_cwS 5 hts gX1_gather_X1_gather rfl rfl rfl (by decide +kernel) ⟨Nat.le_of_ble_eq_true rfl, Nat.le_of_ble_eq_true rfl⟩) (pre_S hPc hK hDc hN) rfl rfl hl.1 rfl (lv_room (Nat.le_of_ble_eq_true rfl)) dX1_gather_93 ⟨Nat.le_of_ble_eq_true rfl, Nat.le_of_ble_eq_true rfl⟩) hP hD hS hA [0, 1, 2] [] [0, 1, 2] rfl rfl (by decide +kernel) (by decide +kernel) (by decide +kernel) (by decide +kernel) (fun _ => rfl) (fun u H locs hq hP hD hS => ?_)
      obtain ⟨y21, f22⟩ := u
      have y21_h := hq
      have hP : va_P (dC, dI) vwCl ([(o1, .inr (1, [.int v2, .ref o3, .ref o5, .ref o7, .ref o9, .int y21, .int v12, .int v13])), (o3, .inl (cI, 12, .inl fw4)), (o5, .inl (cI, 81, .inl f22))]) H := hP
      have hD : va_D A ([(o1, .inr (1, [.int v2, .ref o3, .ref o5, .ref o7, .ref o9, .int y21, .int v12, .int v13])), (o3, .inl (cI, 12, .inl fw4)), (o5, .inl (cI, 81, .inl f22))]) := hD
      rw [hQ]
      exact W.vret hx hb hr (fun t ht hW => ⟨⟨(y21, f22), rfl, y21_h, by rw [ht]; exact hP, va_K.moved hW.alike hK, hD⟩, hS.F ht⟩) hS.2.2 dX1_gather_96
    ·
      have j23 : Iv 0 0 a2 := r_eq h4 ik_0
      refine lv_aload_n hx hb dX1_gather_21 rfl (lv_at hl 0 rfl) ?_
      refine lv_iload_n hx hb dX1_gather_22 rfl (lv_at hl 1 rfl) ?_
      refine kc_v (D := (dC, dI)) (S := Int32 × (Nat → Int32)) (wc := [(o1, .inr (1, [.int v2, .ref o3, .ref o5, .ref o7, .ref o9, .int v11, .int v12, .int v13])), (o5, .inl (cI, 81, .inl fw6))]) (wr := [(o3, .inl (cI, 12, .inl fw4))]) (w1 := fun u => [(o1, .inr (1, [.int v2, .ref o3, .ref o5, .ref o7, .ref o9, .int u.1, .int v12, .int v13])), (o5, .inl (cI, 81, .inl u.2))]) (wn := fun u => [(o1, .inr (1, [.int v2, .ref o3, .ref o5, .ref o7, .ref o9, .int u.1, .int v12, .int v13])), (o3, .inl (cI, 12, .inl fw4)), (o5, .inl (cI, 81, .inl u.2))]) (fun hPc hDc => va_runV (As := [.int a1]) (rest := []) ⟨hx, hb, hml, hown, hts⟩ (kX1_keep_1 l dC dI cI c2 cZ o1 o3 o5 o7 o9 v2 fw6 v11 v12 v13 a1 H.size v2_h v11_h a1_h) (cwV 1 hts gX1_gather_X1_keep rfl rfl rfl (by decide +kernel) ⟨Nat.le_of_ble_eq_true rfl, Nat.le_of_ble_eq_true rfl⟩) (pre_V hPc hK hDc hN (ci := 1) (q0 := 0) rfl rfl) rfl rfl hl.1 rfl (lv_room (Nat.le_of_ble_eq_true rfl)) dX1_gather_23 ⟨Nat.le_of_ble_eq_true rfl, Nat.le_of_ble_eq_true rfl⟩) hP hD hS hA [0, 2] [1] [1, 0, 2] rfl rfl (by decide +kernel) (by decide +kernel) (by decide +kernel) (by decide +kernel) (fun _ => rfl) (fun u H locs hq hP hD hS => ?_)
      obtain ⟨y24, f25⟩ := u
      have y24_h := hq
      have hP : va_P (dC, dI) vwCl ([(o1, .inr (1, [.int v2, .ref o3, .ref o5, .ref o7, .ref o9, .int y24, .int v12, .int v13])), (o3, .inl (cI, 12, .inl fw4)), (o5, .inl (cI, 81, .inl f25))]) H := hP
      have hD : va_D A ([(o1, .inr (1, [.int v2, .ref o3, .ref o5, .ref o7, .ref o9, .int y24, .int v12, .int v13])), (o3, .inl (cI, 12, .inl fw4)), (o5, .inl (cI, 81, .inl f25))]) := hD
      rw [hQ]
      exact W.vret hx hb hr (fun t ht hW => ⟨⟨(y24, f25), rfl, y24_h, by rw [ht]; exact hP, va_K.moved hW.alike hK, hD⟩, hS.F ht⟩) hS.2.2 dX1_gather_26
  ·
    have j26 : Iv 1 1 x1 := r_nelo h2 x1_h ik_0 (by decide)
    rw [hQ]
    exact W.vret hx hb hr (fun t ht hW => ⟨⟨(v11, fw6), rfl, v11_h, by rw [ht]; exact hP, va_K.moved hW.alike hK, hD⟩, hS.F ht⟩) hS.2.2 dX1_gather_16
set_option maxHeartbeats 4000000 in
set_option maxRecDepth 100000 in
theorem kX1_gather_14 (l : Launch) (dC : Nat → ClassId) (dI : Nat → Nat → Nat) (cI c2 cZ : ClassId) (o1 : Nat) (o3 : Nat) (o5 : Nat) (o7 : Nat) (o9 : Nat) (v2 : Int32) (fw4 : Nat → Int32) (fw6 : Nat → Int32) (v11 : Int32) (v12 : Int32) (v13 : Int32) (a1 : Int32) (a2 : Int32) (a3 : Int32) (sz : Nat) (v2_h : Iv 0 1 v2) (fw4_b : Bd 12 0 4095 fw4) (v11_h : Iv 0 81 v11) (a1_h : Iv 0 4095 a1) (a2_h : Iv 0 4095 a2) (a3_h : Iv 0 4095 a3) : Met l yX1_gather wsX1_gather ({ frames := 14, cells := 0, slots := 0, locals := 356 }) (va_Pc [.ref o1, .int a1, .int a2, .int a3, .int 0] (wPre (dC, dI) [(cI, .int), (c2, .array .int), (cZ, .boolean)] ([(o1, .inr (1, [.int v2, .ref o3, .ref o5, .ref o7, .ref o9, .int v11, .int v12, .int v13])), (o3, .inl (cI, 12, .inl fw4)), (o5, .inl (cI, 81, .inl fw6))]) sz)) (va_Qv (fun (u : Int32 × (Nat → Int32)) => Iv 0 81 u.1) (fun u t => wPost (dC, dI) [(cI, .int), (c2, .array .int), (cZ, .boolean)] (va_A ([(o1, .inr (1, [.int v2, .ref o3, .ref o5, .ref o7, .ref o9, .int v11, .int v12, .int v13])), (o3, .inl (cI, 12, .inl fw4)), (o5, .inl (cI, 81, .inl fw6))]) sz) ([(o1, .inr (1, [.int v2, .ref o3, .ref o5, .ref o7, .ref o9, .int u.1, .int v12, .int v13])), (o3, .inl (cI, 12, .inl fw4)), (o5, .inl (cI, 81, .inl u.2))]) t) (va_A ([(o1, .inr (1, [.int v2, .ref o3, .ref o5, .ref o7, .ref o9, .int v11, .int v12, .int v13])), (o3, .inl (cI, 12, .inl fw4)), (o5, .inl (cI, 81, .inl fw6))]) sz)) 0 0 (va_A ([(o1, .inr (1, [.int v2, .ref o3, .ref o5, .ref o7, .ref o9, .int v11, .int v12, .int v13])), (o3, .inl (cI, 12, .inl fw4)), (o5, .inl (cI, 81, .inl fw6))]) sz) := by
  refine Met.ofW (cc := cX1_gather) (maxL := 7) (ret := none) (by decide) rfl ?_
  intro p e s m args below meth c s₁ B hml hv
  obtain ⟨rfl, hsz, hP, hK, hD0, hN⟩ := hv
  have hx := B.exec
  have hb := B.bytes
  have hr := B.returns
  have hts := atoms_spec (ws := wsX1_gather) B.pre
  have hown : s.vm.findClass RX1 = some m.cls := findClass_of_methodNamed B.named
  have hlocks := B.notSynchronized
  subst hsz
  have hD := hD0.self (sz := s.heap.size)
  generalize hAe : va_A ([(o1, .inr (1, [.int v2, .ref o3, .ref o5, .ref o7, .ref o9, .int v11, .int v12, .int v13])), (o3, .inl (cI, 12, .inl fw4)), (o5, .inl (cI, 81, .inl fw6))]) s.heap.size = A at hD ⊢
  have hA : ∀ q : Nat, s.heap.size ≤ q → A q := fun q h => by rw [← hAe]; exact Or.inr h
  have hS : va_S A s.heap s.heap [] := va_S.rf
  have hP : va_P (dC, dI) vwCl ([(o1, .inr (1, [.int v2, .ref o3, .ref o5, .ref o7, .ref o9, .int v11, .int v12, .int v13])), (o3, .inl (cI, 12, .inl fw4)), (o5, .inl (cI, 81, .inl fw6))]) s.heap := hP
  have hl := lv_entry ([.ref o1, .int a1, .int a2, .int a3, .int 0]) (n := 7) (Nat.le_of_ble_eq_true rfl)
  rw [lg_entry_eq]
  generalize (lg_sl ([.ref o1, .int a1, .int a2, .int a3, .int 0]) ++ List.replicate (7 - (lg_sl ([.ref o1, .int a1, .int a2, .int a3, .int 0])).length) Slot.unset).toArray = ls at hl ⊢
  have hl : lv_has ls 7 [(0, .ref o1), (1, .int a1), (2, .int a2), (3, .int a3), (4, .int 0)] := hl
  refine gen_Q (fun Q hQ => ?_)
  refine lv_iload hx hb dX1_gather_0 (lv_at hl 4 rfl) ?_
  refine lv_bipush (v := 12) hx hb dX1_gather_2 (by decide) ?_
  refine lv_icmp_gt (tgt := 16) hx hb dX1_gather_4 (by decide) (fun h9 => absurd h9 (by decide +kernel)) (fun _ => ?_)
  refine lv_aload_n hx hb dX1_gather_7 rfl (lv_at hl 0 rfl) ?_
  refine lv_iload_n hx hb dX1_gather_8 rfl (lv_at hl 2 rfl) ?_
  refine lv_iload_n hx hb dX1_gather_9 rfl (lv_at hl 3 rfl) ?_
  refine kc_i (D := (dC, dI)) (S := Unit) (wc := [(o1, .inr (1, [.int v2, .ref o3, .ref o5, .ref o7, .ref o9, .int v11, .int v12, .int v13])), (o3, .inl (cI, 12, .inl fw4))]) (wr := [(o5, .inl (cI, 81, .inl fw6))]) (w1 := fun _ => [(o1, .inr (1, [.int v2, .ref o3, .ref o5, .ref o7, .ref o9, .int v11, .int v12, .int v13])), (o3, .inl (cI, 12, .inl fw4))]) (wn := fun _ => [(o1, .inr (1, [.int v2, .ref o3, .ref o5, .ref o7, .ref o9, .int v11, .int v12, .int v13])), (o3, .inl (cI, 12, .inl fw4)), (o5, .inl (cI, 81, .inl fw6))]) (fun hPc hDc => va_runV (As := [.int a2, .int a3]) (rest := []) ⟨hx, hb, hml, hown, hts⟩ (kX1_canNotBeGreat_1 l dC dI cI c2 cZ o1 o3 o5 o7 o9 v2 fw4 v11 v12 v13 a2 a3 s.heap.size v2_h fw4_b v11_h a2_h a3_h) (cwV 2 hts gX1_gather_X1_canNotBeGreat rfl rfl rfl (by decide +kernel) ⟨Nat.le_of_ble_eq_true rfl, Nat.le_of_ble_eq_true rfl⟩) (pre_V hPc hK hDc hN (ci := 1) (q0 := 0) rfl rfl) rfl rfl hl.1 rfl (lv_room (Nat.le_of_ble_eq_true rfl)) dX1_gather_10 ⟨Nat.le_of_ble_eq_true rfl, Nat.le_of_ble_eq_true rfl⟩) hP hD hS hA [0, 1] [2] [1, 2, 0] rfl rfl (by decide +kernel) (by decide +kernel) (by decide +kernel) (by decide +kernel) (fun _ => rfl) (fun x1 _ H locs hq hP hD hS => ?_)
  have x1_h := hq
  have hP : va_P (dC, dI) vwCl ([(o1, .inr (1, [.int v2, .ref o3, .ref o5, .ref o7, .ref o9, .int v11, .int v12, .int v13])), (o3, .inl (cI, 12, .inl fw4)), (o5, .inl (cI, 81, .inl fw6))]) H := hP
  have hD : va_D A ([(o1, .inr (1, [.int v2, .ref o3, .ref o5, .ref o7, .ref o9, .int v11, .int v12, .int v13])), (o3, .inl (cI, 12, .inl fw4)), (o5, .inl (cI, 81, .inl fw6))]) := hD
  refine lv_if_eq (tgt := 17) hx hb dX1_gather_13 (by decide) (fun h2 => ?_) (fun h2 => ?_)
  ·
    have j3 : Iv 0 0 x1 := r_eq h2 ik_0
    refine lv_iload_n hx hb dX1_gather_17 rfl (lv_at hl 2 rfl) ?_
    refine lv_if_ne (tgt := 27) hx hb dX1_gather_18 (by decide) (fun h4 => ?_) (fun h4 => ?_)
    ·
      have j5 : Iv 1 4095 a2 := r_nelo h4 a2_h ik_0 (by decide)
      refine lv_bipush (v := 31) hx hb dX1_gather_27 (by decide) ?_
      refine lv_iload_n hx hb dX1_gather_29 rfl (lv_at hl 2 rfl) ?_
      refine kc_i (D := (dC, dI)) (S := Unit) (wc := []) (wr := [(o1, .inr (1, [.int v2, .ref o3, .ref o5, .ref o7, .ref o9, .int v11, .int v12, .int v13])), (o3, .inl (cI, 12, .inl fw4)), (o5, .inl (cI, 81, .inl fw6))]) (w1 := fun _ => []) (wn := fun _ => [(o1, .inr (1, [.int v2, .ref o3, .ref o5, .ref o7, .ref o9, .int v11, .int v12, .int v13])), (o3, .inl (cI, 12, .inl fw4)), (o5, .inl (cI, 81, .inl fw6))]) (fun hPc hDc => va_runS (As := [.int a2]) (rest := [.int 31]) ⟨hx, hb, hml, hown, hts⟩ (kJ6_numberOfLeadingZeros_0f7a4_1 l dC dI cI c2 cZ a2 H.size j5) (va_cwS 1 hts gX1_gather_J6_numberOfLeadingZeros_0f7a4 rfl rfl rfl (by decide +kernel) ⟨Nat.le_of_ble_eq_true rfl, Nat.le_of_ble_eq_true rfl⟩) (pre_S hPc hK hDc hN) rfl rfl hl.1 rfl (lv_room (Nat.le_of_ble_eq_true rfl)) dX1_gather_30 ⟨Nat.le_of_ble_eq_true rfl, Nat.le_of_ble_eq_true rfl⟩) hP hD hS hA [] [0, 1, 2] [0, 1, 2] rfl rfl (by decide +kernel) (by decide +kernel) (by decide +kernel) (by decide +kernel) (fun _ => rfl) (fun x6 _ H locs hq hP hD hS => ?_)
      have x6_h := hq
      have hP : va_P (dC, dI) vwCl ([(o1, .inr (1, [.int v2, .ref o3, .ref o5, .ref o7, .ref o9, .int v11, .int v12, .int v13])), (o3, .inl (cI, 12, .inl fw4)), (o5, .inl (cI, 81, .inl fw6))]) H := hP
      have hD : va_D A ([(o1, .inr (1, [.int v2, .ref o3, .ref o5, .ref o7, .ref o9, .int v11, .int v12, .int v13])), (o3, .inl (cI, 12, .inl fw4)), (o5, .inl (cI, 81, .inl fw6))]) := hD
      refine lv_isub hx hb dX1_gather_33 (lv_topi (fun x7 x7_e => ?_))
      have x7_h : Iv 0 11 x7 := iv_e x7_e (iv_sub ik_31 x6_h (by decide))
      refine lv_istore (lv' := [(5, .int x7), (0, .ref o1), (1, .int a1), (2, .int a2), (3, .int a3), (4, .int 0)]) hx hb dX1_gather_34 hl (by decide) rfl (fun ls hl => ?_)
      refine lv_iload_n hx hb dX1_gather_36 rfl (lv_at hl 3 rfl) ?_
      refine lv_iconst (v := 1) hx hb dX1_gather_37 (by decide) ?_
      refine lv_iload hx hb dX1_gather_38 (lv_at hl 0 rfl) ?_
      refine lv_ishl hx hb dX1_gather_40 (lv_topi (fun x8 x8_e => ?_))
      have x8_h : Iv 1 2048 x8 := iv_e x8_e (iv_shl1 x7_h (by decide))
      refine lv_iconst (v := (-1)) hx hb dX1_gather_41 (by decide) ?_
      refine lv_ixor hx hb dX1_gather_42 (lv_topi (fun x9 x9_e => ?_))
      refine lv_iand hx hb dX1_gather_43 (lv_topi (fun x10 x10_e => ?_))
      have x10_h : Iv 0 4095 x10 := iv_e x10_e (iv_andL _ j5 (by decide))
      refine lv_istore (lv' := [(6, .int x10), (5, .int x7), (0, .ref o1), (1, .int a1), (2, .int a2), (3, .int a3), (4, .int 0)]) hx hb dX1_gather_44 hl (by decide) rfl (fun ls hl => ?_)
      refine lv_aload_n hx hb dX1_gather_46 rfl (lv_at hl 2 rfl) ?_
      refine lv_iload_n hx hb dX1_gather_47 rfl (lv_at hl 3 rfl) ?_
      refine lv_iload hx hb dX1_gather_48 (lv_at hl 0 rfl) ?_
      refine lv_iload_n hx hb dX1_gather_50 rfl (lv_at hl 5 rfl) ?_
      refine lv_iconst (v := 1) hx hb dX1_gather_51 (by decide) ?_
      refine lv_iload hx hb dX1_gather_52 (lv_at hl 1 rfl) ?_
      refine lv_ishl hx hb dX1_gather_54 (lv_topi (fun x11 x11_e => ?_))
      have x11_h : Iv 1 2048 x11 := iv_e x11_e (iv_shl1 x7_h (by decide))
      refine lv_ior hx hb dX1_gather_55 (lv_topi (fun x12 x12_e => ?_))
      have x12_h : Iv 0 4095 x12 := iv_e x12_e (iv_or 12 a3_h x11_h (by decide))
      refine lv_iload hx hb dX1_gather_56 (lv_at hl 6 rfl) ?_
      refine lv_iconst (v := 1) hx hb dX1_gather_58 (by decide) ?_
      refine lv_iadd hx hb dX1_gather_59 (tk_i (v := 1) (by decide +kernel) ?_)
      refine kc_v (D := (dC, dI)) (S := Int32 × (Nat → Int32)) (wc := [(o1, .inr (1, [.int v2, .ref o3, .ref o5, .ref o7, .ref o9, .int v11, .int v12, .int v13])), (o3, .inl (cI, 12, .inl fw4)), (o5, .inl (cI, 81, .inl fw6))]) (wr := []) (w1 := fun u => [(o1, .inr (1, [.int v2, .ref o3, .ref o5, .ref o7, .ref o9, .int u.1, .int v12, .int v13])), (o3, .inl (cI, 12, .inl fw4)), (o5, .inl (cI, 81, .inl u.2))]) (wn := fun u => [(o1, .inr (1, [.int v2, .ref o3, .ref o5, .ref o7, .ref o9, .int u.1, .int v12, .int v13])), (o3, .inl (cI, 12, .inl fw4)), (o5, .inl (cI, 81, .inl u.2))]) (fun hPc hDc => va_runS (As := [.ref o1, .int a1, .int x10, .int x12, .int 1]) (rest := []) ⟨hx, hb, hml, hown, hts⟩ (kX1_gather_13 l dC dI cI c2 cZ o1 o3 o5 o7 o9 v2 fw4 fw6 v11 v12 v13 a1 x10 x12 H.size v2_h fw4_b v11_h a1_h x10_h x12_h) (va_cwS 5 hts gX1_gather_X1_gather rfl rfl rfl (by decide +kernel) ⟨Nat.le_of_ble_eq_true rfl, Nat.le_of_ble_eq_true rfl⟩) (pre_S hPc hK hDc hN) rfl rfl hl.1 rfl (lv_room (Nat.le_of_ble_eq_true rfl)) dX1_gather_60 ⟨Nat.le_of_ble_eq_true rfl, Nat.le_of_ble_eq_true rfl⟩) hP hD hS hA [0, 1, 2] [] [0, 1, 2] rfl rfl (by decide +kernel) (by decide +kernel) (by decide +kernel) (by decide +kernel) (fun _ => rfl) (fun u H locs hq hP hD hS => ?_)
      obtain ⟨y13, f14⟩ := u
      have y13_h := hq
      have hP : va_P (dC, dI) vwCl ([(o1, .inr (1, [.int v2, .ref o3, .ref o5, .ref o7, .ref o9, .int y13, .int v12, .int v13])), (o3, .inl (cI, 12, .inl fw4)), (o5, .inl (cI, 81, .inl f14))]) H := hP
      have hD : va_D A ([(o1, .inr (1, [.int v2, .ref o3, .ref o5, .ref o7, .ref o9, .int y13, .int v12, .int v13])), (o3, .inl (cI, 12, .inl fw4)), (o5, .inl (cI, 81, .inl f14))]) := hD
      refine lv_aload_n hx hb dX1_gather_63 rfl (lv_at hl 2 rfl) ?_
      refine lv_iload_n hx hb dX1_gather_64 rfl (lv_at hl 3 rfl) ?_
      refine lv_iconst (v := 1) hx hb dX1_gather_65 (by decide) ?_
      refine lv_iload hx hb dX1_gather_66 (lv_at hl 1 rfl) ?_
      refine lv_ishl hx hb dX1_gather_68 (lv_topi (fun x15 x15_e => ?_))
      have x15_h : Iv 1 2048 x15 := iv_e x15_e (iv_shl1 x7_h (by decide))
      refine lv_ior hx hb dX1_gather_69 (lv_topi (fun x16 x16_e => ?_))
      have x16_h : Iv 0 4095 x16 := iv_e x16_e (iv_or 12 a1_h x15_h (by decide))
      refine lv_iload hx hb dX1_gather_70 (lv_at hl 0 rfl) ?_
      refine lv_aload_n hx hb dX1_gather_72 rfl (lv_at hl 2 rfl) ?_
      refine va_get (D := (dC, dI)) (ci := 1) (v := .ref o3) (C := RX1) (T := TX1) (N := 8) hx hb hts iw_X1_gather_X1 hown hK hP 0 rfl rfl 1 (by decide) (hts (.fieldLink RX1 9 "HolelessHouse$Cliques" "near" "[I") hm_X1_gather_1) (fun _ h9 => h9) rfl dX1_gather_73 ?_
      refine lv_iload hx hb dX1_gather_76 (lv_at hl 1 rfl) ?_
      refine va_iald hx hb hK hP 1 0 rfl rfl (vin_iv x7_h (by decide)) dX1_gather_78 (lv_topi (fun x17 x17_e => ?_))
      have x17_h : Iv 0 4095 x17 := iv_e x17_e (bd_at fw4_b (vin_iv x7_h (by decide)))
      refine lv_iand hx hb dX1_gather_79 (lv_topi (fun x18 x18_e => ?_))
      have x18_h : Iv 0 4095 x18 := iv_e x18_e (iv_andL _ x10_h (by decide))
      refine lv_iload_n hx hb dX1_gather_80 rfl (lv_at hl 5 rfl) ?_
      refine lv_aload_n hx hb dX1_gather_81 rfl (lv_at hl 2 rfl) ?_
      refine va_get (D := (dC, dI)) (ci := 1) (v := .ref o3) (C := RX1) (T := TX1) (N := 8) hx hb hts iw_X1_gather_X1 hown hK hP 0 rfl rfl 1 (by decide) (hts (.fieldLink RX1 9 "HolelessHouse$Cliques" "near" "[I") hm_X1_gather_1) (fun _ h9 => h9) rfl dX1_gather_82 ?_
      refine lv_iload hx hb dX1_gather_85 (lv_at hl 1 rfl) ?_
      refine va_iald hx hb hK hP 1 0 rfl rfl (vin_iv x7_h (by decide)) dX1_gather_87 (lv_topi (fun x19 x19_e => ?_))
      have x19_h : Iv 0 4095 x19 := iv_e x19_e (bd_at fw4_b (vin_iv x7_h (by decide)))
      refine lv_iand hx hb dX1_gather_88 (lv_topi (fun x20 x20_e => ?_))
      have x20_h : Iv 0 4095 x20 := iv_e x20_e (iv_andL _ a3_h (by decide))
      refine lv_iload hx hb dX1_gather_89 (lv_at hl 6 rfl) ?_
      refine lv_iconst (v := 1) hx hb dX1_gather_91 (by decide) ?_
      refine lv_iadd hx hb dX1_gather_92 (tk_i (v := 1) (by decide +kernel) ?_)
      refine kc_v (D := (dC, dI)) (S := Int32 × (Nat → Int32)) (wc := [(o1, .inr (1, [.int v2, .ref o3, .ref o5, .ref o7, .ref o9, .int y13, .int v12, .int v13])), (o3, .inl (cI, 12, .inl fw4)), (o5, .inl (cI, 81, .inl f14))]) (wr := []) (w1 := fun u => [(o1, .inr (1, [.int v2, .ref o3, .ref o5, .ref o7, .ref o9, .int u.1, .int v12, .int v13])), (o3, .inl (cI, 12, .inl fw4)), (o5, .inl (cI, 81, .inl u.2))]) (wn := fun u => [(o1, .inr (1, [.int v2, .ref o3, .ref o5, .ref o7, .ref o9, .int u.1, .int v12, .int v13])), (o3, .inl (cI, 12, .inl fw4)), (o5, .inl (cI, 81, .inl u.2))]) (fun hPc hDc => va_runS (As := [.ref o1, .int x16, .int x18, .int x20, .int 1]) (rest := []) ⟨hx, hb, hml, hown, hts⟩ (kX1_gather_13 l dC dI cI c2 cZ o1 o3 o5 o7 o9 v2 fw4 f14 y13 v12 v13 x16 x18 x20 H.size v2_h fw4_b y13_h x16_h x18_h x20_h) (va_cwS 5 hts gX1_gather_X1_gather rfl rfl rfl (by decide +kernel) ⟨Nat.le_of_ble_eq_true rfl, Nat.le_of_ble_eq_true rfl⟩) (pre_S hPc hK hDc hN) rfl rfl hl.1 rfl (lv_room (Nat.le_of_ble_eq_true rfl)) dX1_gather_93 ⟨Nat.le_of_ble_eq_true rfl, Nat.le_of_ble_eq_true rfl⟩) hP hD hS hA [0, 1, 2] [] [0, 1, 2] rfl rfl (by decide +kernel) (by decide +kernel) (by decide +kernel) (by decide +kernel) (fun _ => rfl) (fun u H locs hq hP hD hS => ?_)
      obtain ⟨y21, f22⟩ := u
      have y21_h := hq
      have hP : va_P (dC, dI) vwCl ([(o1, .inr (1, [.int v2, .ref o3, .ref o5, .ref o7, .ref o9, .int y21, .int v12, .int v13])), (o3, .inl (cI, 12, .inl fw4)), (o5, .inl (cI, 81, .inl f22))]) H := hP
      have hD : va_D A ([(o1, .inr (1, [.int v2, .ref o3, .ref o5, .ref o7, .ref o9, .int y21, .int v12, .int v13])), (o3, .inl (cI, 12, .inl fw4)), (o5, .inl (cI, 81, .inl f22))]) := hD
      rw [hQ]
      exact W.vret hx hb hr (fun t ht hW => ⟨⟨(y21, f22), rfl, y21_h, by rw [ht]; exact hP, va_K.moved hW.alike hK, hD⟩, hS.F ht⟩) hS.2.2 dX1_gather_96
    ·
      have j23 : Iv 0 0 a2 := r_eq h4 ik_0
      refine lv_aload_n hx hb dX1_gather_21 rfl (lv_at hl 0 rfl) ?_
      refine lv_iload_n hx hb dX1_gather_22 rfl (lv_at hl 1 rfl) ?_
      refine kc_v (D := (dC, dI)) (S := Int32 × (Nat → Int32)) (wc := [(o1, .inr (1, [.int v2, .ref o3, .ref o5, .ref o7, .ref o9, .int v11, .int v12, .int v13])), (o5, .inl (cI, 81, .inl fw6))]) (wr := [(o3, .inl (cI, 12, .inl fw4))]) (w1 := fun u => [(o1, .inr (1, [.int v2, .ref o3, .ref o5, .ref o7, .ref o9, .int u.1, .int v12, .int v13])), (o5, .inl (cI, 81, .inl u.2))]) (wn := fun u => [(o1, .inr (1, [.int v2, .ref o3, .ref o5, .ref o7, .ref o9, .int u.1, .int v12, .int v13])), (o3, .inl (cI, 12, .inl fw4)), (o5, .inl (cI, 81, .inl u.2))]) (fun hPc hDc => va_runV (As := [.int a1]) (rest := []) ⟨hx, hb, hml, hown, hts⟩ (kX1_keep_1 l dC dI cI c2 cZ o1 o3 o5 o7 o9 v2 fw6 v11 v12 v13 a1 H.size v2_h v11_h a1_h) (cwV 1 hts gX1_gather_X1_keep rfl rfl rfl (by decide +kernel) ⟨Nat.le_of_ble_eq_true rfl, Nat.le_of_ble_eq_true rfl⟩) (pre_V hPc hK hDc hN (ci := 1) (q0 := 0) rfl rfl) rfl rfl hl.1 rfl (lv_room (Nat.le_of_ble_eq_true rfl)) dX1_gather_23 ⟨Nat.le_of_ble_eq_true rfl, Nat.le_of_ble_eq_true rfl⟩) hP hD hS hA [0, 2] [1] [1, 0, 2] rfl rfl (by decide +kernel) (by decide +kernel) (by decide +kernel) (by decide +kernel) (fun _ => rfl) (fun u H locs hq hP hD hS => ?_)
      obtain ⟨y24, f25⟩ := u
      have y24_h := hq
      have hP : va_P (dC, dI) vwCl ([(o1, .inr (1, [.int v2, .ref o3, .ref o5, .ref o7, .ref o9, .int y24, .int v12, .int v13])), (o3, .inl (cI, 12, .inl fw4)), (o5, .inl (cI, 81, .inl f25))]) H := hP
      have hD : va_D A ([(o1, .inr (1, [.int v2, .ref o3, .ref o5, .ref o7, .ref o9, .int y24, .int v12, .int v13])), (o3, .inl (cI, 12, .inl fw4)), (o5, .inl (cI, 81, .inl f25))]) := hD
      rw [hQ]
      exact W.vret hx hb hr (fun t ht hW => ⟨⟨(y24, f25), rfl, y24_h, by rw [ht]; exact hP, va_K.moved hW.alike hK, hD⟩, hS.F ht⟩) hS.2.2 dX1_gather_26
  ·
    have j26 : Iv 1 1 x1 := r_nelo h2 x1_h ik_0 (by decide)
    rw [hQ]
    exact W.vret hx hb hr (fun t ht hW => ⟨⟨(v11, fw6), rfl, v11_h, by rw [ht]; exact hP, va_K.moved hW.alike hK, hD⟩, hS.F ht⟩) hS.2.2 dX1_gather_16
theorem iw_X1_bring_X1 : ∀ w ∈ wsX10, w ∈ wsX1_bring := fun _ h => List.mem_cons.mpr (Or.inr (List.mem_append.mpr (Or.inl (List.mem_append.mpr (Or.inr h)))))
theorem iw_X1_bring_X4 : ∀ w ∈ wsX40, w ∈ wsX1_bring := fun _ h => List.mem_cons.mpr (Or.inr (List.mem_append.mpr (Or.inr h)))
set_option maxHeartbeats 4000000 in
set_option maxRecDepth 100000 in
theorem kX1_bring_1 (l : Launch) (dC : Nat → ClassId) (dI : Nat → Nat → Nat) (cI c2 cZ : ClassId) (o1 : Nat) (o14 : Nat) (o3 : Nat) (o5 : Nat) (o7 : Nat) (o9 : Nat) (o15 : Nat) (v2 : Int32) (fw4 : Nat → Int32) (fw6 : Nat → Int32) (v11 : Int32) (v12 : Int32) (v13 : Int32) (fw16 : Nat → Int32) (v17 : Int32) (v18 : Int32) (sz : Nat) (v2_h : Iv 0 1 v2) (fw4_b : Bd 12 0 4095 fw4) (v11_h : Iv 0 81 v11) (fw16_b : Bd 12 0 4095 fw16) (v17_h : Iv 0 12 v17) : Met l yX1_bring wsX1_bring ({ frames := 15, cells := 0, slots := 0, locals := 382 }) (va_Pc [.ref o1, .ref o14] (wPre (dC, dI) [(cI, .int), (c2, .array .int), (cZ, .boolean)] ([(o1, .inr (1, [.int v2, .ref o3, .ref o5, .ref o7, .ref o9, .int v11, .int v12, .int v13])), (o14, .inr (4, [.ref o15, .int v17, .int v18])), (o15, .inl (cI, 12, .inl fw16)), (o3, .inl (cI, 12, .inl fw4)), (o5, .inl (cI, 81, .inl fw6))]) sz)) (va_Qv (fun (u : Int32 × Int32 × (Nat → Int32) × (Nat → Int32)) => Iv 0 81 u.1 ∧ Bd 12 0 4095 u.2.2.1) (fun u t => wPost (dC, dI) [(cI, .int), (c2, .array .int), (cZ, .boolean)] (va_A ([(o1, .inr (1, [.int v2, .ref o3, .ref o5, .ref o7, .ref o9, .int v11, .int v12, .int v13])), (o14, .inr (4, [.ref o15, .int v17, .int v18])), (o15, .inl (cI, 12, .inl fw16)), (o3, .inl (cI, 12, .inl fw4)), (o5, .inl (cI, 81, .inl fw6))]) sz) ([(o1, .inr (1, [.int v2, .ref o3, .ref o5, .ref o7, .ref o9, .int u.1, .int u.2.1, .int v13])), (o14, .inr (4, [.ref o15, .int v17, .int v18])), (o15, .inl (cI, 12, .inl fw16)), (o3, .inl (cI, 12, .inl u.2.2.1)), (o5, .inl (cI, 81, .inl u.2.2.2))]) t) (va_A ([(o1, .inr (1, [.int v2, .ref o3, .ref o5, .ref o7, .ref o9, .int v11, .int v12, .int v13])), (o14, .inr (4, [.ref o15, .int v17, .int v18])), (o15, .inl (cI, 12, .inl fw16)), (o3, .inl (cI, 12, .inl fw4)), (o5, .inl (cI, 81, .inl fw6))]) sz)) 0 0 (va_A ([(o1, .inr (1, [.int v2, .ref o3, .ref o5, .ref o7, .ref o9, .int v11, .int v12, .int v13])), (o14, .inr (4, [.ref o15, .int v17, .int v18])), (o15, .inl (cI, 12, .inl fw16)), (o3, .inl (cI, 12, .inl fw4)), (o5, .inl (cI, 81, .inl fw6))]) sz) := by
  refine Met.ofW (cc := cX1_bring) (maxL := 3) (ret := none) (by decide) rfl ?_
  intro p e s m args below meth c s₁ B hml hv
  obtain ⟨rfl, hsz, hP, hK, hD0, hN⟩ := hv
  have hx := B.exec
  have hb := B.bytes
  have hr := B.returns
  have hts := atoms_spec (ws := wsX1_bring) B.pre
  have hown : s.vm.findClass RX1 = some m.cls := findClass_of_methodNamed B.named
  have hlocks := B.notSynchronized
  subst hsz
  have hD := hD0.self (sz := s.heap.size)
  generalize hAe : va_A ([(o1, .inr (1, [.int v2, .ref o3, .ref o5, .ref o7, .ref o9, .int v11, .int v12, .int v13])), (o14, .inr (4, [.ref o15, .int v17, .int v18])), (o15, .inl (cI, 12, .inl fw16)), (o3, .inl (cI, 12, .inl fw4)), (o5, .inl (cI, 81, .inl fw6))]) s.heap.size = A at hD ⊢
  have hA : ∀ q : Nat, s.heap.size ≤ q → A q := fun q h => by rw [← hAe]; exact Or.inr h
  have hS : va_S A s.heap s.heap [] := va_S.rf
  have hP : va_P (dC, dI) vwCl ([(o1, .inr (1, [.int v2, .ref o3, .ref o5, .ref o7, .ref o9, .int v11, .int v12, .int v13])), (o14, .inr (4, [.ref o15, .int v17, .int v18])), (o15, .inl (cI, 12, .inl fw16)), (o3, .inl (cI, 12, .inl fw4)), (o5, .inl (cI, 81, .inl fw6))]) s.heap := hP
  have hl := lv_entry ([.ref o1, .ref o14]) (n := 3) (Nat.le_of_ble_eq_true rfl)
  rw [lg_entry_eq]
  generalize (lg_sl ([.ref o1, .ref o14]) ++ List.replicate (3 - (lg_sl ([.ref o1, .ref o14])).length) Slot.unset).toArray = ls at hl ⊢
  have hl : lv_has ls 3 [(0, .ref o1), (1, .ref o14)] := hl
  refine gen_Q (fun Q hQ => ?_)
  refine lv_aload_n hx hb dX1_bring_0 rfl (lv_at hl 0 rfl) ?_
  refine va_get (D := (dC, dI)) (ci := 1) (v := .int v12) (C := RX1) (T := TX1) (N := 8) hx hb hts iw_X1_bring_X1 hown hK hP 0 rfl rfl 6 (by decide) (hts (.fieldLink RX1 28 "HolelessHouse$Cliques" "madeFor" "I") hm_X1_bring_1) (fun _ h9 => h9) rfl dX1_bring_1 ?_
  refine lv_aload_n hx hb dX1_bring_4 rfl (lv_at hl 1 rfl) ?_
  refine va_getN (D := (dC, dI)) (ci := 4) (v := .int v18) (C := RX4) (T := TX4) (N := 3) hx hb hts iw_X1_bring_X4 hown hK hP 1 rfl rfl 2 (by decide) (hN.use ns_19) (fun _ h9 => h9) rfl dX1_bring_5 ?_
  refine lv_icmp_ne (tgt := 12) hx hb dX1_bring_8 (by decide) (fun h1 => ?_) (fun h1 => ?_)
  ·
    refine lv_aload_n hx hb dX1_bring_12 rfl (lv_at hl 0 rfl) ?_
    refine lv_aload_n hx hb dX1_bring_13 rfl (lv_at hl 1 rfl) ?_
    refine va_getN (D := (dC, dI)) (ci := 4) (v := .int v18) (C := RX4) (T := TX4) (N := 3) hx hb hts iw_X1_bring_X4 hown hK hP 1 rfl rfl 2 (by decide) (hN.use ns_19) (fun _ h9 => h9) rfl dX1_bring_14 ?_
    refine va_put (D := (dC, dI)) (ci := 1) (v := .int v18) (ty := .int) (C := RX1) (T := TX1) (N := 8) hx hb hts iw_X1_bring_X1 tyX1 tyX1_ok nmX1 hown hK hP hD hS 0 rfl rfl 6 (by decide) (hts (.fieldLink RX1 28 "HolelessHouse$Cliques" "madeFor" "I") hm_X1_bring_1) (fun _ h9 => h9) rfl (by decide +kernel) rfl rfl (Nat.le_of_ble_eq_true rfl) dX1_bring_17 (fun H locs hP hD hS => ?_)
    have hP : va_P (dC, dI) vwCl ([(o1, .inr (1, [.int v2, .ref o3, .ref o5, .ref o7, .ref o9, .int v11, .int v18, .int v13])), (o14, .inr (4, [.ref o15, .int v17, .int v18])), (o15, .inl (cI, 12, .inl fw16)), (o3, .inl (cI, 12, .inl fw4)), (o5, .inl (cI, 81, .inl fw6))]) H := hP
    have hD : va_D A ([(o1, .inr (1, [.int v2, .ref o3, .ref o5, .ref o7, .ref o9, .int v11, .int v18, .int v13])), (o14, .inr (4, [.ref o15, .int v17, .int v18])), (o15, .inl (cI, 12, .inl fw16)), (o3, .inl (cI, 12, .inl fw4)), (o5, .inl (cI, 81, .inl fw6))]) := hD
    refine lv_aload_n hx hb dX1_bring_20 rfl (lv_at hl 0 rfl) ?_
    refine lv_iconst (v := 0) hx hb dX1_bring_21 (by decide) ?_
    refine va_put (D := (dC, dI)) (ci := 1) (v := .int 0) (ty := .int) (C := RX1) (T := TX1) (N := 8) hx hb hts iw_X1_bring_X1 tyX1 tyX1_ok nmX1 hown hK hP hD hS 0 rfl rfl 5 (by decide) (hts (.fieldLink RX1 24 "HolelessHouse$Cliques" "size" "I") hm_X1_bring_2) (fun _ h9 => h9) rfl (by decide +kernel) rfl rfl (Nat.le_of_ble_eq_true rfl) dX1_bring_22 (fun H locs hP hD hS => ?_)
    have hP : va_P (dC, dI) vwCl ([(o1, .inr (1, [.int v2, .ref o3, .ref o5, .ref o7, .ref o9, .int 0, .int v18, .int v13])), (o14, .inr (4, [.ref o15, .int v17, .int v18])), (o15, .inl (cI, 12, .inl fw16)), (o3, .inl (cI, 12, .inl fw4)), (o5, .inl (cI, 81, .inl fw6))]) H := hP
    have hD : va_D A ([(o1, .inr (1, [.int v2, .ref o3, .ref o5, .ref o7, .ref o9, .int 0, .int v18, .int v13])), (o14, .inr (4, [.ref o15, .int v17, .int v18])), (o15, .inl (cI, 12, .inl fw16)), (o3, .inl (cI, 12, .inl fw4)), (o5, .inl (cI, 81, .inl fw6))]) := hD
    refine lv_iconst (v := 0) hx hb dX1_bring_25 (by decide) ?_
    refine lv_istore_n (lv' := [(2, .int 0), (0, .ref o1), (1, .ref o14)]) hx hb dX1_bring_26 rfl hl (by decide) rfl (fun ls hl => ?_)
    have L1 : ∀ (N : Nat) (x156 : Int32) (f157 : Nat → Int32) (H : Heap) (locs : List Loc) (ls : Array Slot), (12 - x156.toInt).toNat < N → Iv 0 12 x156 → Bd 12 0 4095 f157 → va_P (dC, dI) vwCl ([(o1, .inr (1, [.int v2, .ref o3, .ref o5, .ref o7, .ref o9, .int 0, .int v18, .int v13])), (o14, .inr (4, [.ref o15, .int v17, .int v18])), (o15, .inl (cI, 12, .inl fw16)), (o3, .inl (cI, 12, .inl f157)), (o5, .inl (cI, 81, .inl fw6))]) H → va_D A ([(o1, .inr (1, [.int v2, .ref o3, .ref o5, .ref o7, .ref o9, .int 0, .int v18, .int v13])), (o14, .inr (4, [.ref o15, .int v17, .int v18])), (o15, .inl (cI, 12, .inl fw16)), (o3, .inl (cI, 12, .inl f157)), (o5, .inl (cI, 81, .inl fw6))]) → va_S A s.heap H locs → lv_has ls 3 [(2, .int x156), (0, .ref o1), (1, .ref o14)] → W p l e ({ frames := 15, cells := 0, slots := 0, locals := 382 }) s m ([.ref o1, .ref o14] : List Value).toArray below meth c H locs 0 0 Q (F0 m 27 ls []) := by
      intro N
      induction N with
      | zero =>
        intro x156 f157 H locs ls hM
        exact absurd hM (Nat.not_lt_zero _)
      | succ N ih1 =>
        intro x156 f157 H locs ls hM1 x156_h f157_b hP hD hS hl
        refine lv_iload_n hx hb dX1_bring_27 rfl (lv_at hl 0 rfl) ?_
        refine lv_aload_n hx hb dX1_bring_28 rfl (lv_at hl 2 rfl) ?_
        refine va_getN (D := (dC, dI)) (ci := 4) (v := .int v17) (C := RX4) (T := TX4) (N := 3) hx hb hts iw_X1_bring_X4 hown hK hP 1 rfl rfl 1 (by decide) (hN.use ns_12) (fun _ h9 => h9) rfl dX1_bring_29 ?_
        refine lv_icmp_ge (tgt := 82) hx hb dX1_bring_32 (by decide) (fun h158 => ?_) (fun h158 => ?_)
        ·
          have qh158 := le_i h158
          refine lv_aload_n hx hb dX1_bring_82 rfl (lv_at hl 1 rfl) ?_
          refine lv_iconst (v := 0) hx hb dX1_bring_83 (by decide) ?_
          refine lv_aload_n hx hb dX1_bring_84 rfl (lv_at hl 2 rfl) ?_
          refine kc_i (D := (dC, dI)) (S := Unit) (wc := [(o14, .inr (4, [.ref o15, .int v17, .int v18]))]) (wr := [(o1, .inr (1, [.int v2, .ref o3, .ref o5, .ref o7, .ref o9, .int 0, .int v18, .int v13])), (o15, .inl (cI, 12, .inl fw16)), (o3, .inl (cI, 12, .inl f157)), (o5, .inl (cI, 81, .inl fw6))]) (w1 := fun _ => [(o14, .inr (4, [.ref o15, .int v17, .int v18]))]) (wn := fun _ => [(o1, .inr (1, [.int v2, .ref o3, .ref o5, .ref o7, .ref o9, .int 0, .int v18, .int v13])), (o14, .inr (4, [.ref o15, .int v17, .int v18])), (o15, .inl (cI, 12, .inl fw16)), (o3, .inl (cI, 12, .inl f157)), (o5, .inl (cI, 81, .inl fw6))]) (fun hPc hDc => va_runVN (As := []) (rest := [.int 0, .ref o1]) ⟨hx, hb, hml, hown, hts⟩ (kX4_all_1 l dC dI cI c2 cZ o14 o15 v17 v18 H.size v17_h) ⟨va_cnB 0 hts gX1_bring_X4_all_n44 rfl rfl rfl (hN.1 _ ns_106) (hts (.initialized RX4) hm_X1_bring_6) (by decide +kernel) ⟨Nat.le_of_ble_eq_true rfl, Nat.le_of_ble_eq_true rfl⟩, (hts (.instanceMethod yX4_all) hm_X1_bring_5), (hts (.selects RX4 yX4_all yX4_all) hm_X1_bring_7)⟩ (pre_V hPc hK hDc hN (ci := 4) (q0 := 0) rfl rfl) rfl rfl hl.1 rfl (lv_room (Nat.le_of_ble_eq_true rfl)) dX1_bring_85 ⟨Nat.le_of_ble_eq_true rfl, Nat.le_of_ble_eq_true rfl⟩) hP hD hS hA [1] [0, 2, 3, 4] [0, 4, 1, 2, 3] rfl rfl (by decide +kernel) (by decide +kernel) (by decide +kernel) (by decide +kernel) (fun _ => rfl) (fun x159 _ H locs hq hP hD hS => ?_)
          have x159_h := hq
          have hP : va_P (dC, dI) vwCl ([(o1, .inr (1, [.int v2, .ref o3, .ref o5, .ref o7, .ref o9, .int 0, .int v18, .int v13])), (o14, .inr (4, [.ref o15, .int v17, .int v18])), (o15, .inl (cI, 12, .inl fw16)), (o3, .inl (cI, 12, .inl f157)), (o5, .inl (cI, 81, .inl fw6))]) H := hP
          have hD : va_D A ([(o1, .inr (1, [.int v2, .ref o3, .ref o5, .ref o7, .ref o9, .int 0, .int v18, .int v13])), (o14, .inr (4, [.ref o15, .int v17, .int v18])), (o15, .inl (cI, 12, .inl fw16)), (o3, .inl (cI, 12, .inl f157)), (o5, .inl (cI, 81, .inl fw6))]) := hD
          refine lv_iconst (v := 0) hx hb dX1_bring_88 (by decide) ?_
          refine lv_iconst (v := 0) hx hb dX1_bring_89 (by decide) ?_
          refine kc_v (D := (dC, dI)) (S := Int32 × (Nat → Int32)) (wc := [(o1, .inr (1, [.int v2, .ref o3, .ref o5, .ref o7, .ref o9, .int 0, .int v18, .int v13])), (o3, .inl (cI, 12, .inl f157)), (o5, .inl (cI, 81, .inl fw6))]) (wr := [(o14, .inr (4, [.ref o15, .int v17, .int v18])), (o15, .inl (cI, 12, .inl fw16))]) (w1 := fun u => [(o1, .inr (1, [.int v2, .ref o3, .ref o5, .ref o7, .ref o9, .int u.1, .int v18, .int v13])), (o3, .inl (cI, 12, .inl f157)), (o5, .inl (cI, 81, .inl u.2))]) (wn := fun u => [(o1, .inr (1, [.int v2, .ref o3, .ref o5, .ref o7, .ref o9, .int u.1, .int v18, .int v13])), (o14, .inr (4, [.ref o15, .int v17, .int v18])), (o15, .inl (cI, 12, .inl fw16)), (o3, .inl (cI, 12, .inl f157)), (o5, .inl (cI, 81, .inl u.2))]) (fun hPc hDc => va_runS (As := [.ref o1, .int 0, .int x159, .int 0, .int 0]) (rest := []) ⟨hx, hb, hml, hown, hts⟩ (kX1_gather_14 l dC dI cI c2 cZ o1 o3 o5 o7 o9 v2 f157 fw6 0 v18 v13 0 x159 0 H.size v2_h f157_b (iv_w ik_0 (by decide)) (iv_w ik_0 (by decide)) x159_h (iv_w ik_0 (by decide))) (va_cwS 5 hts gX1_bring_X1_gather rfl rfl rfl (by decide +kernel) ⟨Nat.le_of_ble_eq_true rfl, Nat.le_of_ble_eq_true rfl⟩) (pre_S hPc hK hDc hN) rfl rfl hl.1 rfl (lv_room (Nat.le_of_ble_eq_true rfl)) dX1_bring_90 ⟨Nat.le_of_ble_eq_true rfl, Nat.le_of_ble_eq_true rfl⟩) hP hD hS hA [0, 3, 4] [1, 2] [2, 0, 1, 3, 4] rfl rfl (by decide +kernel) (by decide +kernel) (by decide +kernel) (by decide +kernel) (fun _ => rfl) (fun u H locs hq hP hD hS => ?_)
          obtain ⟨y160, f161⟩ := u
          have y160_h := hq
          have hP : va_P (dC, dI) vwCl ([(o1, .inr (1, [.int v2, .ref o3, .ref o5, .ref o7, .ref o9, .int y160, .int v18, .int v13])), (o14, .inr (4, [.ref o15, .int v17, .int v18])), (o15, .inl (cI, 12, .inl fw16)), (o3, .inl (cI, 12, .inl f157)), (o5, .inl (cI, 81, .inl f161))]) H := hP
          have hD : va_D A ([(o1, .inr (1, [.int v2, .ref o3, .ref o5, .ref o7, .ref o9, .int y160, .int v18, .int v13])), (o14, .inr (4, [.ref o15, .int v17, .int v18])), (o15, .inl (cI, 12, .inl fw16)), (o3, .inl (cI, 12, .inl f157)), (o5, .inl (cI, 81, .inl f161))]) := hD
          rw [hQ]
          exact W.vret hx hb hr (fun t ht hW => ⟨⟨(y160, v18, f157, f161), rfl, ⟨y160_h, f157_b⟩, by rw [ht]; exact hP, va_K.moved hW.alike hK, hD⟩, hS.F ht⟩) hS.2.2 dX1_bring_93
        ·
          have qh158 := nle_i h158
          have j162 : Iv 0 11 x156 := r_ltl qh158 x156_h v17_h (by decide)
          have j163 : Iv 1 12 v17 := r_ltr qh158 x156_h v17_h (by decide)
          refine lv_aload_n hx hb dX1_bring_35 rfl (lv_at hl 1 rfl) ?_
          refine va_get (D := (dC, dI)) (ci := 1) (v := .ref o3) (C := RX1) (T := TX1) (N := 8) hx hb hts iw_X1_bring_X1 hown hK hP 0 rfl rfl 1 (by decide) (hts (.fieldLink RX1 9 "HolelessHouse$Cliques" "near" "[I") hm_X1_bring_3) (fun _ h9 => h9) rfl dX1_bring_36 ?_
          refine lv_iload_n hx hb dX1_bring_39 rfl (lv_at hl 0 rfl) ?_
          refine lv_aload_n hx hb dX1_bring_40 rfl (lv_at hl 1 rfl) ?_
          refine va_get (D := (dC, dI)) (ci := 1) (v := .int v2) (C := RX1) (T := TX1) (N := 8) hx hb hts iw_X1_bring_X1 hown hK hP 0 rfl rfl 0 (by decide) (hts (.fieldLink RX1 34 "HolelessHouse$Cliques" "turned" "Z") hm_X1_bring_4) (fun _ h9 => h9) rfl dX1_bring_41 ?_
          refine lv_if_eq (tgt := 69) hx hb dX1_bring_44 (by decide) (fun h164 => ?_) (fun h164 => ?_)
          ·
            have j165 : Iv 0 0 v2 := r_eq h164 ik_0
            refine lv_aload_n hx hb dX1_bring_69 rfl (lv_at hl 2 rfl) ?_
            refine va_getN (D := (dC, dI)) (ci := 4) (v := .ref o15) (C := RX4) (T := TX4) (N := 3) hx hb hts iw_X1_bring_X4 hown hK hP 1 rfl rfl 0 (by decide) (hN.use ns_4) (fun _ h9 => h9) rfl dX1_bring_70 ?_
            refine lv_iload_n hx hb dX1_bring_73 rfl (lv_at hl 0 rfl) ?_
            refine va_iald hx hb hK hP 2 0 rfl rfl (vin_iv j162 (by decide)) dX1_bring_74 (lv_topi (fun x166 x166_e => ?_))
            have x166_h : Iv 0 4095 x166 := iv_e x166_e (bd_at fw16_b (vin_iv j162 (by decide)))
            refine k_iast hx hb hK hP hD hS 3 0 rfl rfl (vin_iv j162 (by decide)) dX1_bring_75 (fun f167 H locs f167_e hP hD hS => ?_)
            have f167_b : Bd 12 0 4095 f167 := bd_upd f167_e f157_b x166_h (by decide)
            have hP : va_P (dC, dI) vwCl ([(o1, .inr (1, [.int v2, .ref o3, .ref o5, .ref o7, .ref o9, .int 0, .int v18, .int v13])), (o14, .inr (4, [.ref o15, .int v17, .int v18])), (o15, .inl (cI, 12, .inl fw16)), (o3, .inl (cI, 12, .inl f167)), (o5, .inl (cI, 81, .inl fw6))]) H := hP
            have hD : va_D A ([(o1, .inr (1, [.int v2, .ref o3, .ref o5, .ref o7, .ref o9, .int 0, .int v18, .int v13])), (o14, .inr (4, [.ref o15, .int v17, .int v18])), (o15, .inl (cI, 12, .inl fw16)), (o3, .inl (cI, 12, .inl f167)), (o5, .inl (cI, 81, .inl fw6))]) := hD
            obtain ⟨x168, x168_e⟩ : ∃ z : Int32, z = x156 + 1 := ⟨_, rfl⟩
            have x168_h : Iv 1 12 x168 := iv_e x168_e (iv_add j162 ik_1 (by decide))
            refine lv_iinc (v := x168) (lv' := [(2, .int x168), (0, .ref o1), (1, .ref o14)]) hx hb dX1_bring_76 hl (k := 0) rfl (incN (by decide +kernel) x168_e) (by decide) rfl (fun ls hl => ?_)
            refine lv_goto (tgt := 27) hx hb dX1_bring_79 (by decide) ?_
            exact ih1 x168 f167 _ _ _ (ms_up x168_e j162 (by decide) hM1) (iv_w x168_h (by decide)) f167_b hP hD hS hl
          ·
            have j169 : Iv 1 1 v2 := r_nelo h164 v2_h ik_0 (by decide)
            refine lv_aload_n hx hb dX1_bring_47 rfl (lv_at hl 2 rfl) ?_
            refine kc_i (D := (dC, dI)) (S := Unit) (wc := [(o14, .inr (4, [.ref o15, .int v17, .int v18]))]) (wr := [(o1, .inr (1, [.int v2, .ref o3, .ref o5, .ref o7, .ref o9, .int 0, .int v18, .int v13])), (o15, .inl (cI, 12, .inl fw16)), (o3, .inl (cI, 12, .inl f157)), (o5, .inl (cI, 81, .inl fw6))]) (w1 := fun _ => [(o14, .inr (4, [.ref o15, .int v17, .int v18]))]) (wn := fun _ => [(o1, .inr (1, [.int v2, .ref o3, .ref o5, .ref o7, .ref o9, .int 0, .int v18, .int v13])), (o14, .inr (4, [.ref o15, .int v17, .int v18])), (o15, .inl (cI, 12, .inl fw16)), (o3, .inl (cI, 12, .inl f157)), (o5, .inl (cI, 81, .inl fw6))]) (fun hPc hDc => va_runVN (As := []) (rest := [.int x156, .ref o3]) ⟨hx, hb, hml, hown, hts⟩ (kX4_all_1 l dC dI cI c2 cZ o14 o15 v17 v18 H.size (iv_w j163 (by decide))) ⟨va_cnB 0 hts gX1_bring_X4_all_n44 rfl rfl rfl (hN.1 _ ns_106) (hts (.initialized RX4) hm_X1_bring_6) (by decide +kernel) ⟨Nat.le_of_ble_eq_true rfl, Nat.le_of_ble_eq_true rfl⟩, (hts (.instanceMethod yX4_all) hm_X1_bring_5), (hts (.selects RX4 yX4_all yX4_all) hm_X1_bring_7)⟩ (pre_V hPc hK hDc hN (ci := 4) (q0 := 0) rfl rfl) rfl rfl hl.1 rfl (lv_room (Nat.le_of_ble_eq_true rfl)) dX1_bring_48 ⟨Nat.le_of_ble_eq_true rfl, Nat.le_of_ble_eq_true rfl⟩) hP hD hS hA [1] [0, 2, 3, 4] [0, 4, 1, 2, 3] rfl rfl (by decide +kernel) (by decide +kernel) (by decide +kernel) (by decide +kernel) (fun _ => rfl) (fun x170 _ H locs hq hP hD hS => ?_)
            have x170_h := hq
            have hP : va_P (dC, dI) vwCl ([(o1, .inr (1, [.int v2, .ref o3, .ref o5, .ref o7, .ref o9, .int 0, .int v18, .int v13])), (o14, .inr (4, [.ref o15, .int v17, .int v18])), (o15, .inl (cI, 12, .inl fw16)), (o3, .inl (cI, 12, .inl f157)), (o5, .inl (cI, 81, .inl fw6))]) H := hP
            have hD : va_D A ([(o1, .inr (1, [.int v2, .ref o3, .ref o5, .ref o7, .ref o9, .int 0, .int v18, .int v13])), (o14, .inr (4, [.ref o15, .int v17, .int v18])), (o15, .inl (cI, 12, .inl fw16)), (o3, .inl (cI, 12, .inl f157)), (o5, .inl (cI, 81, .inl fw6))]) := hD
            refine lv_aload_n hx hb dX1_bring_51 rfl (lv_at hl 2 rfl) ?_
            refine va_getN (D := (dC, dI)) (ci := 4) (v := .ref o15) (C := RX4) (T := TX4) (N := 3) hx hb hts iw_X1_bring_X4 hown hK hP 1 rfl rfl 0 (by decide) (hN.use ns_4) (fun _ h9 => h9) rfl dX1_bring_52 ?_
            refine lv_iload_n hx hb dX1_bring_55 rfl (lv_at hl 0 rfl) ?_
            refine va_iald hx hb hK hP 2 0 rfl rfl (vin_iv j162 (by decide)) dX1_bring_56 (lv_topi (fun x171 x171_e => ?_))
            have x171_h : Iv 0 4095 x171 := iv_e x171_e (bd_at fw16_b (vin_iv j162 (by decide)))
            refine lv_iconst (v := (-1)) hx hb dX1_bring_57 (by decide) ?_
            refine lv_ixor hx hb dX1_bring_58 (lv_topi (fun x172 x172_e => ?_))
            refine lv_iand hx hb dX1_bring_59 (lv_topi (fun x173 x173_e => ?_))
            have x173_h : Iv 0 4095 x173 := iv_e x173_e (iv_andL _ x170_h (by decide))
            refine lv_iconst (v := 1) hx hb dX1_bring_60 (by decide) ?_
            refine lv_iload_n hx hb dX1_bring_61 rfl (lv_at hl 0 rfl) ?_
            refine lv_ishl hx hb dX1_bring_62 (lv_topi (fun x174 x174_e => ?_))
            have x174_h : Iv 1 2048 x174 := iv_e x174_e (iv_shl1 j162 (by decide))
            refine lv_iconst (v := (-1)) hx hb dX1_bring_63 (by decide) ?_
            refine lv_ixor hx hb dX1_bring_64 (lv_topi (fun x175 x175_e => ?_))
            refine lv_iand hx hb dX1_bring_65 (lv_topi (fun x176 x176_e => ?_))
            have x176_h : Iv 0 4095 x176 := iv_e x176_e (iv_andL _ x173_h (by decide))
            refine lv_goto (tgt := 75) hx hb dX1_bring_66 (by decide) ?_
            refine k_iast hx hb hK hP hD hS 3 0 rfl rfl (vin_iv j162 (by decide)) dX1_bring_75 (fun f177 H locs f177_e hP hD hS => ?_)
            have f177_b : Bd 12 0 4095 f177 := bd_upd f177_e f157_b x176_h (by decide)
            have hP : va_P (dC, dI) vwCl ([(o1, .inr (1, [.int v2, .ref o3, .ref o5, .ref o7, .ref o9, .int 0, .int v18, .int v13])), (o14, .inr (4, [.ref o15, .int v17, .int v18])), (o15, .inl (cI, 12, .inl fw16)), (o3, .inl (cI, 12, .inl f177)), (o5, .inl (cI, 81, .inl fw6))]) H := hP
            have hD : va_D A ([(o1, .inr (1, [.int v2, .ref o3, .ref o5, .ref o7, .ref o9, .int 0, .int v18, .int v13])), (o14, .inr (4, [.ref o15, .int v17, .int v18])), (o15, .inl (cI, 12, .inl fw16)), (o3, .inl (cI, 12, .inl f177)), (o5, .inl (cI, 81, .inl fw6))]) := hD
            obtain ⟨x178, x178_e⟩ : ∃ z : Int32, z = x156 + 1 := ⟨_, rfl⟩
            have x178_h : Iv 1 12 x178 := iv_e x178_e (iv_add j162 ik_1 (by decide))
            refine lv_iinc (v := x178) (lv' := [(2, .int x178), (0, .ref o1), (1, .ref o14)]) hx hb dX1_bring_76 hl (k := 0) rfl (incN (by decide +kernel) x178_e) (by decide) rfl (fun ls hl => ?_)
            refine lv_goto (tgt := 27) hx hb dX1_bring_79 (by decide) ?_
            exact ih1 x178 f177 _ _ _ (ms_up x178_e j162 (by decide) hM1) (iv_w x178_h (by decide)) f177_b hP hD hS hl
    exact L1 _ 0 fw4 _ _ _ (Nat.lt_succ_self _) (iv_w ik_0 (by decide)) fw4_b hP hD hS hl
  ·
    rw [hQ]
    exact W.vret hx hb hr (fun t ht hW => ⟨⟨(v11, v12, fw4, fw6), rfl, ⟨v11_h, fw4_b⟩, by rw [ht]; exact hP, va_K.moved hW.alike hK, hD⟩, hS.F ht⟩) hS.2.2 dX1_bring_11
theorem iw_X1_has_X1 : ∀ w ∈ wsX10, w ∈ wsX1_has := fun _ h => List.mem_cons.mpr (Or.inr (List.mem_append.mpr (Or.inr h)))
set_option maxHeartbeats 4000000 in
set_option maxRecDepth 100000 in
theorem kX1_has_1 (l : Launch) (dC : Nat → ClassId) (dI : Nat → Nat → Nat) (cI c2 cZ : ClassId) (o1 : Nat) (o3 : Nat) (o5 : Nat) (o7 : Nat) (o9 : Nat) (v2 : Int32) (v11 : Int32) (v12 : Int32) (v13 : Int32) (a1 : Int32) (sz : Nat) (v2_h : Iv 0 1 v2) (v11_h : Iv 0 81 v11) : Met l yX1_has wsX1_has ({ frames := 0, cells := 0, slots := 0, locals := 0 }) (va_Pc [.ref o1, .int a1] (wPre (dC, dI) [(cI, .int), (c2, .array .int), (cZ, .boolean)] ([(o1, .inr (1, [.int v2, .ref o3, .ref o5, .ref o7, .ref o9, .int v11, .int v12, .int v13]))]) sz)) (va_Qi (fun (r : Int32) (_ : Unit) => Iv 0 1 r ∧ (¬ r = 0 → Iv 0 80 a1)) (fun _ t => wPost (dC, dI) [(cI, .int), (c2, .array .int), (cZ, .boolean)] (va_A ([(o1, .inr (1, [.int v2, .ref o3, .ref o5, .ref o7, .ref o9, .int v11, .int v12, .int v13]))]) sz) ([(o1, .inr (1, [.int v2, .ref o3, .ref o5, .ref o7, .ref o9, .int v11, .int v12, .int v13]))]) t) (va_A ([(o1, .inr (1, [.int v2, .ref o3, .ref o5, .ref o7, .ref o9, .int v11, .int v12, .int v13]))]) sz)) 0 0 (va_A ([(o1, .inr (1, [.int v2, .ref o3, .ref o5, .ref o7, .ref o9, .int v11, .int v12, .int v13]))]) sz) := by
  refine Met.ofW (cc := cX1_has) (maxL := 2) (ret := (some .boolean)) (by decide) rfl ?_
  intro p e s m args below meth c s₁ B hml hv
  obtain ⟨rfl, hsz, hP, hK, hD0, hN⟩ := hv
  have hx := B.exec
  have hb := B.bytes
  have hr := B.returns
  have hts := atoms_spec (ws := wsX1_has) B.pre
  have hown : s.vm.findClass RX1 = some m.cls := findClass_of_methodNamed B.named
  have hlocks := B.notSynchronized
  subst hsz
  have hD := hD0.self (sz := s.heap.size)
  generalize hAe : va_A ([(o1, .inr (1, [.int v2, .ref o3, .ref o5, .ref o7, .ref o9, .int v11, .int v12, .int v13]))]) s.heap.size = A at hD ⊢
  have hA : ∀ q : Nat, s.heap.size ≤ q → A q := fun q h => by rw [← hAe]; exact Or.inr h
  have hS : va_S A s.heap s.heap [] := va_S.rf
  have hP : va_P (dC, dI) vwCl ([(o1, .inr (1, [.int v2, .ref o3, .ref o5, .ref o7, .ref o9, .int v11, .int v12, .int v13]))]) s.heap := hP
  have hl := lv_entry ([.ref o1, .int a1]) (n := 2) (Nat.le_of_ble_eq_true rfl)
  rw [lg_entry_eq]
  generalize (lg_sl ([.ref o1, .int a1]) ++ List.replicate (2 - (lg_sl ([.ref o1, .int a1])).length) Slot.unset).toArray = ls at hl ⊢
  have hl : lv_has ls 2 [(0, .ref o1), (1, .int a1)] := hl
  refine gen_Q (fun Q hQ => ?_)
  refine lv_iload_n hx hb dX1_has_0 rfl (lv_at hl 1 rfl) ?_
  refine lv_if_lt (tgt := 16) hx hb dX1_has_1 (by decide) (fun h1 => ?_) (fun h1 => ?_)
  ·
    have qh1 := lt_i h1
    have j2 : Iv (-2147483648) (-1) a1 := r_ltl qh1 (iv_full a1) ik_0 (by decide)
    refine lv_iconst (v := 0) hx hb dX1_has_16 (by decide) ?_
    rw [hQ]
    exact W.zret (v := 0) (ty := .boolean) hx hb hr rfl (fun t ht hW => ⟨⟨0, (), rfl, ⟨(iv_w ik_0 (by decide)), (fun h8 => absurd rfl h8)⟩, by rw [ht]; exact hP, va_K.moved hW.alike hK, hD⟩, hS.F ht⟩) hS.2.2 dX1_has_17
  ·
    have qh1 := nlt_i h1
    have j3 : Iv 0 2147483647 a1 := r_ler qh1 ik_0 (iv_full a1) (by decide)
    refine lv_iload_n hx hb dX1_has_4 rfl (lv_at hl 1 rfl) ?_
    refine lv_aload_n hx hb dX1_has_5 rfl (lv_at hl 0 rfl) ?_
    refine va_get (D := (dC, dI)) (ci := 1) (v := .int v11) (C := RX1) (T := TX1) (N := 8) hx hb hts iw_X1_has_X1 hown hK hP 0 rfl rfl 5 (by decide) (hts (.fieldLink RX1 24 "HolelessHouse$Cliques" "size" "I") hm_X1_has_1) (fun _ h9 => h9) rfl dX1_has_6 ?_
    refine lv_icmp_ge (tgt := 16) hx hb dX1_has_9 (by decide) (fun h4 => ?_) (fun h4 => ?_)
    ·
      have qh4 := le_i h4
      refine lv_iconst (v := 0) hx hb dX1_has_16 (by decide) ?_
      rw [hQ]
      exact W.zret (v := 0) (ty := .boolean) hx hb hr rfl (fun t ht hW => ⟨⟨0, (), rfl, ⟨(iv_w ik_0 (by decide)), (fun h8 => absurd rfl h8)⟩, by rw [ht]; exact hP, va_K.moved hW.alike hK, hD⟩, hS.F ht⟩) hS.2.2 dX1_has_17
    ·
      have qh4 := nle_i h4
      have j5 : Iv 0 80 a1 := r_ltl qh4 j3 v11_h (by decide)
      have j6 : Iv 1 81 v11 := r_ltr qh4 j3 v11_h (by decide)
      refine lv_iconst (v := 1) hx hb dX1_has_12 (by decide) ?_
      refine lv_goto (tgt := 17) hx hb dX1_has_13 (by decide) ?_
      rw [hQ]
      exact W.zret (v := 1) (ty := .boolean) hx hb hr rfl (fun t ht hW => ⟨⟨1, (), rfl, ⟨(iv_w ik_1 (by decide)), (fun _ => j5)⟩, by rw [ht]; exact hP, va_K.moved hW.alike hK, hD⟩, hS.F ht⟩) hS.2.2 dX1_has_17
theorem iw_X11_clique_X1 : ∀ w ∈ wsX10, w ∈ wsX11_clique := fun _ h => List.mem_cons.mpr (Or.inr (List.mem_append.mpr (Or.inl (List.mem_append.mpr (Or.inr h)))))
theorem iw_X11_clique_X11 : ∀ w ∈ wsX110, w ∈ wsX11_clique := fun _ h => List.mem_cons.mpr (Or.inr (List.mem_append.mpr (Or.inl (List.mem_append.mpr (Or.inl (List.mem_append.mpr (Or.inr h)))))))
set_option maxHeartbeats 4000000 in
set_option maxRecDepth 100000 in
theorem kX11_clique_1 (l : Launch) (dC : Nat → ClassId) (dI : Nat → Nat → Nat) (cI c2 cZ : ClassId) (o1 : Nat) (o2 : Nat) (o7 : Nat) (o12 : Nat) (o41 : Nat) (o51 : Nat) (o64 : Nat) (o77 : Nat) (o84 : Nat) (o91 : Nat) (o99 : Nat) (o111 : Nat) (o123 : Nat) (o53 : Nat) (o55 : Nat) (o57 : Nat) (o59 : Nat) (o3 : Nat) (fw4 : Nat → Int32) (v5 : Int32) (v6 : Int32) (v52 : Int32) (fw54 : Nat → Int32) (fw56 : Nat → Int32) (v61 : Int32) (v62 : Int32) (v63 : Int32) (v125 : Int32) (a1 : Int32) (sz : Nat) (fw4_b : Bd 12 0 4095 fw4) (v5_h : Iv 0 12 v5) (v52_h : Iv 0 1 v52) (fw54_b : Bd 12 0 4095 fw54) (v61_h : Iv 0 81 v61) : Met l yX11_clique wsX11_clique ({ frames := 16, cells := 0, slots := 0, locals := 404 }) (va_Pc [.ref o1, .int a1] (wPre (dC, dI) [(cI, .int), (c2, .array .int), (cZ, .boolean)] ([(o1, .inr (11, [.ref o2, .ref o7, .ref o12, .ref o41, .ref o51, .ref o64, .ref o77, .ref o84, .ref o91, .ref o99, .ref o111, .ref o123, .int v125])), (o51, .inr (1, [.int v52, .ref o53, .ref o55, .ref o57, .ref o59, .int v61, .int v62, .int v63])), (o2, .inr (4, [.ref o3, .int v5, .int v6])), (o3, .inl (cI, 12, .inl fw4)), (o53, .inl (cI, 12, .inl fw54)), (o55, .inl (cI, 81, .inl fw56))]) sz)) (va_Qi (fun (r : Int32) (u : Int32 × Int32 × (Nat → Int32) × (Nat → Int32)) => Iv 0 81 u.1 ∧ Bd 12 0 4095 u.2.2.1) (fun u t => wPost (dC, dI) [(cI, .int), (c2, .array .int), (cZ, .boolean)] (va_A ([(o1, .inr (11, [.ref o2, .ref o7, .ref o12, .ref o41, .ref o51, .ref o64, .ref o77, .ref o84, .ref o91, .ref o99, .ref o111, .ref o123, .int v125])), (o51, .inr (1, [.int v52, .ref o53, .ref o55, .ref o57, .ref o59, .int v61, .int v62, .int v63])), (o2, .inr (4, [.ref o3, .int v5, .int v6])), (o3, .inl (cI, 12, .inl fw4)), (o53, .inl (cI, 12, .inl fw54)), (o55, .inl (cI, 81, .inl fw56))]) sz) ([(o1, .inr (11, [.ref o2, .ref o7, .ref o12, .ref o41, .ref o51, .ref o64, .ref o77, .ref o84, .ref o91, .ref o99, .ref o111, .ref o123, .int v125])), (o51, .inr (1, [.int v52, .ref o53, .ref o55, .ref o57, .ref o59, .int u.1, .int u.2.1, .int v63])), (o2, .inr (4, [.ref o3, .int v5, .int v6])), (o3, .inl (cI, 12, .inl fw4)), (o53, .inl (cI, 12, .inl u.2.2.1)), (o55, .inl (cI, 81, .inl u.2.2.2))]) t) (va_A ([(o1, .inr (11, [.ref o2, .ref o7, .ref o12, .ref o41, .ref o51, .ref o64, .ref o77, .ref o84, .ref o91, .ref o99, .ref o111, .ref o123, .int v125])), (o51, .inr (1, [.int v52, .ref o53, .ref o55, .ref o57, .ref o59, .int v61, .int v62, .int v63])), (o2, .inr (4, [.ref o3, .int v5, .int v6])), (o3, .inl (cI, 12, .inl fw4)), (o53, .inl (cI, 12, .inl fw54)), (o55, .inl (cI, 81, .inl fw56))]) sz)) 0 0 (va_A ([(o1, .inr (11, [.ref o2, .ref o7, .ref o12, .ref o41, .ref o51, .ref o64, .ref o77, .ref o84, .ref o91, .ref o99, .ref o111, .ref o123, .int v125])), (o51, .inr (1, [.int v52, .ref o53, .ref o55, .ref o57, .ref o59, .int v61, .int v62, .int v63])), (o2, .inr (4, [.ref o3, .int v5, .int v6])), (o3, .inl (cI, 12, .inl fw4)), (o53, .inl (cI, 12, .inl fw54)), (o55, .inl (cI, 81, .inl fw56))]) sz) := by
  refine Met.ofW (cc := cX11_clique) (maxL := 2) (ret := (some .int)) (by decide) rfl ?_
  intro p e s m args below meth c s₁ B hml hv
  obtain ⟨rfl, hsz, hP, hK, hD0, hN⟩ := hv
  have hx := B.exec
  have hb := B.bytes
  have hr := B.returns
  have hts := atoms_spec (ws := wsX11_clique) B.pre
  have hown : s.vm.findClass RX11 = some m.cls := findClass_of_methodNamed B.named
  have hlocks := B.notSynchronized
  subst hsz
  have hD := hD0.self (sz := s.heap.size)
  generalize hAe : va_A ([(o1, .inr (11, [.ref o2, .ref o7, .ref o12, .ref o41, .ref o51, .ref o64, .ref o77, .ref o84, .ref o91, .ref o99, .ref o111, .ref o123, .int v125])), (o51, .inr (1, [.int v52, .ref o53, .ref o55, .ref o57, .ref o59, .int v61, .int v62, .int v63])), (o2, .inr (4, [.ref o3, .int v5, .int v6])), (o3, .inl (cI, 12, .inl fw4)), (o53, .inl (cI, 12, .inl fw54)), (o55, .inl (cI, 81, .inl fw56))]) s.heap.size = A at hD ⊢
  have hA : ∀ q : Nat, s.heap.size ≤ q → A q := fun q h => by rw [← hAe]; exact Or.inr h
  have hS : va_S A s.heap s.heap [] := va_S.rf
  have hP : va_P (dC, dI) vwCl ([(o1, .inr (11, [.ref o2, .ref o7, .ref o12, .ref o41, .ref o51, .ref o64, .ref o77, .ref o84, .ref o91, .ref o99, .ref o111, .ref o123, .int v125])), (o51, .inr (1, [.int v52, .ref o53, .ref o55, .ref o57, .ref o59, .int v61, .int v62, .int v63])), (o2, .inr (4, [.ref o3, .int v5, .int v6])), (o3, .inl (cI, 12, .inl fw4)), (o53, .inl (cI, 12, .inl fw54)), (o55, .inl (cI, 81, .inl fw56))]) s.heap := hP
  have hl := lv_entry ([.ref o1, .int a1]) (n := 2) (Nat.le_of_ble_eq_true rfl)
  rw [lg_entry_eq]
  generalize (lg_sl ([.ref o1, .int a1]) ++ List.replicate (2 - (lg_sl ([.ref o1, .int a1])).length) Slot.unset).toArray = ls at hl ⊢
  have hl : lv_has ls 2 [(0, .ref o1), (1, .int a1)] := hl
  refine gen_Q (fun Q hQ => ?_)
  refine lv_aload_n hx hb dX11_clique_0 rfl (lv_at hl 0 rfl) ?_
  refine va_get (D := (dC, dI)) (ci := 11) (v := .ref o51) (C := RX11) (T := TX11) (N := 13) hx hb hts iw_X11_clique_X11 hown hK hP 0 rfl rfl 4 (by decide) (hts (.fieldLink RX11 42 "HolelessHouse" "cliques" "LHolelessHouse$Cliques;") hm_X11_clique_1) (fun _ h9 => h9) rfl dX11_clique_1 ?_
  refine lv_aload_n hx hb dX11_clique_4 rfl (lv_at hl 0 rfl) ?_
  refine va_get (D := (dC, dI)) (ci := 11) (v := .ref o2) (C := RX11) (T := TX11) (N := 13) hx hb hts iw_X11_clique_X11 hown hK hP 0 rfl rfl 0 (by decide) (hts (.fieldLink RX11 10 "HolelessHouse" "graph" "LHolelessHouse$Graph;") hm_X11_clique_2) (fun _ h9 => h9) rfl dX11_clique_5 ?_
  refine kc_v (D := (dC, dI)) (S := Int32 × Int32 × (Nat → Int32) × (Nat → Int32)) (wc := [(o51, .inr (1, [.int v52, .ref o53, .ref o55, .ref o57, .ref o59, .int v61, .int v62, .int v63])), (o2, .inr (4, [.ref o3, .int v5, .int v6])), (o3, .inl (cI, 12, .inl fw4)), (o53, .inl (cI, 12, .inl fw54)), (o55, .inl (cI, 81, .inl fw56))]) (wr := [(o1, .inr (11, [.ref o2, .ref o7, .ref o12, .ref o41, .ref o51, .ref o64, .ref o77, .ref o84, .ref o91, .ref o99, .ref o111, .ref o123, .int v125]))]) (w1 := fun u => [(o51, .inr (1, [.int v52, .ref o53, .ref o55, .ref o57, .ref o59, .int u.1, .int u.2.1, .int v63])), (o2, .inr (4, [.ref o3, .int v5, .int v6])), (o3, .inl (cI, 12, .inl fw4)), (o53, .inl (cI, 12, .inl u.2.2.1)), (o55, .inl (cI, 81, .inl u.2.2.2))]) (wn := fun u => [(o1, .inr (11, [.ref o2, .ref o7, .ref o12, .ref o41, .ref o51, .ref o64, .ref o77, .ref o84, .ref o91, .ref o99, .ref o111, .ref o123, .int v125])), (o51, .inr (1, [.int v52, .ref o53, .ref o55, .ref o57, .ref o59, .int u.1, .int u.2.1, .int v63])), (o2, .inr (4, [.ref o3, .int v5, .int v6])), (o3, .inl (cI, 12, .inl fw4)), (o53, .inl (cI, 12, .inl u.2.2.1)), (o55, .inl (cI, 81, .inl u.2.2.2))]) (fun hPc hDc => va_runVN (As := [.ref o2]) (rest := []) ⟨hx, hb, hml, hown, hts⟩ (kX1_bring_1 l dC dI cI c2 cZ o51 o2 o53 o55 o57 o59 o3 v52 fw54 fw56 v61 v62 v63 fw4 v5 v6 s.heap.size v52_h fw54_b v61_h fw4_b v5_h) ⟨va_cnB 1 hts gX11_clique_X1_bring_n193 rfl rfl rfl (hN.1 _ ns_105) (hts (.initialized RX1) hm_X11_clique_4) (by decide +kernel) ⟨Nat.le_of_ble_eq_true rfl, Nat.le_of_ble_eq_true rfl⟩, (hts (.instanceMethod yX1_bring) hm_X11_clique_3), (hts (.selects RX1 yX1_bring yX1_bring) hm_X11_clique_5)⟩ (pre_V hPc hK hDc hN (ci := 1) (q0 := 0) rfl rfl) rfl rfl hl.1 rfl (lv_room (Nat.le_of_ble_eq_true rfl)) dX11_clique_8 ⟨Nat.le_of_ble_eq_true rfl, Nat.le_of_ble_eq_true rfl⟩) hP hD hS hA [1, 2, 3, 4, 5] [0] [0, 1, 2, 3, 4, 5] rfl rfl (by decide +kernel) (by decide +kernel) (by decide +kernel) (by decide +kernel) (fun _ => rfl) (fun u H locs hq hP hD hS => ?_)
  obtain ⟨y1, y2, f3, f4⟩ := u
  obtain ⟨y1_h, f3_b⟩ := hq
  have hP : va_P (dC, dI) vwCl ([(o1, .inr (11, [.ref o2, .ref o7, .ref o12, .ref o41, .ref o51, .ref o64, .ref o77, .ref o84, .ref o91, .ref o99, .ref o111, .ref o123, .int v125])), (o51, .inr (1, [.int v52, .ref o53, .ref o55, .ref o57, .ref o59, .int y1, .int y2, .int v63])), (o2, .inr (4, [.ref o3, .int v5, .int v6])), (o3, .inl (cI, 12, .inl fw4)), (o53, .inl (cI, 12, .inl f3)), (o55, .inl (cI, 81, .inl f4))]) H := hP
  have hD : va_D A ([(o1, .inr (11, [.ref o2, .ref o7, .ref o12, .ref o41, .ref o51, .ref o64, .ref o77, .ref o84, .ref o91, .ref o99, .ref o111, .ref o123, .int v125])), (o51, .inr (1, [.int v52, .ref o53, .ref o55, .ref o57, .ref o59, .int y1, .int y2, .int v63])), (o2, .inr (4, [.ref o3, .int v5, .int v6])), (o3, .inl (cI, 12, .inl fw4)), (o53, .inl (cI, 12, .inl f3)), (o55, .inl (cI, 81, .inl f4))]) := hD
  refine lv_iload_n hx hb dX11_clique_11 rfl (lv_at hl 1 rfl) ?_
  refine lv_iconst (v := (-1)) hx hb dX11_clique_12 (by decide) ?_
  refine lv_icmp_ne (tgt := 24) hx hb dX11_clique_13 (by decide) (fun h5 => ?_) (fun h5 => ?_)
  ·
    refine lv_aload_n hx hb dX11_clique_24 rfl (lv_at hl 0 rfl) ?_
    refine va_get (D := (dC, dI)) (ci := 11) (v := .ref o51) (C := RX11) (T := TX11) (N := 13) hx hb hts iw_X11_clique_X11 hown hK hP 0 rfl rfl 4 (by decide) (hts (.fieldLink RX11 42 "HolelessHouse" "cliques" "LHolelessHouse$Cliques;") hm_X11_clique_1) (fun _ h9 => h9) rfl dX11_clique_25 ?_
    refine lv_iload_n hx hb dX11_clique_28 rfl (lv_at hl 1 rfl) ?_
    refine kc_i (D := (dC, dI)) (S := Unit) (wc := [(o51, .inr (1, [.int v52, .ref o53, .ref o55, .ref o57, .ref o59, .int y1, .int y2, .int v63]))]) (wr := [(o1, .inr (11, [.ref o2, .ref o7, .ref o12, .ref o41, .ref o51, .ref o64, .ref o77, .ref o84, .ref o91, .ref o99, .ref o111, .ref o123, .int v125])), (o2, .inr (4, [.ref o3, .int v5, .int v6])), (o3, .inl (cI, 12, .inl fw4)), (o53, .inl (cI, 12, .inl f3)), (o55, .inl (cI, 81, .inl f4))]) (w1 := fun _ => [(o51, .inr (1, [.int v52, .ref o53, .ref o55, .ref o57, .ref o59, .int y1, .int y2, .int v63]))]) (wn := fun _ => [(o1, .inr (11, [.ref o2, .ref o7, .ref o12, .ref o41, .ref o51, .ref o64, .ref o77, .ref o84, .ref o91, .ref o99, .ref o111, .ref o123, .int v125])), (o51, .inr (1, [.int v52, .ref o53, .ref o55, .ref o57, .ref o59, .int y1, .int y2, .int v63])), (o2, .inr (4, [.ref o3, .int v5, .int v6])), (o3, .inl (cI, 12, .inl fw4)), (o53, .inl (cI, 12, .inl f3)), (o55, .inl (cI, 81, .inl f4))]) (fun hPc hDc => va_runVN (As := [.int a1]) (rest := []) ⟨hx, hb, hml, hown, hts⟩ (kX1_has_1 l dC dI cI c2 cZ o51 o53 o55 o57 o59 v52 y1 y2 v63 a1 H.size v52_h y1_h) ⟨va_cnB 1 hts gX11_clique_X1_has_n195 rfl rfl rfl (hN.1 _ ns_108) (hts (.initialized RX1) hm_X11_clique_4) (by decide +kernel) ⟨Nat.le_of_ble_eq_true rfl, Nat.le_of_ble_eq_true rfl⟩, (hts (.instanceMethod yX1_has) hm_X11_clique_36), (hts (.selects RX1 yX1_has yX1_has) hm_X11_clique_37)⟩ (pre_V hPc hK hDc hN (ci := 1) (q0 := 0) rfl rfl) rfl rfl hl.1 rfl (lv_room (Nat.le_of_ble_eq_true rfl)) dX11_clique_29 ⟨Nat.le_of_ble_eq_true rfl, Nat.le_of_ble_eq_true rfl⟩) hP hD hS hA [1] [0, 2, 3, 4, 5] [0, 5, 1, 2, 3, 4] rfl rfl (by decide +kernel) (by decide +kernel) (by decide +kernel) (by decide +kernel) (fun _ => rfl) (fun x6 _ H locs hq hP hD hS => ?_)
    obtain ⟨x6_h, i7⟩ := hq
    have hP : va_P (dC, dI) vwCl ([(o1, .inr (11, [.ref o2, .ref o7, .ref o12, .ref o41, .ref o51, .ref o64, .ref o77, .ref o84, .ref o91, .ref o99, .ref o111, .ref o123, .int v125])), (o51, .inr (1, [.int v52, .ref o53, .ref o55, .ref o57, .ref o59, .int y1, .int y2, .int v63])), (o2, .inr (4, [.ref o3, .int v5, .int v6])), (o3, .inl (cI, 12, .inl fw4)), (o53, .inl (cI, 12, .inl f3)), (o55, .inl (cI, 81, .inl f4))]) H := hP
    have hD : va_D A ([(o1, .inr (11, [.ref o2, .ref o7, .ref o12, .ref o41, .ref o51, .ref o64, .ref o77, .ref o84, .ref o91, .ref o99, .ref o111, .ref o123, .int v125])), (o51, .inr (1, [.int v52, .ref o53, .ref o55, .ref o57, .ref o59, .int y1, .int y2, .int v63])), (o2, .inr (4, [.ref o3, .int v5, .int v6])), (o3, .inl (cI, 12, .inl fw4)), (o53, .inl (cI, 12, .inl f3)), (o55, .inl (cI, 81, .inl f4))]) := hD
    refine lv_if_eq (tgt := 47) hx hb dX11_clique_32 (by decide) (fun h8 => ?_) (fun h8 => ?_)
    ·
      have j9 : Iv 0 0 x6 := r_eq h8 ik_0
      refine lv_bipush (v := (-9)) hx hb dX11_clique_47 (by decide) ?_
      rw [hQ]
      exact W.iret (v := (-9)) hx hb hr (fun t ht hW => ⟨⟨(-9), (y1, y2, f3, f4), rfl, ⟨y1_h, f3_b⟩, by rw [ht]; exact hP, va_K.moved hW.alike hK, hD⟩, hS.F ht⟩) hS.2.2 dX11_clique_49
    ·
      have j10 : Iv 1 1 x6 := r_nelo h8 x6_h ik_0 (by decide)
      have j11 : Iv 0 80 a1 := i7 h8
      refine lv_aload_n hx hb dX11_clique_35 rfl (lv_at hl 0 rfl) ?_
      refine va_get (D := (dC, dI)) (ci := 11) (v := .ref o51) (C := RX11) (T := TX11) (N := 13) hx hb hts iw_X11_clique_X11 hown hK hP 0 rfl rfl 4 (by decide) (hts (.fieldLink RX11 42 "HolelessHouse" "cliques" "LHolelessHouse$Cliques;") hm_X11_clique_1) (fun _ h9 => h9) rfl dX11_clique_36 ?_
      refine va_getN (D := (dC, dI)) (ci := 1) (v := .ref o55) (C := RX1) (T := TX1) (N := 8) hx hb hts iw_X11_clique_X1 hown hK hP 1 rfl rfl 2 (by decide) (hN.use ns_33) (fun _ h9 => h9) rfl dX11_clique_39 ?_
      refine lv_iload_n hx hb dX11_clique_42 rfl (lv_at hl 1 rfl) ?_
      refine va_iald hx hb hK hP 5 0 rfl rfl (vin_iv j11 (by decide)) dX11_clique_43 (lv_topi (fun x12 x12_e => ?_))
      refine lv_goto (tgt := 49) hx hb dX11_clique_44 (by decide) ?_
      rw [hQ]
      exact W.iret (v := x12) hx hb hr (fun t ht hW => ⟨⟨x12, (y1, y2, f3, f4), rfl, ⟨y1_h, f3_b⟩, by rw [ht]; exact hP, va_K.moved hW.alike hK, hD⟩, hS.F ht⟩) hS.2.2 dX11_clique_49
  ·
    have j13 : Iv (-1) (-1) a1 := r_eq h5 ikm_1
    refine lv_aload_n hx hb dX11_clique_16 rfl (lv_at hl 0 rfl) ?_
    refine va_get (D := (dC, dI)) (ci := 11) (v := .ref o51) (C := RX11) (T := TX11) (N := 13) hx hb hts iw_X11_clique_X11 hown hK hP 0 rfl rfl 4 (by decide) (hts (.fieldLink RX11 42 "HolelessHouse" "cliques" "LHolelessHouse$Cliques;") hm_X11_clique_1) (fun _ h9 => h9) rfl dX11_clique_17 ?_
    refine va_getN (D := (dC, dI)) (ci := 1) (v := .int y1) (C := RX1) (T := TX1) (N := 8) hx hb hts iw_X11_clique_X1 hown hK hP 1 rfl rfl 5 (by decide) (hN.use ns_36) (fun _ h9 => h9) rfl dX11_clique_20 ?_
    rw [hQ]
    exact W.iret (v := y1) hx hb hr (fun t ht hW => ⟨⟨y1, (y1, y2, f3, f4), rfl, ⟨y1_h, f3_b⟩, by rw [ht]; exact hP, va_K.moved hW.alike hK, hD⟩, hS.F ht⟩) hS.2.2 dX11_clique_23
theorem iw_X1_widest_X1 : ∀ w ∈ wsX10, w ∈ wsX1_widest := fun _ h => List.mem_cons.mpr (Or.inr (List.mem_append.mpr (Or.inr h)))
set_option maxHeartbeats 4000000 in
set_option maxRecDepth 100000 in
theorem kX1_widest_1 (l : Launch) (dC : Nat → ClassId) (dI : Nat → Nat → Nat) (cI c2 cZ : ClassId) (o1 : Nat) (o3 : Nat) (o5 : Nat) (o7 : Nat) (o9 : Nat) (v2 : Int32) (fw6 : Nat → Int32) (v11 : Int32) (v12 : Int32) (v13 : Int32) (sz : Nat) (v2_h : Iv 0 1 v2) (v11_h : Iv 0 81 v11) : Met l yX1_widest wsX1_widest ({ frames := 1, cells := 0, slots := 0, locals := 20 }) (va_Pc [.ref o1] (wPre (dC, dI) [(cI, .int), (c2, .array .int), (cZ, .boolean)] ([(o1, .inr (1, [.int v2, .ref o3, .ref o5, .ref o7, .ref o9, .int v11, .int v12, .int v13])), (o5, .inl (cI, 81, .inl fw6))]) sz)) (va_Qi (fun (r : Int32) (_ : Unit) => True) (fun _ t => wPost (dC, dI) [(cI, .int), (c2, .array .int), (cZ, .boolean)] (va_A ([(o1, .inr (1, [.int v2, .ref o3, .ref o5, .ref o7, .ref o9, .int v11, .int v12, .int v13])), (o5, .inl (cI, 81, .inl fw6))]) sz) ([(o1, .inr (1, [.int v2, .ref o3, .ref o5, .ref o7, .ref o9, .int v11, .int v12, .int v13])), (o5, .inl (cI, 81, .inl fw6))]) t) (va_A ([(o1, .inr (1, [.int v2, .ref o3, .ref o5, .ref o7, .ref o9, .int v11, .int v12, .int v13])), (o5, .inl (cI, 81, .inl fw6))]) sz)) 0 0 (va_A ([(o1, .inr (1, [.int v2, .ref o3, .ref o5, .ref o7, .ref o9, .int v11, .int v12, .int v13])), (o5, .inl (cI, 81, .inl fw6))]) sz) := by
  refine Met.ofW (cc := cX1_widest) (maxL := 3) (ret := (some .int)) (by decide) rfl ?_
  intro p e s m args below meth c s₁ B hml hv
  obtain ⟨rfl, hsz, hP, hK, hD0, hN⟩ := hv
  have hx := B.exec
  have hb := B.bytes
  have hr := B.returns
  have hts := atoms_spec (ws := wsX1_widest) B.pre
  have hown : s.vm.findClass RX1 = some m.cls := findClass_of_methodNamed B.named
  have hlocks := B.notSynchronized
  subst hsz
  have hD := hD0.self (sz := s.heap.size)
  generalize hAe : va_A ([(o1, .inr (1, [.int v2, .ref o3, .ref o5, .ref o7, .ref o9, .int v11, .int v12, .int v13])), (o5, .inl (cI, 81, .inl fw6))]) s.heap.size = A at hD ⊢
  have hA : ∀ q : Nat, s.heap.size ≤ q → A q := fun q h => by rw [← hAe]; exact Or.inr h
  have hS : va_S A s.heap s.heap [] := va_S.rf
  have hP : va_P (dC, dI) vwCl ([(o1, .inr (1, [.int v2, .ref o3, .ref o5, .ref o7, .ref o9, .int v11, .int v12, .int v13])), (o5, .inl (cI, 81, .inl fw6))]) s.heap := hP
  have hl := lv_entry ([.ref o1]) (n := 3) (Nat.le_of_ble_eq_true rfl)
  rw [lg_entry_eq]
  generalize (lg_sl ([.ref o1]) ++ List.replicate (3 - (lg_sl ([.ref o1])).length) Slot.unset).toArray = ls at hl ⊢
  have hl : lv_has ls 3 [(0, .ref o1)] := hl
  refine gen_Q (fun Q hQ => ?_)
  refine lv_iconst (v := 0) hx hb dX1_widest_0 (by decide) ?_
  refine lv_istore_n (lv' := [(1, .int 0), (0, .ref o1)]) hx hb dX1_widest_1 rfl hl (by decide) rfl (fun ls hl => ?_)
  refine lv_iconst (v := 0) hx hb dX1_widest_2 (by decide) ?_
  refine lv_istore_n (lv' := [(2, .int 0), (1, .int 0), (0, .ref o1)]) hx hb dX1_widest_3 rfl hl (by decide) rfl (fun ls hl => ?_)
  have L1 : ∀ (N : Nat) (x179 : Int32) (x180 : Int32) (H : Heap) (locs : List Loc) (ls : Array Slot), (81 - x179.toInt).toNat < N → Iv 0 81 x179 → va_P (dC, dI) vwCl ([(o1, .inr (1, [.int v2, .ref o3, .ref o5, .ref o7, .ref o9, .int v11, .int v12, .int v13])), (o5, .inl (cI, 81, .inl fw6))]) H → va_D A ([(o1, .inr (1, [.int v2, .ref o3, .ref o5, .ref o7, .ref o9, .int v11, .int v12, .int v13])), (o5, .inl (cI, 81, .inl fw6))]) → va_S A s.heap H locs → lv_has ls 3 [(2, .int x179), (1, .int x180), (0, .ref o1)] → W p l e ({ frames := 1, cells := 0, slots := 0, locals := 20 }) s m ([.ref o1] : List Value).toArray below meth c H locs 0 0 Q (F0 m 4 ls []) := by
    intro N
    induction N with
    | zero =>
      intro x179 x180 H locs ls hM
      exact absurd hM (Nat.not_lt_zero _)
    | succ N ih1 =>
      intro x179 x180 H locs ls hM1 x179_h hP hD hS hl
      refine lv_iload_n hx hb dX1_widest_4 rfl (lv_at hl 0 rfl) ?_
      refine lv_aload_n hx hb dX1_widest_5 rfl (lv_at hl 2 rfl) ?_
      refine va_get (D := (dC, dI)) (ci := 1) (v := .int v11) (C := RX1) (T := TX1) (N := 8) hx hb hts iw_X1_widest_X1 hown hK hP 0 rfl rfl 5 (by decide) (hts (.fieldLink RX1 24 "HolelessHouse$Cliques" "size" "I") hm_X1_widest_1) (fun _ h9 => h9) rfl dX1_widest_6 ?_
      refine lv_icmp_ge (tgt := 41) hx hb dX1_widest_9 (by decide) (fun h181 => ?_) (fun h181 => ?_)
      ·
        have qh181 := le_i h181
        refine lv_iload_n hx hb dX1_widest_41 rfl (lv_at hl 1 rfl) ?_
        rw [hQ]
        exact W.iret (v := x180) hx hb hr (fun t ht hW => ⟨⟨x180, (), rfl, trivial, by rw [ht]; exact hP, va_K.moved hW.alike hK, hD⟩, hS.F ht⟩) hS.2.2 dX1_widest_42
      ·
        have qh181 := nle_i h181
        have j182 : Iv 0 80 x179 := r_ltl qh181 x179_h v11_h (by decide)
        have j183 : Iv 1 81 v11 := r_ltr qh181 x179_h v11_h (by decide)
        refine lv_aload_n hx hb dX1_widest_12 rfl (lv_at hl 2 rfl) ?_
        refine va_get (D := (dC, dI)) (ci := 1) (v := .ref o5) (C := RX1) (T := TX1) (N := 8) hx hb hts iw_X1_widest_X1 hown hK hP 0 rfl rfl 2 (by decide) (hts (.fieldLink RX1 15 "HolelessHouse$Cliques" "sets" "[I") hm_X1_widest_2) (fun _ h9 => h9) rfl dX1_widest_13 ?_
        refine lv_iload_n hx hb dX1_widest_16 rfl (lv_at hl 0 rfl) ?_
        refine va_iald hx hb hK hP 1 0 rfl rfl (vin_iv j182 (by decide)) dX1_widest_17 (lv_topi (fun x184 x184_e => ?_))
        refine kc_i (D := (dC, dI)) (S := Unit) (wc := []) (wr := [(o1, .inr (1, [.int v2, .ref o3, .ref o5, .ref o7, .ref o9, .int v11, .int v12, .int v13])), (o5, .inl (cI, 81, .inl fw6))]) (w1 := fun _ => []) (wn := fun _ => [(o1, .inr (1, [.int v2, .ref o3, .ref o5, .ref o7, .ref o9, .int v11, .int v12, .int v13])), (o5, .inl (cI, 81, .inl fw6))]) (fun hPc hDc => va_runS (As := [.int x184]) (rest := []) ⟨hx, hb, hml, hown, hts⟩ (kJ6_bitCount_0f7a4_1 l dC dI cI c2 cZ x184 H.size) (va_cwS 1 hts gX1_widest_J6_bitCount_0f7a4 rfl rfl rfl (by decide +kernel) ⟨Nat.le_of_ble_eq_true rfl, Nat.le_of_ble_eq_true rfl⟩) (pre_S hPc hK hDc hN) rfl rfl hl.1 rfl (lv_room (Nat.le_of_ble_eq_true rfl)) dX1_widest_18 ⟨Nat.le_of_ble_eq_true rfl, Nat.le_of_ble_eq_true rfl⟩) hP hD hS hA [] [0, 1] [0, 1] rfl rfl (by decide +kernel) (by decide +kernel) (by decide +kernel) (by decide +kernel) (fun _ => rfl) (fun x185 _ H locs hq hP hD hS => ?_)
        have x185_h := hq
        have hP : va_P (dC, dI) vwCl ([(o1, .inr (1, [.int v2, .ref o3, .ref o5, .ref o7, .ref o9, .int v11, .int v12, .int v13])), (o5, .inl (cI, 81, .inl fw6))]) H := hP
        have hD : va_D A ([(o1, .inr (1, [.int v2, .ref o3, .ref o5, .ref o7, .ref o9, .int v11, .int v12, .int v13])), (o5, .inl (cI, 81, .inl fw6))]) := hD
        refine lv_iload_n hx hb dX1_widest_21 rfl (lv_at hl 1 rfl) ?_
        refine kc_i (D := (dC, dI)) (S := Unit) (wc := []) (wr := [(o1, .inr (1, [.int v2, .ref o3, .ref o5, .ref o7, .ref o9, .int v11, .int v12, .int v13])), (o5, .inl (cI, 81, .inl fw6))]) (w1 := fun _ => []) (wn := fun _ => [(o1, .inr (1, [.int v2, .ref o3, .ref o5, .ref o7, .ref o9, .int v11, .int v12, .int v13])), (o5, .inl (cI, 81, .inl fw6))]) (fun hPc hDc => va_runS (As := [.int x180]) (rest := [.int x185]) ⟨hx, hb, hml, hown, hts⟩ (kJ6_bitCount_0f7a4_1 l dC dI cI c2 cZ x180 H.size) (va_cwS 1 hts gX1_widest_J6_bitCount_0f7a4 rfl rfl rfl (by decide +kernel) ⟨Nat.le_of_ble_eq_true rfl, Nat.le_of_ble_eq_true rfl⟩) (pre_S hPc hK hDc hN) rfl rfl hl.1 rfl (lv_room (Nat.le_of_ble_eq_true rfl)) dX1_widest_22 ⟨Nat.le_of_ble_eq_true rfl, Nat.le_of_ble_eq_true rfl⟩) hP hD hS hA [] [0, 1] [0, 1] rfl rfl (by decide +kernel) (by decide +kernel) (by decide +kernel) (by decide +kernel) (fun _ => rfl) (fun x186 _ H locs hq hP hD hS => ?_)
        have x186_h := hq
        have hP : va_P (dC, dI) vwCl ([(o1, .inr (1, [.int v2, .ref o3, .ref o5, .ref o7, .ref o9, .int v11, .int v12, .int v13])), (o5, .inl (cI, 81, .inl fw6))]) H := hP
        have hD : va_D A ([(o1, .inr (1, [.int v2, .ref o3, .ref o5, .ref o7, .ref o9, .int v11, .int v12, .int v13])), (o5, .inl (cI, 81, .inl fw6))]) := hD
        refine lv_icmp_le (tgt := 35) hx hb dX1_widest_25 (by decide) (fun h187 => ?_) (fun h187 => ?_)
        ·
          have qh187 := le_i h187
          obtain ⟨x188, x188_e⟩ : ∃ z : Int32, z = x179 + 1 := ⟨_, rfl⟩
          have x188_h : Iv 1 81 x188 := iv_e x188_e (iv_add j182 ik_1 (by decide))
          refine lv_iinc (v := x188) (lv' := [(2, .int x188), (1, .int x180), (0, .ref o1)]) hx hb dX1_widest_35 hl (k := 0) rfl (incN (by decide +kernel) x188_e) (by decide) rfl (fun ls hl => ?_)
          refine lv_goto (tgt := 4) hx hb dX1_widest_38 (by decide) ?_
          exact ih1 x188 x180 _ _ _ (ms_up x188_e j182 (by decide) hM1) (iv_w x188_h (by decide)) hP hD hS hl
        ·
          have qh187 := nle_i h187
          have j189 : Iv 0 62 x186 := r_ltl qh187 x186_h x185_h (by decide)
          have j190 : Iv 1 63 x185 := r_ltr qh187 x186_h x185_h (by decide)
          refine lv_aload_n hx hb dX1_widest_28 rfl (lv_at hl 2 rfl) ?_
          refine va_get (D := (dC, dI)) (ci := 1) (v := .ref o5) (C := RX1) (T := TX1) (N := 8) hx hb hts iw_X1_widest_X1 hown hK hP 0 rfl rfl 2 (by decide) (hts (.fieldLink RX1 15 "HolelessHouse$Cliques" "sets" "[I") hm_X1_widest_2) (fun _ h9 => h9) rfl dX1_widest_29 ?_
          refine lv_iload_n hx hb dX1_widest_32 rfl (lv_at hl 0 rfl) ?_
          refine va_iald hx hb hK hP 1 0 rfl rfl (vin_iv j182 (by decide)) dX1_widest_33 (lv_topi (fun x191 x191_e => ?_))
          refine lv_istore_n (lv' := [(1, .int x191), (2, .int x179), (0, .ref o1)]) hx hb dX1_widest_34 rfl hl (by decide) rfl (fun ls hl => ?_)
          obtain ⟨x192, x192_e⟩ : ∃ z : Int32, z = x179 + 1 := ⟨_, rfl⟩
          have x192_h : Iv 1 81 x192 := iv_e x192_e (iv_add j182 ik_1 (by decide))
          refine lv_iinc (v := x192) (lv' := [(2, .int x192), (1, .int x191), (0, .ref o1)]) hx hb dX1_widest_35 hl (k := 1) rfl (incN (by decide +kernel) x192_e) (by decide) rfl (fun ls hl => ?_)
          refine lv_goto (tgt := 4) hx hb dX1_widest_38 (by decide) ?_
          exact ih1 x192 x191 _ _ _ (ms_up x192_e j182 (by decide) hM1) (iv_w x192_h (by decide)) hP hD hS hl
  exact L1 _ 0 0 _ _ _ (Nat.lt_succ_self _) (iv_w ik_0 (by decide)) hP hD hS hl
theorem iw_X11_greatest_X11 : ∀ w ∈ wsX110, w ∈ wsX11_greatest := fun _ h => List.mem_cons.mpr (Or.inr (List.mem_append.mpr (Or.inl (List.mem_append.mpr (Or.inl (List.mem_append.mpr (Or.inr h)))))))
set_option maxHeartbeats 4000000 in
set_option maxRecDepth 100000 in
theorem kX11_greatest_1 (l : Launch) (dC : Nat → ClassId) (dI : Nat → Nat → Nat) (cI c2 cZ : ClassId) (o1 : Nat) (o2 : Nat) (o7 : Nat) (o12 : Nat) (o41 : Nat) (o51 : Nat) (o64 : Nat) (o77 : Nat) (o84 : Nat) (o91 : Nat) (o99 : Nat) (o111 : Nat) (o123 : Nat) (o53 : Nat) (o55 : Nat) (o57 : Nat) (o59 : Nat) (o3 : Nat) (fw4 : Nat → Int32) (v5 : Int32) (v6 : Int32) (v52 : Int32) (fw54 : Nat → Int32) (fw56 : Nat → Int32) (v61 : Int32) (v62 : Int32) (v63 : Int32) (v125 : Int32) (sz : Nat) (fw4_b : Bd 12 0 4095 fw4) (v5_h : Iv 0 12 v5) (v52_h : Iv 0 1 v52) (fw54_b : Bd 12 0 4095 fw54) (v61_h : Iv 0 81 v61) : Met l yX11_greatest wsX11_greatest ({ frames := 16, cells := 0, slots := 0, locals := 404 }) (va_Pc [.ref o1] (wPre (dC, dI) [(cI, .int), (c2, .array .int), (cZ, .boolean)] ([(o1, .inr (11, [.ref o2, .ref o7, .ref o12, .ref o41, .ref o51, .ref o64, .ref o77, .ref o84, .ref o91, .ref o99, .ref o111, .ref o123, .int v125])), (o51, .inr (1, [.int v52, .ref o53, .ref o55, .ref o57, .ref o59, .int v61, .int v62, .int v63])), (o2, .inr (4, [.ref o3, .int v5, .int v6])), (o3, .inl (cI, 12, .inl fw4)), (o53, .inl (cI, 12, .inl fw54)), (o55, .inl (cI, 81, .inl fw56))]) sz)) (va_Qi (fun (r : Int32) (u : Int32 × Int32 × (Nat → Int32) × (Nat → Int32)) => Iv 0 63 r ∧ Iv 0 81 u.1 ∧ Bd 12 0 4095 u.2.2.1) (fun u t => wPost (dC, dI) [(cI, .int), (c2, .array .int), (cZ, .boolean)] (va_A ([(o1, .inr (11, [.ref o2, .ref o7, .ref o12, .ref o41, .ref o51, .ref o64, .ref o77, .ref o84, .ref o91, .ref o99, .ref o111, .ref o123, .int v125])), (o51, .inr (1, [.int v52, .ref o53, .ref o55, .ref o57, .ref o59, .int v61, .int v62, .int v63])), (o2, .inr (4, [.ref o3, .int v5, .int v6])), (o3, .inl (cI, 12, .inl fw4)), (o53, .inl (cI, 12, .inl fw54)), (o55, .inl (cI, 81, .inl fw56))]) sz) ([(o1, .inr (11, [.ref o2, .ref o7, .ref o12, .ref o41, .ref o51, .ref o64, .ref o77, .ref o84, .ref o91, .ref o99, .ref o111, .ref o123, .int v125])), (o51, .inr (1, [.int v52, .ref o53, .ref o55, .ref o57, .ref o59, .int u.1, .int u.2.1, .int v63])), (o2, .inr (4, [.ref o3, .int v5, .int v6])), (o3, .inl (cI, 12, .inl fw4)), (o53, .inl (cI, 12, .inl u.2.2.1)), (o55, .inl (cI, 81, .inl u.2.2.2))]) t) (va_A ([(o1, .inr (11, [.ref o2, .ref o7, .ref o12, .ref o41, .ref o51, .ref o64, .ref o77, .ref o84, .ref o91, .ref o99, .ref o111, .ref o123, .int v125])), (o51, .inr (1, [.int v52, .ref o53, .ref o55, .ref o57, .ref o59, .int v61, .int v62, .int v63])), (o2, .inr (4, [.ref o3, .int v5, .int v6])), (o3, .inl (cI, 12, .inl fw4)), (o53, .inl (cI, 12, .inl fw54)), (o55, .inl (cI, 81, .inl fw56))]) sz)) 0 0 (va_A ([(o1, .inr (11, [.ref o2, .ref o7, .ref o12, .ref o41, .ref o51, .ref o64, .ref o77, .ref o84, .ref o91, .ref o99, .ref o111, .ref o123, .int v125])), (o51, .inr (1, [.int v52, .ref o53, .ref o55, .ref o57, .ref o59, .int v61, .int v62, .int v63])), (o2, .inr (4, [.ref o3, .int v5, .int v6])), (o3, .inl (cI, 12, .inl fw4)), (o53, .inl (cI, 12, .inl fw54)), (o55, .inl (cI, 81, .inl fw56))]) sz) := by
  refine Met.ofW (cc := cX11_greatest) (maxL := 1) (ret := (some .int)) (by decide) rfl ?_
  intro p e s m args below meth c s₁ B hml hv
  obtain ⟨rfl, hsz, hP, hK, hD0, hN⟩ := hv
  have hx := B.exec
  have hb := B.bytes
  have hr := B.returns
  have hts := atoms_spec (ws := wsX11_greatest) B.pre
  have hown : s.vm.findClass RX11 = some m.cls := findClass_of_methodNamed B.named
  have hlocks := B.notSynchronized
  subst hsz
  have hD := hD0.self (sz := s.heap.size)
  generalize hAe : va_A ([(o1, .inr (11, [.ref o2, .ref o7, .ref o12, .ref o41, .ref o51, .ref o64, .ref o77, .ref o84, .ref o91, .ref o99, .ref o111, .ref o123, .int v125])), (o51, .inr (1, [.int v52, .ref o53, .ref o55, .ref o57, .ref o59, .int v61, .int v62, .int v63])), (o2, .inr (4, [.ref o3, .int v5, .int v6])), (o3, .inl (cI, 12, .inl fw4)), (o53, .inl (cI, 12, .inl fw54)), (o55, .inl (cI, 81, .inl fw56))]) s.heap.size = A at hD ⊢
  have hA : ∀ q : Nat, s.heap.size ≤ q → A q := fun q h => by rw [← hAe]; exact Or.inr h
  have hS : va_S A s.heap s.heap [] := va_S.rf
  have hP : va_P (dC, dI) vwCl ([(o1, .inr (11, [.ref o2, .ref o7, .ref o12, .ref o41, .ref o51, .ref o64, .ref o77, .ref o84, .ref o91, .ref o99, .ref o111, .ref o123, .int v125])), (o51, .inr (1, [.int v52, .ref o53, .ref o55, .ref o57, .ref o59, .int v61, .int v62, .int v63])), (o2, .inr (4, [.ref o3, .int v5, .int v6])), (o3, .inl (cI, 12, .inl fw4)), (o53, .inl (cI, 12, .inl fw54)), (o55, .inl (cI, 81, .inl fw56))]) s.heap := hP
  have hl := lv_entry ([.ref o1]) (n := 1) (Nat.le_of_ble_eq_true rfl)
  rw [lg_entry_eq]
  generalize (lg_sl ([.ref o1]) ++ List.replicate (1 - (lg_sl ([.ref o1])).length) Slot.unset).toArray = ls at hl ⊢
  have hl : lv_has ls 1 [(0, .ref o1)] := hl
  refine gen_Q (fun Q hQ => ?_)
  refine lv_aload_n hx hb dX11_greatest_0 rfl (lv_at hl 0 rfl) ?_
  refine va_get (D := (dC, dI)) (ci := 11) (v := .ref o51) (C := RX11) (T := TX11) (N := 13) hx hb hts iw_X11_greatest_X11 hown hK hP 0 rfl rfl 4 (by decide) (hts (.fieldLink RX11 42 "HolelessHouse" "cliques" "LHolelessHouse$Cliques;") hm_X11_greatest_1) (fun _ h9 => h9) rfl dX11_greatest_1 ?_
  refine lv_aload_n hx hb dX11_greatest_4 rfl (lv_at hl 0 rfl) ?_
  refine va_get (D := (dC, dI)) (ci := 11) (v := .ref o2) (C := RX11) (T := TX11) (N := 13) hx hb hts iw_X11_greatest_X11 hown hK hP 0 rfl rfl 0 (by decide) (hts (.fieldLink RX11 10 "HolelessHouse" "graph" "LHolelessHouse$Graph;") hm_X11_greatest_2) (fun _ h9 => h9) rfl dX11_greatest_5 ?_
  refine kc_v (D := (dC, dI)) (S := Int32 × Int32 × (Nat → Int32) × (Nat → Int32)) (wc := [(o51, .inr (1, [.int v52, .ref o53, .ref o55, .ref o57, .ref o59, .int v61, .int v62, .int v63])), (o2, .inr (4, [.ref o3, .int v5, .int v6])), (o3, .inl (cI, 12, .inl fw4)), (o53, .inl (cI, 12, .inl fw54)), (o55, .inl (cI, 81, .inl fw56))]) (wr := [(o1, .inr (11, [.ref o2, .ref o7, .ref o12, .ref o41, .ref o51, .ref o64, .ref o77, .ref o84, .ref o91, .ref o99, .ref o111, .ref o123, .int v125]))]) (w1 := fun u => [(o51, .inr (1, [.int v52, .ref o53, .ref o55, .ref o57, .ref o59, .int u.1, .int u.2.1, .int v63])), (o2, .inr (4, [.ref o3, .int v5, .int v6])), (o3, .inl (cI, 12, .inl fw4)), (o53, .inl (cI, 12, .inl u.2.2.1)), (o55, .inl (cI, 81, .inl u.2.2.2))]) (wn := fun u => [(o1, .inr (11, [.ref o2, .ref o7, .ref o12, .ref o41, .ref o51, .ref o64, .ref o77, .ref o84, .ref o91, .ref o99, .ref o111, .ref o123, .int v125])), (o51, .inr (1, [.int v52, .ref o53, .ref o55, .ref o57, .ref o59, .int u.1, .int u.2.1, .int v63])), (o2, .inr (4, [.ref o3, .int v5, .int v6])), (o3, .inl (cI, 12, .inl fw4)), (o53, .inl (cI, 12, .inl u.2.2.1)), (o55, .inl (cI, 81, .inl u.2.2.2))]) (fun hPc hDc => va_runVN (As := [.ref o2]) (rest := []) ⟨hx, hb, hml, hown, hts⟩ (kX1_bring_1 l dC dI cI c2 cZ o51 o2 o53 o55 o57 o59 o3 v52 fw54 fw56 v61 v62 v63 fw4 v5 v6 s.heap.size v52_h fw54_b v61_h fw4_b v5_h) ⟨va_cnB 1 hts gX11_greatest_X1_bring_n193 rfl rfl rfl (hN.1 _ ns_105) (hts (.initialized RX1) hm_X11_greatest_4) (by decide +kernel) ⟨Nat.le_of_ble_eq_true rfl, Nat.le_of_ble_eq_true rfl⟩, (hts (.instanceMethod yX1_bring) hm_X11_greatest_3), (hts (.selects RX1 yX1_bring yX1_bring) hm_X11_greatest_5)⟩ (pre_V hPc hK hDc hN (ci := 1) (q0 := 0) rfl rfl) rfl rfl hl.1 rfl (lv_room (Nat.le_of_ble_eq_true rfl)) dX11_greatest_8 ⟨Nat.le_of_ble_eq_true rfl, Nat.le_of_ble_eq_true rfl⟩) hP hD hS hA [1, 2, 3, 4, 5] [0] [0, 1, 2, 3, 4, 5] rfl rfl (by decide +kernel) (by decide +kernel) (by decide +kernel) (by decide +kernel) (fun _ => rfl) (fun u H locs hq hP hD hS => ?_)
  obtain ⟨y1, y2, f3, f4⟩ := u
  obtain ⟨y1_h, f3_b⟩ := hq
  have hP : va_P (dC, dI) vwCl ([(o1, .inr (11, [.ref o2, .ref o7, .ref o12, .ref o41, .ref o51, .ref o64, .ref o77, .ref o84, .ref o91, .ref o99, .ref o111, .ref o123, .int v125])), (o51, .inr (1, [.int v52, .ref o53, .ref o55, .ref o57, .ref o59, .int y1, .int y2, .int v63])), (o2, .inr (4, [.ref o3, .int v5, .int v6])), (o3, .inl (cI, 12, .inl fw4)), (o53, .inl (cI, 12, .inl f3)), (o55, .inl (cI, 81, .inl f4))]) H := hP
  have hD : va_D A ([(o1, .inr (11, [.ref o2, .ref o7, .ref o12, .ref o41, .ref o51, .ref o64, .ref o77, .ref o84, .ref o91, .ref o99, .ref o111, .ref o123, .int v125])), (o51, .inr (1, [.int v52, .ref o53, .ref o55, .ref o57, .ref o59, .int y1, .int y2, .int v63])), (o2, .inr (4, [.ref o3, .int v5, .int v6])), (o3, .inl (cI, 12, .inl fw4)), (o53, .inl (cI, 12, .inl f3)), (o55, .inl (cI, 81, .inl f4))]) := hD
  refine lv_aload_n hx hb dX11_greatest_11 rfl (lv_at hl 0 rfl) ?_
  refine va_get (D := (dC, dI)) (ci := 11) (v := .ref o51) (C := RX11) (T := TX11) (N := 13) hx hb hts iw_X11_greatest_X11 hown hK hP 0 rfl rfl 4 (by decide) (hts (.fieldLink RX11 42 "HolelessHouse" "cliques" "LHolelessHouse$Cliques;") hm_X11_greatest_1) (fun _ h9 => h9) rfl dX11_greatest_12 ?_
  refine kc_i (D := (dC, dI)) (S := Unit) (wc := [(o51, .inr (1, [.int v52, .ref o53, .ref o55, .ref o57, .ref o59, .int y1, .int y2, .int v63])), (o55, .inl (cI, 81, .inl f4))]) (wr := [(o1, .inr (11, [.ref o2, .ref o7, .ref o12, .ref o41, .ref o51, .ref o64, .ref o77, .ref o84, .ref o91, .ref o99, .ref o111, .ref o123, .int v125])), (o2, .inr (4, [.ref o3, .int v5, .int v6])), (o3, .inl (cI, 12, .inl fw4)), (o53, .inl (cI, 12, .inl f3))]) (w1 := fun _ => [(o51, .inr (1, [.int v52, .ref o53, .ref o55, .ref o57, .ref o59, .int y1, .int y2, .int v63])), (o55, .inl (cI, 81, .inl f4))]) (wn := fun _ => [(o1, .inr (11, [.ref o2, .ref o7, .ref o12, .ref o41, .ref o51, .ref o64, .ref o77, .ref o84, .ref o91, .ref o99, .ref o111, .ref o123, .int v125])), (o51, .inr (1, [.int v52, .ref o53, .ref o55, .ref o57, .ref o59, .int y1, .int y2, .int v63])), (o2, .inr (4, [.ref o3, .int v5, .int v6])), (o3, .inl (cI, 12, .inl fw4)), (o53, .inl (cI, 12, .inl f3)), (o55, .inl (cI, 81, .inl f4))]) (fun hPc hDc => va_runVN (As := []) (rest := []) ⟨hx, hb, hml, hown, hts⟩ (kX1_widest_1 l dC dI cI c2 cZ o51 o53 o55 o57 o59 v52 f4 y1 y2 v63 H.size v52_h y1_h) ⟨va_cnB 0 hts gX11_greatest_X1_widest_n199 rfl rfl rfl (hN.1 _ ns_109) (hts (.initialized RX1) hm_X11_greatest_4) (by decide +kernel) ⟨Nat.le_of_ble_eq_true rfl, Nat.le_of_ble_eq_true rfl⟩, (hts (.instanceMethod yX1_widest) hm_X11_greatest_36), (hts (.selects RX1 yX1_widest yX1_widest) hm_X11_greatest_37)⟩ (pre_V hPc hK hDc hN (ci := 1) (q0 := 0) rfl rfl) rfl rfl hl.1 rfl (lv_room (Nat.le_of_ble_eq_true rfl)) dX11_greatest_15 ⟨Nat.le_of_ble_eq_true rfl, Nat.le_of_ble_eq_true rfl⟩) hP hD hS hA [1, 5] [0, 2, 3, 4] [0, 4, 1, 2, 3, 5] rfl rfl (by decide +kernel) (by decide +kernel) (by decide +kernel) (by decide +kernel) (fun _ => rfl) (fun x5 _ H locs hq hP hD hS => ?_)
  have hP : va_P (dC, dI) vwCl ([(o1, .inr (11, [.ref o2, .ref o7, .ref o12, .ref o41, .ref o51, .ref o64, .ref o77, .ref o84, .ref o91, .ref o99, .ref o111, .ref o123, .int v125])), (o51, .inr (1, [.int v52, .ref o53, .ref o55, .ref o57, .ref o59, .int y1, .int y2, .int v63])), (o2, .inr (4, [.ref o3, .int v5, .int v6])), (o3, .inl (cI, 12, .inl fw4)), (o53, .inl (cI, 12, .inl f3)), (o55, .inl (cI, 81, .inl f4))]) H := hP
  have hD : va_D A ([(o1, .inr (11, [.ref o2, .ref o7, .ref o12, .ref o41, .ref o51, .ref o64, .ref o77, .ref o84, .ref o91, .ref o99, .ref o111, .ref o123, .int v125])), (o51, .inr (1, [.int v52, .ref o53, .ref o55, .ref o57, .ref o59, .int y1, .int y2, .int v63])), (o2, .inr (4, [.ref o3, .int v5, .int v6])), (o3, .inl (cI, 12, .inl fw4)), (o53, .inl (cI, 12, .inl f3)), (o55, .inl (cI, 81, .inl f4))]) := hD
  refine kc_i (D := (dC, dI)) (S := Unit) (wc := []) (wr := [(o1, .inr (11, [.ref o2, .ref o7, .ref o12, .ref o41, .ref o51, .ref o64, .ref o77, .ref o84, .ref o91, .ref o99, .ref o111, .ref o123, .int v125])), (o51, .inr (1, [.int v52, .ref o53, .ref o55, .ref o57, .ref o59, .int y1, .int y2, .int v63])), (o2, .inr (4, [.ref o3, .int v5, .int v6])), (o3, .inl (cI, 12, .inl fw4)), (o53, .inl (cI, 12, .inl f3)), (o55, .inl (cI, 81, .inl f4))]) (w1 := fun _ => []) (wn := fun _ => [(o1, .inr (11, [.ref o2, .ref o7, .ref o12, .ref o41, .ref o51, .ref o64, .ref o77, .ref o84, .ref o91, .ref o99, .ref o111, .ref o123, .int v125])), (o51, .inr (1, [.int v52, .ref o53, .ref o55, .ref o57, .ref o59, .int y1, .int y2, .int v63])), (o2, .inr (4, [.ref o3, .int v5, .int v6])), (o3, .inl (cI, 12, .inl fw4)), (o53, .inl (cI, 12, .inl f3)), (o55, .inl (cI, 81, .inl f4))]) (fun hPc hDc => va_runS (As := [.int x5]) (rest := []) ⟨hx, hb, hml, hown, hts⟩ (kJ6_bitCount_0f7a4_1 l dC dI cI c2 cZ x5 H.size) (va_cwS 1 hts gX11_greatest_J6_bitCount_0f7a4 rfl rfl rfl (by decide +kernel) ⟨Nat.le_of_ble_eq_true rfl, Nat.le_of_ble_eq_true rfl⟩) (pre_S hPc hK hDc hN) rfl rfl hl.1 rfl (lv_room (Nat.le_of_ble_eq_true rfl)) dX11_greatest_18 ⟨Nat.le_of_ble_eq_true rfl, Nat.le_of_ble_eq_true rfl⟩) hP hD hS hA [] [0, 1, 2, 3, 4, 5] [0, 1, 2, 3, 4, 5] rfl rfl (by decide +kernel) (by decide +kernel) (by decide +kernel) (by decide +kernel) (fun _ => rfl) (fun x6 _ H locs hq hP hD hS => ?_)
  have x6_h := hq
  have hP : va_P (dC, dI) vwCl ([(o1, .inr (11, [.ref o2, .ref o7, .ref o12, .ref o41, .ref o51, .ref o64, .ref o77, .ref o84, .ref o91, .ref o99, .ref o111, .ref o123, .int v125])), (o51, .inr (1, [.int v52, .ref o53, .ref o55, .ref o57, .ref o59, .int y1, .int y2, .int v63])), (o2, .inr (4, [.ref o3, .int v5, .int v6])), (o3, .inl (cI, 12, .inl fw4)), (o53, .inl (cI, 12, .inl f3)), (o55, .inl (cI, 81, .inl f4))]) H := hP
  have hD : va_D A ([(o1, .inr (11, [.ref o2, .ref o7, .ref o12, .ref o41, .ref o51, .ref o64, .ref o77, .ref o84, .ref o91, .ref o99, .ref o111, .ref o123, .int v125])), (o51, .inr (1, [.int v52, .ref o53, .ref o55, .ref o57, .ref o59, .int y1, .int y2, .int v63])), (o2, .inr (4, [.ref o3, .int v5, .int v6])), (o3, .inl (cI, 12, .inl fw4)), (o53, .inl (cI, 12, .inl f3)), (o55, .inl (cI, 81, .inl f4))]) := hD
  rw [hQ]
  exact W.iret (v := x6) hx hb hr (fun t ht hW => ⟨⟨x6, (y1, y2, f3, f4), rfl, ⟨x6_h, y1_h, f3_b⟩, by rw [ht]; exact hP, va_K.moved hW.alike hK, hD⟩, hS.F ht⟩) hS.2.2 dX11_greatest_21
theorem iw_X4_isLoose_X4 : ∀ w ∈ wsX40, w ∈ wsX4_isLoose := fun _ h => List.mem_cons.mpr (Or.inr (List.mem_append.mpr (Or.inr h)))
set_option maxHeartbeats 4000000 in
set_option maxRecDepth 100000 in
theorem kX4_isLoose_1 (l : Launch) (dC : Nat → ClassId) (dI : Nat → Nat → Nat) (cI c2 cZ : ClassId) (o1 : Nat) (o2 : Nat) (fw3 : Nat → Int32) (v4 : Int32) (v5 : Int32) (a1 : Int32) (sz : Nat) (fw3_b : Bd 12 0 4095 fw3) (v4_h : Iv 0 12 v4) : Met l yX4_isLoose wsX4_isLoose ({ frames := 1, cells := 0, slots := 0, locals := 21 }) (va_Pc [.ref o1, .int a1] (wPre (dC, dI) [(cI, .int), (c2, .array .int), (cZ, .boolean)] ([(o1, .inr (4, [.ref o2, .int v4, .int v5])), (o2, .inl (cI, 12, .inl fw3))]) sz)) (va_Qi (fun (r : Int32) (_ : Unit) => Iv 0 1 r) (fun _ t => wPost (dC, dI) [(cI, .int), (c2, .array .int), (cZ, .boolean)] (va_A ([(o1, .inr (4, [.ref o2, .int v4, .int v5])), (o2, .inl (cI, 12, .inl fw3))]) sz) ([(o1, .inr (4, [.ref o2, .int v4, .int v5])), (o2, .inl (cI, 12, .inl fw3))]) t) (va_A ([(o1, .inr (4, [.ref o2, .int v4, .int v5])), (o2, .inl (cI, 12, .inl fw3))]) sz)) 0 0 (va_A ([(o1, .inr (4, [.ref o2, .int v4, .int v5])), (o2, .inl (cI, 12, .inl fw3))]) sz) := by
  refine Met.ofW (cc := cX4_isLoose) (maxL := 3) (ret := (some .boolean)) (by decide) rfl ?_
  intro p e s m args below meth c s₁ B hml hv
  obtain ⟨rfl, hsz, hP, hK, hD0, hN⟩ := hv
  have hx := B.exec
  have hb := B.bytes
  have hr := B.returns
  have hts := atoms_spec (ws := wsX4_isLoose) B.pre
  have hown : s.vm.findClass RX4 = some m.cls := findClass_of_methodNamed B.named
  have hlocks := B.notSynchronized
  subst hsz
  have hD := hD0.self (sz := s.heap.size)
  generalize hAe : va_A ([(o1, .inr (4, [.ref o2, .int v4, .int v5])), (o2, .inl (cI, 12, .inl fw3))]) s.heap.size = A at hD ⊢
  have hA : ∀ q : Nat, s.heap.size ≤ q → A q := fun q h => by rw [← hAe]; exact Or.inr h
  have hS : va_S A s.heap s.heap [] := va_S.rf
  have hP : va_P (dC, dI) vwCl ([(o1, .inr (4, [.ref o2, .int v4, .int v5])), (o2, .inl (cI, 12, .inl fw3))]) s.heap := hP
  have hl := lv_entry ([.ref o1, .int a1]) (n := 3) (Nat.le_of_ble_eq_true rfl)
  rw [lg_entry_eq]
  generalize (lg_sl ([.ref o1, .int a1]) ++ List.replicate (3 - (lg_sl ([.ref o1, .int a1])).length) Slot.unset).toArray = ls at hl ⊢
  have hl : lv_has ls 3 [(0, .ref o1), (1, .int a1)] := hl
  refine gen_Q (fun Q hQ => ?_)
  refine lv_iconst (v := 0) hx hb dX4_isLoose_0 (by decide) ?_
  refine lv_istore_n (lv' := [(2, .int 0), (0, .ref o1), (1, .int a1)]) hx hb dX4_isLoose_1 rfl hl (by decide) rfl (fun ls hl => ?_)
  have L1 : ∀ (N : Nat) (x118 : Int32) (H : Heap) (locs : List Loc) (ls : Array Slot), (12 - x118.toInt).toNat < N → Iv 0 12 x118 → va_P (dC, dI) vwCl ([(o1, .inr (4, [.ref o2, .int v4, .int v5])), (o2, .inl (cI, 12, .inl fw3))]) H → va_D A ([(o1, .inr (4, [.ref o2, .int v4, .int v5])), (o2, .inl (cI, 12, .inl fw3))]) → va_S A s.heap H locs → lv_has ls 3 [(2, .int x118), (0, .ref o1), (1, .int a1)] → W p l e ({ frames := 1, cells := 0, slots := 0, locals := 21 }) s m ([.ref o1, .int a1] : List Value).toArray below meth c H locs 0 0 Q (F0 m 2 ls []) := by
    intro N
    induction N with
    | zero =>
      intro x118 H locs ls hM
      exact absurd hM (Nat.not_lt_zero _)
    | succ N ih1 =>
      intro x118 H locs ls hM1 x118_h hP hD hS hl
      refine lv_iload_n hx hb dX4_isLoose_2 rfl (lv_at hl 0 rfl) ?_
      refine lv_aload_n hx hb dX4_isLoose_3 rfl (lv_at hl 1 rfl) ?_
      refine va_get (D := (dC, dI)) (ci := 4) (v := .int v4) (C := RX4) (T := TX4) (N := 3) hx hb hts iw_X4_isLoose_X4 hown hK hP 0 rfl rfl 1 (by decide) (hts (.fieldLink RX4 15 "HolelessHouse$Graph" "size" "I") hm_X4_isLoose_1) (fun _ h9 => h9) rfl dX4_isLoose_4 ?_
      refine lv_icmp_ge (tgt := 37) hx hb dX4_isLoose_7 (by decide) (fun h119 => ?_) (fun h119 => ?_)
      ·
        have qh119 := le_i h119
        refine lv_iconst (v := 1) hx hb dX4_isLoose_37 (by decide) ?_
        rw [hQ]
        exact W.zret (v := 1) (ty := .boolean) hx hb hr rfl (fun t ht hW => ⟨⟨1, (), rfl, (iv_w ik_1 (by decide)), by rw [ht]; exact hP, va_K.moved hW.alike hK, hD⟩, hS.F ht⟩) hS.2.2 dX4_isLoose_38
      ·
        have qh119 := nle_i h119
        have j120 : Iv 0 11 x118 := r_ltl qh119 x118_h v4_h (by decide)
        have j121 : Iv 1 12 v4 := r_ltr qh119 x118_h v4_h (by decide)
        refine lv_iload_n hx hb dX4_isLoose_10 rfl (lv_at hl 2 rfl) ?_
        refine lv_iload_n hx hb dX4_isLoose_11 rfl (lv_at hl 0 rfl) ?_
        refine kc_i (D := (dC, dI)) (S := Unit) (wc := []) (wr := [(o1, .inr (4, [.ref o2, .int v4, .int v5])), (o2, .inl (cI, 12, .inl fw3))]) (w1 := fun _ => []) (wn := fun _ => [(o1, .inr (4, [.ref o2, .int v4, .int v5])), (o2, .inl (cI, 12, .inl fw3))]) (fun hPc hDc => va_runSN (As := [.int a1, .int x118]) (rest := []) ⟨hx, hb, hml, hown, hts⟩ (kX11_in_1 l dC dI cI c2 cZ a1 x118 H.size) ⟨va_cnB 2 hts gX4_isLoose_X11_in_n22 rfl rfl rfl (hN.1 _ ns_68) (hts (.initialized RX11) hm_X4_isLoose_4) (by decide +kernel) ⟨Nat.le_of_ble_eq_true rfl, Nat.le_of_ble_eq_true rfl⟩, (hts (.static yX11_in) hm_X4_isLoose_3), trivial⟩ (pre_S hPc hK hDc hN) rfl rfl hl.1 rfl (lv_room (Nat.le_of_ble_eq_true rfl)) dX4_isLoose_12 ⟨Nat.le_of_ble_eq_true rfl, Nat.le_of_ble_eq_true rfl⟩) hP hD hS hA [] [0, 1] [0, 1] rfl rfl (by decide +kernel) (by decide +kernel) (by decide +kernel) (by decide +kernel) (fun _ => rfl) (fun x122 _ H locs hq hP hD hS => ?_)
        have x122_h := hq
        have hP : va_P (dC, dI) vwCl ([(o1, .inr (4, [.ref o2, .int v4, .int v5])), (o2, .inl (cI, 12, .inl fw3))]) H := hP
        have hD : va_D A ([(o1, .inr (4, [.ref o2, .int v4, .int v5])), (o2, .inl (cI, 12, .inl fw3))]) := hD
        refine lv_if_eq (tgt := 31) hx hb dX4_isLoose_15 (by decide) (fun h123 => ?_) (fun h123 => ?_)
        ·
          have j124 : Iv 0 0 x122 := r_eq h123 ik_0
          obtain ⟨x125, x125_e⟩ : ∃ z : Int32, z = x118 + 1 := ⟨_, rfl⟩
          have x125_h : Iv 1 12 x125 := iv_e x125_e (iv_add j120 ik_1 (by decide))
          refine lv_iinc (v := x125) (lv' := [(2, .int x125), (0, .ref o1), (1, .int a1)]) hx hb dX4_isLoose_31 hl (k := 0) rfl (incN (by decide +kernel) x125_e) (by decide) rfl (fun ls hl => ?_)
          refine lv_goto (tgt := 2) hx hb dX4_isLoose_34 (by decide) ?_
          exact ih1 x125 _ _ _ (ms_up x125_e j120 (by decide) hM1) (iv_w x125_h (by decide)) hP hD hS hl
        ·
          have j126 : Iv 1 1 x122 := r_nelo h123 x122_h ik_0 (by decide)
          refine lv_iload_n hx hb dX4_isLoose_18 rfl (lv_at hl 2 rfl) ?_
          refine lv_aload_n hx hb dX4_isLoose_19 rfl (lv_at hl 1 rfl) ?_
          refine va_get (D := (dC, dI)) (ci := 4) (v := .ref o2) (C := RX4) (T := TX4) (N := 3) hx hb hts iw_X4_isLoose_X4 hown hK hP 0 rfl rfl 0 (by decide) (hts (.fieldLink RX4 9 "HolelessHouse$Graph" "near" "[I") hm_X4_isLoose_2) (fun _ h9 => h9) rfl dX4_isLoose_20 ?_
          refine lv_iload_n hx hb dX4_isLoose_23 rfl (lv_at hl 0 rfl) ?_
          refine va_iald hx hb hK hP 1 0 rfl rfl (vin_iv j120 (by decide)) dX4_isLoose_24 (lv_topi (fun x127 x127_e => ?_))
          have x127_h : Iv 0 4095 x127 := iv_e x127_e (bd_at fw3_b (vin_iv j120 (by decide)))
          refine lv_iand hx hb dX4_isLoose_25 (lv_topi (fun x128 x128_e => ?_))
          have x128_h : Iv 0 4095 x128 := iv_e x128_e (iv_andR _ x127_h (by decide))
          refine lv_if_eq (tgt := 31) hx hb dX4_isLoose_26 (by decide) (fun h129 => ?_) (fun h129 => ?_)
          ·
            have j130 : Iv 0 0 x128 := r_eq h129 ik_0
            obtain ⟨x131, x131_e⟩ : ∃ z : Int32, z = x118 + 1 := ⟨_, rfl⟩
            have x131_h : Iv 1 12 x131 := iv_e x131_e (iv_add j120 ik_1 (by decide))
            refine lv_iinc (v := x131) (lv' := [(2, .int x131), (0, .ref o1), (1, .int a1)]) hx hb dX4_isLoose_31 hl (k := 0) rfl (incN (by decide +kernel) x131_e) (by decide) rfl (fun ls hl => ?_)
            refine lv_goto (tgt := 2) hx hb dX4_isLoose_34 (by decide) ?_
            exact ih1 x131 _ _ _ (ms_up x131_e j120 (by decide) hM1) (iv_w x131_h (by decide)) hP hD hS hl
          ·
            have j132 : Iv 1 4095 x128 := r_nelo h129 x128_h ik_0 (by decide)
            refine lv_iconst (v := 0) hx hb dX4_isLoose_29 (by decide) ?_
            rw [hQ]
            exact W.zret (v := 0) (ty := .boolean) hx hb hr rfl (fun t ht hW => ⟨⟨0, (), rfl, (iv_w ik_0 (by decide)), by rw [ht]; exact hP, va_K.moved hW.alike hK, hD⟩, hS.F ht⟩) hS.2.2 dX4_isLoose_30
  exact L1 _ 0 _ _ _ (Nat.lt_succ_self _) (iv_w ik_0 (by decide)) hP hD hS hl
theorem iw_X11_sort_X11 : ∀ w ∈ wsX110, w ∈ wsX11_sort := fun _ h => List.mem_cons.mpr (Or.inr (List.mem_append.mpr (Or.inl (List.mem_append.mpr (Or.inr h)))))
set_option maxHeartbeats 4000000 in
set_option maxRecDepth 100000 in
theorem kX11_sort_1 (l : Launch) (dC : Nat → ClassId) (dI : Nat → Nat → Nat) (cI c2 cZ : ClassId) (o1 : Nat) (o2 : Nat) (o7 : Nat) (o12 : Nat) (o41 : Nat) (o51 : Nat) (o64 : Nat) (o77 : Nat) (o84 : Nat) (o91 : Nat) (o99 : Nat) (o111 : Nat) (o123 : Nat) (o3 : Nat) (fw4 : Nat → Int32) (v5 : Int32) (v6 : Int32) (v125 : Int32) (a1 : Int32) (sz : Nat) (fw4_b : Bd 12 0 4095 fw4) (v5_h : Iv 0 12 v5) : Met l yX11_sort wsX11_sort ({ frames := 2, cells := 0, slots := 0, locals := 43 }) (va_Pc [.ref o1, .int a1] (wPre (dC, dI) [(cI, .int), (c2, .array .int), (cZ, .boolean)] ([(o1, .inr (11, [.ref o2, .ref o7, .ref o12, .ref o41, .ref o51, .ref o64, .ref o77, .ref o84, .ref o91, .ref o99, .ref o111, .ref o123, .int v125])), (o2, .inr (4, [.ref o3, .int v5, .int v6])), (o3, .inl (cI, 12, .inl fw4))]) sz)) (va_Qi (fun (r : Int32) (_ : Unit) => Iv (-1) 3 r) (fun _ t => wPost (dC, dI) [(cI, .int), (c2, .array .int), (cZ, .boolean)] (va_A ([(o1, .inr (11, [.ref o2, .ref o7, .ref o12, .ref o41, .ref o51, .ref o64, .ref o77, .ref o84, .ref o91, .ref o99, .ref o111, .ref o123, .int v125])), (o2, .inr (4, [.ref o3, .int v5, .int v6])), (o3, .inl (cI, 12, .inl fw4))]) sz) ([(o1, .inr (11, [.ref o2, .ref o7, .ref o12, .ref o41, .ref o51, .ref o64, .ref o77, .ref o84, .ref o91, .ref o99, .ref o111, .ref o123, .int v125])), (o2, .inr (4, [.ref o3, .int v5, .int v6])), (o3, .inl (cI, 12, .inl fw4))]) t) (va_A ([(o1, .inr (11, [.ref o2, .ref o7, .ref o12, .ref o41, .ref o51, .ref o64, .ref o77, .ref o84, .ref o91, .ref o99, .ref o111, .ref o123, .int v125])), (o2, .inr (4, [.ref o3, .int v5, .int v6])), (o3, .inl (cI, 12, .inl fw4))]) sz)) 0 0 (va_A ([(o1, .inr (11, [.ref o2, .ref o7, .ref o12, .ref o41, .ref o51, .ref o64, .ref o77, .ref o84, .ref o91, .ref o99, .ref o111, .ref o123, .int v125])), (o2, .inr (4, [.ref o3, .int v5, .int v6])), (o3, .inl (cI, 12, .inl fw4))]) sz) := by
  refine Met.ofW (cc := cX11_sort) (maxL := 4) (ret := (some .int)) (by decide) rfl ?_
  intro p e s m args below meth c s₁ B hml hv
  obtain ⟨rfl, hsz, hP, hK, hD0, hN⟩ := hv
  have hx := B.exec
  have hb := B.bytes
  have hr := B.returns
  have hts := atoms_spec (ws := wsX11_sort) B.pre
  have hown : s.vm.findClass RX11 = some m.cls := findClass_of_methodNamed B.named
  have hlocks := B.notSynchronized
  subst hsz
  have hD := hD0.self (sz := s.heap.size)
  generalize hAe : va_A ([(o1, .inr (11, [.ref o2, .ref o7, .ref o12, .ref o41, .ref o51, .ref o64, .ref o77, .ref o84, .ref o91, .ref o99, .ref o111, .ref o123, .int v125])), (o2, .inr (4, [.ref o3, .int v5, .int v6])), (o3, .inl (cI, 12, .inl fw4))]) s.heap.size = A at hD ⊢
  have hA : ∀ q : Nat, s.heap.size ≤ q → A q := fun q h => by rw [← hAe]; exact Or.inr h
  have hS : va_S A s.heap s.heap [] := va_S.rf
  have hP : va_P (dC, dI) vwCl ([(o1, .inr (11, [.ref o2, .ref o7, .ref o12, .ref o41, .ref o51, .ref o64, .ref o77, .ref o84, .ref o91, .ref o99, .ref o111, .ref o123, .int v125])), (o2, .inr (4, [.ref o3, .int v5, .int v6])), (o3, .inl (cI, 12, .inl fw4))]) s.heap := hP
  have hl := lv_entry ([.ref o1, .int a1]) (n := 4) (Nat.le_of_ble_eq_true rfl)
  rw [lg_entry_eq]
  generalize (lg_sl ([.ref o1, .int a1]) ++ List.replicate (4 - (lg_sl ([.ref o1, .int a1])).length) Slot.unset).toArray = ls at hl ⊢
  have hl : lv_has ls 4 [(0, .ref o1), (1, .int a1)] := hl
  refine gen_Q (fun Q hQ => ?_)
  refine lv_iload_n hx hb dX11_sort_0 rfl (lv_at hl 1 rfl) ?_
  refine lv_if_le (tgt := 15) hx hb dX11_sort_1 (by decide) (fun h1 => ?_) (fun h1 => ?_)
  ·
    have qh1 := le_i h1
    have j2 : Iv (-2147483648) 0 a1 := r_lel qh1 (iv_full a1) ik_0 (by decide)
    refine lv_iconst (v := (-1)) hx hb dX11_sort_15 (by decide) ?_
    rw [hQ]
    exact W.iret (v := (-1)) hx hb hr (fun t ht hW => ⟨⟨(-1), (), rfl, (iv_w ikm_1 (by decide)), by rw [ht]; exact hP, va_K.moved hW.alike hK, hD⟩, hS.F ht⟩) hS.2.2 dX11_sort_16
  ·
    have qh1 := nle_i h1
    have j3 : Iv 1 2147483647 a1 := r_ltr qh1 ik_0 (iv_full a1) (by decide)
    refine lv_iload_n hx hb dX11_sort_4 rfl (lv_at hl 1 rfl) ?_
    refine lv_aload_n hx hb dX11_sort_5 rfl (lv_at hl 0 rfl) ?_
    refine va_get (D := (dC, dI)) (ci := 11) (v := .ref o2) (C := RX11) (T := TX11) (N := 13) hx hb hts iw_X11_sort_X11 hown hK hP 0 rfl rfl 0 (by decide) (hts (.fieldLink RX11 10 "HolelessHouse" "graph" "LHolelessHouse$Graph;") hm_X11_sort_1) (fun _ h9 => h9) rfl dX11_sort_6 ?_
    refine kc_i (D := (dC, dI)) (S := Unit) (wc := [(o2, .inr (4, [.ref o3, .int v5, .int v6]))]) (wr := [(o1, .inr (11, [.ref o2, .ref o7, .ref o12, .ref o41, .ref o51, .ref o64, .ref o77, .ref o84, .ref o91, .ref o99, .ref o111, .ref o123, .int v125])), (o3, .inl (cI, 12, .inl fw4))]) (w1 := fun _ => [(o2, .inr (4, [.ref o3, .int v5, .int v6]))]) (wn := fun _ => [(o1, .inr (11, [.ref o2, .ref o7, .ref o12, .ref o41, .ref o51, .ref o64, .ref o77, .ref o84, .ref o91, .ref o99, .ref o111, .ref o123, .int v125])), (o2, .inr (4, [.ref o3, .int v5, .int v6])), (o3, .inl (cI, 12, .inl fw4))]) (fun hPc hDc => va_runVN (As := []) (rest := [.int a1]) ⟨hx, hb, hml, hown, hts⟩ (kX4_all_1 l dC dI cI c2 cZ o2 o3 v5 v6 s.heap.size v5_h) ⟨va_cnB 0 hts gX11_sort_X4_all_n164 rfl rfl rfl (hN.1 _ ns_63) (hts (.initialized RX4) hm_X11_sort_3) (by decide +kernel) ⟨Nat.le_of_ble_eq_true rfl, Nat.le_of_ble_eq_true rfl⟩, (hts (.instanceMethod yX4_all) hm_X11_sort_2), (hts (.selects RX4 yX4_all yX4_all) hm_X11_sort_4)⟩ (pre_V hPc hK hDc hN (ci := 4) (q0 := 0) rfl rfl) rfl rfl hl.1 rfl (lv_room (Nat.le_of_ble_eq_true rfl)) dX11_sort_9 ⟨Nat.le_of_ble_eq_true rfl, Nat.le_of_ble_eq_true rfl⟩) hP hD hS hA [1] [0, 2] [0, 2, 1] rfl rfl (by decide +kernel) (by decide +kernel) (by decide +kernel) (by decide +kernel) (fun _ => rfl) (fun x4 _ H locs hq hP hD hS => ?_)
    have x4_h := hq
    have hP : va_P (dC, dI) vwCl ([(o1, .inr (11, [.ref o2, .ref o7, .ref o12, .ref o41, .ref o51, .ref o64, .ref o77, .ref o84, .ref o91, .ref o99, .ref o111, .ref o123, .int v125])), (o2, .inr (4, [.ref o3, .int v5, .int v6])), (o3, .inl (cI, 12, .inl fw4))]) H := hP
    have hD : va_D A ([(o1, .inr (11, [.ref o2, .ref o7, .ref o12, .ref o41, .ref o51, .ref o64, .ref o77, .ref o84, .ref o91, .ref o99, .ref o111, .ref o123, .int v125])), (o2, .inr (4, [.ref o3, .int v5, .int v6])), (o3, .inl (cI, 12, .inl fw4))]) := hD
    refine lv_icmp_le (tgt := 17) hx hb dX11_sort_12 (by decide) (fun h5 => ?_) (fun h5 => ?_)
    ·
      have qh5 := le_i h5
      have j6 : Iv 1 4095 a1 := r_lel qh5 j3 x4_h (by decide)
      have j7 : Iv 1 4095 x4 := r_ler qh5 j3 x4_h (by decide)
      refine lv_aload_n hx hb dX11_sort_17 rfl (lv_at hl 0 rfl) ?_
      refine va_get (D := (dC, dI)) (ci := 11) (v := .ref o2) (C := RX11) (T := TX11) (N := 13) hx hb hts iw_X11_sort_X11 hown hK hP 0 rfl rfl 0 (by decide) (hts (.fieldLink RX11 10 "HolelessHouse" "graph" "LHolelessHouse$Graph;") hm_X11_sort_1) (fun _ h9 => h9) rfl dX11_sort_18 ?_
      refine lv_iload_n hx hb dX11_sort_21 rfl (lv_at hl 1 rfl) ?_
      refine kc_i (D := (dC, dI)) (S := Unit) (wc := [(o2, .inr (4, [.ref o3, .int v5, .int v6])), (o3, .inl (cI, 12, .inl fw4))]) (wr := [(o1, .inr (11, [.ref o2, .ref o7, .ref o12, .ref o41, .ref o51, .ref o64, .ref o77, .ref o84, .ref o91, .ref o99, .ref o111, .ref o123, .int v125]))]) (w1 := fun _ => [(o2, .inr (4, [.ref o3, .int v5, .int v6])), (o3, .inl (cI, 12, .inl fw4))]) (wn := fun _ => [(o1, .inr (11, [.ref o2, .ref o7, .ref o12, .ref o41, .ref o51, .ref o64, .ref o77, .ref o84, .ref o91, .ref o99, .ref o111, .ref o123, .int v125])), (o2, .inr (4, [.ref o3, .int v5, .int v6])), (o3, .inl (cI, 12, .inl fw4))]) (fun hPc hDc => va_runVN (As := [.int a1]) (rest := []) ⟨hx, hb, hml, hown, hts⟩ (kX4_isClique_1 l dC dI cI c2 cZ o2 o3 fw4 v5 v6 a1 H.size fw4_b v5_h) ⟨va_cnB 1 hts gX11_sort_X4_isClique_n202 rfl rfl rfl (hN.1 _ ns_70) (hts (.initialized RX4) hm_X11_sort_3) (by decide +kernel) ⟨Nat.le_of_ble_eq_true rfl, Nat.le_of_ble_eq_true rfl⟩, (hts (.instanceMethod yX4_isClique) hm_X11_sort_7), (hts (.selects RX4 yX4_isClique yX4_isClique) hm_X11_sort_8)⟩ (pre_V hPc hK hDc hN (ci := 4) (q0 := 0) rfl rfl) rfl rfl hl.1 rfl (lv_room (Nat.le_of_ble_eq_true rfl)) dX11_sort_22 ⟨Nat.le_of_ble_eq_true rfl, Nat.le_of_ble_eq_true rfl⟩) hP hD hS hA [1, 2] [0] [0, 1, 2] rfl rfl (by decide +kernel) (by decide +kernel) (by decide +kernel) (by decide +kernel) (fun _ => rfl) (fun x8 _ H locs hq hP hD hS => ?_)
      have x8_h := hq
      have hP : va_P (dC, dI) vwCl ([(o1, .inr (11, [.ref o2, .ref o7, .ref o12, .ref o41, .ref o51, .ref o64, .ref o77, .ref o84, .ref o91, .ref o99, .ref o111, .ref o123, .int v125])), (o2, .inr (4, [.ref o3, .int v5, .int v6])), (o3, .inl (cI, 12, .inl fw4))]) H := hP
      have hD : va_D A ([(o1, .inr (11, [.ref o2, .ref o7, .ref o12, .ref o41, .ref o51, .ref o64, .ref o77, .ref o84, .ref o91, .ref o99, .ref o111, .ref o123, .int v125])), (o2, .inr (4, [.ref o3, .int v5, .int v6])), (o3, .inl (cI, 12, .inl fw4))]) := hD
      refine lv_if_eq (tgt := 32) hx hb dX11_sort_25 (by decide) (fun h9 => ?_) (fun h9 => ?_)
      ·
        have j10 : Iv 0 0 x8 := r_eq h9 ik_0
        refine lv_iconst (v := 0) hx hb dX11_sort_32 (by decide) ?_
        refine lv_istore_n (lv' := [(2, .int 0), (0, .ref o1), (1, .int a1)]) hx hb dX11_sort_33 rfl hl (by decide) rfl (fun ls hl => ?_)
        refine lv_aload_n hx hb dX11_sort_34 rfl (lv_at hl 1 rfl) ?_
        refine va_get (D := (dC, dI)) (ci := 11) (v := .ref o2) (C := RX11) (T := TX11) (N := 13) hx hb hts iw_X11_sort_X11 hown hK hP 0 rfl rfl 0 (by decide) (hts (.fieldLink RX11 10 "HolelessHouse" "graph" "LHolelessHouse$Graph;") hm_X11_sort_1) (fun _ h9 => h9) rfl dX11_sort_35 ?_
        refine lv_iload_n hx hb dX11_sort_38 rfl (lv_at hl 2 rfl) ?_
        refine kc_i (D := (dC, dI)) (S := Unit) (wc := [(o2, .inr (4, [.ref o3, .int v5, .int v6])), (o3, .inl (cI, 12, .inl fw4))]) (wr := [(o1, .inr (11, [.ref o2, .ref o7, .ref o12, .ref o41, .ref o51, .ref o64, .ref o77, .ref o84, .ref o91, .ref o99, .ref o111, .ref o123, .int v125]))]) (w1 := fun _ => [(o2, .inr (4, [.ref o3, .int v5, .int v6])), (o3, .inl (cI, 12, .inl fw4))]) (wn := fun _ => [(o1, .inr (11, [.ref o2, .ref o7, .ref o12, .ref o41, .ref o51, .ref o64, .ref o77, .ref o84, .ref o91, .ref o99, .ref o111, .ref o123, .int v125])), (o2, .inr (4, [.ref o3, .int v5, .int v6])), (o3, .inl (cI, 12, .inl fw4))]) (fun hPc hDc => va_runVN (As := [.int a1]) (rest := []) ⟨hx, hb, hml, hown, hts⟩ (kX4_isLoose_1 l dC dI cI c2 cZ o2 o3 fw4 v5 v6 a1 H.size fw4_b v5_h) ⟨va_cnB 1 hts gX11_sort_X4_isLoose_n205 rfl rfl rfl (hN.1 _ ns_110) (hts (.initialized RX4) hm_X11_sort_3) (by decide +kernel) ⟨Nat.le_of_ble_eq_true rfl, Nat.le_of_ble_eq_true rfl⟩, (hts (.instanceMethod yX4_isLoose) hm_X11_sort_14), (hts (.selects RX4 yX4_isLoose yX4_isLoose) hm_X11_sort_15)⟩ (pre_V hPc hK hDc hN (ci := 4) (q0 := 0) rfl rfl) rfl rfl hl.1 rfl (lv_room (Nat.le_of_ble_eq_true rfl)) dX11_sort_39 ⟨Nat.le_of_ble_eq_true rfl, Nat.le_of_ble_eq_true rfl⟩) hP hD hS hA [1, 2] [0] [0, 1, 2] rfl rfl (by decide +kernel) (by decide +kernel) (by decide +kernel) (by decide +kernel) (fun _ => rfl) (fun x11 _ H locs hq hP hD hS => ?_)
        have x11_h := hq
        have hP : va_P (dC, dI) vwCl ([(o1, .inr (11, [.ref o2, .ref o7, .ref o12, .ref o41, .ref o51, .ref o64, .ref o77, .ref o84, .ref o91, .ref o99, .ref o111, .ref o123, .int v125])), (o2, .inr (4, [.ref o3, .int v5, .int v6])), (o3, .inl (cI, 12, .inl fw4))]) H := hP
        have hD : va_D A ([(o1, .inr (11, [.ref o2, .ref o7, .ref o12, .ref o41, .ref o51, .ref o64, .ref o77, .ref o84, .ref o91, .ref o99, .ref o111, .ref o123, .int v125])), (o2, .inr (4, [.ref o3, .int v5, .int v6])), (o3, .inl (cI, 12, .inl fw4))]) := hD
        refine lv_if_eq (tgt := 49) hx hb dX11_sort_42 (by decide) (fun h12 => ?_) (fun h12 => ?_)
        ·
          have j13 : Iv 0 0 x11 := r_eq h12 ik_0
          refine lv_iconst (v := 0) hx hb dX11_sort_49 (by decide) ?_
          refine lv_istore_n (lv' := [(3, .int 0), (2, .int 0), (0, .ref o1), (1, .int a1)]) hx hb dX11_sort_50 rfl hl (by decide) rfl (fun ls hl => ?_)
          refine lv_iload_n hx hb dX11_sort_51 rfl (lv_at hl 1 rfl) ?_
          refine lv_iload_n hx hb dX11_sort_52 rfl (lv_at hl 0 rfl) ?_
          refine lv_iadd hx hb dX11_sort_53 (tk_i (v := 0) (by decide +kernel) ?_)
          rw [hQ]
          exact W.iret (v := 0) hx hb hr (fun t ht hW => ⟨⟨0, (), rfl, (iv_w ik_0 (by decide)), by rw [ht]; exact hP, va_K.moved hW.alike hK, hD⟩, hS.F ht⟩) hS.2.2 dX11_sort_54
        ·
          have j14 : Iv 1 1 x11 := r_nelo h12 x11_h ik_0 (by decide)
          refine lv_iconst (v := 2) hx hb dX11_sort_45 (by decide) ?_
          refine lv_goto (tgt := 50) hx hb dX11_sort_46 (by decide) ?_
          refine lv_istore_n (lv' := [(3, .int 2), (2, .int 0), (0, .ref o1), (1, .int a1)]) hx hb dX11_sort_50 rfl hl (by decide) rfl (fun ls hl => ?_)
          refine lv_iload_n hx hb dX11_sort_51 rfl (lv_at hl 1 rfl) ?_
          refine lv_iload_n hx hb dX11_sort_52 rfl (lv_at hl 0 rfl) ?_
          refine lv_iadd hx hb dX11_sort_53 (tk_i (v := 2) (by decide +kernel) ?_)
          rw [hQ]
          exact W.iret (v := 2) hx hb hr (fun t ht hW => ⟨⟨2, (), rfl, (iv_w ik_2 (by decide)), by rw [ht]; exact hP, va_K.moved hW.alike hK, hD⟩, hS.F ht⟩) hS.2.2 dX11_sort_54
      ·
        have j15 : Iv 1 1 x8 := r_nelo h9 x8_h ik_0 (by decide)
        refine lv_iconst (v := 1) hx hb dX11_sort_28 (by decide) ?_
        refine lv_goto (tgt := 33) hx hb dX11_sort_29 (by decide) ?_
        refine lv_istore_n (lv' := [(2, .int 1), (0, .ref o1), (1, .int a1)]) hx hb dX11_sort_33 rfl hl (by decide) rfl (fun ls hl => ?_)
        refine lv_aload_n hx hb dX11_sort_34 rfl (lv_at hl 1 rfl) ?_
        refine va_get (D := (dC, dI)) (ci := 11) (v := .ref o2) (C := RX11) (T := TX11) (N := 13) hx hb hts iw_X11_sort_X11 hown hK hP 0 rfl rfl 0 (by decide) (hts (.fieldLink RX11 10 "HolelessHouse" "graph" "LHolelessHouse$Graph;") hm_X11_sort_1) (fun _ h9 => h9) rfl dX11_sort_35 ?_
        refine lv_iload_n hx hb dX11_sort_38 rfl (lv_at hl 2 rfl) ?_
        refine kc_i (D := (dC, dI)) (S := Unit) (wc := [(o2, .inr (4, [.ref o3, .int v5, .int v6])), (o3, .inl (cI, 12, .inl fw4))]) (wr := [(o1, .inr (11, [.ref o2, .ref o7, .ref o12, .ref o41, .ref o51, .ref o64, .ref o77, .ref o84, .ref o91, .ref o99, .ref o111, .ref o123, .int v125]))]) (w1 := fun _ => [(o2, .inr (4, [.ref o3, .int v5, .int v6])), (o3, .inl (cI, 12, .inl fw4))]) (wn := fun _ => [(o1, .inr (11, [.ref o2, .ref o7, .ref o12, .ref o41, .ref o51, .ref o64, .ref o77, .ref o84, .ref o91, .ref o99, .ref o111, .ref o123, .int v125])), (o2, .inr (4, [.ref o3, .int v5, .int v6])), (o3, .inl (cI, 12, .inl fw4))]) (fun hPc hDc => va_runVN (As := [.int a1]) (rest := []) ⟨hx, hb, hml, hown, hts⟩ (kX4_isLoose_1 l dC dI cI c2 cZ o2 o3 fw4 v5 v6 a1 H.size fw4_b v5_h) ⟨va_cnB 1 hts gX11_sort_X4_isLoose_n205 rfl rfl rfl (hN.1 _ ns_110) (hts (.initialized RX4) hm_X11_sort_3) (by decide +kernel) ⟨Nat.le_of_ble_eq_true rfl, Nat.le_of_ble_eq_true rfl⟩, (hts (.instanceMethod yX4_isLoose) hm_X11_sort_14), (hts (.selects RX4 yX4_isLoose yX4_isLoose) hm_X11_sort_15)⟩ (pre_V hPc hK hDc hN (ci := 4) (q0 := 0) rfl rfl) rfl rfl hl.1 rfl (lv_room (Nat.le_of_ble_eq_true rfl)) dX11_sort_39 ⟨Nat.le_of_ble_eq_true rfl, Nat.le_of_ble_eq_true rfl⟩) hP hD hS hA [1, 2] [0] [0, 1, 2] rfl rfl (by decide +kernel) (by decide +kernel) (by decide +kernel) (by decide +kernel) (fun _ => rfl) (fun x16 _ H locs hq hP hD hS => ?_)
        have x16_h := hq
        have hP : va_P (dC, dI) vwCl ([(o1, .inr (11, [.ref o2, .ref o7, .ref o12, .ref o41, .ref o51, .ref o64, .ref o77, .ref o84, .ref o91, .ref o99, .ref o111, .ref o123, .int v125])), (o2, .inr (4, [.ref o3, .int v5, .int v6])), (o3, .inl (cI, 12, .inl fw4))]) H := hP
        have hD : va_D A ([(o1, .inr (11, [.ref o2, .ref o7, .ref o12, .ref o41, .ref o51, .ref o64, .ref o77, .ref o84, .ref o91, .ref o99, .ref o111, .ref o123, .int v125])), (o2, .inr (4, [.ref o3, .int v5, .int v6])), (o3, .inl (cI, 12, .inl fw4))]) := hD
        refine lv_if_eq (tgt := 49) hx hb dX11_sort_42 (by decide) (fun h17 => ?_) (fun h17 => ?_)
        ·
          have j18 : Iv 0 0 x16 := r_eq h17 ik_0
          refine lv_iconst (v := 0) hx hb dX11_sort_49 (by decide) ?_
          refine lv_istore_n (lv' := [(3, .int 0), (2, .int 1), (0, .ref o1), (1, .int a1)]) hx hb dX11_sort_50 rfl hl (by decide) rfl (fun ls hl => ?_)
          refine lv_iload_n hx hb dX11_sort_51 rfl (lv_at hl 1 rfl) ?_
          refine lv_iload_n hx hb dX11_sort_52 rfl (lv_at hl 0 rfl) ?_
          refine lv_iadd hx hb dX11_sort_53 (tk_i (v := 1) (by decide +kernel) ?_)
          rw [hQ]
          exact W.iret (v := 1) hx hb hr (fun t ht hW => ⟨⟨1, (), rfl, (iv_w ik_1 (by decide)), by rw [ht]; exact hP, va_K.moved hW.alike hK, hD⟩, hS.F ht⟩) hS.2.2 dX11_sort_54
        ·
          have j19 : Iv 1 1 x16 := r_nelo h17 x16_h ik_0 (by decide)
          refine lv_iconst (v := 2) hx hb dX11_sort_45 (by decide) ?_
          refine lv_goto (tgt := 50) hx hb dX11_sort_46 (by decide) ?_
          refine lv_istore_n (lv' := [(3, .int 2), (2, .int 1), (0, .ref o1), (1, .int a1)]) hx hb dX11_sort_50 rfl hl (by decide) rfl (fun ls hl => ?_)
          refine lv_iload_n hx hb dX11_sort_51 rfl (lv_at hl 1 rfl) ?_
          refine lv_iload_n hx hb dX11_sort_52 rfl (lv_at hl 0 rfl) ?_
          refine lv_iadd hx hb dX11_sort_53 (tk_i (v := 3) (by decide +kernel) ?_)
          rw [hQ]
          exact W.iret (v := 3) hx hb hr (fun t ht hW => ⟨⟨3, (), rfl, (iv_w ik_3 (by decide)), by rw [ht]; exact hP, va_K.moved hW.alike hK, hD⟩, hS.F ht⟩) hS.2.2 dX11_sort_54
    ·
      have qh5 := nle_i h5
      refine lv_iconst (v := (-1)) hx hb dX11_sort_15 (by decide) ?_
      rw [hQ]
      exact W.iret (v := (-1)) hx hb hr (fun t ht hW => ⟨⟨(-1), (), rfl, (iv_w ikm_1 (by decide)), by rw [ht]; exact hP, va_K.moved hW.alike hK, hD⟩, hS.F ht⟩) hS.2.2 dX11_sort_16
set_option maxHeartbeats 4000000 in
set_option maxRecDepth 100000 in
theorem kJ7_fill_53178_2 (l : Launch) (dC : Nat → ClassId) (dI : Nat → Nat → Nat) (cI c2 cZ : ClassId) (o1 : Nat) (fw2 : Nat → Int32) (a1 : Int32) (sz : Nat) (a1_h : Iv 0 0 a1) : Met l yJ7_fill_53178 wsJ7_fill_53178 ({ frames := 0, cells := 0, slots := 0, locals := 0 }) (va_Pc [.ref o1, .int a1] (wPre (dC, dI) [(cI, .int), (c2, .array .int), (cZ, .boolean)] ([(o1, .inl (cI, 12, .inl fw2))]) sz)) (va_Qv (fun (u : (Nat → Int32)) => True) (fun u t => wPost (dC, dI) [(cI, .int), (c2, .array .int), (cZ, .boolean)] (va_A ([(o1, .inl (cI, 12, .inl fw2))]) sz) ([(o1, .inl (cI, 12, .inl u))]) t) (va_A ([(o1, .inl (cI, 12, .inl fw2))]) sz)) 0 0 (va_A ([(o1, .inl (cI, 12, .inl fw2))]) sz) := by
  refine Met.ofW (cc := cJ7_fill_53178) (maxL := 4) (ret := none) (by decide) rfl ?_
  intro p e s m args below meth c s₁ B hml hv
  obtain ⟨rfl, hsz, hP, hK, hD0, hN⟩ := hv
  have hx := B.exec
  have hb := B.bytes
  have hr := B.returns
  have hts := atoms_spec (ws := wsJ7_fill_53178) B.pre
  have hown : s.vm.findClass RJ7 = some m.cls := findClass_of_methodNamed B.named
  have hlocks := B.notSynchronized
  subst hsz
  have hD := hD0.self (sz := s.heap.size)
  generalize hAe : va_A ([(o1, .inl (cI, 12, .inl fw2))]) s.heap.size = A at hD ⊢
  have hA : ∀ q : Nat, s.heap.size ≤ q → A q := fun q h => by rw [← hAe]; exact Or.inr h
  have hS : va_S A s.heap s.heap [] := va_S.rf
  have hP : va_P (dC, dI) vwCl ([(o1, .inl (cI, 12, .inl fw2))]) s.heap := hP
  have hl := lv_entry ([.ref o1, .int a1]) (n := 4) (Nat.le_of_ble_eq_true rfl)
  rw [lg_entry_eq]
  generalize (lg_sl ([.ref o1, .int a1]) ++ List.replicate (4 - (lg_sl ([.ref o1, .int a1])).length) Slot.unset).toArray = ls at hl ⊢
  have hl : lv_has ls 4 [(0, .ref o1), (1, .int a1)] := hl
  refine gen_Q (fun Q hQ => ?_)
  refine lv_iconst (v := 0) hx hb dJ7_fill_53178_0 (by decide) ?_
  refine lv_istore_n (lv' := [(2, .int 0), (0, .ref o1), (1, .int a1)]) hx hb dJ7_fill_53178_1 rfl hl (by decide) rfl (fun ls hl => ?_)
  refine lv_aload_n hx hb dJ7_fill_53178_2 rfl (lv_at hl 1 rfl) ?_
  refine va_alen (v := 12) hx hb hK hP 0 0 rfl rfl (by show Int32.ofNat 12 = 12; decide +kernel) dJ7_fill_53178_3 ?_
  refine lv_istore_n (lv' := [(3, .int 12), (2, .int 0), (0, .ref o1), (1, .int a1)]) hx hb dJ7_fill_53178_4 rfl hl (by decide) rfl (fun ls hl => ?_)
  have L1 : ∀ (N : Nat) (x33 : Int32) (f34 : Nat → Int32) (H : Heap) (locs : List Loc) (ls : Array Slot), (12 - x33.toInt).toNat < N → Iv 0 12 x33 → va_P (dC, dI) vwCl ([(o1, .inl (cI, 12, .inl f34))]) H → va_D A ([(o1, .inl (cI, 12, .inl f34))]) → va_S A s.heap H locs → lv_has ls 4 [(3, .int 12), (2, .int x33), (0, .ref o1), (1, .int a1)] → W p l e ({ frames := 0, cells := 0, slots := 0, locals := 0 }) s m ([.ref o1, .int a1] : List Value).toArray below meth c H locs 0 0 Q (F0 m 5 ls []) := by
    intro N
    induction N with
    | zero =>
      intro x33 f34 H locs ls hM
      exact absurd hM (Nat.not_lt_zero _)
    | succ N ih1 =>
      intro x33 f34 H locs ls hM1 x33_h hP hD hS hl
      refine lv_iload_n hx hb dJ7_fill_53178_5 rfl (lv_at hl 1 rfl) ?_
      refine lv_iload_n hx hb dJ7_fill_53178_6 rfl (lv_at hl 0 rfl) ?_
      refine lv_icmp_ge (tgt := 20) hx hb dJ7_fill_53178_7 (by decide) (fun h35 => ?_) (fun h35 => ?_)
      ·
        have qh35 := le_i h35
        have j36 : Iv 12 12 x33 := r_ler qh35 ik_12 x33_h (by decide)
        rw [hQ]
        exact W.vret hx hb hr (fun t ht hW => ⟨⟨f34, rfl, trivial, by rw [ht]; exact hP, va_K.moved hW.alike hK, hD⟩, hS.F ht⟩) hS.2.2 dJ7_fill_53178_20
      ·
        have qh35 := nle_i h35
        have j37 : Iv 0 11 x33 := r_ltl qh35 x33_h ik_12 (by decide)
        refine lv_aload_n hx hb dJ7_fill_53178_10 rfl (lv_at hl 2 rfl) ?_
        refine lv_iload_n hx hb dJ7_fill_53178_11 rfl (lv_at hl 1 rfl) ?_
        refine lv_iload_n hx hb dJ7_fill_53178_12 rfl (lv_at hl 3 rfl) ?_
        refine k_iast hx hb hK hP hD hS 0 0 rfl rfl (vin_iv j37 (by decide)) dJ7_fill_53178_13 (fun f38 H locs f38_e hP hD hS => ?_)
        have hP : va_P (dC, dI) vwCl ([(o1, .inl (cI, 12, .inl f38))]) H := hP
        have hD : va_D A ([(o1, .inl (cI, 12, .inl f38))]) := hD
        obtain ⟨x39, x39_e⟩ : ∃ z : Int32, z = x33 + 1 := ⟨_, rfl⟩
        have x39_h : Iv 1 12 x39 := iv_e x39_e (iv_add j37 ik_1 (by decide))
        refine lv_iinc (v := x39) (lv' := [(2, .int x39), (3, .int 12), (0, .ref o1), (1, .int a1)]) hx hb dJ7_fill_53178_14 hl (k := 1) rfl (incN (by decide +kernel) x39_e) (by decide) rfl (fun ls hl => ?_)
        refine lv_goto (tgt := 5) hx hb dJ7_fill_53178_17 (by decide) ?_
        exact ih1 x39 f38 _ _ _ (ms_up x39_e j37 (by decide) hM1) (iv_w x39_h (by decide)) hP hD hS (lv_sub hl [1, 0, 2, 3] rfl)
  exact L1 _ 0 fw2 _ _ _ (Nat.lt_succ_self _) (iv_w ik_0 (by decide)) hP hD hS hl
theorem iw_X7_paints_X4 : ∀ w ∈ wsX40, w ∈ wsX7_paints := fun _ h => List.mem_cons.mpr (Or.inr (List.mem_append.mpr (Or.inl (List.mem_append.mpr (Or.inr h)))))
set_option maxHeartbeats 4000000 in
set_option maxRecDepth 100000 in
theorem kX7_paints_1 (l : Launch) (dC : Nat → ClassId) (dI : Nat → Nat → Nat) (cI c2 cZ : ClassId) (o1 : Nat) (o8 : Nat) (o9 : Nat) (v11 : Int32) (v12 : Int32) (a3 : Int32) (sz : Nat) (v11_h : Iv 0 12 v11) (a3_h : Iv 0 12 a3) : Met l yX7_paints wsX7_paints ({ frames := 0, cells := 0, slots := 0, locals := 0 }) (va_Pc [.ref o1, .ref o8, .int 12, .int a3] (wPre (dC, dI) [(cI, .int), (c2, .array .int), (cZ, .boolean)] ([(o8, .inr (4, [.ref o9, .int v11, .int v12]))]) sz)) (va_Qi (fun (r : Int32) (_ : Unit) => Iv 1 1 r) (fun _ t => wPost (dC, dI) [(cI, .int), (c2, .array .int), (cZ, .boolean)] (va_A ([(o8, .inr (4, [.ref o9, .int v11, .int v12]))]) sz) ([(o8, .inr (4, [.ref o9, .int v11, .int v12]))]) t) (va_A ([(o8, .inr (4, [.ref o9, .int v11, .int v12]))]) sz)) 0 0 (va_A ([(o8, .inr (4, [.ref o9, .int v11, .int v12]))]) sz) := by
  refine Met.ofW (cc := cX7_paints) (maxL := 5) (ret := (some .boolean)) (by decide) rfl ?_
  intro p e s m args below meth c s₁ B hml hv
  obtain ⟨rfl, hsz, hP, hK, hD0, hN⟩ := hv
  have hx := B.exec
  have hb := B.bytes
  have hr := B.returns
  have hts := atoms_spec (ws := wsX7_paints) B.pre
  have hown : s.vm.findClass RX7 = some m.cls := findClass_of_methodNamed B.named
  have hlocks := B.notSynchronized
  subst hsz
  have hD := hD0.self (sz := s.heap.size)
  generalize hAe : va_A ([(o8, .inr (4, [.ref o9, .int v11, .int v12]))]) s.heap.size = A at hD ⊢
  have hA : ∀ q : Nat, s.heap.size ≤ q → A q := fun q h => by rw [← hAe]; exact Or.inr h
  have hS : va_S A s.heap s.heap [] := va_S.rf
  have hP : va_P (dC, dI) vwCl ([(o8, .inr (4, [.ref o9, .int v11, .int v12]))]) s.heap := hP
  have hl := lv_entry ([.ref o1, .ref o8, .int 12, .int a3]) (n := 5) (Nat.le_of_ble_eq_true rfl)
  rw [lg_entry_eq]
  generalize (lg_sl ([.ref o1, .ref o8, .int 12, .int a3]) ++ List.replicate (5 - (lg_sl ([.ref o1, .ref o8, .int 12, .int a3])).length) Slot.unset).toArray = ls at hl ⊢
  have hl : lv_has ls 5 [(0, .ref o1), (1, .ref o8), (2, .int 12), (3, .int a3)] := hl
  refine gen_Q (fun Q hQ => ?_)
  refine lv_iload_n hx hb dX7_paints_0 rfl (lv_at hl 2 rfl) ?_
  refine lv_aload_n hx hb dX7_paints_1 rfl (lv_at hl 1 rfl) ?_
  refine va_getN (D := (dC, dI)) (ci := 4) (v := .int v11) (C := RX4) (T := TX4) (N := 3) hx hb hts iw_X7_paints_X4 hown hK hP 0 rfl rfl 1 (by decide) (hN.use ns_8) (fun _ h9 => h9) rfl dX7_paints_2 ?_
  refine lv_icmp_lt (tgt := 10) hx hb dX7_paints_5 (by decide) (fun h9 => absurd h9 (d_nlt ik_12 v11_h (by decide))) (fun _ => ?_)
  refine lv_iconst (v := 1) hx hb dX7_paints_8 (by decide) ?_
  rw [hQ]
  exact W.zret (v := 1) (ty := .boolean) hx hb hr rfl (fun t ht hW => ⟨⟨1, (), rfl, ik_1, by rw [ht]; exact hP, va_K.moved hW.alike hK, hD⟩, hS.F ht⟩) hS.2.2 dX7_paints_9
theorem iw_X7_paints_X7 : ∀ w ∈ wsX70, w ∈ wsX7_paints := fun _ h => List.mem_cons.mpr (Or.inr (List.mem_append.mpr (Or.inr h)))
set_option maxHeartbeats 4000000 in
set_option maxRecDepth 100000 in
theorem kX7_paints_2 (l : Launch) (dC : Nat → ClassId) (dI : Nat → Nat → Nat) (cI c2 cZ : ClassId) (o1 : Nat) (o8 : Nat) (o9 : Nat) (o2 : Nat) (o4 : Nat) (fw3 : Nat → Int32) (fw5 : Nat → Int32) (v6 : Int32) (v7 : Int32) (fw10 : Nat → Int32) (v11 : Int32) (v12 : Int32) (a3 : Int32) (sz : Nat) (v6_h : Iv (-2147483648) 12 v6) (fw10_b : Bd 12 0 4095 fw10) (v11_h : Iv 0 12 v11) (a3_h : Iv 0 12 a3) : Met l yX7_paints wsX7_paints ({ frames := 1, cells := 0, slots := 0, locals := 24 }) (va_Pc [.ref o1, .ref o8, .int 11, .int a3] (wPre (dC, dI) [(cI, .int), (c2, .array .int), (cZ, .boolean)] ([(o8, .inr (4, [.ref o9, .int v11, .int v12])), (o1, .inr (7, [.ref o2, .ref o4, .int v6, .int v7])), (o4, .inl (cI, 12, .inl fw5)), (o9, .inl (cI, 12, .inl fw10)), (o2, .inl (cI, 12, .inl fw3))]) sz)) (va_Qi (fun (r : Int32) (u : (Nat → Int32) × (Nat → Int32)) => Iv 0 1 r) (fun u t => wPost (dC, dI) [(cI, .int), (c2, .array .int), (cZ, .boolean)] (va_A ([(o8, .inr (4, [.ref o9, .int v11, .int v12])), (o1, .inr (7, [.ref o2, .ref o4, .int v6, .int v7])), (o4, .inl (cI, 12, .inl fw5)), (o9, .inl (cI, 12, .inl fw10)), (o2, .inl (cI, 12, .inl fw3))]) sz) ([(o8, .inr (4, [.ref o9, .int v11, .int v12])), (o1, .inr (7, [.ref o2, .ref o4, .int v6, .int v7])), (o4, .inl (cI, 12, .inl u.1)), (o9, .inl (cI, 12, .inl fw10)), (o2, .inl (cI, 12, .inl u.2))]) t) (va_A ([(o8, .inr (4, [.ref o9, .int v11, .int v12])), (o1, .inr (7, [.ref o2, .ref o4, .int v6, .int v7])), (o4, .inl (cI, 12, .inl fw5)), (o9, .inl (cI, 12, .inl fw10)), (o2, .inl (cI, 12, .inl fw3))]) sz)) 0 0 (va_A ([(o8, .inr (4, [.ref o9, .int v11, .int v12])), (o1, .inr (7, [.ref o2, .ref o4, .int v6, .int v7])), (o4, .inl (cI, 12, .inl fw5)), (o9, .inl (cI, 12, .inl fw10)), (o2, .inl (cI, 12, .inl fw3))]) sz) := by
  refine Met.ofW (cc := cX7_paints) (maxL := 5) (ret := (some .boolean)) (by decide) rfl ?_
  intro p e s m args below meth c s₁ B hml hv
  obtain ⟨rfl, hsz, hP, hK, hD0, hN⟩ := hv
  have hx := B.exec
  have hb := B.bytes
  have hr := B.returns
  have hts := atoms_spec (ws := wsX7_paints) B.pre
  have hown : s.vm.findClass RX7 = some m.cls := findClass_of_methodNamed B.named
  have hlocks := B.notSynchronized
  subst hsz
  have hD := hD0.self (sz := s.heap.size)
  generalize hAe : va_A ([(o8, .inr (4, [.ref o9, .int v11, .int v12])), (o1, .inr (7, [.ref o2, .ref o4, .int v6, .int v7])), (o4, .inl (cI, 12, .inl fw5)), (o9, .inl (cI, 12, .inl fw10)), (o2, .inl (cI, 12, .inl fw3))]) s.heap.size = A at hD ⊢
  have hA : ∀ q : Nat, s.heap.size ≤ q → A q := fun q h => by rw [← hAe]; exact Or.inr h
  have hS : va_S A s.heap s.heap [] := va_S.rf
  have hP : va_P (dC, dI) vwCl ([(o8, .inr (4, [.ref o9, .int v11, .int v12])), (o1, .inr (7, [.ref o2, .ref o4, .int v6, .int v7])), (o4, .inl (cI, 12, .inl fw5)), (o9, .inl (cI, 12, .inl fw10)), (o2, .inl (cI, 12, .inl fw3))]) s.heap := hP
  have hl := lv_entry ([.ref o1, .ref o8, .int 11, .int a3]) (n := 5) (Nat.le_of_ble_eq_true rfl)
  rw [lg_entry_eq]
  generalize (lg_sl ([.ref o1, .ref o8, .int 11, .int a3]) ++ List.replicate (5 - (lg_sl ([.ref o1, .ref o8, .int 11, .int a3])).length) Slot.unset).toArray = ls at hl ⊢
  have hl : lv_has ls 5 [(0, .ref o1), (1, .ref o8), (2, .int 11), (3, .int a3)] := hl
  refine gen_Q (fun Q hQ => ?_)
  refine lv_iload_n hx hb dX7_paints_0 rfl (lv_at hl 2 rfl) ?_
  refine lv_aload_n hx hb dX7_paints_1 rfl (lv_at hl 1 rfl) ?_
  refine va_getN (D := (dC, dI)) (ci := 4) (v := .int v11) (C := RX4) (T := TX4) (N := 3) hx hb hts iw_X7_paints_X4 hown hK hP 0 rfl rfl 1 (by decide) (hN.use ns_8) (fun _ h9 => h9) rfl dX7_paints_2 ?_
  refine lv_icmp_lt (tgt := 10) hx hb dX7_paints_5 (by decide) (fun h1 => ?_) (fun h1 => ?_)
  ·
    have qh1 := lt_i h1
    have j2 : Iv 12 12 v11 := r_ltr qh1 ik_11 v11_h (by decide)
    refine lv_iconst (v := 0) hx hb dX7_paints_10 (by decide) ?_
    refine lv_istore (lv' := [(4, .int 0), (0, .ref o1), (1, .ref o8), (2, .int 11), (3, .int a3)]) hx hb dX7_paints_11 hl (by decide) rfl (fun ls hl => ?_)
    have L1 : ∀ (N : Nat) (x165 : Int32) (H : Heap) (locs : List Loc) (ls : Array Slot), (12 - x165.toInt).toNat < N → Iv 0 12 x165 → va_P (dC, dI) vwCl ([(o8, .inr (4, [.ref o9, .int v11, .int v12])), (o1, .inr (7, [.ref o2, .ref o4, .int v6, .int v7])), (o4, .inl (cI, 12, .inl fw5)), (o9, .inl (cI, 12, .inl fw10)), (o2, .inl (cI, 12, .inl fw3))]) H → va_D A ([(o8, .inr (4, [.ref o9, .int v11, .int v12])), (o1, .inr (7, [.ref o2, .ref o4, .int v6, .int v7])), (o4, .inl (cI, 12, .inl fw5)), (o9, .inl (cI, 12, .inl fw10)), (o2, .inl (cI, 12, .inl fw3))]) → va_S A s.heap H locs → lv_has ls 5 [(4, .int x165), (0, .ref o1), (1, .ref o8), (2, .int 11), (3, .int a3)] → W p l e ({ frames := 1, cells := 0, slots := 0, locals := 24 }) s m ([.ref o1, .ref o8, .int 11, .int a3] : List Value).toArray below meth c H locs 0 0 Q (F0 m 13 ls []) := by
      intro N
      induction N with
      | zero =>
        intro x165 H locs ls hM
        exact absurd hM (Nat.not_lt_zero _)
      | succ N ih1 =>
        intro x165 H locs ls hM1 x165_h hP hD hS hl
        refine lv_iload hx hb dX7_paints_13 (lv_at hl 0 rfl) ?_
        refine lv_iload_n hx hb dX7_paints_15 rfl (lv_at hl 4 rfl) ?_
        refine lv_icmp_gt (tgt := 108) hx hb dX7_paints_16 (by decide) (fun h166 => ?_) (fun h166 => ?_)
        ·
          have qh166 := lt_i h166
          have j167 : Iv 0 11 a3 := r_ltl qh166 a3_h x165_h (by decide)
          have j168 : Iv 1 12 x165 := r_ltr qh166 a3_h x165_h (by decide)
          refine lv_iconst (v := 0) hx hb dX7_paints_108 (by decide) ?_
          rw [hQ]
          exact W.zret (v := 0) (ty := .boolean) hx hb hr rfl (fun t ht hW => ⟨⟨0, (fw5, fw3), rfl, (iv_w ik_0 (by decide)), by rw [ht]; exact hP, va_K.moved hW.alike hK, hD⟩, hS.F ht⟩) hS.2.2 dX7_paints_109
        ·
          have qh166 := nlt_i h166
          refine lv_iload hx hb dX7_paints_19 (lv_at hl 0 rfl) ?_
          refine lv_aload_n hx hb dX7_paints_21 rfl (lv_at hl 1 rfl) ?_
          refine va_get (D := (dC, dI)) (ci := 7) (v := .int v6) (C := RX7) (T := TX7) (N := 4) hx hb hts iw_X7_paints_X7 hown hK hP 1 rfl rfl 2 (by decide) (hts (.fieldLink RX7 18 "HolelessHouse$Paint" "most" "I") hm_X7_paints_1) (fun _ h9 => h9) rfl dX7_paints_22 ?_
          refine lv_icmp_ge (tgt := 108) hx hb dX7_paints_25 (by decide) (fun h169 => ?_) (fun h169 => ?_)
          ·
            have qh169 := le_i h169
            refine lv_iconst (v := 0) hx hb dX7_paints_108 (by decide) ?_
            rw [hQ]
            exact W.zret (v := 0) (ty := .boolean) hx hb hr rfl (fun t ht hW => ⟨⟨0, (fw5, fw3), rfl, (iv_w ik_0 (by decide)), by rw [ht]; exact hP, va_K.moved hW.alike hK, hD⟩, hS.F ht⟩) hS.2.2 dX7_paints_109
          ·
            have qh169 := nle_i h169
            have j170 : Iv 0 11 x165 := r_ltl qh169 x165_h v6_h (by decide)
            have j171 : Iv 1 12 v6 := r_ltr qh169 x165_h v6_h (by decide)
            refine lv_aload_n hx hb dX7_paints_28 rfl (lv_at hl 1 rfl) ?_
            refine va_get (D := (dC, dI)) (ci := 7) (v := .ref o4) (C := RX7) (T := TX7) (N := 4) hx hb hts iw_X7_paints_X7 hown hK hP 1 rfl rfl 1 (by decide) (hts (.fieldLink RX7 15 "HolelessHouse$Paint" "worn" "[I") hm_X7_paints_2) (fun _ h9 => h9) rfl dX7_paints_29 ?_
            refine lv_iload hx hb dX7_paints_32 (lv_at hl 0 rfl) ?_
            refine va_iald hx hb hK hP 2 0 rfl rfl (vin_iv j170 (by decide)) dX7_paints_34 (lv_topi (fun x172 x172_e => ?_))
            refine lv_aload_n hx hb dX7_paints_35 rfl (lv_at hl 2 rfl) ?_
            refine va_getN (D := (dC, dI)) (ci := 4) (v := .ref o9) (C := RX4) (T := TX4) (N := 3) hx hb hts iw_X7_paints_X4 hown hK hP 0 rfl rfl 0 (by decide) (hN.use ns_3) (fun _ h9 => h9) rfl dX7_paints_36 ?_
            refine lv_iload_n hx hb dX7_paints_39 rfl (lv_at hl 3 rfl) ?_
            refine va_iald hx hb hK hP 3 0 rfl rfl (vin_iv ik_11 (by decide)) dX7_paints_40 (lv_topi (fun x173 x173_e => ?_))
            have x173_h : Iv 0 4095 x173 := iv_e x173_e (bd_at fw10_b (vin_iv ik_11 (by decide)))
            refine lv_iand hx hb dX7_paints_41 (lv_topi (fun x174 x174_e => ?_))
            have x174_h : Iv 0 4095 x174 := iv_e x174_e (iv_andR _ x173_h (by decide))
            refine lv_if_ne (tgt := 102) hx hb dX7_paints_42 (by decide) (fun h175 => ?_) (fun h175 => ?_)
            ·
              have j176 : Iv 1 4095 x174 := r_nelo h175 x174_h ik_0 (by decide)
              obtain ⟨x177, x177_e⟩ : ∃ z : Int32, z = x165 + 1 := ⟨_, rfl⟩
              have x177_h : Iv 1 12 x177 := iv_e x177_e (iv_add j170 ik_1 (by decide))
              refine lv_iinc (v := x177) (lv' := [(4, .int x177), (0, .ref o1), (1, .ref o8), (2, .int 11), (3, .int a3)]) hx hb dX7_paints_102 hl (k := 0) rfl (incN (by decide +kernel) x177_e) (by decide) rfl (fun ls hl => ?_)
              refine lv_goto (tgt := 13) hx hb dX7_paints_105 (by decide) ?_
              exact ih1 x177 _ _ _ (ms_up x177_e j170 (by decide) hM1) (iv_w x177_h (by decide)) hP hD hS hl
            ·
              have j178 : Iv 0 0 x174 := r_eq h175 ik_0
              refine lv_aload_n hx hb dX7_paints_45 rfl (lv_at hl 1 rfl) ?_
              refine va_get (D := (dC, dI)) (ci := 7) (v := .ref o4) (C := RX7) (T := TX7) (N := 4) hx hb hts iw_X7_paints_X7 hown hK hP 1 rfl rfl 1 (by decide) (hts (.fieldLink RX7 15 "HolelessHouse$Paint" "worn" "[I") hm_X7_paints_2) (fun _ h9 => h9) rfl dX7_paints_46 ?_
              refine lv_iload hx hb dX7_paints_49 (lv_at hl 0 rfl) ?_
              refine lv_dup2_11 hx hb dX7_paints_51 rfl rfl ?_
              refine va_iald hx hb hK hP 2 0 rfl rfl (vin_iv j170 (by decide)) dX7_paints_52 (lv_topi (fun x179 x179_e => ?_))
              refine lv_iconst (v := 1) hx hb dX7_paints_53 (by decide) ?_
              refine lv_iload_n hx hb dX7_paints_54 rfl (lv_at hl 3 rfl) ?_
              refine lv_ishl hx hb dX7_paints_55 (tk_i (v := 2048) (by decide +kernel) ?_)
              refine lv_ior hx hb dX7_paints_56 (lv_topi (fun x180 x180_e => ?_))
              refine k_iast hx hb hK hP hD hS 2 0 rfl rfl (vin_iv j170 (by decide)) dX7_paints_57 (fun f181 H locs f181_e hP hD hS => ?_)
              have hP : va_P (dC, dI) vwCl ([(o8, .inr (4, [.ref o9, .int v11, .int v12])), (o1, .inr (7, [.ref o2, .ref o4, .int v6, .int v7])), (o4, .inl (cI, 12, .inl f181)), (o9, .inl (cI, 12, .inl fw10)), (o2, .inl (cI, 12, .inl fw3))]) H := hP
              have hD : va_D A ([(o8, .inr (4, [.ref o9, .int v11, .int v12])), (o1, .inr (7, [.ref o2, .ref o4, .int v6, .int v7])), (o4, .inl (cI, 12, .inl f181)), (o9, .inl (cI, 12, .inl fw10)), (o2, .inl (cI, 12, .inl fw3))]) := hD
              refine lv_aload_n hx hb dX7_paints_58 rfl (lv_at hl 1 rfl) ?_
              refine va_get (D := (dC, dI)) (ci := 7) (v := .ref o2) (C := RX7) (T := TX7) (N := 4) hx hb hts iw_X7_paints_X7 hown hK hP 1 rfl rfl 0 (by decide) (hts (.fieldLink RX7 9 "HolelessHouse$Paint" "hues" "[I") hm_X7_paints_3) (fun _ h9 => h9) rfl dX7_paints_59 ?_
              refine lv_iload_n hx hb dX7_paints_62 rfl (lv_at hl 3 rfl) ?_
              refine lv_iload hx hb dX7_paints_63 (lv_at hl 0 rfl) ?_
              refine k_iast hx hb hK hP hD hS 4 0 rfl rfl (vin_iv ik_11 (by decide)) dX7_paints_65 (fun f182 H locs f182_e hP hD hS => ?_)
              have hP : va_P (dC, dI) vwCl ([(o8, .inr (4, [.ref o9, .int v11, .int v12])), (o1, .inr (7, [.ref o2, .ref o4, .int v6, .int v7])), (o4, .inl (cI, 12, .inl f181)), (o9, .inl (cI, 12, .inl fw10)), (o2, .inl (cI, 12, .inl f182))]) H := hP
              have hD : va_D A ([(o8, .inr (4, [.ref o9, .int v11, .int v12])), (o1, .inr (7, [.ref o2, .ref o4, .int v6, .int v7])), (o4, .inl (cI, 12, .inl f181)), (o9, .inl (cI, 12, .inl fw10)), (o2, .inl (cI, 12, .inl f182))]) := hD
              refine lv_aload_n hx hb dX7_paints_66 rfl (lv_at hl 1 rfl) ?_
              refine lv_aload_n hx hb dX7_paints_67 rfl (lv_at hl 2 rfl) ?_
              refine lv_iload_n hx hb dX7_paints_68 rfl (lv_at hl 3 rfl) ?_
              refine lv_iconst (v := 1) hx hb dX7_paints_69 (by decide) ?_
              refine lv_iadd hx hb dX7_paints_70 (tk_i (v := 12) (by decide +kernel) ?_)
              refine lv_iload_n hx hb dX7_paints_71 rfl (lv_at hl 4 rfl) ?_
              refine lv_iload hx hb dX7_paints_72 (lv_at hl 0 rfl) ?_
              refine lv_iconst (v := 1) hx hb dX7_paints_74 (by decide) ?_
              refine lv_iadd hx hb dX7_paints_75 (lv_topi (fun x183 x183_e => ?_))
              have x183_h : Iv 1 12 x183 := iv_e x183_e (iv_add j170 ik_1 (by decide))
              refine va_mmax hx hb (hml.trans hl.1.symm) hown (hts (.methodLink RX7 46 Lib.Math.max.name) hm_X7_paints_4) (hts (.static Lib.Math.max.name) hm_X7_paints_5) (hts (.initialized "java/lang/Math") hm_X7_paints_6) (hts (.code Lib.Math.max.name Lib.Math.max.code 2 (some .int)) hm_X7_paints_7) (Nat.le_of_ble_eq_true rfl) (Nat.le_of_ble_eq_true rfl) (Nat.le_of_ble_eq_true rfl) (Nat.le_of_ble_eq_true rfl) dX7_paints_76 (lv_topi (fun x184 x184_e => ?_))
              have x184_h : Iv 0 12 x184 := iv_e x184_e (iv_max a3_h x183_h (by decide))
              refine kc_i (D := (dC, dI)) (S := Unit) (wc := [(o8, .inr (4, [.ref o9, .int v11, .int v12]))]) (wr := [(o1, .inr (7, [.ref o2, .ref o4, .int v6, .int v7])), (o4, .inl (cI, 12, .inl f181)), (o9, .inl (cI, 12, .inl fw10)), (o2, .inl (cI, 12, .inl f182))]) (w1 := fun _ => [(o8, .inr (4, [.ref o9, .int v11, .int v12]))]) (wn := fun _ => [(o8, .inr (4, [.ref o9, .int v11, .int v12])), (o1, .inr (7, [.ref o2, .ref o4, .int v6, .int v7])), (o4, .inl (cI, 12, .inl f181)), (o9, .inl (cI, 12, .inl fw10)), (o2, .inl (cI, 12, .inl f182))]) (fun hPc hDc => va_runS (As := [.ref o1, .ref o8, .int 12, .int x184]) (rest := []) ⟨hx, hb, hml, hown, hts⟩ (kX7_paints_1 l dC dI cI c2 cZ o1 o8 o9 v11 v12 x184 H.size (iv_w j2 (by decide)) x184_h) (va_cwS 4 hts gX7_paints_X7_paints rfl rfl rfl (by decide +kernel) ⟨Nat.le_of_ble_eq_true rfl, Nat.le_of_ble_eq_true rfl⟩) (pre_S hPc hK hDc hN) rfl rfl hl.1 rfl (lv_room (Nat.le_of_ble_eq_true rfl)) dX7_paints_79 ⟨Nat.le_of_ble_eq_true rfl, Nat.le_of_ble_eq_true rfl⟩) hP hD hS hA [0] [1, 2, 3, 4] [4, 0, 1, 2, 3] rfl rfl (by decide +kernel) (by decide +kernel) (by decide +kernel) (by decide +kernel) (fun _ => rfl) (fun x185 _ H locs hq hP hD hS => ?_)
              have x185_h := hq
              have hP : va_P (dC, dI) vwCl ([(o8, .inr (4, [.ref o9, .int v11, .int v12])), (o1, .inr (7, [.ref o2, .ref o4, .int v6, .int v7])), (o4, .inl (cI, 12, .inl f181)), (o9, .inl (cI, 12, .inl fw10)), (o2, .inl (cI, 12, .inl f182))]) H := hP
              have hD : va_D A ([(o8, .inr (4, [.ref o9, .int v11, .int v12])), (o1, .inr (7, [.ref o2, .ref o4, .int v6, .int v7])), (o4, .inl (cI, 12, .inl f181)), (o9, .inl (cI, 12, .inl fw10)), (o2, .inl (cI, 12, .inl f182))]) := hD
              refine lv_if_eq (tgt := 87) hx hb dX7_paints_82 (by decide) (fun h9 => absurd h9 (d_ne x185_h ik_0 (by decide))) (fun _ => ?_)
              refine lv_iconst (v := 1) hx hb dX7_paints_85 (by decide) ?_
              rw [hQ]
              exact W.zret (v := 1) (ty := .boolean) hx hb hr rfl (fun t ht hW => ⟨⟨1, (f181, f182), rfl, (iv_w ik_1 (by decide)), by rw [ht]; exact hP, va_K.moved hW.alike hK, hD⟩, hS.F ht⟩) hS.2.2 dX7_paints_86
    exact L1 _ 0 _ _ _ (Nat.lt_succ_self _) (iv_w ik_0 (by decide)) hP hD hS hl
  ·
    have qh1 := nlt_i h1
    have j186 : Iv 0 11 v11 := r_lel qh1 v11_h ik_11 (by decide)
    refine lv_iconst (v := 1) hx hb dX7_paints_8 (by decide) ?_
    rw [hQ]
    exact W.zret (v := 1) (ty := .boolean) hx hb hr rfl (fun t ht hW => ⟨⟨1, (fw5, fw3), rfl, (iv_w ik_1 (by decide)), by rw [ht]; exact hP, va_K.moved hW.alike hK, hD⟩, hS.F ht⟩) hS.2.2 dX7_paints_9
set_option maxHeartbeats 4000000 in
set_option maxRecDepth 100000 in
theorem kX7_paints_3 (l : Launch) (dC : Nat → ClassId) (dI : Nat → Nat → Nat) (cI c2 cZ : ClassId) (o1 : Nat) (o8 : Nat) (o9 : Nat) (o2 : Nat) (o4 : Nat) (fw3 : Nat → Int32) (fw5 : Nat → Int32) (v6 : Int32) (v7 : Int32) (fw10 : Nat → Int32) (v11 : Int32) (v12 : Int32) (a3 : Int32) (sz : Nat) (v6_h : Iv (-2147483648) 12 v6) (fw10_b : Bd 12 0 4095 fw10) (v11_h : Iv 0 12 v11) (a3_h : Iv 0 12 a3) : Met l yX7_paints wsX7_paints ({ frames := 2, cells := 0, slots := 0, locals := 48 }) (va_Pc [.ref o1, .ref o8, .int 10, .int a3] (wPre (dC, dI) [(cI, .int), (c2, .array .int), (cZ, .boolean)] ([(o8, .inr (4, [.ref o9, .int v11, .int v12])), (o1, .inr (7, [.ref o2, .ref o4, .int v6, .int v7])), (o4, .inl (cI, 12, .inl fw5)), (o9, .inl (cI, 12, .inl fw10)), (o2, .inl (cI, 12, .inl fw3))]) sz)) (va_Qi (fun (r : Int32) (u : (Nat → Int32) × (Nat → Int32)) => Iv 0 1 r) (fun u t => wPost (dC, dI) [(cI, .int), (c2, .array .int), (cZ, .boolean)] (va_A ([(o8, .inr (4, [.ref o9, .int v11, .int v12])), (o1, .inr (7, [.ref o2, .ref o4, .int v6, .int v7])), (o4, .inl (cI, 12, .inl fw5)), (o9, .inl (cI, 12, .inl fw10)), (o2, .inl (cI, 12, .inl fw3))]) sz) ([(o8, .inr (4, [.ref o9, .int v11, .int v12])), (o1, .inr (7, [.ref o2, .ref o4, .int v6, .int v7])), (o4, .inl (cI, 12, .inl u.1)), (o9, .inl (cI, 12, .inl fw10)), (o2, .inl (cI, 12, .inl u.2))]) t) (va_A ([(o8, .inr (4, [.ref o9, .int v11, .int v12])), (o1, .inr (7, [.ref o2, .ref o4, .int v6, .int v7])), (o4, .inl (cI, 12, .inl fw5)), (o9, .inl (cI, 12, .inl fw10)), (o2, .inl (cI, 12, .inl fw3))]) sz)) 0 0 (va_A ([(o8, .inr (4, [.ref o9, .int v11, .int v12])), (o1, .inr (7, [.ref o2, .ref o4, .int v6, .int v7])), (o4, .inl (cI, 12, .inl fw5)), (o9, .inl (cI, 12, .inl fw10)), (o2, .inl (cI, 12, .inl fw3))]) sz) := by
  refine Met.ofW (cc := cX7_paints) (maxL := 5) (ret := (some .boolean)) (by decide) rfl ?_
  intro p e s m args below meth c s₁ B hml hv
  obtain ⟨rfl, hsz, hP, hK, hD0, hN⟩ := hv
  have hx := B.exec
  have hb := B.bytes
  have hr := B.returns
  have hts := atoms_spec (ws := wsX7_paints) B.pre
  have hown : s.vm.findClass RX7 = some m.cls := findClass_of_methodNamed B.named
  have hlocks := B.notSynchronized
  subst hsz
  have hD := hD0.self (sz := s.heap.size)
  generalize hAe : va_A ([(o8, .inr (4, [.ref o9, .int v11, .int v12])), (o1, .inr (7, [.ref o2, .ref o4, .int v6, .int v7])), (o4, .inl (cI, 12, .inl fw5)), (o9, .inl (cI, 12, .inl fw10)), (o2, .inl (cI, 12, .inl fw3))]) s.heap.size = A at hD ⊢
  have hA : ∀ q : Nat, s.heap.size ≤ q → A q := fun q h => by rw [← hAe]; exact Or.inr h
  have hS : va_S A s.heap s.heap [] := va_S.rf
  have hP : va_P (dC, dI) vwCl ([(o8, .inr (4, [.ref o9, .int v11, .int v12])), (o1, .inr (7, [.ref o2, .ref o4, .int v6, .int v7])), (o4, .inl (cI, 12, .inl fw5)), (o9, .inl (cI, 12, .inl fw10)), (o2, .inl (cI, 12, .inl fw3))]) s.heap := hP
  have hl := lv_entry ([.ref o1, .ref o8, .int 10, .int a3]) (n := 5) (Nat.le_of_ble_eq_true rfl)
  rw [lg_entry_eq]
  generalize (lg_sl ([.ref o1, .ref o8, .int 10, .int a3]) ++ List.replicate (5 - (lg_sl ([.ref o1, .ref o8, .int 10, .int a3])).length) Slot.unset).toArray = ls at hl ⊢
  have hl : lv_has ls 5 [(0, .ref o1), (1, .ref o8), (2, .int 10), (3, .int a3)] := hl
  refine gen_Q (fun Q hQ => ?_)
  refine lv_iload_n hx hb dX7_paints_0 rfl (lv_at hl 2 rfl) ?_
  refine lv_aload_n hx hb dX7_paints_1 rfl (lv_at hl 1 rfl) ?_
  refine va_getN (D := (dC, dI)) (ci := 4) (v := .int v11) (C := RX4) (T := TX4) (N := 3) hx hb hts iw_X7_paints_X4 hown hK hP 0 rfl rfl 1 (by decide) (hN.use ns_8) (fun _ h9 => h9) rfl dX7_paints_2 ?_
  refine lv_icmp_lt (tgt := 10) hx hb dX7_paints_5 (by decide) (fun h1 => ?_) (fun h1 => ?_)
  ·
    have qh1 := lt_i h1
    have j2 : Iv 11 12 v11 := r_ltr qh1 ik_10 v11_h (by decide)
    refine lv_iconst (v := 0) hx hb dX7_paints_10 (by decide) ?_
    refine lv_istore (lv' := [(4, .int 0), (0, .ref o1), (1, .ref o8), (2, .int 10), (3, .int a3)]) hx hb dX7_paints_11 hl (by decide) rfl (fun ls hl => ?_)
    have L1 : ∀ (N : Nat) (x250 : Int32) (f251 : Nat → Int32) (f252 : Nat → Int32) (H : Heap) (locs : List Loc) (ls : Array Slot), (12 - x250.toInt).toNat < N → Iv 0 12 x250 → va_P (dC, dI) vwCl ([(o8, .inr (4, [.ref o9, .int v11, .int v12])), (o1, .inr (7, [.ref o2, .ref o4, .int v6, .int v7])), (o4, .inl (cI, 12, .inl f252)), (o9, .inl (cI, 12, .inl fw10)), (o2, .inl (cI, 12, .inl f251))]) H → va_D A ([(o8, .inr (4, [.ref o9, .int v11, .int v12])), (o1, .inr (7, [.ref o2, .ref o4, .int v6, .int v7])), (o4, .inl (cI, 12, .inl f252)), (o9, .inl (cI, 12, .inl fw10)), (o2, .inl (cI, 12, .inl f251))]) → va_S A s.heap H locs → lv_has ls 5 [(4, .int x250), (0, .ref o1), (1, .ref o8), (2, .int 10), (3, .int a3)] → W p l e ({ frames := 2, cells := 0, slots := 0, locals := 48 }) s m ([.ref o1, .ref o8, .int 10, .int a3] : List Value).toArray below meth c H locs 0 0 Q (F0 m 13 ls []) := by
      intro N
      induction N with
      | zero =>
        intro x250 f251 f252 H locs ls hM
        exact absurd hM (Nat.not_lt_zero _)
      | succ N ih1 =>
        intro x250 f251 f252 H locs ls hM1 x250_h hP hD hS hl
        refine lv_iload hx hb dX7_paints_13 (lv_at hl 0 rfl) ?_
        refine lv_iload_n hx hb dX7_paints_15 rfl (lv_at hl 4 rfl) ?_
        refine lv_icmp_gt (tgt := 108) hx hb dX7_paints_16 (by decide) (fun h253 => ?_) (fun h253 => ?_)
        ·
          have qh253 := lt_i h253
          have j254 : Iv 0 11 a3 := r_ltl qh253 a3_h x250_h (by decide)
          have j255 : Iv 1 12 x250 := r_ltr qh253 a3_h x250_h (by decide)
          refine lv_iconst (v := 0) hx hb dX7_paints_108 (by decide) ?_
          rw [hQ]
          exact W.zret (v := 0) (ty := .boolean) hx hb hr rfl (fun t ht hW => ⟨⟨0, (f252, f251), rfl, (iv_w ik_0 (by decide)), by rw [ht]; exact hP, va_K.moved hW.alike hK, hD⟩, hS.F ht⟩) hS.2.2 dX7_paints_109
        ·
          have qh253 := nlt_i h253
          refine lv_iload hx hb dX7_paints_19 (lv_at hl 0 rfl) ?_
          refine lv_aload_n hx hb dX7_paints_21 rfl (lv_at hl 1 rfl) ?_
          refine va_get (D := (dC, dI)) (ci := 7) (v := .int v6) (C := RX7) (T := TX7) (N := 4) hx hb hts iw_X7_paints_X7 hown hK hP 1 rfl rfl 2 (by decide) (hts (.fieldLink RX7 18 "HolelessHouse$Paint" "most" "I") hm_X7_paints_1) (fun _ h9 => h9) rfl dX7_paints_22 ?_
          refine lv_icmp_ge (tgt := 108) hx hb dX7_paints_25 (by decide) (fun h256 => ?_) (fun h256 => ?_)
          ·
            have qh256 := le_i h256
            refine lv_iconst (v := 0) hx hb dX7_paints_108 (by decide) ?_
            rw [hQ]
            exact W.zret (v := 0) (ty := .boolean) hx hb hr rfl (fun t ht hW => ⟨⟨0, (f252, f251), rfl, (iv_w ik_0 (by decide)), by rw [ht]; exact hP, va_K.moved hW.alike hK, hD⟩, hS.F ht⟩) hS.2.2 dX7_paints_109
          ·
            have qh256 := nle_i h256
            have j257 : Iv 0 11 x250 := r_ltl qh256 x250_h v6_h (by decide)
            have j258 : Iv 1 12 v6 := r_ltr qh256 x250_h v6_h (by decide)
            refine lv_aload_n hx hb dX7_paints_28 rfl (lv_at hl 1 rfl) ?_
            refine va_get (D := (dC, dI)) (ci := 7) (v := .ref o4) (C := RX7) (T := TX7) (N := 4) hx hb hts iw_X7_paints_X7 hown hK hP 1 rfl rfl 1 (by decide) (hts (.fieldLink RX7 15 "HolelessHouse$Paint" "worn" "[I") hm_X7_paints_2) (fun _ h9 => h9) rfl dX7_paints_29 ?_
            refine lv_iload hx hb dX7_paints_32 (lv_at hl 0 rfl) ?_
            refine va_iald hx hb hK hP 2 0 rfl rfl (vin_iv j257 (by decide)) dX7_paints_34 (lv_topi (fun x259 x259_e => ?_))
            refine lv_aload_n hx hb dX7_paints_35 rfl (lv_at hl 2 rfl) ?_
            refine va_getN (D := (dC, dI)) (ci := 4) (v := .ref o9) (C := RX4) (T := TX4) (N := 3) hx hb hts iw_X7_paints_X4 hown hK hP 0 rfl rfl 0 (by decide) (hN.use ns_3) (fun _ h9 => h9) rfl dX7_paints_36 ?_
            refine lv_iload_n hx hb dX7_paints_39 rfl (lv_at hl 3 rfl) ?_
            refine va_iald hx hb hK hP 3 0 rfl rfl (vin_iv ik_10 (by decide)) dX7_paints_40 (lv_topi (fun x260 x260_e => ?_))
            have x260_h : Iv 0 4095 x260 := iv_e x260_e (bd_at fw10_b (vin_iv ik_10 (by decide)))
            refine lv_iand hx hb dX7_paints_41 (lv_topi (fun x261 x261_e => ?_))
            have x261_h : Iv 0 4095 x261 := iv_e x261_e (iv_andR _ x260_h (by decide))
            refine lv_if_ne (tgt := 102) hx hb dX7_paints_42 (by decide) (fun h262 => ?_) (fun h262 => ?_)
            ·
              have j263 : Iv 1 4095 x261 := r_nelo h262 x261_h ik_0 (by decide)
              obtain ⟨x264, x264_e⟩ : ∃ z : Int32, z = x250 + 1 := ⟨_, rfl⟩
              have x264_h : Iv 1 12 x264 := iv_e x264_e (iv_add j257 ik_1 (by decide))
              refine lv_iinc (v := x264) (lv' := [(4, .int x264), (0, .ref o1), (1, .ref o8), (2, .int 10), (3, .int a3)]) hx hb dX7_paints_102 hl (k := 0) rfl (incN (by decide +kernel) x264_e) (by decide) rfl (fun ls hl => ?_)
              refine lv_goto (tgt := 13) hx hb dX7_paints_105 (by decide) ?_
              exact ih1 x264 f251 f252 _ _ _ (ms_up x264_e j257 (by decide) hM1) (iv_w x264_h (by decide)) hP hD hS hl
            ·
              have j265 : Iv 0 0 x261 := r_eq h262 ik_0
              refine lv_aload_n hx hb dX7_paints_45 rfl (lv_at hl 1 rfl) ?_
              refine va_get (D := (dC, dI)) (ci := 7) (v := .ref o4) (C := RX7) (T := TX7) (N := 4) hx hb hts iw_X7_paints_X7 hown hK hP 1 rfl rfl 1 (by decide) (hts (.fieldLink RX7 15 "HolelessHouse$Paint" "worn" "[I") hm_X7_paints_2) (fun _ h9 => h9) rfl dX7_paints_46 ?_
              refine lv_iload hx hb dX7_paints_49 (lv_at hl 0 rfl) ?_
              refine lv_dup2_11 hx hb dX7_paints_51 rfl rfl ?_
              refine va_iald hx hb hK hP 2 0 rfl rfl (vin_iv j257 (by decide)) dX7_paints_52 (lv_topi (fun x266 x266_e => ?_))
              refine lv_iconst (v := 1) hx hb dX7_paints_53 (by decide) ?_
              refine lv_iload_n hx hb dX7_paints_54 rfl (lv_at hl 3 rfl) ?_
              refine lv_ishl hx hb dX7_paints_55 (tk_i (v := 1024) (by decide +kernel) ?_)
              refine lv_ior hx hb dX7_paints_56 (lv_topi (fun x267 x267_e => ?_))
              refine k_iast hx hb hK hP hD hS 2 0 rfl rfl (vin_iv j257 (by decide)) dX7_paints_57 (fun f268 H locs f268_e hP hD hS => ?_)
              have hP : va_P (dC, dI) vwCl ([(o8, .inr (4, [.ref o9, .int v11, .int v12])), (o1, .inr (7, [.ref o2, .ref o4, .int v6, .int v7])), (o4, .inl (cI, 12, .inl f268)), (o9, .inl (cI, 12, .inl fw10)), (o2, .inl (cI, 12, .inl f251))]) H := hP
              have hD : va_D A ([(o8, .inr (4, [.ref o9, .int v11, .int v12])), (o1, .inr (7, [.ref o2, .ref o4, .int v6, .int v7])), (o4, .inl (cI, 12, .inl f268)), (o9, .inl (cI, 12, .inl fw10)), (o2, .inl (cI, 12, .inl f251))]) := hD
              refine lv_aload_n hx hb dX7_paints_58 rfl (lv_at hl 1 rfl) ?_
              refine va_get (D := (dC, dI)) (ci := 7) (v := .ref o2) (C := RX7) (T := TX7) (N := 4) hx hb hts iw_X7_paints_X7 hown hK hP 1 rfl rfl 0 (by decide) (hts (.fieldLink RX7 9 "HolelessHouse$Paint" "hues" "[I") hm_X7_paints_3) (fun _ h9 => h9) rfl dX7_paints_59 ?_
              refine lv_iload_n hx hb dX7_paints_62 rfl (lv_at hl 3 rfl) ?_
              refine lv_iload hx hb dX7_paints_63 (lv_at hl 0 rfl) ?_
              refine k_iast hx hb hK hP hD hS 4 0 rfl rfl (vin_iv ik_10 (by decide)) dX7_paints_65 (fun f269 H locs f269_e hP hD hS => ?_)
              have hP : va_P (dC, dI) vwCl ([(o8, .inr (4, [.ref o9, .int v11, .int v12])), (o1, .inr (7, [.ref o2, .ref o4, .int v6, .int v7])), (o4, .inl (cI, 12, .inl f268)), (o9, .inl (cI, 12, .inl fw10)), (o2, .inl (cI, 12, .inl f269))]) H := hP
              have hD : va_D A ([(o8, .inr (4, [.ref o9, .int v11, .int v12])), (o1, .inr (7, [.ref o2, .ref o4, .int v6, .int v7])), (o4, .inl (cI, 12, .inl f268)), (o9, .inl (cI, 12, .inl fw10)), (o2, .inl (cI, 12, .inl f269))]) := hD
              refine lv_aload_n hx hb dX7_paints_66 rfl (lv_at hl 1 rfl) ?_
              refine lv_aload_n hx hb dX7_paints_67 rfl (lv_at hl 2 rfl) ?_
              refine lv_iload_n hx hb dX7_paints_68 rfl (lv_at hl 3 rfl) ?_
              refine lv_iconst (v := 1) hx hb dX7_paints_69 (by decide) ?_
              refine lv_iadd hx hb dX7_paints_70 (tk_i (v := 11) (by decide +kernel) ?_)
              refine lv_iload_n hx hb dX7_paints_71 rfl (lv_at hl 4 rfl) ?_
              refine lv_iload hx hb dX7_paints_72 (lv_at hl 0 rfl) ?_
              refine lv_iconst (v := 1) hx hb dX7_paints_74 (by decide) ?_
              refine lv_iadd hx hb dX7_paints_75 (lv_topi (fun x270 x270_e => ?_))
              have x270_h : Iv 1 12 x270 := iv_e x270_e (iv_add j257 ik_1 (by decide))
              refine va_mmax hx hb (hml.trans hl.1.symm) hown (hts (.methodLink RX7 46 Lib.Math.max.name) hm_X7_paints_4) (hts (.static Lib.Math.max.name) hm_X7_paints_5) (hts (.initialized "java/lang/Math") hm_X7_paints_6) (hts (.code Lib.Math.max.name Lib.Math.max.code 2 (some .int)) hm_X7_paints_7) (Nat.le_of_ble_eq_true rfl) (Nat.le_of_ble_eq_true rfl) (Nat.le_of_ble_eq_true rfl) (Nat.le_of_ble_eq_true rfl) dX7_paints_76 (lv_topi (fun x271 x271_e => ?_))
              have x271_h : Iv 0 12 x271 := iv_e x271_e (iv_max a3_h x270_h (by decide))
              refine kc_i (D := (dC, dI)) (S := (Nat → Int32) × (Nat → Int32)) (wc := [(o8, .inr (4, [.ref o9, .int v11, .int v12])), (o1, .inr (7, [.ref o2, .ref o4, .int v6, .int v7])), (o4, .inl (cI, 12, .inl f268)), (o9, .inl (cI, 12, .inl fw10)), (o2, .inl (cI, 12, .inl f269))]) (wr := []) (w1 := fun u => [(o8, .inr (4, [.ref o9, .int v11, .int v12])), (o1, .inr (7, [.ref o2, .ref o4, .int v6, .int v7])), (o4, .inl (cI, 12, .inl u.1)), (o9, .inl (cI, 12, .inl fw10)), (o2, .inl (cI, 12, .inl u.2))]) (wn := fun u => [(o8, .inr (4, [.ref o9, .int v11, .int v12])), (o1, .inr (7, [.ref o2, .ref o4, .int v6, .int v7])), (o4, .inl (cI, 12, .inl u.1)), (o9, .inl (cI, 12, .inl fw10)), (o2, .inl (cI, 12, .inl u.2))]) (fun hPc hDc => va_runS (As := [.ref o1, .ref o8, .int 11, .int x271]) (rest := []) ⟨hx, hb, hml, hown, hts⟩ (kX7_paints_2 l dC dI cI c2 cZ o1 o8 o9 o2 o4 f269 f268 v6 v7 fw10 v11 v12 x271 H.size (iv_w j258 (by decide)) fw10_b (iv_w j2 (by decide)) x271_h) (va_cwS 4 hts gX7_paints_X7_paints rfl rfl rfl (by decide +kernel) ⟨Nat.le_of_ble_eq_true rfl, Nat.le_of_ble_eq_true rfl⟩) (pre_S hPc hK hDc hN) rfl rfl hl.1 rfl (lv_room (Nat.le_of_ble_eq_true rfl)) dX7_paints_79 ⟨Nat.le_of_ble_eq_true rfl, Nat.le_of_ble_eq_true rfl⟩) hP hD hS hA [0, 1, 2, 3, 4] [] [0, 1, 2, 3, 4] rfl rfl (by decide +kernel) (by decide +kernel) (by decide +kernel) (by decide +kernel) (fun _ => rfl) (fun x274 u H locs hq hP hD hS => ?_)
              obtain ⟨f272, f273⟩ := u
              have x274_h := hq
              have hP : va_P (dC, dI) vwCl ([(o8, .inr (4, [.ref o9, .int v11, .int v12])), (o1, .inr (7, [.ref o2, .ref o4, .int v6, .int v7])), (o4, .inl (cI, 12, .inl f272)), (o9, .inl (cI, 12, .inl fw10)), (o2, .inl (cI, 12, .inl f273))]) H := hP
              have hD : va_D A ([(o8, .inr (4, [.ref o9, .int v11, .int v12])), (o1, .inr (7, [.ref o2, .ref o4, .int v6, .int v7])), (o4, .inl (cI, 12, .inl f272)), (o9, .inl (cI, 12, .inl fw10)), (o2, .inl (cI, 12, .inl f273))]) := hD
              refine lv_if_eq (tgt := 87) hx hb dX7_paints_82 (by decide) (fun h275 => ?_) (fun h275 => ?_)
              ·
                have j276 : Iv 0 0 x274 := r_eq h275 ik_0
                refine lv_aload_n hx hb dX7_paints_87 rfl (lv_at hl 1 rfl) ?_
                refine va_get (D := (dC, dI)) (ci := 7) (v := .ref o4) (C := RX7) (T := TX7) (N := 4) hx hb hts iw_X7_paints_X7 hown hK hP 1 rfl rfl 1 (by decide) (hts (.fieldLink RX7 15 "HolelessHouse$Paint" "worn" "[I") hm_X7_paints_2) (fun _ h9 => h9) rfl dX7_paints_88 ?_
                refine lv_iload hx hb dX7_paints_91 (lv_at hl 0 rfl) ?_
                refine lv_dup2_11 hx hb dX7_paints_93 rfl rfl ?_
                refine va_iald hx hb hK hP 2 0 rfl rfl (vin_iv j257 (by decide)) dX7_paints_94 (lv_topi (fun x277 x277_e => ?_))
                refine lv_iconst (v := 1) hx hb dX7_paints_95 (by decide) ?_
                refine lv_iload_n hx hb dX7_paints_96 rfl (lv_at hl 3 rfl) ?_
                refine lv_ishl hx hb dX7_paints_97 (tk_i (v := 1024) (by decide +kernel) ?_)
                refine lv_iconst (v := (-1)) hx hb dX7_paints_98 (by decide) ?_
                refine lv_ixor hx hb dX7_paints_99 (tk_i (v := (-1025)) (by decide +kernel) ?_)
                refine lv_iand hx hb dX7_paints_100 (lv_topi (fun x278 x278_e => ?_))
                refine k_iast hx hb hK hP hD hS 2 0 rfl rfl (vin_iv j257 (by decide)) dX7_paints_101 (fun f279 H locs f279_e hP hD hS => ?_)
                have hP : va_P (dC, dI) vwCl ([(o8, .inr (4, [.ref o9, .int v11, .int v12])), (o1, .inr (7, [.ref o2, .ref o4, .int v6, .int v7])), (o4, .inl (cI, 12, .inl f279)), (o9, .inl (cI, 12, .inl fw10)), (o2, .inl (cI, 12, .inl f273))]) H := hP
                have hD : va_D A ([(o8, .inr (4, [.ref o9, .int v11, .int v12])), (o1, .inr (7, [.ref o2, .ref o4, .int v6, .int v7])), (o4, .inl (cI, 12, .inl f279)), (o9, .inl (cI, 12, .inl fw10)), (o2, .inl (cI, 12, .inl f273))]) := hD
                obtain ⟨x280, x280_e⟩ : ∃ z : Int32, z = x250 + 1 := ⟨_, rfl⟩
                have x280_h : Iv 1 12 x280 := iv_e x280_e (iv_add j257 ik_1 (by decide))
                refine lv_iinc (v := x280) (lv' := [(4, .int x280), (0, .ref o1), (1, .ref o8), (2, .int 10), (3, .int a3)]) hx hb dX7_paints_102 hl (k := 0) rfl (incN (by decide +kernel) x280_e) (by decide) rfl (fun ls hl => ?_)
                refine lv_goto (tgt := 13) hx hb dX7_paints_105 (by decide) ?_
                exact ih1 x280 f273 f279 _ _ _ (ms_up x280_e j257 (by decide) hM1) (iv_w x280_h (by decide)) hP hD hS hl
              ·
                have j281 : Iv 1 1 x274 := r_nelo h275 x274_h ik_0 (by decide)
                refine lv_iconst (v := 1) hx hb dX7_paints_85 (by decide) ?_
                rw [hQ]
                exact W.zret (v := 1) (ty := .boolean) hx hb hr rfl (fun t ht hW => ⟨⟨1, (f272, f273), rfl, (iv_w ik_1 (by decide)), by rw [ht]; exact hP, va_K.moved hW.alike hK, hD⟩, hS.F ht⟩) hS.2.2 dX7_paints_86
    exact L1 _ 0 fw3 fw5 _ _ _ (Nat.lt_succ_self _) (iv_w ik_0 (by decide)) hP hD hS hl
  ·
    have qh1 := nlt_i h1
    have j282 : Iv 0 10 v11 := r_lel qh1 v11_h ik_10 (by decide)
    refine lv_iconst (v := 1) hx hb dX7_paints_8 (by decide) ?_
    rw [hQ]
    exact W.zret (v := 1) (ty := .boolean) hx hb hr rfl (fun t ht hW => ⟨⟨1, (fw5, fw3), rfl, (iv_w ik_1 (by decide)), by rw [ht]; exact hP, va_K.moved hW.alike hK, hD⟩, hS.F ht⟩) hS.2.2 dX7_paints_9
