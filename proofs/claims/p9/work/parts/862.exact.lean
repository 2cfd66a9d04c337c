set_option maxHeartbeats 4000000 in
set_option maxRecDepth 100000 in
theorem kxX11_nodes_2 (l : Launch) (dC : Nat → ClassId) (dI : Nat → Nat → Nat) (cI c2 cZ : ClassId) (o1 : Nat) (o2 : Nat) (o7 : Nat) (o12 : Nat) (o41 : Nat) (o51 : Nat) (o64 : Nat) (o77 : Nat) (o84 : Nat) (o91 : Nat) (o99 : Nat) (o111 : Nat) (o123 : Nat) (o3 : Nat) (o13 : Nat) (o18 : Nat) (o32 : Nat) (o34 : Nat) (fw4 : Nat → Int32) (v5 : Int32) (v6 : Int32) (fw35 : Nat → Int32) (v36 : Int32) (v37 : Int32) (v38 : Int32) (v39 : Int32) (v40 : Int32) (v125 : Int32) (a1 : Int32) (sz : Nat) (fw4_b : Bd 12 0 4095 fw4) (v5_h : Iv 0 12 v5) (fw35_b : Bd 12 0 11 fw35) (v36_h : Iv 0 12 v36) (v37_h : Iv 0 12 v37) (v38_h : Iv 0 1 v38) : Met l yX11_nodes wsX11_nodes ({ frames := 3, cells := 0, slots := 0, locals := 65 }) (va_Pc [.ref o1, .int a1] (wPre (dC, dI) [(cI, .int), (c2, .array .int), (cZ, .boolean)] ([(o1, .inr (11, [.ref o2, .ref o7, .ref o12, .ref o41, .ref o51, .ref o64, .ref o77, .ref o84, .ref o91, .ref o99, .ref o111, .ref o123, .int v125])), (o2, .inr (4, [.ref o3, .int v5, .int v6])), (o3, .inl (cI, 12, .inl fw4)), (o12, .inr (6, [.ref o13, .ref o18, .ref o32, .ref o34, .int v36, .int v37, .int v38, .int v39, .int v40])), (o34, .inl (cI, 12, .inl fw35))]) sz)) (va_Qi (fun (r : Int32) (u : Int32 × Int32 × (Nat → Int32) × Int32 × Int32 × (Nat → Int32)) => Iv (-1) 12 r ∧ Iv 0 12 u.1 ∧ Bd 12 0 4095 u.2.2.1 ∧ Iv 0 12 u.2.2.2.1 ∧ Iv 0 1 u.2.2.2.2.1 ∧ Bd 12 0 11 u.2.2.2.2.2 ∧ (r : Int32) = nodeF a1) (fun u t => wPost (dC, dI) [(cI, .int), (c2, .array .int), (cZ, .boolean)] (va_A ([(o1, .inr (11, [.ref o2, .ref o7, .ref o12, .ref o41, .ref o51, .ref o64, .ref o77, .ref o84, .ref o91, .ref o99, .ref o111, .ref o123, .int v125])), (o2, .inr (4, [.ref o3, .int v5, .int v6])), (o3, .inl (cI, 12, .inl fw4)), (o12, .inr (6, [.ref o13, .ref o18, .ref o32, .ref o34, .int v36, .int v37, .int v38, .int v39, .int v40])), (o34, .inl (cI, 12, .inl fw35))]) sz) ([(o1, .inr (11, [.ref o2, .ref o7, .ref o12, .ref o41, .ref o51, .ref o64, .ref o77, .ref o84, .ref o91, .ref o99, .ref o111, .ref o123, .int v125])), (o2, .inr (4, [.ref o3, .int u.1, .int u.2.1])), (o3, .inl (cI, 12, .inl u.2.2.1)), (o12, .inr (6, [.ref o13, .ref o18, .ref o32, .ref o34, .int u.2.2.2.1, .int v37, .int u.2.2.2.2.1, .int v39, .int v40])), (o34, .inl (cI, 12, .inl u.2.2.2.2.2))]) t) (va_A ([(o1, .inr (11, [.ref o2, .ref o7, .ref o12, .ref o41, .ref o51, .ref o64, .ref o77, .ref o84, .ref o91, .ref o99, .ref o111, .ref o123, .int v125])), (o2, .inr (4, [.ref o3, .int v5, .int v6])), (o3, .inl (cI, 12, .inl fw4)), (o12, .inr (6, [.ref o13, .ref o18, .ref o32, .ref o34, .int v36, .int v37, .int v38, .int v39, .int v40])), (o34, .inl (cI, 12, .inl fw35))]) sz)) 0 0 (va_A ([(o1, .inr (11, [.ref o2, .ref o7, .ref o12, .ref o41, .ref o51, .ref o64, .ref o77, .ref o84, .ref o91, .ref o99, .ref o111, .ref o123, .int v125])), (o2, .inr (4, [.ref o3, .int v5, .int v6])), (o3, .inl (cI, 12, .inl fw4)), (o12, .inr (6, [.ref o13, .ref o18, .ref o32, .ref o34, .int v36, .int v37, .int v38, .int v39, .int v40])), (o34, .inl (cI, 12, .inl fw35))]) sz) := by
  refine Met.ofW (cc := cX11_nodes) (maxL := 2) (ret := (some .int)) (by decide) rfl ?_
  intro p e s m args below meth c s₁ B hml hv
  obtain ⟨rfl, hsz, hP, hK, hD0, hN⟩ := hv
  have hx := B.exec
  have hb := B.bytes
  have hr := B.returns
  have hts := atoms_spec (ws := wsX11_nodes) B.pre
  have hown : s.vm.findClass RX11 = some m.cls := findClass_of_methodNamed B.named
  have hlocks := B.notSynchronized
  subst hsz
  have hD := hD0.self (sz := s.heap.size)
  generalize hAe : va_A ([(o1, .inr (11, [.ref o2, .ref o7, .ref o12, .ref o41, .ref o51, .ref o64, .ref o77, .ref o84, .ref o91, .ref o99, .ref o111, .ref o123, .int v125])), (o2, .inr (4, [.ref o3, .int v5, .int v6])), (o3, .inl (cI, 12, .inl fw4)), (o12, .inr (6, [.ref o13, .ref o18, .ref o32, .ref o34, .int v36, .int v37, .int v38, .int v39, .int v40])), (o34, .inl (cI, 12, .inl fw35))]) s.heap.size = A at hD ⊢
  have hA : ∀ q : Nat, s.heap.size ≤ q → A q := fun q h => by rw [← hAe]; exact Or.inr h
  have hS : va_S A s.heap s.heap [] := va_S.rf
  have hP : va_P (dC, dI) vwCl ([(o1, .inr (11, [.ref o2, .ref o7, .ref o12, .ref o41, .ref o51, .ref o64, .ref o77, .ref o84, .ref o91, .ref o99, .ref o111, .ref o123, .int v125])), (o2, .inr (4, [.ref o3, .int v5, .int v6])), (o3, .inl (cI, 12, .inl fw4)), (o12, .inr (6, [.ref o13, .ref o18, .ref o32, .ref o34, .int v36, .int v37, .int v38, .int v39, .int v40])), (o34, .inl (cI, 12, .inl fw35))]) s.heap := hP
  have hl := lv_entry ([.ref o1, .int a1]) (n := 2) (Nat.le_of_ble_eq_true rfl)
  rw [lg_entry_eq]
  generalize (lg_sl ([.ref o1, .int a1]) ++ List.replicate (2 - (lg_sl ([.ref o1, .int a1])).length) Slot.unset).toArray = ls at hl ⊢
  have hl : lv_has ls 2 [(0, .ref o1), (1, .int a1)] := hl
  refine gen_Q (fun Q hQ => ?_)
  refine lv_iload_n hx hb dX11_nodes_0 rfl (lv_at hl 1 rfl) ?_
  refine lv_if_lt (tgt := 10) hx hb dX11_nodes_1 (by decide) (fun h1 => ?_) (fun h1 => ?_)
  ·
    have qh1 := lt_i h1
    have j2 : Iv (-2147483648) (-1) a1 := r_ltl qh1 (iv_full a1) ik_0 (by decide)
    refine lv_iconst (v := (-1)) hx hb dX11_nodes_10 (by decide) ?_
    rw [hQ]
    exact W.iret (v := (-1)) hx hb hr (fun t ht hW => ⟨⟨(-1), (v5, v6, fw4, v36, v38, fw35), rfl, ⟨(iv_w ikm_1 (by decide)), v5_h, fw4_b, v36_h, v38_h, fw35_b, (nodeF_lo qh1)⟩, by rw [ht]; exact hP, va_K.moved hW.alike hK, hD⟩, hS.F ht⟩) hS.2.2 dX11_nodes_11
  ·
    have qh1 := nlt_i h1
    have j3 : Iv 0 2147483647 a1 := r_ler qh1 ik_0 (iv_full a1) (by decide)
    refine lv_iload_n hx hb dX11_nodes_4 rfl (lv_at hl 1 rfl) ?_
    refine lv_bipush (v := 12) hx hb dX11_nodes_5 (by decide) ?_
    refine lv_icmp_le (tgt := 12) hx hb dX11_nodes_7 (by decide) (fun h4 => ?_) (fun h4 => ?_)
    ·
      have qh4 := le_i h4
      have j5 : Iv 0 12 a1 := r_lel qh4 j3 ik_12 (by decide)
      refine lv_aload_n hx hb dX11_nodes_12 rfl (lv_at hl 0 rfl) ?_
      refine lv_iload_n hx hb dX11_nodes_13 rfl (lv_at hl 1 rfl) ?_
      refine kc_v (D := (dC, dI)) (S := Int32 × Int32 × (Nat → Int32) × Int32 × Int32 × (Nat → Int32)) (wc := [(o1, .inr (11, [.ref o2, .ref o7, .ref o12, .ref o41, .ref o51, .ref o64, .ref o77, .ref o84, .ref o91, .ref o99, .ref o111, .ref o123, .int v125])), (o2, .inr (4, [.ref o3, .int v5, .int v6])), (o3, .inl (cI, 12, .inl fw4)), (o12, .inr (6, [.ref o13, .ref o18, .ref o32, .ref o34, .int v36, .int v37, .int v38, .int v39, .int v40])), (o34, .inl (cI, 12, .inl fw35))]) (wr := []) (w1 := fun u => [(o1, .inr (11, [.ref o2, .ref o7, .ref o12, .ref o41, .ref o51, .ref o64, .ref o77, .ref o84, .ref o91, .ref o99, .ref o111, .ref o123, .int v125])), (o2, .inr (4, [.ref o3, .int u.1, .int u.2.1])), (o3, .inl (cI, 12, .inl u.2.2.1)), (o12, .inr (6, [.ref o13, .ref o18, .ref o32, .ref o34, .int u.2.2.2.1, .int v37, .int u.2.2.2.2.1, .int v39, .int v40])), (o34, .inl (cI, 12, .inl u.2.2.2.2.2))]) (wn := fun u => [(o1, .inr (11, [.ref o2, .ref o7, .ref o12, .ref o41, .ref o51, .ref o64, .ref o77, .ref o84, .ref o91, .ref o99, .ref o111, .ref o123, .int v125])), (o2, .inr (4, [.ref o3, .int u.1, .int u.2.1])), (o3, .inl (cI, 12, .inl u.2.2.1)), (o12, .inr (6, [.ref o13, .ref o18, .ref o32, .ref o34, .int u.2.2.2.1, .int v37, .int u.2.2.2.2.1, .int v39, .int v40])), (o34, .inl (cI, 12, .inl u.2.2.2.2.2))]) (fun hPc hDc => va_runV (As := [.int a1]) (rest := []) ⟨hx, hb, hml, hown, hts⟩ (kxX11_startGraph_2 l dC dI cI c2 cZ o1 o2 o7 o12 o41 o51 o64 o77 o84 o91 o99 o111 o123 o3 o13 o18 o32 o34 fw4 v5 v6 fw35 v36 v37 v38 v39 v40 v125 a1 s.heap.size fw4_b v5_h fw35_b v36_h v37_h v38_h j5) (cwV 1 hts gX11_nodes_X11_startGraph rfl rfl rfl (by decide +kernel) ⟨Nat.le_of_ble_eq_true rfl, Nat.le_of_ble_eq_true rfl⟩) (pre_V hPc hK hDc hN (ci := 11) (q0 := 0) rfl rfl) rfl rfl hl.1 rfl (lv_room (Nat.le_of_ble_eq_true rfl)) dX11_nodes_14 ⟨Nat.le_of_ble_eq_true rfl, Nat.le_of_ble_eq_true rfl⟩) hP hD hS hA [0, 1, 2, 3, 4] [] [0, 1, 2, 3, 4] rfl rfl (by decide +kernel) (by decide +kernel) (by decide +kernel) (by decide +kernel) (fun _ => rfl) (fun u H locs hq hP hD hS => ?_)
      obtain ⟨y6, y7, f8, y9, y10, f11⟩ := u
      obtain ⟨y6_h, f8_b, y9_h, y10_h, f11_b, e12⟩ := hq
      have hP : va_P (dC, dI) vwCl ([(o1, .inr (11, [.ref o2, .ref o7, .ref o12, .ref o41, .ref o51, .ref o64, .ref o77, .ref o84, .ref o91, .ref o99, .ref o111, .ref o123, .int v125])), (o2, .inr (4, [.ref o3, .int y6, .int y7])), (o3, .inl (cI, 12, .inl f8)), (o12, .inr (6, [.ref o13, .ref o18, .ref o32, .ref o34, .int y9, .int v37, .int y10, .int v39, .int v40])), (o34, .inl (cI, 12, .inl f11))]) H := hP
      have hD : va_D A ([(o1, .inr (11, [.ref o2, .ref o7, .ref o12, .ref o41, .ref o51, .ref o64, .ref o77, .ref o84, .ref o91, .ref o99, .ref o111, .ref o123, .int v125])), (o2, .inr (4, [.ref o3, .int y6, .int y7])), (o3, .inl (cI, 12, .inl f8)), (o12, .inr (6, [.ref o13, .ref o18, .ref o32, .ref o34, .int y9, .int v37, .int y10, .int v39, .int v40])), (o34, .inl (cI, 12, .inl f11))]) := hD
      refine lv_iload_n hx hb dX11_nodes_17 rfl (lv_at hl 1 rfl) ?_
      rw [hQ]
      exact W.iret (v := a1) hx hb hr (fun t ht hW => ⟨⟨a1, (y6, y7, f8, y9, y10, f11), rfl, ⟨(iv_w j5 (by decide)), y6_h, f8_b, y9_h, y10_h, f11_b, (nodeF_ok j5)⟩, by rw [ht]; exact hP, va_K.moved hW.alike hK, hD⟩, hS.F ht⟩) hS.2.2 dX11_nodes_18
    ·
      have qh4 := nle_i h4
      have j13 : Iv 13 2147483647 a1 := r_ltr qh4 ik_12 j3 (by decide)
      refine lv_iconst (v := (-1)) hx hb dX11_nodes_10 (by decide) ?_
      rw [hQ]
      exact W.iret (v := (-1)) hx hb hr (fun t ht hW => ⟨⟨(-1), (v5, v6, fw4, v36, v38, fw35), rfl, ⟨(iv_w ikm_1 (by decide)), v5_h, fw4_b, v36_h, v38_h, fw35_b, (nodeF_hi qh4)⟩, by rw [ht]; exact hP, va_K.moved hW.alike hK, hD⟩, hS.F ht⟩) hS.2.2 dX11_nodes_11
set_option maxHeartbeats 4000000 in
set_option maxRecDepth 100000 in
theorem kxX12_columns_2 (l : Launch) (dC : Nat → ClassId) (dI : Nat → Nat → Nat) (cI c2 cZ : ClassId) (o1 : Nat) (o3 : Nat) (o6 : Nat) (o9 : Nat) (o11 : Nat) (o14 : Nat) (o17 : Nat) (o22 : Nat) (o24 : Nat) (o26 : Nat) (o28 : Nat) (o30 : Nat) (o33 : Nat) (o35 : Nat) (o37 : Nat) (o40 : Nat) (o42 : Nat) (o44 : Nat) (o47 : Nat) (v2 : Int32) (fw4 : Nat → Int32) (v5 : Int32) (v8 : Int32) (fw10 : Nat → Int32) (v13 : Int32) (v16 : Int32) (v19 : Int32) (v20 : Int32) (v21 : Int32) (v32 : Int32) (v39 : Int32) (v46 : Int32) (a1 : Int32) (sz : Nat) (v5_h : Iv 0 12 v5) (v8_h : Iv 0 8 v8) (fw10_b : Bd 12 (-9) 255 fw10) (v13_h : Iv 0 12 v13) (v16_h : Iv 0 12 v16) (v19_h : Iv (-9) 12 v19) (v32_h : Iv 0 99 v32) (v39_h : Iv 0 12 v39) (v46_h : Iv 0 12 v46) : Met l yX12_columns wsX12_columns ({ frames := 1, cells := 0, slots := 0, locals := 21 }) (va_Pc [.ref o1, .int a1] (wPre (dC, dI) [(cI, .int), (c2, .array .int), (cZ, .boolean)] ([(o1, .inr (12, [.int v2, .ref o3, .int v5, .ref o6, .int v8, .ref o9, .ref o11, .int v13, .ref o14, .int v16, .ref o17, .int v19, .int v20, .int v21, .ref o22, .ref o24, .ref o26, .ref o28, .ref o30, .int v32, .ref o33, .ref o35, .ref o37, .int v39, .ref o40, .ref o42, .ref o44, .int v46, .ref o47])), (o9, .inl (cI, 12, .inl fw10)), (o3, .inl (cI, 5, .inl fw4))]) sz)) (va_Qi (fun (r : Int32) (u : Int32 × Int32 × (Nat → Int32) × (Nat → Int32)) => Iv (-3) 8 r ∧ Iv 0 8 u.2.1 ∧ Bd 12 (-9) 255 u.2.2.1 ∧ r = colF a1 ∧ colP (-9) a1 v8 fw10 u.2.1 u.2.2.1) (fun u t => wPost (dC, dI) [(cI, .int), (c2, .array .int), (cZ, .boolean)] (va_A ([(o1, .inr (12, [.int v2, .ref o3, .int v5, .ref o6, .int v8, .ref o9, .ref o11, .int v13, .ref o14, .int v16, .ref o17, .int v19, .int v20, .int v21, .ref o22, .ref o24, .ref o26, .ref o28, .ref o30, .int v32, .ref o33, .ref o35, .ref o37, .int v39, .ref o40, .ref o42, .ref o44, .int v46, .ref o47])), (o9, .inl (cI, 12, .inl fw10)), (o3, .inl (cI, 5, .inl fw4))]) sz) ([(o1, .inr (12, [.int u.1, .ref o3, .int v5, .ref o6, .int u.2.1, .ref o9, .ref o11, .int v13, .ref o14, .int v16, .ref o17, .int v19, .int v20, .int v21, .ref o22, .ref o24, .ref o26, .ref o28, .ref o30, .int v32, .ref o33, .ref o35, .ref o37, .int v39, .ref o40, .ref o42, .ref o44, .int v46, .ref o47])), (o9, .inl (cI, 12, .inl u.2.2.1)), (o3, .inl (cI, 5, .inl u.2.2.2))]) t) (va_A ([(o1, .inr (12, [.int v2, .ref o3, .int v5, .ref o6, .int v8, .ref o9, .ref o11, .int v13, .ref o14, .int v16, .ref o17, .int v19, .int v20, .int v21, .ref o22, .ref o24, .ref o26, .ref o28, .ref o30, .int v32, .ref o33, .ref o35, .ref o37, .int v39, .ref o40, .ref o42, .ref o44, .int v46, .ref o47])), (o9, .inl (cI, 12, .inl fw10)), (o3, .inl (cI, 5, .inl fw4))]) sz)) 0 0 (va_A ([(o1, .inr (12, [.int v2, .ref o3, .int v5, .ref o6, .int v8, .ref o9, .ref o11, .int v13, .ref o14, .int v16, .ref o17, .int v19, .int v20, .int v21, .ref o22, .ref o24, .ref o26, .ref o28, .ref o30, .int v32, .ref o33, .ref o35, .ref o37, .int v39, .ref o40, .ref o42, .ref o44, .int v46, .ref o47])), (o9, .inl (cI, 12, .inl fw10)), (o3, .inl (cI, 5, .inl fw4))]) sz) := by
  refine Met.ofW (cc := cX12_columns) (maxL := 3) (ret := (some .int)) (by decide) rfl ?_
  intro p e s m args below meth c s₁ B hml hv
  obtain ⟨rfl, hsz, hP, hK, hD0, hN⟩ := hv
  have hx := B.exec
  have hb := B.bytes
  have hr := B.returns
  have hts := atoms_spec (ws := wsX12_columns) B.pre
  have hown : s.vm.findClass RX12 = some m.cls := findClass_of_methodNamed B.named
  have hlocks := B.notSynchronized
  subst hsz
  have hD := hD0.self (sz := s.heap.size)
  generalize hAe : va_A ([(o1, .inr (12, [.int v2, .ref o3, .int v5, .ref o6, .int v8, .ref o9, .ref o11, .int v13, .ref o14, .int v16, .ref o17, .int v19, .int v20, .int v21, .ref o22, .ref o24, .ref o26, .ref o28, .ref o30, .int v32, .ref o33, .ref o35, .ref o37, .int v39, .ref o40, .ref o42, .ref o44, .int v46, .ref o47])), (o9, .inl (cI, 12, .inl fw10)), (o3, .inl (cI, 5, .inl fw4))]) s.heap.size = A at hD ⊢
  have hA : ∀ q : Nat, s.heap.size ≤ q → A q := fun q h => by rw [← hAe]; exact Or.inr h
  have hS : va_S A s.heap s.heap [] := va_S.rf
  have hP : va_P (dC, dI) vwCl ([(o1, .inr (12, [.int v2, .ref o3, .int v5, .ref o6, .int v8, .ref o9, .ref o11, .int v13, .ref o14, .int v16, .ref o17, .int v19, .int v20, .int v21, .ref o22, .ref o24, .ref o26, .ref o28, .ref o30, .int v32, .ref o33, .ref o35, .ref o37, .int v39, .ref o40, .ref o42, .ref o44, .int v46, .ref o47])), (o9, .inl (cI, 12, .inl fw10)), (o3, .inl (cI, 5, .inl fw4))]) s.heap := hP
  have hl := lv_entry ([.ref o1, .int a1]) (n := 3) (Nat.le_of_ble_eq_true rfl)
  rw [lg_entry_eq]
  generalize (lg_sl ([.ref o1, .int a1]) ++ List.replicate (3 - (lg_sl ([.ref o1, .int a1])).length) Slot.unset).toArray = ls at hl ⊢
  have hl : lv_has ls 3 [(0, .ref o1), (1, .int a1)] := hl
  refine gen_Q (fun Q hQ => ?_)
  refine lv_iload_n hx hb dX12_columns_0 rfl (lv_at hl 1 rfl) ?_
  refine lv_bipush (v := 8) hx hb dX12_columns_1 (by decide) ?_
  refine lv_icmp_le (tgt := 8) hx hb dX12_columns_3 (by decide) (fun h1 => ?_) (fun h1 => ?_)
  ·
    have qh1 := le_i h1
    have j2 : Iv (-2147483648) 8 a1 := r_lel qh1 (iv_full a1) ik_8 (by decide)
    refine lv_iload_n hx hb dX12_columns_8 rfl (lv_at hl 1 rfl) ?_
    refine lv_if_ge (tgt := 18) hx hb dX12_columns_9 (by decide) (fun h3 => ?_) (fun h3 => ?_)
    ·
      have qh3 := le_i h3
      have j4 : Iv 0 8 a1 := r_ler qh3 ik_0 j2 (by decide)
      refine lv_aload_n hx hb dX12_columns_18 rfl (lv_at hl 0 rfl) ?_
      refine lv_iload_n hx hb dX12_columns_19 rfl (lv_at hl 1 rfl) ?_
      refine va_put (D := (dC, dI)) (ci := 12) (v := .int a1) (ty := .int) (C := RX12) (T := TX12) (N := 29) hx hb hts iw_X12_columns_X12 tyX12 tyX12_ok nmX12 hown hK hP hD hS 0 rfl rfl 4 (by decide) (hts (.fieldLink RX12 128 "HolelessHouseModel" "columns" "I") hm_X12_columns_1) (fun _ h9 => h9) rfl (by decide +kernel) rfl rfl (Nat.le_of_ble_eq_true rfl) dX12_columns_20 (fun H locs hP hD hS => ?_)
      have hP : va_P (dC, dI) vwCl ([(o1, .inr (12, [.int v2, .ref o3, .int v5, .ref o6, .int a1, .ref o9, .ref o11, .int v13, .ref o14, .int v16, .ref o17, .int v19, .int v20, .int v21, .ref o22, .ref o24, .ref o26, .ref o28, .ref o30, .int v32, .ref o33, .ref o35, .ref o37, .int v39, .ref o40, .ref o42, .ref o44, .int v46, .ref o47])), (o9, .inl (cI, 12, .inl fw10)), (o3, .inl (cI, 5, .inl fw4))]) H := hP
      have hD : va_D A ([(o1, .inr (12, [.int v2, .ref o3, .int v5, .ref o6, .int a1, .ref o9, .ref o11, .int v13, .ref o14, .int v16, .ref o17, .int v19, .int v20, .int v21, .ref o22, .ref o24, .ref o26, .ref o28, .ref o30, .int v32, .ref o33, .ref o35, .ref o37, .int v39, .ref o40, .ref o42, .ref o44, .int v46, .ref o47])), (o9, .inl (cI, 12, .inl fw10)), (o3, .inl (cI, 5, .inl fw4))]) := hD
      refine lv_iconst (v := 0) hx hb dX12_columns_23 (by decide) ?_
      refine lv_istore_n (lv' := [(2, .int 0), (0, .ref o1), (1, .int a1)]) hx hb dX12_columns_24 rfl hl (by decide) rfl (fun ls hl => ?_)
      have L1 : ∀ (N : Nat) (x37 : Int32) (f38 : Nat → Int32) (H : Heap) (locs : List Loc) (ls : Array Slot), (12 - x37.toInt).toNat < N → Iv 0 12 x37 → Bd 12 (-9) 255 f38 → (∀ i : Nat, i < (Int32.toNatClampNeg x37) → f38 i = (-9)) → va_P (dC, dI) vwCl ([(o1, .inr (12, [.int v2, .ref o3, .int v5, .ref o6, .int a1, .ref o9, .ref o11, .int v13, .ref o14, .int v16, .ref o17, .int v19, .int v20, .int v21, .ref o22, .ref o24, .ref o26, .ref o28, .ref o30, .int v32, .ref o33, .ref o35, .ref o37, .int v39, .ref o40, .ref o42, .ref o44, .int v46, .ref o47])), (o9, .inl (cI, 12, .inl f38)), (o3, .inl (cI, 5, .inl fw4))]) H → va_D A ([(o1, .inr (12, [.int v2, .ref o3, .int v5, .ref o6, .int a1, .ref o9, .ref o11, .int v13, .ref o14, .int v16, .ref o17, .int v19, .int v20, .int v21, .ref o22, .ref o24, .ref o26, .ref o28, .ref o30, .int v32, .ref o33, .ref o35, .ref o37, .int v39, .ref o40, .ref o42, .ref o44, .int v46, .ref o47])), (o9, .inl (cI, 12, .inl f38)), (o3, .inl (cI, 5, .inl fw4))]) → va_S A s.heap H locs → lv_has ls 3 [(2, .int x37), (0, .ref o1), (1, .int a1)] → W p l e ({ frames := 1, cells := 0, slots := 0, locals := 21 }) s m ([.ref o1, .int a1] : List Value).toArray below meth c H locs 0 0 Q (F0 m 25 ls []) := by
        intro N
        induction N with
        | zero =>
          intro x37 f38 H locs ls hM
          exact absurd hM (Nat.not_lt_zero _)
        | succ N ih1 =>
          intro x37 f38 H locs ls hM1 x37_h f38_b iv1_0 hP hD hS hl
          refine lv_iload_n hx hb dX12_columns_25 rfl (lv_at hl 0 rfl) ?_
          refine lv_bipush (v := 12) hx hb dX12_columns_26 (by decide) ?_
          refine lv_icmp_ge (tgt := 45) hx hb dX12_columns_28 (by decide) (fun h39 => ?_) (fun h39 => ?_)
          ·
            have qh39 := le_i h39
            have j40 : Iv 12 12 x37 := r_ler qh39 ik_12 x37_h (by decide)
            refine lv_iload_n hx hb dX12_columns_45 rfl (lv_at hl 2 rfl) ?_
            rw [hQ]
            exact W.iret (v := a1) hx hb hr (fun t ht hW => ⟨⟨a1, (v2, a1, f38, fw4), rfl, ⟨(iv_w j4 (by decide)), j4, f38_b, (colF_ok j4), (colP_ok j4 rfl (fil_e iv1_0 qh39))⟩, by rw [ht]; exact hP, va_K.moved hW.alike hK, hD⟩, hS.F ht⟩) hS.2.2 dX12_columns_46
          ·
            have qh39 := nle_i h39
            have j41 : Iv 0 11 x37 := r_ltl qh39 x37_h ik_12 (by decide)
            refine lv_aload_n hx hb dX12_columns_31 rfl (lv_at hl 1 rfl) ?_
            refine va_get (D := (dC, dI)) (ci := 12) (v := .ref o9) (C := RX12) (T := TX12) (N := 29) hx hb hts iw_X12_columns_X12 hown hK hP 0 rfl rfl 5 (by decide) (hts (.fieldLink RX12 16 "HolelessHouseModel" "rows" "[I") hm_X12_columns_2) (fun _ h9 => h9) rfl dX12_columns_32 ?_
            refine lv_iload_n hx hb dX12_columns_35 rfl (lv_at hl 0 rfl) ?_
            refine lv_bipush (v := (-9)) hx hb dX12_columns_36 (by decide) ?_
            refine k_iast hx hb hK hP hD hS 1 0 rfl rfl (vin_iv j41 (by decide)) dX12_columns_38 (fun f42 H locs f42_e hP hD hS => ?_)
            have f42_b : Bd 12 (-9) 255 f42 := bd_upd f42_e f38_b ikm_9 (by decide)
            have hP : va_P (dC, dI) vwCl ([(o1, .inr (12, [.int v2, .ref o3, .int v5, .ref o6, .int a1, .ref o9, .ref o11, .int v13, .ref o14, .int v16, .ref o17, .int v19, .int v20, .int v21, .ref o22, .ref o24, .ref o26, .ref o28, .ref o30, .int v32, .ref o33, .ref o35, .ref o37, .int v39, .ref o40, .ref o42, .ref o44, .int v46, .ref o47])), (o9, .inl (cI, 12, .inl f42)), (o3, .inl (cI, 5, .inl fw4))]) H := hP
            have hD : va_D A ([(o1, .inr (12, [.int v2, .ref o3, .int v5, .ref o6, .int a1, .ref o9, .ref o11, .int v13, .ref o14, .int v16, .ref o17, .int v19, .int v20, .int v21, .ref o22, .ref o24, .ref o26, .ref o28, .ref o30, .int v32, .ref o33, .ref o35, .ref o37, .int v39, .ref o40, .ref o42, .ref o44, .int v46, .ref o47])), (o9, .inl (cI, 12, .inl f42)), (o3, .inl (cI, 5, .inl fw4))]) := hD
            obtain ⟨x43, x43_e⟩ : ∃ z : Int32, z = x37 + 1 := ⟨_, rfl⟩
            have x43_h : Iv 1 12 x43 := iv_e x43_e (iv_add j41 ik_1 (by decide))
            refine lv_iinc (v := x43) (lv' := [(2, .int x43), (0, .ref o1), (1, .int a1)]) hx hb dX12_columns_39 hl (k := 0) rfl (incN (by decide +kernel) x43_e) (by decide) rfl (fun ls hl => ?_)
            refine lv_goto (tgt := 25) hx hb dX12_columns_42 (by decide) ?_
            exact ih1 x43 f42 _ _ _ (ms_up x43_e j41 (by decide) hM1) (iv_w x43_h (by decide)) f42_b (fil_s iv1_0 (iv_w (c := 0) (d := 4095) j41 (by decide)) x43_e f42_e) hP hD hS hl
      exact L1 _ 0 fw10 _ _ _ (Nat.lt_succ_self _) (iv_w ik_0 (by decide)) fw10_b fil_0 hP hD hS hl
    ·
      have qh3 := nle_i h3
      have j44 : Iv (-2147483648) (-1) a1 := r_ltl qh3 j2 ik_0 (by decide)
      refine lv_aload_n hx hb dX12_columns_12 rfl (lv_at hl 0 rfl) ?_
      refine lv_iconst (v := 4) hx hb dX12_columns_13 (by decide) ?_
      refine kc_i (D := (dC, dI)) (S := Int32 × (Nat → Int32)) (wc := [(o1, .inr (12, [.int v2, .ref o3, .int v5, .ref o6, .int v8, .ref o9, .ref o11, .int v13, .ref o14, .int v16, .ref o17, .int v19, .int v20, .int v21, .ref o22, .ref o24, .ref o26, .ref o28, .ref o30, .int v32, .ref o33, .ref o35, .ref o37, .int v39, .ref o40, .ref o42, .ref o44, .int v46, .ref o47])), (o3, .inl (cI, 5, .inl fw4))]) (wr := [(o9, .inl (cI, 12, .inl fw10))]) (w1 := fun u => [(o1, .inr (12, [.int u.1, .ref o3, .int v5, .ref o6, .int v8, .ref o9, .ref o11, .int v13, .ref o14, .int v16, .ref o17, .int v19, .int v20, .int v21, .ref o22, .ref o24, .ref o26, .ref o28, .ref o30, .int v32, .ref o33, .ref o35, .ref o37, .int v39, .ref o40, .ref o42, .ref o44, .int v46, .ref o47])), (o3, .inl (cI, 5, .inl u.2))]) (wn := fun u => [(o1, .inr (12, [.int u.1, .ref o3, .int v5, .ref o6, .int v8, .ref o9, .ref o11, .int v13, .ref o14, .int v16, .ref o17, .int v19, .int v20, .int v21, .ref o22, .ref o24, .ref o26, .ref o28, .ref o30, .int v32, .ref o33, .ref o35, .ref o37, .int v39, .ref o40, .ref o42, .ref o44, .int v46, .ref o47])), (o9, .inl (cI, 12, .inl fw10)), (o3, .inl (cI, 5, .inl u.2))]) (fun hPc hDc => va_runV (As := [.int 4]) (rest := []) ⟨hx, hb, hml, hown, hts⟩ (kX12_meets_2 l dC dI cI c2 cZ o1 o3 o6 o9 o11 o14 o17 o22 o24 o26 o28 o30 o33 o35 o37 o40 o42 o44 o47 v2 fw4 v5 v8 v13 v16 v19 v20 v21 v32 v39 v46 4 s.heap.size v5_h v8_h v13_h v16_h v19_h v32_h v39_h v46_h ik_4) (cwV 1 hts gX12_columns_X12_meets rfl rfl rfl (by decide +kernel) ⟨Nat.le_of_ble_eq_true rfl, Nat.le_of_ble_eq_true rfl⟩) (pre_V hPc hK hDc hN (ci := 12) (q0 := 0) rfl rfl) rfl rfl hl.1 rfl (lv_room (Nat.le_of_ble_eq_true rfl)) dX12_columns_14 ⟨Nat.le_of_ble_eq_true rfl, Nat.le_of_ble_eq_true rfl⟩) hP hD hS hA [0, 2] [1] [1, 0, 2] rfl rfl (by decide +kernel) (by decide +kernel) (by decide +kernel) (by decide +kernel) (fun _ => rfl) (fun x47 u H locs hq hP hD hS => ?_)
      obtain ⟨y45, f46⟩ := u
      have x47_h := hq
      have x47_h : Iv (-3) (-3) x47 := x47_h
      have hP : va_P (dC, dI) vwCl ([(o1, .inr (12, [.int y45, .ref o3, .int v5, .ref o6, .int v8, .ref o9, .ref o11, .int v13, .ref o14, .int v16, .ref o17, .int v19, .int v20, .int v21, .ref o22, .ref o24, .ref o26, .ref o28, .ref o30, .int v32, .ref o33, .ref o35, .ref o37, .int v39, .ref o40, .ref o42, .ref o44, .int v46, .ref o47])), (o9, .inl (cI, 12, .inl fw10)), (o3, .inl (cI, 5, .inl f46))]) H := hP
      have hD : va_D A ([(o1, .inr (12, [.int y45, .ref o3, .int v5, .ref o6, .int v8, .ref o9, .ref o11, .int v13, .ref o14, .int v16, .ref o17, .int v19, .int v20, .int v21, .ref o22, .ref o24, .ref o26, .ref o28, .ref o30, .int v32, .ref o33, .ref o35, .ref o37, .int v39, .ref o40, .ref o42, .ref o44, .int v46, .ref o47])), (o9, .inl (cI, 12, .inl fw10)), (o3, .inl (cI, 5, .inl f46))]) := hD
      rw [hQ]
      exact W.iret (v := x47) hx hb hr (fun t ht hW => ⟨⟨x47, (y45, v8, fw10, f46), rfl, ⟨(iv_w x47_h (by decide)), v8_h, fw10_b, (colF_lo qh3 (d_eq x47_h ikm_3)), (colP_lo qh3)⟩, by rw [ht]; exact hP, va_K.moved hW.alike hK, hD⟩, hS.F ht⟩) hS.2.2 dX12_columns_17
  ·
    have qh1 := nle_i h1
    have j48 : Iv 9 2147483647 a1 := r_ltr qh1 ik_8 (iv_full a1) (by decide)
    refine lv_iconst (v := (-1)) hx hb dX12_columns_6 (by decide) ?_
    rw [hQ]
    exact W.iret (v := (-1)) hx hb hr (fun t ht hW => ⟨⟨(-1), (v2, v8, fw10, fw4), rfl, ⟨(iv_w ikm_1 (by decide)), v8_h, fw10_b, (colF_hi qh1), (colP_hi qh1)⟩, by rw [ht]; exact hP, va_K.moved hW.alike hK, hD⟩, hS.F ht⟩) hS.2.2 dX12_columns_7
set_option maxHeartbeats 4000000 in
set_option maxRecDepth 100000 in
theorem kxX12_fromTable_2 (l : Launch) (dC : Nat → ClassId) (dI : Nat → Nat → Nat) (cI c2 cZ : ClassId) (o1 : Nat) (o3 : Nat) (o6 : Nat) (o9 : Nat) (o11 : Nat) (o14 : Nat) (o17 : Nat) (o22 : Nat) (o24 : Nat) (o26 : Nat) (o28 : Nat) (o30 : Nat) (o33 : Nat) (o35 : Nat) (o37 : Nat) (o40 : Nat) (o42 : Nat) (o44 : Nat) (o47 : Nat) (v2 : Int32) (v5 : Int32) (fw7 : Nat → Int32) (v8 : Int32) (fw10 : Nat → Int32) (v13 : Int32) (v16 : Int32) (v19 : Int32) (v20 : Int32) (v21 : Int32) (v32 : Int32) (v39 : Int32) (v46 : Int32) (sz : Nat) (v5_h : Iv 0 12 v5) (fw7_b : Bd 12 0 4095 fw7) (v8_h : Iv 0 8 v8) (fw10_b : Bd 12 (-9) 255 fw10) (v13_h : Iv 0 12 v13) (v16_h : Iv 0 12 v16) (v19_h : Iv (-9) 12 v19) (v32_h : Iv 0 99 v32) (v39_h : Iv 0 12 v39) (v46_h : Iv 0 12 v46) : Met l yX12_fromTable wsX12_fromTable ({ frames := 1, cells := 0, slots := 0, locals := 22 }) (va_Pc [.ref o1] (wPre (dC, dI) [(cI, .int), (c2, .array .int), (cZ, .boolean)] ([(o1, .inr (12, [.int v2, .ref o3, .int v5, .ref o6, .int v8, .ref o9, .ref o11, .int v13, .ref o14, .int v16, .ref o17, .int v19, .int v20, .int v21, .ref o22, .ref o24, .ref o26, .ref o28, .ref o30, .int v32, .ref o33, .ref o35, .ref o37, .int v39, .ref o40, .ref o42, .ref o44, .int v46, .ref o47])), (o6, .inl (cI, 12, .inl fw7)), (o9, .inl (cI, 12, .inl fw10))]) sz)) (va_Qi (fun (r : Int32) (u : Int32 × Int32 × Int32 × (Nat → Int32)) => Iv 0 8 r ∧ Iv 0 12 u.1 ∧ Iv 0 0 u.2.1 ∧ Iv (-9) (-9) u.2.2.1 ∧ Bd 12 0 4095 u.2.2.2 ∧ r = v8) (fun u t => wPost (dC, dI) [(cI, .int), (c2, .array .int), (cZ, .boolean)] (va_A ([(o1, .inr (12, [.int v2, .ref o3, .int v5, .ref o6, .int v8, .ref o9, .ref o11, .int v13, .ref o14, .int v16, .ref o17, .int v19, .int v20, .int v21, .ref o22, .ref o24, .ref o26, .ref o28, .ref o30, .int v32, .ref o33, .ref o35, .ref o37, .int v39, .ref o40, .ref o42, .ref o44, .int v46, .ref o47])), (o6, .inl (cI, 12, .inl fw7)), (o9, .inl (cI, 12, .inl fw10))]) sz) ([(o1, .inr (12, [.int v2, .ref o3, .int u.1, .ref o6, .int v8, .ref o9, .ref o11, .int v13, .ref o14, .int u.2.1, .ref o17, .int u.2.2.1, .int v20, .int v21, .ref o22, .ref o24, .ref o26, .ref o28, .ref o30, .int v32, .ref o33, .ref o35, .ref o37, .int v39, .ref o40, .ref o42, .ref o44, .int v46, .ref o47])), (o6, .inl (cI, 12, .inl u.2.2.2)), (o9, .inl (cI, 12, .inl fw10))]) t) (va_A ([(o1, .inr (12, [.int v2, .ref o3, .int v5, .ref o6, .int v8, .ref o9, .ref o11, .int v13, .ref o14, .int v16, .ref o17, .int v19, .int v20, .int v21, .ref o22, .ref o24, .ref o26, .ref o28, .ref o30, .int v32, .ref o33, .ref o35, .ref o37, .int v39, .ref o40, .ref o42, .ref o44, .int v46, .ref o47])), (o6, .inl (cI, 12, .inl fw7)), (o9, .inl (cI, 12, .inl fw10))]) sz)) 0 0 (va_A ([(o1, .inr (12, [.int v2, .ref o3, .int v5, .ref o6, .int v8, .ref o9, .ref o11, .int v13, .ref o14, .int v16, .ref o17, .int v19, .int v20, .int v21, .ref o22, .ref o24, .ref o26, .ref o28, .ref o30, .int v32, .ref o33, .ref o35, .ref o37, .int v39, .ref o40, .ref o42, .ref o44, .int v46, .ref o47])), (o6, .inl (cI, 12, .inl fw7)), (o9, .inl (cI, 12, .inl fw10))]) sz) := by
  refine Met.ofW (cc := cX12_fromTable) (maxL := 4) (ret := (some .int)) (by decide) rfl ?_
  intro p e s m args below meth c s₁ B hml hv
  obtain ⟨rfl, hsz, hP, hK, hD0, hN⟩ := hv
  have hx := B.exec
  have hb := B.bytes
  have hr := B.returns
  have hts := atoms_spec (ws := wsX12_fromTable) B.pre
  have hown : s.vm.findClass RX12 = some m.cls := findClass_of_methodNamed B.named
  have hlocks := B.notSynchronized
  subst hsz
  have hD := hD0.self (sz := s.heap.size)
  generalize hAe : va_A ([(o1, .inr (12, [.int v2, .ref o3, .int v5, .ref o6, .int v8, .ref o9, .ref o11, .int v13, .ref o14, .int v16, .ref o17, .int v19, .int v20, .int v21, .ref o22, .ref o24, .ref o26, .ref o28, .ref o30, .int v32, .ref o33, .ref o35, .ref o37, .int v39, .ref o40, .ref o42, .ref o44, .int v46, .ref o47])), (o6, .inl (cI, 12, .inl fw7)), (o9, .inl (cI, 12, .inl fw10))]) s.heap.size = A at hD ⊢
  have hA : ∀ q : Nat, s.heap.size ≤ q → A q := fun q h => by rw [← hAe]; exact Or.inr h
  have hS : va_S A s.heap s.heap [] := va_S.rf
  have hP : va_P (dC, dI) vwCl ([(o1, .inr (12, [.int v2, .ref o3, .int v5, .ref o6, .int v8, .ref o9, .ref o11, .int v13, .ref o14, .int v16, .ref o17, .int v19, .int v20, .int v21, .ref o22, .ref o24, .ref o26, .ref o28, .ref o30, .int v32, .ref o33, .ref o35, .ref o37, .int v39, .ref o40, .ref o42, .ref o44, .int v46, .ref o47])), (o6, .inl (cI, 12, .inl fw7)), (o9, .inl (cI, 12, .inl fw10))]) s.heap := hP
  have hl := lv_entry ([.ref o1]) (n := 4) (Nat.le_of_ble_eq_true rfl)
  rw [lg_entry_eq]
  generalize (lg_sl ([.ref o1]) ++ List.replicate (4 - (lg_sl ([.ref o1])).length) Slot.unset).toArray = ls at hl ⊢
  have hl : lv_has ls 4 [(0, .ref o1)] := hl
  refine gen_Q (fun Q hQ => ?_)
  refine lv_aload_n hx hb dX12_fromTable_0 rfl (lv_at hl 0 rfl) ?_
  refine lv_aload_n hx hb dX12_fromTable_1 rfl (lv_at hl 0 rfl) ?_
  refine va_get (D := (dC, dI)) (ci := 12) (v := .int v8) (C := RX12) (T := TX12) (N := 29) hx hb hts iw_X12_fromTable_X12 hown hK hP 0 rfl rfl 4 (by decide) (hts (.fieldLink RX12 128 "HolelessHouseModel" "columns" "I") hm_X12_fromTable_1) (fun _ h9 => h9) rfl dX12_fromTable_2 ?_
  refine va_put (D := (dC, dI)) (ci := 12) (v := .int v8) (ty := .int) (C := RX12) (T := TX12) (N := 29) hx hb hts iw_X12_fromTable_X12 tyX12 tyX12_ok nmX12 hown hK hP hD hS 0 rfl rfl 2 (by decide) (hts (.fieldLink RX12 73 "HolelessHouseModel" "n" "I") hm_X12_fromTable_2) (fun _ h9 => h9) rfl (by decide +kernel) rfl rfl (Nat.le_of_ble_eq_true rfl) dX12_fromTable_5 (fun H locs hP hD hS => ?_)
  have hP : va_P (dC, dI) vwCl ([(o1, .inr (12, [.int v2, .ref o3, .int v8, .ref o6, .int v8, .ref o9, .ref o11, .int v13, .ref o14, .int v16, .ref o17, .int v19, .int v20, .int v21, .ref o22, .ref o24, .ref o26, .ref o28, .ref o30, .int v32, .ref o33, .ref o35, .ref o37, .int v39, .ref o40, .ref o42, .ref o44, .int v46, .ref o47])), (o6, .inl (cI, 12, .inl fw7)), (o9, .inl (cI, 12, .inl fw10))]) H := hP
  have hD : va_D A ([(o1, .inr (12, [.int v2, .ref o3, .int v8, .ref o6, .int v8, .ref o9, .ref o11, .int v13, .ref o14, .int v16, .ref o17, .int v19, .int v20, .int v21, .ref o22, .ref o24, .ref o26, .ref o28, .ref o30, .int v32, .ref o33, .ref o35, .ref o37, .int v39, .ref o40, .ref o42, .ref o44, .int v46, .ref o47])), (o6, .inl (cI, 12, .inl fw7)), (o9, .inl (cI, 12, .inl fw10))]) := hD
  refine lv_iconst (v := 0) hx hb dX12_fromTable_8 (by decide) ?_
  refine lv_istore_n (lv' := [(1, .int 0), (0, .ref o1)]) hx hb dX12_fromTable_9 rfl hl (by decide) rfl (fun ls hl => ?_)
  have L1 : ∀ (N : Nat) (x33 : Int32) (f34 : Nat → Int32) (H : Heap) (locs : List Loc) (ls : Array Slot), (12 - x33.toInt).toNat < N → Iv 0 12 x33 → Bd 12 0 4095 f34 → va_P (dC, dI) vwCl ([(o1, .inr (12, [.int v2, .ref o3, .int v8, .ref o6, .int v8, .ref o9, .ref o11, .int v13, .ref o14, .int v16, .ref o17, .int v19, .int v20, .int v21, .ref o22, .ref o24, .ref o26, .ref o28, .ref o30, .int v32, .ref o33, .ref o35, .ref o37, .int v39, .ref o40, .ref o42, .ref o44, .int v46, .ref o47])), (o6, .inl (cI, 12, .inl f34)), (o9, .inl (cI, 12, .inl fw10))]) H → va_D A ([(o1, .inr (12, [.int v2, .ref o3, .int v8, .ref o6, .int v8, .ref o9, .ref o11, .int v13, .ref o14, .int v16, .ref o17, .int v19, .int v20, .int v21, .ref o22, .ref o24, .ref o26, .ref o28, .ref o30, .int v32, .ref o33, .ref o35, .ref o37, .int v39, .ref o40, .ref o42, .ref o44, .int v46, .ref o47])), (o6, .inl (cI, 12, .inl f34)), (o9, .inl (cI, 12, .inl fw10))]) → va_S A s.heap H locs → lv_has ls 4 [(1, .int x33), (0, .ref o1)] → W p l e ({ frames := 1, cells := 0, slots := 0, locals := 22 }) s m ([.ref o1] : List Value).toArray below meth c H locs 0 0 Q (F0 m 10 ls []) := by
    intro N
    induction N with
    | zero =>
      intro x33 f34 H locs ls hM
      exact absurd hM (Nat.not_lt_zero _)
    | succ N ih1 =>
      intro x33 f34 H locs ls hM1 x33_h f34_b hP hD hS hl
      refine lv_iload_n hx hb dX12_fromTable_10 rfl (lv_at hl 0 rfl) ?_
      refine lv_bipush (v := 12) hx hb dX12_fromTable_11 (by decide) ?_
      refine lv_icmp_ge (tgt := 29) hx hb dX12_fromTable_13 (by decide) (fun h35 => ?_) (fun h35 => ?_)
      ·
        have qh35 := le_i h35
        have j36 : Iv 12 12 x33 := r_ler qh35 ik_12 x33_h (by decide)
        refine lv_iconst (v := 0) hx hb dX12_fromTable_29 (by decide) ?_
        refine lv_istore_n (lv' := [(1, .int 0), (0, .ref o1)]) hx hb dX12_fromTable_30 rfl hl (by decide) rfl (fun ls hl => ?_)
        have L58 : ∀ (N : Nat) (x7757 : Int32) (f7758 : Nat → Int32) (H : Heap) (locs : List Loc) (ls : Array Slot), (12 - x7757.toInt).toNat < N → Iv 0 12 x7757 → Bd 12 0 4095 f7758 → va_P (dC, dI) vwCl ([(o1, .inr (12, [.int v2, .ref o3, .int v8, .ref o6, .int v8, .ref o9, .ref o11, .int v13, .ref o14, .int v16, .ref o17, .int v19, .int v20, .int v21, .ref o22, .ref o24, .ref o26, .ref o28, .ref o30, .int v32, .ref o33, .ref o35, .ref o37, .int v39, .ref o40, .ref o42, .ref o44, .int v46, .ref o47])), (o6, .inl (cI, 12, .inl f7758)), (o9, .inl (cI, 12, .inl fw10))]) H → va_D A ([(o1, .inr (12, [.int v2, .ref o3, .int v8, .ref o6, .int v8, .ref o9, .ref o11, .int v13, .ref o14, .int v16, .ref o17, .int v19, .int v20, .int v21, .ref o22, .ref o24, .ref o26, .ref o28, .ref o30, .int v32, .ref o33, .ref o35, .ref o37, .int v39, .ref o40, .ref o42, .ref o44, .int v46, .ref o47])), (o6, .inl (cI, 12, .inl f7758)), (o9, .inl (cI, 12, .inl fw10))]) → va_S A s.heap H locs → lv_has ls 4 [(1, .int x7757), (0, .ref o1)] → W p l e ({ frames := 1, cells := 0, slots := 0, locals := 22 }) s m ([.ref o1] : List Value).toArray below meth c H locs 0 0 Q (F0 m 31 ls []) := by
          intro N
          induction N with
          | zero =>
            intro x7757 f7758 H locs ls hM
            exact absurd hM (Nat.not_lt_zero _)
          | succ N ih58 =>
            intro x7757 f7758 H locs ls hM58 x7757_h f7758_b hP hD hS hl
            refine lv_iload_n hx hb dX12_fromTable_31 rfl (lv_at hl 0 rfl) ?_
            refine lv_bipush (v := 12) hx hb dX12_fromTable_32 (by decide) ?_
            refine lv_icmp_ge (tgt := 113) hx hb dX12_fromTable_34 (by decide) (fun h7759 => ?_) (fun h7759 => ?_)
            ·
              have qh7759 := le_i h7759
              have j7760 : Iv 12 12 x7757 := r_ler qh7759 ik_12 x7757_h (by decide)
              refine lv_aload_n hx hb dX12_fromTable_113 rfl (lv_at hl 1 rfl) ?_
              refine lv_iconst (v := 0) hx hb dX12_fromTable_114 (by decide) ?_
              refine va_put (D := (dC, dI)) (ci := 12) (v := .int 0) (ty := .int) (C := RX12) (T := TX12) (N := 29) hx hb hts iw_X12_fromTable_X12 tyX12 tyX12_ok nmX12 hown hK hP hD hS 0 rfl rfl 9 (by decide) (hts (.fieldLink RX12 80 "HolelessHouseModel" "drafted" "I") hm_X12_fromTable_5) (fun _ h9 => h9) rfl (by decide +kernel) rfl rfl (Nat.le_of_ble_eq_true rfl) dX12_fromTable_115 (fun H locs hP hD hS => ?_)
              have hP : va_P (dC, dI) vwCl ([(o1, .inr (12, [.int v2, .ref o3, .int v8, .ref o6, .int v8, .ref o9, .ref o11, .int v13, .ref o14, .int 0, .ref o17, .int v19, .int v20, .int v21, .ref o22, .ref o24, .ref o26, .ref o28, .ref o30, .int v32, .ref o33, .ref o35, .ref o37, .int v39, .ref o40, .ref o42, .ref o44, .int v46, .ref o47])), (o6, .inl (cI, 12, .inl f7758)), (o9, .inl (cI, 12, .inl fw10))]) H := hP
              have hD : va_D A ([(o1, .inr (12, [.int v2, .ref o3, .int v8, .ref o6, .int v8, .ref o9, .ref o11, .int v13, .ref o14, .int 0, .ref o17, .int v19, .int v20, .int v21, .ref o22, .ref o24, .ref o26, .ref o28, .ref o30, .int v32, .ref o33, .ref o35, .ref o37, .int v39, .ref o40, .ref o42, .ref o44, .int v46, .ref o47])), (o6, .inl (cI, 12, .inl f7758)), (o9, .inl (cI, 12, .inl fw10))]) := hD
              refine lv_aload_n hx hb dX12_fromTable_118 rfl (lv_at hl 1 rfl) ?_
              refine kc_v (D := (dC, dI)) (S := Int32) (wc := [(o1, .inr (12, [.int v2, .ref o3, .int v8, .ref o6, .int v8, .ref o9, .ref o11, .int v13, .ref o14, .int 0, .ref o17, .int v19, .int v20, .int v21, .ref o22, .ref o24, .ref o26, .ref o28, .ref o30, .int v32, .ref o33, .ref o35, .ref o37, .int v39, .ref o40, .ref o42, .ref o44, .int v46, .ref o47]))]) (wr := [(o6, .inl (cI, 12, .inl f7758)), (o9, .inl (cI, 12, .inl fw10))]) (w1 := fun u => [(o1, .inr (12, [.int v2, .ref o3, .int v8, .ref o6, .int v8, .ref o9, .ref o11, .int v13, .ref o14, .int 0, .ref o17, .int u, .int v20, .int v21, .ref o22, .ref o24, .ref o26, .ref o28, .ref o30, .int v32, .ref o33, .ref o35, .ref o37, .int v39, .ref o40, .ref o42, .ref o44, .int v46, .ref o47]))]) (wn := fun u => [(o1, .inr (12, [.int v2, .ref o3, .int v8, .ref o6, .int v8, .ref o9, .ref o11, .int v13, .ref o14, .int 0, .ref o17, .int u, .int v20, .int v21, .ref o22, .ref o24, .ref o26, .ref o28, .ref o30, .int v32, .ref o33, .ref o35, .ref o37, .int v39, .ref o40, .ref o42, .ref o44, .int v46, .ref o47])), (o6, .inl (cI, 12, .inl f7758)), (o9, .inl (cI, 12, .inl fw10))]) (fun hPc hDc => va_runV (As := []) (rest := []) ⟨hx, hb, hml, hown, hts⟩ (kX12_changed_1 l dC dI cI c2 cZ o1 o3 o6 o9 o11 o14 o17 o22 o24 o26 o28 o30 o33 o35 o37 o40 o42 o44 o47 v2 v8 v8 v13 0 v19 v20 v21 v32 v39 v46 H.size (iv_w v8_h (by decide)) v8_h v13_h (iv_w ik_0 (by decide)) v19_h v32_h v39_h v46_h) (cwV 0 hts gX12_fromTable_X12_changed rfl rfl rfl (by decide +kernel) ⟨Nat.le_of_ble_eq_true rfl, Nat.le_of_ble_eq_true rfl⟩) (pre_V hPc hK hDc hN (ci := 12) (q0 := 0) rfl rfl) rfl rfl hl.1 rfl (lv_room (Nat.le_of_ble_eq_true rfl)) dX12_fromTable_119 ⟨Nat.le_of_ble_eq_true rfl, Nat.le_of_ble_eq_true rfl⟩) hP hD hS hA [0] [1, 2] [2, 0, 1] rfl rfl (by decide +kernel) (by decide +kernel) (by decide +kernel) (by decide +kernel) (fun _ => rfl) (fun y7761 H locs hq hP hD hS => ?_)
              have y7761_h := hq
              have hP : va_P (dC, dI) vwCl ([(o1, .inr (12, [.int v2, .ref o3, .int v8, .ref o6, .int v8, .ref o9, .ref o11, .int v13, .ref o14, .int 0, .ref o17, .int y7761, .int v20, .int v21, .ref o22, .ref o24, .ref o26, .ref o28, .ref o30, .int v32, .ref o33, .ref o35, .ref o37, .int v39, .ref o40, .ref o42, .ref o44, .int v46, .ref o47])), (o6, .inl (cI, 12, .inl f7758)), (o9, .inl (cI, 12, .inl fw10))]) H := hP
              have hD : va_D A ([(o1, .inr (12, [.int v2, .ref o3, .int v8, .ref o6, .int v8, .ref o9, .ref o11, .int v13, .ref o14, .int 0, .ref o17, .int y7761, .int v20, .int v21, .ref o22, .ref o24, .ref o26, .ref o28, .ref o30, .int v32, .ref o33, .ref o35, .ref o37, .int v39, .ref o40, .ref o42, .ref o44, .int v46, .ref o47])), (o6, .inl (cI, 12, .inl f7758)), (o9, .inl (cI, 12, .inl fw10))]) := hD
              refine lv_aload_n hx hb dX12_fromTable_122 rfl (lv_at hl 1 rfl) ?_
              refine va_get (D := (dC, dI)) (ci := 12) (v := .int v8) (C := RX12) (T := TX12) (N := 29) hx hb hts iw_X12_fromTable_X12 hown hK hP 0 rfl rfl 2 (by decide) (hts (.fieldLink RX12 73 "HolelessHouseModel" "n" "I") hm_X12_fromTable_2) (fun _ h9 => h9) rfl dX12_fromTable_123 ?_
              rw [hQ]
              exact W.iret (v := v8) hx hb hr (fun t ht hW => ⟨⟨v8, (v8, 0, y7761, f7758), rfl, ⟨v8_h, (iv_w v8_h (by decide)), ik_0, y7761_h, f7758_b, rfl⟩, by rw [ht]; exact hP, va_K.moved hW.alike hK, hD⟩, hS.F ht⟩) hS.2.2 dX12_fromTable_126
            ·
              have qh7759 := nle_i h7759
              have j7762 : Iv 0 11 x7757 := r_ltl qh7759 x7757_h ik_12 (by decide)
              refine lv_iconst (v := 0) hx hb dX12_fromTable_37 (by decide) ?_
              refine lv_istore_n (lv' := [(2, .int 0), (1, .int x7757), (0, .ref o1)]) hx hb dX12_fromTable_38 rfl hl (by decide) rfl (fun ls hl => ?_)
              have L64 : ∀ (N : Nat) (x8515 : Int32) (f8516 : Nat → Int32) (H : Heap) (locs : List Loc) (ls : Array Slot), (8 - x8515.toInt).toNat < N → Iv 0 8 x8515 → Bd 12 0 4095 f8516 → va_P (dC, dI) vwCl ([(o1, .inr (12, [.int v2, .ref o3, .int v8, .ref o6, .int v8, .ref o9, .ref o11, .int v13, .ref o14, .int v16, .ref o17, .int v19, .int v20, .int v21, .ref o22, .ref o24, .ref o26, .ref o28, .ref o30, .int v32, .ref o33, .ref o35, .ref o37, .int v39, .ref o40, .ref o42, .ref o44, .int v46, .ref o47])), (o6, .inl (cI, 12, .inl f8516)), (o9, .inl (cI, 12, .inl fw10))]) H → va_D A ([(o1, .inr (12, [.int v2, .ref o3, .int v8, .ref o6, .int v8, .ref o9, .ref o11, .int v13, .ref o14, .int v16, .ref o17, .int v19, .int v20, .int v21, .ref o22, .ref o24, .ref o26, .ref o28, .ref o30, .int v32, .ref o33, .ref o35, .ref o37, .int v39, .ref o40, .ref o42, .ref o44, .int v46, .ref o47])), (o6, .inl (cI, 12, .inl f8516)), (o9, .inl (cI, 12, .inl fw10))]) → va_S A s.heap H locs → lv_has ls 4 [(2, .int x8515), (1, .int x7757), (0, .ref o1)] → W p l e ({ frames := 1, cells := 0, slots := 0, locals := 22 }) s m ([.ref o1] : List Value).toArray below meth c H locs 0 0 Q (F0 m 39 ls []) := by
                intro N
                induction N with
                | zero =>
                  intro x8515 f8516 H locs ls hM
                  exact absurd hM (Nat.not_lt_zero _)
                | succ N ih64 =>
                  intro x8515 f8516 H locs ls hM64 x8515_h f8516_b hP hD hS hl
                  refine lv_iload_n hx hb dX12_fromTable_39 rfl (lv_at hl 0 rfl) ?_
                  refine lv_aload_n hx hb dX12_fromTable_40 rfl (lv_at hl 2 rfl) ?_
                  refine va_get (D := (dC, dI)) (ci := 12) (v := .int v8) (C := RX12) (T := TX12) (N := 29) hx hb hts iw_X12_fromTable_X12 hown hK hP 0 rfl rfl 2 (by decide) (hts (.fieldLink RX12 73 "HolelessHouseModel" "n" "I") hm_X12_fromTable_2) (fun _ h9 => h9) rfl dX12_fromTable_41 ?_
                  refine lv_icmp_ge (tgt := 107) hx hb dX12_fromTable_44 (by decide) (fun h8517 => ?_) (fun h8517 => ?_)
                  ·
                    have qh8517 := le_i h8517
                    obtain ⟨x8518, x8518_e⟩ : ∃ z : Int32, z = x7757 + 1 := ⟨_, rfl⟩
                    have x8518_h : Iv 1 12 x8518 := iv_e x8518_e (iv_add j7762 ik_1 (by decide))
                    refine lv_iinc (v := x8518) (lv' := [(1, .int x8518), (2, .int x8515), (0, .ref o1)]) hx hb dX12_fromTable_107 hl (k := 1) rfl (incN (by decide +kernel) x8518_e) (by decide) rfl (fun ls hl => ?_)
                    refine lv_goto (tgt := 31) hx hb dX12_fromTable_110 (by decide) ?_
                    exact ih58 x8518 f8516 _ _ _ (ms_up x8518_e j7762 (by decide) hM58) (iv_w x8518_h (by decide)) f8516_b hP hD hS (lv_sub hl [0, 2] rfl)
                  ·
                    have qh8517 := nle_i h8517
                    have j8519 : Iv 0 7 x8515 := r_ltl qh8517 x8515_h v8_h (by decide)
                    have j8520 : Iv 1 8 v8 := r_ltr qh8517 x8515_h v8_h (by decide)
                    refine lv_iconst (v := 0) hx hb dX12_fromTable_47 (by decide) ?_
                    refine lv_istore_n (lv' := [(3, .int 0), (2, .int x8515), (1, .int x7757), (0, .ref o1)]) hx hb dX12_fromTable_48 rfl hl (by decide) rfl (fun ls hl => ?_)
                    have L65 : ∀ (N : Nat) (x8695 : Int32) (f8696 : Nat → Int32) (H : Heap) (locs : List Loc) (ls : Array Slot), (8 - x8695.toInt).toNat < N → Iv 0 8 x8695 → Bd 12 0 4095 f8696 → va_P (dC, dI) vwCl ([(o1, .inr (12, [.int v2, .ref o3, .int v8, .ref o6, .int v8, .ref o9, .ref o11, .int v13, .ref o14, .int v16, .ref o17, .int v19, .int v20, .int v21, .ref o22, .ref o24, .ref o26, .ref o28, .ref o30, .int v32, .ref o33, .ref o35, .ref o37, .int v39, .ref o40, .ref o42, .ref o44, .int v46, .ref o47])), (o6, .inl (cI, 12, .inl f8696)), (o9, .inl (cI, 12, .inl fw10))]) H → va_D A ([(o1, .inr (12, [.int v2, .ref o3, .int v8, .ref o6, .int v8, .ref o9, .ref o11, .int v13, .ref o14, .int v16, .ref o17, .int v19, .int v20, .int v21, .ref o22, .ref o24, .ref o26, .ref o28, .ref o30, .int v32, .ref o33, .ref o35, .ref o37, .int v39, .ref o40, .ref o42, .ref o44, .int v46, .ref o47])), (o6, .inl (cI, 12, .inl f8696)), (o9, .inl (cI, 12, .inl fw10))]) → va_S A s.heap H locs → lv_has ls 4 [(3, .int x8695), (2, .int x8515), (1, .int x7757), (0, .ref o1)] → W p l e ({ frames := 1, cells := 0, slots := 0, locals := 22 }) s m ([.ref o1] : List Value).toArray below meth c H locs 0 0 Q (F0 m 49 ls []) := by
                      intro N
                      induction N with
                      | zero =>
                        intro x8695 f8696 H locs ls hM
                        exact absurd hM (Nat.not_lt_zero _)
                      | succ N ih65 =>
                        intro x8695 f8696 H locs ls hM65 x8695_h f8696_b hP hD hS hl
                        refine lv_iload_n hx hb dX12_fromTable_49 rfl (lv_at hl 0 rfl) ?_
                        refine lv_iload_n hx hb dX12_fromTable_50 rfl (lv_at hl 1 rfl) ?_
                        refine lv_icmp_ge (tgt := 101) hx hb dX12_fromTable_51 (by decide) (fun h8697 => ?_) (fun h8697 => ?_)
                        ·
                          have qh8697 := le_i h8697
                          obtain ⟨x8698, x8698_e⟩ : ∃ z : Int32, z = x8515 + 1 := ⟨_, rfl⟩
                          have x8698_h : Iv 1 8 x8698 := iv_e x8698_e (iv_add j8519 ik_1 (by decide))
                          refine lv_iinc (v := x8698) (lv' := [(2, .int x8698), (3, .int x8695), (1, .int x7757), (0, .ref o1)]) hx hb dX12_fromTable_101 hl (k := 1) rfl (incN (by decide +kernel) x8698_e) (by decide) rfl (fun ls hl => ?_)
                          refine lv_goto (tgt := 39) hx hb dX12_fromTable_104 (by decide) ?_
                          exact ih64 x8698 f8696 _ _ _ (ms_up x8698_e j8519 (by decide) hM64) (iv_w x8698_h (by decide)) f8696_b hP hD hS (lv_sub hl [0, 2, 3] rfl)
                        ·
                          have qh8697 := nle_i h8697
                          have j8699 : Iv 0 6 x8695 := r_ltl qh8697 x8695_h j8519 (by decide)
                          have j8700 : Iv 1 7 x8515 := r_ltr qh8697 x8695_h j8519 (by decide)
                          refine lv_aload_n hx hb dX12_fromTable_54 rfl (lv_at hl 3 rfl) ?_
                          refine va_get (D := (dC, dI)) (ci := 12) (v := .ref o9) (C := RX12) (T := TX12) (N := 29) hx hb hts iw_X12_fromTable_X12 hown hK hP 0 rfl rfl 5 (by decide) (hts (.fieldLink RX12 16 "HolelessHouseModel" "rows" "[I") hm_X12_fromTable_4) (fun _ h9 => h9) rfl dX12_fromTable_55 ?_
                          refine lv_iload_n hx hb dX12_fromTable_58 rfl (lv_at hl 2 rfl) ?_
                          refine va_iald hx hb hK hP 2 0 rfl rfl (vin_iv j7762 (by decide)) dX12_fromTable_59 (lv_topi (fun x8701 x8701_e => ?_))
                          have x8701_h : Iv (-9) 255 x8701 := iv_e x8701_e (bd_at fw10_b (vin_iv j7762 (by decide)))
                          refine lv_if_lt (tgt := 95) hx hb dX12_fromTable_60 (by decide) (fun h8702 => ?_) (fun h8702 => ?_)
                          ·
                            have qh8702 := lt_i h8702
                            have j8703 : Iv (-9) (-1) x8701 := r_ltl qh8702 x8701_h ik_0 (by decide)
                            obtain ⟨x8704, x8704_e⟩ : ∃ z : Int32, z = x8695 + 1 := ⟨_, rfl⟩
                            have x8704_h : Iv 1 7 x8704 := iv_e x8704_e (iv_add j8699 ik_1 (by decide))
                            refine lv_iinc (v := x8704) (lv' := [(3, .int x8704), (2, .int x8515), (1, .int x7757), (0, .ref o1)]) hx hb dX12_fromTable_95 hl (k := 0) rfl (incN (by decide +kernel) x8704_e) (by decide) rfl (fun ls hl => ?_)
                            refine lv_goto (tgt := 49) hx hb dX12_fromTable_98 (by decide) ?_
                            exact ih65 x8704 f8696 _ _ _ (ms_up x8704_e j8699 (by decide) hM65) (iv_w x8704_h (by decide)) f8696_b hP hD hS hl
                          ·
                            have qh8702 := nlt_i h8702
                            have j8705 : Iv 0 255 x8701 := r_ler qh8702 ik_0 x8701_h (by decide)
                            refine lv_aload_n hx hb dX12_fromTable_63 rfl (lv_at hl 3 rfl) ?_
                            refine va_get (D := (dC, dI)) (ci := 12) (v := .ref o9) (C := RX12) (T := TX12) (N := 29) hx hb hts iw_X12_fromTable_X12 hown hK hP 0 rfl rfl 5 (by decide) (hts (.fieldLink RX12 16 "HolelessHouseModel" "rows" "[I") hm_X12_fromTable_4) (fun _ h9 => h9) rfl dX12_fromTable_64 ?_
                            refine lv_iload_n hx hb dX12_fromTable_67 rfl (lv_at hl 2 rfl) ?_
                            refine va_iald hx hb hK hP 2 0 rfl rfl (vin_iv j7762 (by decide)) dX12_fromTable_68 (lv_topi (fun x8706 x8706_e => ?_))
                            have x8706_h : Iv 0 255 x8706 := iv_e (x8706_e.trans x8701_e.symm) j8705
                            refine lv_iload_n hx hb dX12_fromTable_69 rfl (lv_at hl 1 rfl) ?_
                            refine kc_i (D := (dC, dI)) (S := Unit) (wc := []) (wr := [(o1, .inr (12, [.int v2, .ref o3, .int v8, .ref o6, .int v8, .ref o9, .ref o11, .int v13, .ref o14, .int v16, .ref o17, .int v19, .int v20, .int v21, .ref o22, .ref o24, .ref o26, .ref o28, .ref o30, .int v32, .ref o33, .ref o35, .ref o37, .int v39, .ref o40, .ref o42, .ref o44, .int v46, .ref o47])), (o6, .inl (cI, 12, .inl f8696)), (o9, .inl (cI, 12, .inl fw10))]) (w1 := fun _ => []) (wn := fun _ => [(o1, .inr (12, [.int v2, .ref o3, .int v8, .ref o6, .int v8, .ref o9, .ref o11, .int v13, .ref o14, .int v16, .ref o17, .int v19, .int v20, .int v21, .ref o22, .ref o24, .ref o26, .ref o28, .ref o30, .int v32, .ref o33, .ref o35, .ref o37, .int v39, .ref o40, .ref o42, .ref o44, .int v46, .ref o47])), (o6, .inl (cI, 12, .inl f8696)), (o9, .inl (cI, 12, .inl fw10))]) (fun hPc hDc => va_runS (As := [.int x8706, .int x8515]) (rest := []) ⟨hx, hb, hml, hown, hts⟩ (kX12_has_1 l dC dI cI c2 cZ x8706 x8515 H.size (iv_w j8700 (by decide))) (va_cwS 2 hts gX12_fromTable_X12_has rfl rfl rfl (by decide +kernel) ⟨Nat.le_of_ble_eq_true rfl, Nat.le_of_ble_eq_true rfl⟩) (pre_S hPc hK hDc hN) rfl rfl hl.1 rfl (lv_room (Nat.le_of_ble_eq_true rfl)) dX12_fromTable_70 ⟨Nat.le_of_ble_eq_true rfl, Nat.le_of_ble_eq_true rfl⟩) hP hD hS hA [] [0, 1, 2] [0, 1, 2] rfl rfl (by decide +kernel) (by decide +kernel) (by decide +kernel) (by decide +kernel) (fun _ => rfl) (fun x8707 _ H locs hq hP hD hS => ?_)
                            obtain ⟨x8707_h, e8708⟩ := hq
                            have hP : va_P (dC, dI) vwCl ([(o1, .inr (12, [.int v2, .ref o3, .int v8, .ref o6, .int v8, .ref o9, .ref o11, .int v13, .ref o14, .int v16, .ref o17, .int v19, .int v20, .int v21, .ref o22, .ref o24, .ref o26, .ref o28, .ref o30, .int v32, .ref o33, .ref o35, .ref o37, .int v39, .ref o40, .ref o42, .ref o44, .int v46, .ref o47])), (o6, .inl (cI, 12, .inl f8696)), (o9, .inl (cI, 12, .inl fw10))]) H := hP
                            have hD : va_D A ([(o1, .inr (12, [.int v2, .ref o3, .int v8, .ref o6, .int v8, .ref o9, .ref o11, .int v13, .ref o14, .int v16, .ref o17, .int v19, .int v20, .int v21, .ref o22, .ref o24, .ref o26, .ref o28, .ref o30, .int v32, .ref o33, .ref o35, .ref o37, .int v39, .ref o40, .ref o42, .ref o44, .int v46, .ref o47])), (o6, .inl (cI, 12, .inl f8696)), (o9, .inl (cI, 12, .inl fw10))]) := hD
                            refine lv_if_eq (tgt := 95) hx hb dX12_fromTable_73 (by decide) (fun h8709 => ?_) (fun h8709 => ?_)
                            ·
                              have j8710 : Iv 0 0 x8707 := r_eq h8709 ik_0
                              have b8711 : bt x8706 (Int32.toNatClampNeg x8515) = false := has_f e8708 h8709
                              obtain ⟨x8712, x8712_e⟩ : ∃ z : Int32, z = x8695 + 1 := ⟨_, rfl⟩
                              have x8712_h : Iv 1 7 x8712 := iv_e x8712_e (iv_add j8699 ik_1 (by decide))
                              refine lv_iinc (v := x8712) (lv' := [(3, .int x8712), (2, .int x8515), (1, .int x7757), (0, .ref o1)]) hx hb dX12_fromTable_95 hl (k := 0) rfl (incN (by decide +kernel) x8712_e) (by decide) rfl (fun ls hl => ?_)
                              refine lv_goto (tgt := 49) hx hb dX12_fromTable_98 (by decide) ?_
                              exact ih65 x8712 f8696 _ _ _ (ms_up x8712_e j8699 (by decide) hM65) (iv_w x8712_h (by decide)) f8696_b hP hD hS hl
                            ·
                              have j8713 : Iv 1 1 x8707 := r_nelo h8709 x8707_h ik_0 (by decide)
                              have b8714 : bt x8706 (Int32.toNatClampNeg x8515) = true := has_t e8708 h8709
                              refine lv_aload_n hx hb dX12_fromTable_76 rfl (lv_at hl 3 rfl) ?_
                              refine va_get (D := (dC, dI)) (ci := 12) (v := .ref o9) (C := RX12) (T := TX12) (N := 29) hx hb hts iw_X12_fromTable_X12 hown hK hP 0 rfl rfl 5 (by decide) (hts (.fieldLink RX12 16 "HolelessHouseModel" "rows" "[I") hm_X12_fromTable_4) (fun _ h9 => h9) rfl dX12_fromTable_77 ?_
                              refine lv_iload_n hx hb dX12_fromTable_80 rfl (lv_at hl 2 rfl) ?_
                              refine va_iald hx hb hK hP 2 0 rfl rfl (vin_iv j7762 (by decide)) dX12_fromTable_81 (lv_topi (fun x8715 x8715_e => ?_))
                              have x8715_h : Iv 0 255 x8715 := iv_e (x8715_e.trans x8701_e.symm) j8705
                              refine lv_iload_n hx hb dX12_fromTable_82 rfl (lv_at hl 0 rfl) ?_
                              refine kc_i (D := (dC, dI)) (S := Unit) (wc := []) (wr := [(o1, .inr (12, [.int v2, .ref o3, .int v8, .ref o6, .int v8, .ref o9, .ref o11, .int v13, .ref o14, .int v16, .ref o17, .int v19, .int v20, .int v21, .ref o22, .ref o24, .ref o26, .ref o28, .ref o30, .int v32, .ref o33, .ref o35, .ref o37, .int v39, .ref o40, .ref o42, .ref o44, .int v46, .ref o47])), (o6, .inl (cI, 12, .inl f8696)), (o9, .inl (cI, 12, .inl fw10))]) (w1 := fun _ => []) (wn := fun _ => [(o1, .inr (12, [.int v2, .ref o3, .int v8, .ref o6, .int v8, .ref o9, .ref o11, .int v13, .ref o14, .int v16, .ref o17, .int v19, .int v20, .int v21, .ref o22, .ref o24, .ref o26, .ref o28, .ref o30, .int v32, .ref o33, .ref o35, .ref o37, .int v39, .ref o40, .ref o42, .ref o44, .int v46, .ref o47])), (o6, .inl (cI, 12, .inl f8696)), (o9, .inl (cI, 12, .inl fw10))]) (fun hPc hDc => va_runS (As := [.int x8715, .int x8695]) (rest := []) ⟨hx, hb, hml, hown, hts⟩ (kX12_has_1 l dC dI cI c2 cZ x8715 x8695 H.size (iv_w j8699 (by decide))) (va_cwS 2 hts gX12_fromTable_X12_has rfl rfl rfl (by decide +kernel) ⟨Nat.le_of_ble_eq_true rfl, Nat.le_of_ble_eq_true rfl⟩) (pre_S hPc hK hDc hN) rfl rfl hl.1 rfl (lv_room (Nat.le_of_ble_eq_true rfl)) dX12_fromTable_83 ⟨Nat.le_of_ble_eq_true rfl, Nat.le_of_ble_eq_true rfl⟩) hP hD hS hA [] [0, 1, 2] [0, 1, 2] rfl rfl (by decide +kernel) (by decide +kernel) (by decide +kernel) (by decide +kernel) (fun _ => rfl) (fun x8716 _ H locs hq hP hD hS => ?_)
                              obtain ⟨x8716_h, e8717⟩ := hq
                              have hP : va_P (dC, dI) vwCl ([(o1, .inr (12, [.int v2, .ref o3, .int v8, .ref o6, .int v8, .ref o9, .ref o11, .int v13, .ref o14, .int v16, .ref o17, .int v19, .int v20, .int v21, .ref o22, .ref o24, .ref o26, .ref o28, .ref o30, .int v32, .ref o33, .ref o35, .ref o37, .int v39, .ref o40, .ref o42, .ref o44, .int v46, .ref o47])), (o6, .inl (cI, 12, .inl f8696)), (o9, .inl (cI, 12, .inl fw10))]) H := hP
                              have hD : va_D A ([(o1, .inr (12, [.int v2, .ref o3, .int v8, .ref o6, .int v8, .ref o9, .ref o11, .int v13, .ref o14, .int v16, .ref o17, .int v19, .int v20, .int v21, .ref o22, .ref o24, .ref o26, .ref o28, .ref o30, .int v32, .ref o33, .ref o35, .ref o37, .int v39, .ref o40, .ref o42, .ref o44, .int v46, .ref o47])), (o6, .inl (cI, 12, .inl f8696)), (o9, .inl (cI, 12, .inl fw10))]) := hD
                              refine lv_if_eq (tgt := 95) hx hb dX12_fromTable_86 (by decide) (fun h8718 => ?_) (fun h8718 => ?_)
                              ·
                                have j8719 : Iv 0 0 x8716 := r_eq h8718 ik_0
                                have b8720 : bt x8715 (Int32.toNatClampNeg x8695) = false := has_f e8717 h8718
                                obtain ⟨x8721, x8721_e⟩ : ∃ z : Int32, z = x8695 + 1 := ⟨_, rfl⟩
                                have x8721_h : Iv 1 7 x8721 := iv_e x8721_e (iv_add j8699 ik_1 (by decide))
                                refine lv_iinc (v := x8721) (lv' := [(3, .int x8721), (2, .int x8515), (1, .int x7757), (0, .ref o1)]) hx hb dX12_fromTable_95 hl (k := 0) rfl (incN (by decide +kernel) x8721_e) (by decide) rfl (fun ls hl => ?_)
                                refine lv_goto (tgt := 49) hx hb dX12_fromTable_98 (by decide) ?_
                                exact ih65 x8721 f8696 _ _ _ (ms_up x8721_e j8699 (by decide) hM65) (iv_w x8721_h (by decide)) f8696_b hP hD hS hl
                              ·
                                have j8722 : Iv 1 1 x8716 := r_nelo h8718 x8716_h ik_0 (by decide)
                                have b8723 : bt x8715 (Int32.toNatClampNeg x8695) = true := has_t e8717 h8718
                                refine lv_aload_n hx hb dX12_fromTable_89 rfl (lv_at hl 3 rfl) ?_
                                refine lv_iload_n hx hb dX12_fromTable_90 rfl (lv_at hl 1 rfl) ?_
                                refine lv_iload_n hx hb dX12_fromTable_91 rfl (lv_at hl 0 rfl) ?_
                                refine kc_v (D := (dC, dI)) (S := (Nat → Int32)) (wc := [(o1, .inr (12, [.int v2, .ref o3, .int v8, .ref o6, .int v8, .ref o9, .ref o11, .int v13, .ref o14, .int v16, .ref o17, .int v19, .int v20, .int v21, .ref o22, .ref o24, .ref o26, .ref o28, .ref o30, .int v32, .ref o33, .ref o35, .ref o37, .int v39, .ref o40, .ref o42, .ref o44, .int v46, .ref o47])), (o6, .inl (cI, 12, .inl f8696))]) (wr := [(o9, .inl (cI, 12, .inl fw10))]) (w1 := fun u => [(o1, .inr (12, [.int v2, .ref o3, .int v8, .ref o6, .int v8, .ref o9, .ref o11, .int v13, .ref o14, .int v16, .ref o17, .int v19, .int v20, .int v21, .ref o22, .ref o24, .ref o26, .ref o28, .ref o30, .int v32, .ref o33, .ref o35, .ref o37, .int v39, .ref o40, .ref o42, .ref o44, .int v46, .ref o47])), (o6, .inl (cI, 12, .inl u))]) (wn := fun u => [(o1, .inr (12, [.int v2, .ref o3, .int v8, .ref o6, .int v8, .ref o9, .ref o11, .int v13, .ref o14, .int v16, .ref o17, .int v19, .int v20, .int v21, .ref o22, .ref o24, .ref o26, .ref o28, .ref o30, .int v32, .ref o33, .ref o35, .ref o37, .int v39, .ref o40, .ref o42, .ref o44, .int v46, .ref o47])), (o6, .inl (cI, 12, .inl u)), (o9, .inl (cI, 12, .inl fw10))]) (fun hPc hDc => va_runV (As := [.int x8515, .int x8695]) (rest := []) ⟨hx, hb, hml, hown, hts⟩ (kX12_tie_1 l dC dI cI c2 cZ o1 o3 o6 o9 o11 o14 o17 o22 o24 o26 o28 o30 o33 o35 o37 o40 o42 o44 o47 v2 v8 f8696 v8 v13 v16 v19 v20 v21 v32 v39 v46 x8515 x8695 H.size (iv_w j8520 (by decide)) f8696_b (iv_w j8520 (by decide)) v13_h v16_h v19_h v32_h v39_h v46_h (iv_w j8700 (by decide)) (iv_w j8699 (by decide))) (cwV 2 hts gX12_fromTable_X12_tie rfl rfl rfl (by decide +kernel) ⟨Nat.le_of_ble_eq_true rfl, Nat.le_of_ble_eq_true rfl⟩) (pre_V hPc hK hDc hN (ci := 12) (q0 := 0) rfl rfl) rfl rfl hl.1 rfl (lv_room (Nat.le_of_ble_eq_true rfl)) dX12_fromTable_92 ⟨Nat.le_of_ble_eq_true rfl, Nat.le_of_ble_eq_true rfl⟩) hP hD hS hA [0, 1] [2] [1, 2, 0] rfl rfl (by decide +kernel) (by decide +kernel) (by decide +kernel) (by decide +kernel) (fun _ => rfl) (fun f8724 H locs hq hP hD hS => ?_)
                                have f8724_b := hq
                                have hP : va_P (dC, dI) vwCl ([(o1, .inr (12, [.int v2, .ref o3, .int v8, .ref o6, .int v8, .ref o9, .ref o11, .int v13, .ref o14, .int v16, .ref o17, .int v19, .int v20, .int v21, .ref o22, .ref o24, .ref o26, .ref o28, .ref o30, .int v32, .ref o33, .ref o35, .ref o37, .int v39, .ref o40, .ref o42, .ref o44, .int v46, .ref o47])), (o6, .inl (cI, 12, .inl f8724)), (o9, .inl (cI, 12, .inl fw10))]) H := hP
                                have hD : va_D A ([(o1, .inr (12, [.int v2, .ref o3, .int v8, .ref o6, .int v8, .ref o9, .ref o11, .int v13, .ref o14, .int v16, .ref o17, .int v19, .int v20, .int v21, .ref o22, .ref o24, .ref o26, .ref o28, .ref o30, .int v32, .ref o33, .ref o35, .ref o37, .int v39, .ref o40, .ref o42, .ref o44, .int v46, .ref o47])), (o6, .inl (cI, 12, .inl f8724)), (o9, .inl (cI, 12, .inl fw10))]) := hD
                                obtain ⟨x8725, x8725_e⟩ : ∃ z : Int32, z = x8695 + 1 := ⟨_, rfl⟩
                                have x8725_h : Iv 1 7 x8725 := iv_e x8725_e (iv_add j8699 ik_1 (by decide))
                                refine lv_iinc (v := x8725) (lv' := [(3, .int x8725), (2, .int x8515), (1, .int x7757), (0, .ref o1)]) hx hb dX12_fromTable_95 hl (k := 0) rfl (incN (by decide +kernel) x8725_e) (by decide) rfl (fun ls hl => ?_)
                                refine lv_goto (tgt := 49) hx hb dX12_fromTable_98 (by decide) ?_
                                exact ih65 x8725 f8724 _ _ _ (ms_up x8725_e j8699 (by decide) hM65) (iv_w x8725_h (by decide)) f8724_b hP hD hS hl
                    exact L65 _ 0 f8516 _ _ _ (Nat.lt_succ_self _) (iv_w ik_0 (by decide)) f8516_b hP hD hS hl
              exact L64 _ 0 f7758 _ _ _ (Nat.lt_succ_self _) (iv_w ik_0 (by decide)) f7758_b hP hD hS hl
        exact L58 _ 0 f34 _ _ _ (Nat.lt_succ_self _) (iv_w ik_0 (by decide)) f34_b hP hD hS hl
      ·
        have qh35 := nle_i h35
        have j8726 : Iv 0 11 x33 := r_ltl qh35 x33_h ik_12 (by decide)
        refine lv_aload_n hx hb dX12_fromTable_16 rfl (lv_at hl 1 rfl) ?_
        refine va_get (D := (dC, dI)) (ci := 12) (v := .ref o6) (C := RX12) (T := TX12) (N := 29) hx hb hts iw_X12_fromTable_X12 hown hK hP 0 rfl rfl 3 (by decide) (hts (.fieldLink RX12 13 "HolelessHouseModel" "near" "[I") hm_X12_fromTable_3) (fun _ h9 => h9) rfl dX12_fromTable_17 ?_
        refine lv_iload_n hx hb dX12_fromTable_20 rfl (lv_at hl 0 rfl) ?_
        refine lv_iconst (v := 0) hx hb dX12_fromTable_21 (by decide) ?_
        refine k_iast hx hb hK hP hD hS 1 0 rfl rfl (vin_iv j8726 (by decide)) dX12_fromTable_22 (fun f8727 H locs f8727_e hP hD hS => ?_)
        have f8727_b : Bd 12 0 4095 f8727 := bd_upd f8727_e f34_b ik_0 (by decide)
        have hP : va_P (dC, dI) vwCl ([(o1, .inr (12, [.int v2, .ref o3, .int v8, .ref o6, .int v8, .ref o9, .ref o11, .int v13, .ref o14, .int v16, .ref o17, .int v19, .int v20, .int v21, .ref o22, .ref o24, .ref o26, .ref o28, .ref o30, .int v32, .ref o33, .ref o35, .ref o37, .int v39, .ref o40, .ref o42, .ref o44, .int v46, .ref o47])), (o6, .inl (cI, 12, .inl f8727)), (o9, .inl (cI, 12, .inl fw10))]) H := hP
        have hD : va_D A ([(o1, .inr (12, [.int v2, .ref o3, .int v8, .ref o6, .int v8, .ref o9, .ref o11, .int v13, .ref o14, .int v16, .ref o17, .int v19, .int v20, .int v21, .ref o22, .ref o24, .ref o26, .ref o28, .ref o30, .int v32, .ref o33, .ref o35, .ref o37, .int v39, .ref o40, .ref o42, .ref o44, .int v46, .ref o47])), (o6, .inl (cI, 12, .inl f8727)), (o9, .inl (cI, 12, .inl fw10))]) := hD
        obtain ⟨x8728, x8728_e⟩ : ∃ z : Int32, z = x33 + 1 := ⟨_, rfl⟩
        have x8728_h : Iv 1 12 x8728 := iv_e x8728_e (iv_add j8726 ik_1 (by decide))
        refine lv_iinc (v := x8728) (lv' := [(1, .int x8728), (0, .ref o1)]) hx hb dX12_fromTable_23 hl (k := 0) rfl (incN (by decide +kernel) x8728_e) (by decide) rfl (fun ls hl => ?_)
        refine lv_goto (tgt := 10) hx hb dX12_fromTable_26 (by decide) ?_
        exact ih1 x8728 f8727 _ _ _ (ms_up x8728_e j8726 (by decide) hM1) (iv_w x8728_h (by decide)) f8727_b hP hD hS hl
  exact L1 _ 0 fw7 _ _ _ (Nat.lt_succ_self _) (iv_w ik_0 (by decide)) fw7_b hP hD hS hl
set_option maxHeartbeats 4000000 in
set_option maxRecDepth 100000 in
theorem kxX12_init_2 (l : Launch) (dC : Nat → ClassId) (dI : Nat → Nat → Nat) (cI c2 cZ : ClassId) (o1 : Nat) (sz : Nat) : Met l yX12_init wsX12_init ({ frames := 1, cells := 18, slots := 151889, locals := 12 }) (va_Pc [.ref o1] (wPre (dC, dI) [(cI, .int), (c2, .array .int), (cZ, .boolean)] ([(o1, .inr (12, [.int 0, .null, .int 0, .null, .int 0, .null, .null, .int 0, .null, .int 0, .null, .int 0, .int 0, .int 0, .null, .null, .null, .null, .null, .int 0, .null, .null, .null, .int 0, .null, .null, .null, .int 0, .null]))]) sz)) (va_Qv (fun (u : Int32 × Nat × Nat × Nat × Nat × Nat × Nat × Nat × Nat × Nat × Nat × Nat × Nat × Nat × Nat × Nat × Nat × Nat × Nat × (Nat → Int32) × (Nat → Int32) × (Nat → Int32) × (Nat → Int32) × (Nat → Int32) × (Nat → Int32) × (Nat → Int32) × (Nat → Int32) × (Nat → Int32) × (Nat → Int32) × (Nat → Int32) × (Nat → Int32) × (Nat → Int32) × (Nat → Int32) × (Nat → Int32) × (Nat → Int32) × (Nat → Int32) × (Nat → Int32)) => Iv (-9) (-9) u.1 ∧ Bd 12 0 4095 u.2.2.2.2.2.2.2.2.2.2.2.2.2.2.2.2.2.2.2.2.1 ∧ Bd 12 (-9) 255 u.2.2.2.2.2.2.2.2.2.2.2.2.2.2.2.2.2.2.2.2.2.1 ∧ Bd 12 0 11 u.2.2.2.2.2.2.2.2.2.2.2.2.2.2.2.2.2.2.2.2.2.2.1 ∧ Bd 12 0 11 u.2.2.2.2.2.2.2.2.2.2.2.2.2.2.2.2.2.2.2.2.2.2.2.1 ∧ Bd 12 0 11 u.2.2.2.2.2.2.2.2.2.2.2.2.2.2.2.2.2.2.2.2.2.2.2.2.1 ∧ Bd 12 0 4095 u.2.2.2.2.2.2.2.2.2.2.2.2.2.2.2.2.2.2.2.2.2.2.2.2.2.1 ∧ Bd 12 0 4095 u.2.2.2.2.2.2.2.2.2.2.2.2.2.2.2.2.2.2.2.2.2.2.2.2.2.2.1 ∧ Bd 49152 0 4095 u.2.2.2.2.2.2.2.2.2.2.2.2.2.2.2.2.2.2.2.2.2.2.2.2.2.2.2.1 ∧ Bd 100 0 4095 u.2.2.2.2.2.2.2.2.2.2.2.2.2.2.2.2.2.2.2.2.2.2.2.2.2.2.2.2.2.1 ∧ Bd 12 0 11 u.2.2.2.2.2.2.2.2.2.2.2.2.2.2.2.2.2.2.2.2.2.2.2.2.2.2.2.2.2.2.1 ∧ Bd 100 (-9) 99 u.2.2.2.2.2.2.2.2.2.2.2.2.2.2.2.2.2.2.2.2.2.2.2.2.2.2.2.2.2.2.2.1 ∧ Bd 12 0 11 u.2.2.2.2.2.2.2.2.2.2.2.2.2.2.2.2.2.2.2.2.2.2.2.2.2.2.2.2.2.2.2.2.2.2.2.1 ∧ Bd 12 (-9) 255 u.2.2.2.2.2.2.2.2.2.2.2.2.2.2.2.2.2.2.2.2.2.2.2.2.2.2.2.2.2.2.2.2.2.2.2.2 ∧ (∀ i : Nat, i < 12 → u.2.2.2.2.2.2.2.2.2.2.2.2.2.2.2.2.2.2.2.2.2.1 i = (-9))) (fun u t => wPost (dC, dI) [(cI, .int), (c2, .array .int), (cZ, .boolean)] (va_A ([(o1, .inr (12, [.int 0, .null, .int 0, .null, .int 0, .null, .null, .int 0, .null, .int 0, .null, .int 0, .int 0, .int 0, .null, .null, .null, .null, .null, .int 0, .null, .null, .null, .int 0, .null, .null, .null, .int 0, .null]))]) sz) ([(o1, .inr (12, [.int 0, .ref u.2.1, .int 0, .ref u.2.2.1, .int 0, .ref u.2.2.2.1, .ref u.2.2.2.2.1, .int 0, .ref u.2.2.2.2.2.1, .int 0, .ref u.2.2.2.2.2.2.1, .int u.1, .int 0, .int 0, .ref u.2.2.2.2.2.2.2.1, .ref u.2.2.2.2.2.2.2.2.1, .ref u.2.2.2.2.2.2.2.2.2.1, .ref u.2.2.2.2.2.2.2.2.2.2.1, .ref u.2.2.2.2.2.2.2.2.2.2.2.1, .int 0, .ref u.2.2.2.2.2.2.2.2.2.2.2.2.1, .ref u.2.2.2.2.2.2.2.2.2.2.2.2.2.1, .ref u.2.2.2.2.2.2.2.2.2.2.2.2.2.2.1, .int 0, .ref u.2.2.2.2.2.2.2.2.2.2.2.2.2.2.2.1, .ref u.2.2.2.2.2.2.2.2.2.2.2.2.2.2.2.2.1, .ref u.2.2.2.2.2.2.2.2.2.2.2.2.2.2.2.2.2.1, .int 0, .ref u.2.2.2.2.2.2.2.2.2.2.2.2.2.2.2.2.2.2.1])), (u.2.1, .inl (cI, 5, .inl u.2.2.2.2.2.2.2.2.2.2.2.2.2.2.2.2.2.2.2.1)), (u.2.2.1, .inl (cI, 12, .inl u.2.2.2.2.2.2.2.2.2.2.2.2.2.2.2.2.2.2.2.2.1)), (u.2.2.2.1, .inl (cI, 12, .inl u.2.2.2.2.2.2.2.2.2.2.2.2.2.2.2.2.2.2.2.2.2.1)), (u.2.2.2.2.1, .inl (cI, 12, .inl u.2.2.2.2.2.2.2.2.2.2.2.2.2.2.2.2.2.2.2.2.2.2.1)), (u.2.2.2.2.2.1, .inl (cI, 12, .inl u.2.2.2.2.2.2.2.2.2.2.2.2.2.2.2.2.2.2.2.2.2.2.2.1)), (u.2.2.2.2.2.2.1, .inl (cI, 12, .inl u.2.2.2.2.2.2.2.2.2.2.2.2.2.2.2.2.2.2.2.2.2.2.2.2.1)), (u.2.2.2.2.2.2.2.1, .inl (cI, 12, .inl u.2.2.2.2.2.2.2.2.2.2.2.2.2.2.2.2.2.2.2.2.2.2.2.2.2.1)), (u.2.2.2.2.2.2.2.2.1, .inl (cI, 12, .inl u.2.2.2.2.2.2.2.2.2.2.2.2.2.2.2.2.2.2.2.2.2.2.2.2.2.2.1)), (u.2.2.2.2.2.2.2.2.2.1, .inl (cI, 49152, .inl u.2.2.2.2.2.2.2.2.2.2.2.2.2.2.2.2.2.2.2.2.2.2.2.2.2.2.2.1)), (u.2.2.2.2.2.2.2.2.2.2.1, .inl (cI, 4096, .inl u.2.2.2.2.2.2.2.2.2.2.2.2.2.2.2.2.2.2.2.2.2.2.2.2.2.2.2.2.1)), (u.2.2.2.2.2.2.2.2.2.2.2.1, .inl (cI, 100, .inl u.2.2.2.2.2.2.2.2.2.2.2.2.2.2.2.2.2.2.2.2.2.2.2.2.2.2.2.2.2.1)), (u.2.2.2.2.2.2.2.2.2.2.2.2.1, .inl (cI, 12, .inl u.2.2.2.2.2.2.2.2.2.2.2.2.2.2.2.2.2.2.2.2.2.2.2.2.2.2.2.2.2.2.1)), (u.2.2.2.2.2.2.2.2.2.2.2.2.2.1, .inl (cI, 100, .inl u.2.2.2.2.2.2.2.2.2.2.2.2.2.2.2.2.2.2.2.2.2.2.2.2.2.2.2.2.2.2.2.1)), (u.2.2.2.2.2.2.2.2.2.2.2.2.2.2.1, .inl (cI, 12, .inl u.2.2.2.2.2.2.2.2.2.2.2.2.2.2.2.2.2.2.2.2.2.2.2.2.2.2.2.2.2.2.2.2.1)), (u.2.2.2.2.2.2.2.2.2.2.2.2.2.2.2.1, .inl (cZ, 49152, .inl u.2.2.2.2.2.2.2.2.2.2.2.2.2.2.2.2.2.2.2.2.2.2.2.2.2.2.2.2.2.2.2.2.2.1)), (u.2.2.2.2.2.2.2.2.2.2.2.2.2.2.2.2.1, .inl (cI, 49152, .inl u.2.2.2.2.2.2.2.2.2.2.2.2.2.2.2.2.2.2.2.2.2.2.2.2.2.2.2.2.2.2.2.2.2.2.1)), (u.2.2.2.2.2.2.2.2.2.2.2.2.2.2.2.2.2.1, .inl (cI, 12, .inl u.2.2.2.2.2.2.2.2.2.2.2.2.2.2.2.2.2.2.2.2.2.2.2.2.2.2.2.2.2.2.2.2.2.2.2.1)), (u.2.2.2.2.2.2.2.2.2.2.2.2.2.2.2.2.2.2.1, .inl (cI, 12, .inl u.2.2.2.2.2.2.2.2.2.2.2.2.2.2.2.2.2.2.2.2.2.2.2.2.2.2.2.2.2.2.2.2.2.2.2.2))]) t) (va_A ([(o1, .inr (12, [.int 0, .null, .int 0, .null, .int 0, .null, .null, .int 0, .null, .int 0, .null, .int 0, .int 0, .int 0, .null, .null, .null, .null, .null, .int 0, .null, .null, .null, .int 0, .null, .null, .null, .int 0, .null]))]) sz)) 18 151889 (va_A ([(o1, .inr (12, [.int 0, .null, .int 0, .null, .int 0, .null, .null, .int 0, .null, .int 0, .null, .int 0, .int 0, .int 0, .null, .null, .null, .null, .null, .int 0, .null, .null, .null, .int 0, .null, .null, .null, .int 0, .null]))]) sz) := by
  refine Met.ofW (cc := cX12_init) (maxL := 2) (ret := none) (by decide) rfl ?_
  intro p e s m args below meth c s₁ B hml hv
  obtain ⟨rfl, hsz, hP, hK, hD0, hN⟩ := hv
  have hx := B.exec
  have hb := B.bytes
  have hr := B.returns
  have hts := atoms_spec (ws := wsX12_init) B.pre
  have hown : s.vm.findClass RX12 = some m.cls := findClass_of_methodNamed B.named
  have hlocks := B.notSynchronized
  have hin : meth.name = "<init>" := (name_of_methodNamed B.named B.method).1
  subst hsz
  have hD := hD0.self (sz := s.heap.size)
  generalize hAe : va_A ([(o1, .inr (12, [.int 0, .null, .int 0, .null, .int 0, .null, .null, .int 0, .null, .int 0, .null, .int 0, .int 0, .int 0, .null, .null, .null, .null, .null, .int 0, .null, .null, .null, .int 0, .null, .null, .null, .int 0, .null]))]) s.heap.size = A at hD ⊢
  have hA : ∀ q : Nat, s.heap.size ≤ q → A q := fun q h => by rw [← hAe]; exact Or.inr h
  have hS : va_S A s.heap s.heap [] := va_S.rf
  have hP : va_P (dC, dI) vwCl ([(o1, .inr (12, [.int 0, .null, .int 0, .null, .int 0, .null, .null, .int 0, .null, .int 0, .null, .int 0, .int 0, .int 0, .null, .null, .null, .null, .null, .int 0, .null, .null, .null, .int 0, .null, .null, .null, .int 0, .null]))]) s.heap := hP
  have hl := lv_entry ([.ref o1]) (n := 2) (Nat.le_of_ble_eq_true rfl)
  rw [lg_entry_eq]
  generalize (lg_sl ([.ref o1]) ++ List.replicate (2 - (lg_sl ([.ref o1])).length) Slot.unset).toArray = ls at hl ⊢
  have hl : lv_has ls 2 [(0, .ref o1)] := hl
  refine gen_Q (fun Q hQ => ?_)
  refine lv_aload_n hx hb dX12_init_0 rfl (lv_at hl 0 rfl) ?_
  refine W.objInit hx hb hown (hts (.methodLink RX12 1 objectInit) hm_X12_init_1) (hts (.instanceMethod objectInit) hm_X12_init_2) (hts (.code objectInit ⟨#[0xb1]⟩ 1 none) hm_X12_init_3) rfl (by rw [hml]; exact hl.1) rfl dX12_init_1 (Nat.le_of_ble_eq_true rfl) (Nat.le_of_ble_eq_true rfl) ?_
  refine W.eq (g2 := F0 m 4 ls []) rfl ?_
  refine lv_aload_n hx hb dX12_init_4 rfl (lv_at hl 0 rfl) ?_
  refine lv_iconst (v := 5) hx hb dX12_init_5 (by decide) ?_
  refine va_newa (atype := .int) (ty := .int) (N' := 5) (a0 := (5, .inl (fun _ => 0))) hx hb (hts (.arrayClass .int) hm_X12_init_4) rfl hK hP hD hS hA (fun _ => rfl) (by decide +kernel) (by decide +kernel) (by decide +kernel) (Nat.le_of_ble_eq_true rfl) (Nat.le_of_ble_eq_true rfl) dX12_init_6 (fun q1 cA H hK1 hP hD hS => ?_)
  refine W.widen (k := 1) (n := 5) (by decide) (by decide) ?_
  have e9 : cI = cA := K3_int hK1
  subst e9
  obtain ⟨f2, f2_e⟩ : ∃ g : Nat → Int32, g = fun _ => 0 := ⟨_, rfl⟩
  rw [← f2_e] at hP hD
  have hP : va_P (dC, dI) vwCl ([(o1, .inr (12, [.int 0, .null, .int 0, .null, .int 0, .null, .null, .int 0, .null, .int 0, .null, .int 0, .int 0, .int 0, .null, .null, .null, .null, .null, .int 0, .null, .null, .null, .int 0, .null, .null, .null, .int 0, .null])), (q1, .inl (cI, 5, .inl f2))]) H := hP
  have hD : va_D A ([(o1, .inr (12, [.int 0, .null, .int 0, .null, .int 0, .null, .null, .int 0, .null, .int 0, .null, .int 0, .int 0, .int 0, .null, .null, .null, .null, .null, .int 0, .null, .null, .null, .int 0, .null, .null, .null, .int 0, .null])), (q1, .inl (cI, 5, .inl f2))]) := hD
  refine va_putF (D := (dC, dI)) (ci := 12) (v := .ref q1) (ty := .array .int) (C := RX12) (T := TX12) (N := 29) hx hb hts iw_X12_init_X12 tyX12 tyX12_ok nmX12 hown hK hP hD hS 0 rfl rfl 1 (by decide) (hts (.fieldLink RX12 7 "HolelessHouseModel" "findings" "[I") hm_X12_init_5) (fun _ h9 => h9) rfl hin rfl (by decide +kernel) rfl rfl (Nat.le_of_ble_eq_true rfl) dX12_init_8 (fun H locs hP hD hS => ?_)
  have hP : va_P (dC, dI) vwCl ([(o1, .inr (12, [.int 0, .ref q1, .int 0, .null, .int 0, .null, .null, .int 0, .null, .int 0, .null, .int 0, .int 0, .int 0, .null, .null, .null, .null, .null, .int 0, .null, .null, .null, .int 0, .null, .null, .null, .int 0, .null])), (q1, .inl (cI, 5, .inl f2))]) H := hP
  have hD : va_D A ([(o1, .inr (12, [.int 0, .ref q1, .int 0, .null, .int 0, .null, .null, .int 0, .null, .int 0, .null, .int 0, .int 0, .int 0, .null, .null, .null, .null, .null, .int 0, .null, .null, .null, .int 0, .null, .null, .null, .int 0, .null])), (q1, .inl (cI, 5, .inl f2))]) := hD
  refine lv_aload_n hx hb dX12_init_11 rfl (lv_at hl 0 rfl) ?_
  refine lv_bipush (v := 12) hx hb dX12_init_12 (by decide) ?_
  refine va_newa (atype := .int) (ty := .int) (N' := 12) (a0 := (12, .inl (fun _ => 0))) hx hb (hts (.arrayClass .int) hm_X12_init_4) rfl hK hP hD hS hA (fun _ => rfl) (by decide +kernel) (by decide +kernel) (by decide +kernel) (Nat.le_of_ble_eq_true rfl) (Nat.le_of_ble_eq_true rfl) dX12_init_14 (fun q3 cA H hK1 hP hD hS => ?_)
  refine W.widen (k := 2) (n := 17) (by decide) (by decide) ?_
  have e9 : cI = cA := K3_int hK1
  subst e9
  obtain ⟨f4, f4_e⟩ : ∃ g : Nat → Int32, g = fun _ => 0 := ⟨_, rfl⟩
  rw [← f4_e] at hP hD
  have f4_b : Bd 12 0 4095 f4 := by rw [f4_e]; exact bd_c ik_0 (by decide)
  have hP : va_P (dC, dI) vwCl ([(o1, .inr (12, [.int 0, .ref q1, .int 0, .null, .int 0, .null, .null, .int 0, .null, .int 0, .null, .int 0, .int 0, .int 0, .null, .null, .null, .null, .null, .int 0, .null, .null, .null, .int 0, .null, .null, .null, .int 0, .null])), (q1, .inl (cI, 5, .inl f2)), (q3, .inl (cI, 12, .inl f4))]) H := hP
  have hD : va_D A ([(o1, .inr (12, [.int 0, .ref q1, .int 0, .null, .int 0, .null, .null, .int 0, .null, .int 0, .null, .int 0, .int 0, .int 0, .null, .null, .null, .null, .null, .int 0, .null, .null, .null, .int 0, .null, .null, .null, .int 0, .null])), (q1, .inl (cI, 5, .inl f2)), (q3, .inl (cI, 12, .inl f4))]) := hD
  refine va_putF (D := (dC, dI)) (ci := 12) (v := .ref q3) (ty := .array .int) (C := RX12) (T := TX12) (N := 29) hx hb hts iw_X12_init_X12 tyX12 tyX12_ok nmX12 hown hK hP hD hS 0 rfl rfl 3 (by decide) (hts (.fieldLink RX12 13 "HolelessHouseModel" "near" "[I") hm_X12_init_6) (fun _ h9 => h9) rfl hin rfl (by decide +kernel) rfl rfl (Nat.le_of_ble_eq_true rfl) dX12_init_16 (fun H locs hP hD hS => ?_)
  have hP : va_P (dC, dI) vwCl ([(o1, .inr (12, [.int 0, .ref q1, .int 0, .ref q3, .int 0, .null, .null, .int 0, .null, .int 0, .null, .int 0, .int 0, .int 0, .null, .null, .null, .null, .null, .int 0, .null, .null, .null, .int 0, .null, .null, .null, .int 0, .null])), (q1, .inl (cI, 5, .inl f2)), (q3, .inl (cI, 12, .inl f4))]) H := hP
  have hD : va_D A ([(o1, .inr (12, [.int 0, .ref q1, .int 0, .ref q3, .int 0, .null, .null, .int 0, .null, .int 0, .null, .int 0, .int 0, .int 0, .null, .null, .null, .null, .null, .int 0, .null, .null, .null, .int 0, .null, .null, .null, .int 0, .null])), (q1, .inl (cI, 5, .inl f2)), (q3, .inl (cI, 12, .inl f4))]) := hD
  refine lv_aload_n hx hb dX12_init_19 rfl (lv_at hl 0 rfl) ?_
  refine lv_bipush (v := 12) hx hb dX12_init_20 (by decide) ?_
  refine va_newa (atype := .int) (ty := .int) (N' := 12) (a0 := (12, .inl (fun _ => 0))) hx hb (hts (.arrayClass .int) hm_X12_init_4) rfl hK hP hD hS hA (fun _ => rfl) (by decide +kernel) (by decide +kernel) (by decide +kernel) (Nat.le_of_ble_eq_true rfl) (Nat.le_of_ble_eq_true rfl) dX12_init_22 (fun q5 cA H hK1 hP hD hS => ?_)
  refine W.widen (k := 3) (n := 29) (by decide) (by decide) ?_
  have e9 : cI = cA := K3_int hK1
  subst e9
  obtain ⟨f6, f6_e⟩ : ∃ g : Nat → Int32, g = fun _ => 0 := ⟨_, rfl⟩
  rw [← f6_e] at hP hD
  have f6_b : Bd 12 (-9) 255 f6 := by rw [f6_e]; exact bd_c ik_0 (by decide)
  have hP : va_P (dC, dI) vwCl ([(o1, .inr (12, [.int 0, .ref q1, .int 0, .ref q3, .int 0, .null, .null, .int 0, .null, .int 0, .null, .int 0, .int 0, .int 0, .null, .null, .null, .null, .null, .int 0, .null, .null, .null, .int 0, .null, .null, .null, .int 0, .null])), (q1, .inl (cI, 5, .inl f2)), (q3, .inl (cI, 12, .inl f4)), (q5, .inl (cI, 12, .inl f6))]) H := hP
  have hD : va_D A ([(o1, .inr (12, [.int 0, .ref q1, .int 0, .ref q3, .int 0, .null, .null, .int 0, .null, .int 0, .null, .int 0, .int 0, .int 0, .null, .null, .null, .null, .null, .int 0, .null, .null, .null, .int 0, .null, .null, .null, .int 0, .null])), (q1, .inl (cI, 5, .inl f2)), (q3, .inl (cI, 12, .inl f4)), (q5, .inl (cI, 12, .inl f6))]) := hD
  refine va_putF (D := (dC, dI)) (ci := 12) (v := .ref q5) (ty := .array .int) (C := RX12) (T := TX12) (N := 29) hx hb hts iw_X12_init_X12 tyX12 tyX12_ok nmX12 hown hK hP hD hS 0 rfl rfl 5 (by decide) (hts (.fieldLink RX12 16 "HolelessHouseModel" "rows" "[I") hm_X12_init_7) (fun _ h9 => h9) rfl hin rfl (by decide +kernel) rfl rfl (Nat.le_of_ble_eq_true rfl) dX12_init_24 (fun H locs hP hD hS => ?_)
  have hP : va_P (dC, dI) vwCl ([(o1, .inr (12, [.int 0, .ref q1, .int 0, .ref q3, .int 0, .ref q5, .null, .int 0, .null, .int 0, .null, .int 0, .int 0, .int 0, .null, .null, .null, .null, .null, .int 0, .null, .null, .null, .int 0, .null, .null, .null, .int 0, .null])), (q1, .inl (cI, 5, .inl f2)), (q3, .inl (cI, 12, .inl f4)), (q5, .inl (cI, 12, .inl f6))]) H := hP
  have hD : va_D A ([(o1, .inr (12, [.int 0, .ref q1, .int 0, .ref q3, .int 0, .ref q5, .null, .int 0, .null, .int 0, .null, .int 0, .int 0, .int 0, .null, .null, .null, .null, .null, .int 0, .null, .null, .null, .int 0, .null, .null, .null, .int 0, .null])), (q1, .inl (cI, 5, .inl f2)), (q3, .inl (cI, 12, .inl f4)), (q5, .inl (cI, 12, .inl f6))]) := hD
  refine lv_aload_n hx hb dX12_init_27 rfl (lv_at hl 0 rfl) ?_
  refine lv_bipush (v := 12) hx hb dX12_init_28 (by decide) ?_
  refine va_newa (atype := .int) (ty := .int) (N' := 12) (a0 := (12, .inl (fun _ => 0))) hx hb (hts (.arrayClass .int) hm_X12_init_4) rfl hK hP hD hS hA (fun _ => rfl) (by decide +kernel) (by decide +kernel) (by decide +kernel) (Nat.le_of_ble_eq_true rfl) (Nat.le_of_ble_eq_true rfl) dX12_init_30 (fun q7 cA H hK1 hP hD hS => ?_)
  refine W.widen (k := 4) (n := 41) (by decide) (by decide) ?_
  have e9 : cI = cA := K3_int hK1
  subst e9
  obtain ⟨f8, f8_e⟩ : ∃ g : Nat → Int32, g = fun _ => 0 := ⟨_, rfl⟩
  rw [← f8_e] at hP hD
  have f8_b : Bd 12 0 11 f8 := by rw [f8_e]; exact bd_c ik_0 (by decide)
  have hP : va_P (dC, dI) vwCl ([(o1, .inr (12, [.int 0, .ref q1, .int 0, .ref q3, .int 0, .ref q5, .null, .int 0, .null, .int 0, .null, .int 0, .int 0, .int 0, .null, .null, .null, .null, .null, .int 0, .null, .null, .null, .int 0, .null, .null, .null, .int 0, .null])), (q1, .inl (cI, 5, .inl f2)), (q3, .inl (cI, 12, .inl f4)), (q5, .inl (cI, 12, .inl f6)), (q7, .inl (cI, 12, .inl f8))]) H := hP
  have hD : va_D A ([(o1, .inr (12, [.int 0, .ref q1, .int 0, .ref q3, .int 0, .ref q5, .null, .int 0, .null, .int 0, .null, .int 0, .int 0, .int 0, .null, .null, .null, .null, .null, .int 0, .null, .null, .null, .int 0, .null, .null, .null, .int 0, .null])), (q1, .inl (cI, 5, .inl f2)), (q3, .inl (cI, 12, .inl f4)), (q5, .inl (cI, 12, .inl f6)), (q7, .inl (cI, 12, .inl f8))]) := hD
  refine va_putF (D := (dC, dI)) (ci := 12) (v := .ref q7) (ty := .array .int) (C := RX12) (T := TX12) (N := 29) hx hb hts iw_X12_init_X12 tyX12 tyX12_ok nmX12 hown hK hP hD hS 0 rfl rfl 6 (by decide) (hts (.fieldLink RX12 19 "HolelessHouseModel" "ring" "[I") hm_X12_init_8) (fun _ h9 => h9) rfl hin rfl (by decide +kernel) rfl rfl (Nat.le_of_ble_eq_true rfl) dX12_init_32 (fun H locs hP hD hS => ?_)
  have hP : va_P (dC, dI) vwCl ([(o1, .inr (12, [.int 0, .ref q1, .int 0, .ref q3, .int 0, .ref q5, .ref q7, .int 0, .null, .int 0, .null, .int 0, .int 0, .int 0, .null, .null, .null, .null, .null, .int 0, .null, .null, .null, .int 0, .null, .null, .null, .int 0, .null])), (q1, .inl (cI, 5, .inl f2)), (q3, .inl (cI, 12, .inl f4)), (q5, .inl (cI, 12, .inl f6)), (q7, .inl (cI, 12, .inl f8))]) H := hP
  have hD : va_D A ([(o1, .inr (12, [.int 0, .ref q1, .int 0, .ref q3, .int 0, .ref q5, .ref q7, .int 0, .null, .int 0, .null, .int 0, .int 0, .int 0, .null, .null, .null, .null, .null, .int 0, .null, .null, .null, .int 0, .null, .null, .null, .int 0, .null])), (q1, .inl (cI, 5, .inl f2)), (q3, .inl (cI, 12, .inl f4)), (q5, .inl (cI, 12, .inl f6)), (q7, .inl (cI, 12, .inl f8))]) := hD
  refine lv_aload_n hx hb dX12_init_35 rfl (lv_at hl 0 rfl) ?_
  refine lv_bipush (v := 12) hx hb dX12_init_36 (by decide) ?_
  refine va_newa (atype := .int) (ty := .int) (N' := 12) (a0 := (12, .inl (fun _ => 0))) hx hb (hts (.arrayClass .int) hm_X12_init_4) rfl hK hP hD hS hA (fun _ => rfl) (by decide +kernel) (by decide +kernel) (by decide +kernel) (Nat.le_of_ble_eq_true rfl) (Nat.le_of_ble_eq_true rfl) dX12_init_38 (fun q9 cA H hK1 hP hD hS => ?_)
  refine W.widen (k := 5) (n := 53) (by decide) (by decide) ?_
  have e9 : cI = cA := K3_int hK1
  subst e9
  obtain ⟨f10, f10_e⟩ : ∃ g : Nat → Int32, g = fun _ => 0 := ⟨_, rfl⟩
  rw [← f10_e] at hP hD
  have f10_b : Bd 12 0 11 f10 := by rw [f10_e]; exact bd_c ik_0 (by decide)
  have hP : va_P (dC, dI) vwCl ([(o1, .inr (12, [.int 0, .ref q1, .int 0, .ref q3, .int 0, .ref q5, .ref q7, .int 0, .null, .int 0, .null, .int 0, .int 0, .int 0, .null, .null, .null, .null, .null, .int 0, .null, .null, .null, .int 0, .null, .null, .null, .int 0, .null])), (q1, .inl (cI, 5, .inl f2)), (q3, .inl (cI, 12, .inl f4)), (q5, .inl (cI, 12, .inl f6)), (q7, .inl (cI, 12, .inl f8)), (q9, .inl (cI, 12, .inl f10))]) H := hP
  have hD : va_D A ([(o1, .inr (12, [.int 0, .ref q1, .int 0, .ref q3, .int 0, .ref q5, .ref q7, .int 0, .null, .int 0, .null, .int 0, .int 0, .int 0, .null, .null, .null, .null, .null, .int 0, .null, .null, .null, .int 0, .null, .null, .null, .int 0, .null])), (q1, .inl (cI, 5, .inl f2)), (q3, .inl (cI, 12, .inl f4)), (q5, .inl (cI, 12, .inl f6)), (q7, .inl (cI, 12, .inl f8)), (q9, .inl (cI, 12, .inl f10))]) := hD
  refine va_putF (D := (dC, dI)) (ci := 12) (v := .ref q9) (ty := .array .int) (C := RX12) (T := TX12) (N := 29) hx hb hts iw_X12_init_X12 tyX12 tyX12_ok nmX12 hown hK hP hD hS 0 rfl rfl 8 (by decide) (hts (.fieldLink RX12 22 "HolelessHouseModel" "draft" "[I") hm_X12_init_9) (fun _ h9 => h9) rfl hin rfl (by decide +kernel) rfl rfl (Nat.le_of_ble_eq_true rfl) dX12_init_40 (fun H locs hP hD hS => ?_)
  have hP : va_P (dC, dI) vwCl ([(o1, .inr (12, [.int 0, .ref q1, .int 0, .ref q3, .int 0, .ref q5, .ref q7, .int 0, .ref q9, .int 0, .null, .int 0, .int 0, .int 0, .null, .null, .null, .null, .null, .int 0, .null, .null, .null, .int 0, .null, .null, .null, .int 0, .null])), (q1, .inl (cI, 5, .inl f2)), (q3, .inl (cI, 12, .inl f4)), (q5, .inl (cI, 12, .inl f6)), (q7, .inl (cI, 12, .inl f8)), (q9, .inl (cI, 12, .inl f10))]) H := hP
  have hD : va_D A ([(o1, .inr (12, [.int 0, .ref q1, .int 0, .ref q3, .int 0, .ref q5, .ref q7, .int 0, .ref q9, .int 0, .null, .int 0, .int 0, .int 0, .null, .null, .null, .null, .null, .int 0, .null, .null, .null, .int 0, .null, .null, .null, .int 0, .null])), (q1, .inl (cI, 5, .inl f2)), (q3, .inl (cI, 12, .inl f4)), (q5, .inl (cI, 12, .inl f6)), (q7, .inl (cI, 12, .inl f8)), (q9, .inl (cI, 12, .inl f10))]) := hD
  refine lv_aload_n hx hb dX12_init_43 rfl (lv_at hl 0 rfl) ?_
  refine lv_bipush (v := 12) hx hb dX12_init_44 (by decide) ?_
  refine va_newa (atype := .int) (ty := .int) (N' := 12) (a0 := (12, .inl (fun _ => 0))) hx hb (hts (.arrayClass .int) hm_X12_init_4) rfl hK hP hD hS hA (fun _ => rfl) (by decide +kernel) (by decide +kernel) (by decide +kernel) (Nat.le_of_ble_eq_true rfl) (Nat.le_of_ble_eq_true rfl) dX12_init_46 (fun q11 cA H hK1 hP hD hS => ?_)
  refine W.widen (k := 6) (n := 65) (by decide) (by decide) ?_
  have e9 : cI = cA := K3_int hK1
  subst e9
  obtain ⟨f12, f12_e⟩ : ∃ g : Nat → Int32, g = fun _ => 0 := ⟨_, rfl⟩
  rw [← f12_e] at hP hD
  have f12_b : Bd 12 0 11 f12 := by rw [f12_e]; exact bd_c ik_0 (by decide)
  have hP : va_P (dC, dI) vwCl ([(o1, .inr (12, [.int 0, .ref q1, .int 0, .ref q3, .int 0, .ref q5, .ref q7, .int 0, .ref q9, .int 0, .null, .int 0, .int 0, .int 0, .null, .null, .null, .null, .null, .int 0, .null, .null, .null, .int 0, .null, .null, .null, .int 0, .null])), (q1, .inl (cI, 5, .inl f2)), (q3, .inl (cI, 12, .inl f4)), (q5, .inl (cI, 12, .inl f6)), (q7, .inl (cI, 12, .inl f8)), (q9, .inl (cI, 12, .inl f10)), (q11, .inl (cI, 12, .inl f12))]) H := hP
  have hD : va_D A ([(o1, .inr (12, [.int 0, .ref q1, .int 0, .ref q3, .int 0, .ref q5, .ref q7, .int 0, .ref q9, .int 0, .null, .int 0, .int 0, .int 0, .null, .null, .null, .null, .null, .int 0, .null, .null, .null, .int 0, .null, .null, .null, .int 0, .null])), (q1, .inl (cI, 5, .inl f2)), (q3, .inl (cI, 12, .inl f4)), (q5, .inl (cI, 12, .inl f6)), (q7, .inl (cI, 12, .inl f8)), (q9, .inl (cI, 12, .inl f10)), (q11, .inl (cI, 12, .inl f12))]) := hD
  refine va_putF (D := (dC, dI)) (ci := 12) (v := .ref q11) (ty := .array .int) (C := RX12) (T := TX12) (N := 29) hx hb hts iw_X12_init_X12 tyX12 tyX12_ok nmX12 hown hK hP hD hS 0 rfl rfl 10 (by decide) (hts (.fieldLink RX12 25 "HolelessHouseModel" "order" "[I") hm_X12_init_10) (fun _ h9 => h9) rfl hin rfl (by decide +kernel) rfl rfl (Nat.le_of_ble_eq_true rfl) dX12_init_48 (fun H locs hP hD hS => ?_)
  have hP : va_P (dC, dI) vwCl ([(o1, .inr (12, [.int 0, .ref q1, .int 0, .ref q3, .int 0, .ref q5, .ref q7, .int 0, .ref q9, .int 0, .ref q11, .int 0, .int 0, .int 0, .null, .null, .null, .null, .null, .int 0, .null, .null, .null, .int 0, .null, .null, .null, .int 0, .null])), (q1, .inl (cI, 5, .inl f2)), (q3, .inl (cI, 12, .inl f4)), (q5, .inl (cI, 12, .inl f6)), (q7, .inl (cI, 12, .inl f8)), (q9, .inl (cI, 12, .inl f10)), (q11, .inl (cI, 12, .inl f12))]) H := hP
  have hD : va_D A ([(o1, .inr (12, [.int 0, .ref q1, .int 0, .ref q3, .int 0, .ref q5, .ref q7, .int 0, .ref q9, .int 0, .ref q11, .int 0, .int 0, .int 0, .null, .null, .null, .null, .null, .int 0, .null, .null, .null, .int 0, .null, .null, .null, .int 0, .null])), (q1, .inl (cI, 5, .inl f2)), (q3, .inl (cI, 12, .inl f4)), (q5, .inl (cI, 12, .inl f6)), (q7, .inl (cI, 12, .inl f8)), (q9, .inl (cI, 12, .inl f10)), (q11, .inl (cI, 12, .inl f12))]) := hD
  refine lv_aload_n hx hb dX12_init_51 rfl (lv_at hl 0 rfl) ?_
  refine lv_bipush (v := (-9)) hx hb dX12_init_52 (by decide) ?_
  refine va_put (D := (dC, dI)) (ci := 12) (v := .int (-9)) (ty := .int) (C := RX12) (T := TX12) (N := 29) hx hb hts iw_X12_init_X12 tyX12 tyX12_ok nmX12 hown hK hP hD hS 0 rfl rfl 11 (by decide) (hts (.fieldLink RX12 28 "HolelessHouseModel" "ordered" "I") hm_X12_init_11) (fun _ h9 => h9) rfl (by decide +kernel) rfl rfl (Nat.le_of_ble_eq_true rfl) dX12_init_54 (fun H locs hP hD hS => ?_)
  have hP : va_P (dC, dI) vwCl ([(o1, .inr (12, [.int 0, .ref q1, .int 0, .ref q3, .int 0, .ref q5, .ref q7, .int 0, .ref q9, .int 0, .ref q11, .int (-9), .int 0, .int 0, .null, .null, .null, .null, .null, .int 0, .null, .null, .null, .int 0, .null, .null, .null, .int 0, .null])), (q1, .inl (cI, 5, .inl f2)), (q3, .inl (cI, 12, .inl f4)), (q5, .inl (cI, 12, .inl f6)), (q7, .inl (cI, 12, .inl f8)), (q9, .inl (cI, 12, .inl f10)), (q11, .inl (cI, 12, .inl f12))]) H := hP
  have hD : va_D A ([(o1, .inr (12, [.int 0, .ref q1, .int 0, .ref q3, .int 0, .ref q5, .ref q7, .int 0, .ref q9, .int 0, .ref q11, .int (-9), .int 0, .int 0, .null, .null, .null, .null, .null, .int 0, .null, .null, .null, .int 0, .null, .null, .null, .int 0, .null])), (q1, .inl (cI, 5, .inl f2)), (q3, .inl (cI, 12, .inl f4)), (q5, .inl (cI, 12, .inl f6)), (q7, .inl (cI, 12, .inl f8)), (q9, .inl (cI, 12, .inl f10)), (q11, .inl (cI, 12, .inl f12))]) := hD
  refine lv_aload_n hx hb dX12_init_57 rfl (lv_at hl 0 rfl) ?_
  refine lv_bipush (v := 12) hx hb dX12_init_58 (by decide) ?_
  refine va_newa (atype := .int) (ty := .int) (N' := 12) (a0 := (12, .inl (fun _ => 0))) hx hb (hts (.arrayClass .int) hm_X12_init_4) rfl hK hP hD hS hA (fun _ => rfl) (by decide +kernel) (by decide +kernel) (by decide +kernel) (Nat.le_of_ble_eq_true rfl) (Nat.le_of_ble_eq_true rfl) dX12_init_60 (fun q13 cA H hK1 hP hD hS => ?_)
  refine W.widen (k := 7) (n := 77) (by decide) (by decide) ?_
  have e9 : cI = cA := K3_int hK1
  subst e9
  obtain ⟨f14, f14_e⟩ : ∃ g : Nat → Int32, g = fun _ => 0 := ⟨_, rfl⟩
  rw [← f14_e] at hP hD
  have f14_b : Bd 12 0 4095 f14 := by rw [f14_e]; exact bd_c ik_0 (by decide)
  have hP : va_P (dC, dI) vwCl ([(o1, .inr (12, [.int 0, .ref q1, .int 0, .ref q3, .int 0, .ref q5, .ref q7, .int 0, .ref q9, .int 0, .ref q11, .int (-9), .int 0, .int 0, .null, .null, .null, .null, .null, .int 0, .null, .null, .null, .int 0, .null, .null, .null, .int 0, .null])), (q1, .inl (cI, 5, .inl f2)), (q3, .inl (cI, 12, .inl f4)), (q5, .inl (cI, 12, .inl f6)), (q7, .inl (cI, 12, .inl f8)), (q9, .inl (cI, 12, .inl f10)), (q11, .inl (cI, 12, .inl f12)), (q13, .inl (cI, 12, .inl f14))]) H := hP
  have hD : va_D A ([(o1, .inr (12, [.int 0, .ref q1, .int 0, .ref q3, .int 0, .ref q5, .ref q7, .int 0, .ref q9, .int 0, .ref q11, .int (-9), .int 0, .int 0, .null, .null, .null, .null, .null, .int 0, .null, .null, .null, .int 0, .null, .null, .null, .int 0, .null])), (q1, .inl (cI, 5, .inl f2)), (q3, .inl (cI, 12, .inl f4)), (q5, .inl (cI, 12, .inl f6)), (q7, .inl (cI, 12, .inl f8)), (q9, .inl (cI, 12, .inl f10)), (q11, .inl (cI, 12, .inl f12)), (q13, .inl (cI, 12, .inl f14))]) := hD
  refine va_putF (D := (dC, dI)) (ci := 12) (v := .ref q13) (ty := .array .int) (C := RX12) (T := TX12) (N := 29) hx hb hts iw_X12_init_X12 tyX12 tyX12_ok nmX12 hown hK hP hD hS 0 rfl rfl 14 (by decide) (hts (.fieldLink RX12 32 "HolelessHouseModel" "left" "[I") hm_X12_init_12) (fun _ h9 => h9) rfl hin rfl (by decide +kernel) rfl rfl (Nat.le_of_ble_eq_true rfl) dX12_init_62 (fun H locs hP hD hS => ?_)
  have hP : va_P (dC, dI) vwCl ([(o1, .inr (12, [.int 0, .ref q1, .int 0, .ref q3, .int 0, .ref q5, .ref q7, .int 0, .ref q9, .int 0, .ref q11, .int (-9), .int 0, .int 0, .ref q13, .null, .null, .null, .null, .int 0, .null, .null, .null, .int 0, .null, .null, .null, .int 0, .null])), (q1, .inl (cI, 5, .inl f2)), (q3, .inl (cI, 12, .inl f4)), (q5, .inl (cI, 12, .inl f6)), (q7, .inl (cI, 12, .inl f8)), (q9, .inl (cI, 12, .inl f10)), (q11, .inl (cI, 12, .inl f12)), (q13, .inl (cI, 12, .inl f14))]) H := hP
  have hD : va_D A ([(o1, .inr (12, [.int 0, .ref q1, .int 0, .ref q3, .int 0, .ref q5, .ref q7, .int 0, .ref q9, .int 0, .ref q11, .int (-9), .int 0, .int 0, .ref q13, .null, .null, .null, .null, .int 0, .null, .null, .null, .int 0, .null, .null, .null, .int 0, .null])), (q1, .inl (cI, 5, .inl f2)), (q3, .inl (cI, 12, .inl f4)), (q5, .inl (cI, 12, .inl f6)), (q7, .inl (cI, 12, .inl f8)), (q9, .inl (cI, 12, .inl f10)), (q11, .inl (cI, 12, .inl f12)), (q13, .inl (cI, 12, .inl f14))]) := hD
  refine lv_aload_n hx hb dX12_init_65 rfl (lv_at hl 0 rfl) ?_
  refine lv_bipush (v := 12) hx hb dX12_init_66 (by decide) ?_
  refine va_newa (atype := .int) (ty := .int) (N' := 12) (a0 := (12, .inl (fun _ => 0))) hx hb (hts (.arrayClass .int) hm_X12_init_4) rfl hK hP hD hS hA (fun _ => rfl) (by decide +kernel) (by decide +kernel) (by decide +kernel) (Nat.le_of_ble_eq_true rfl) (Nat.le_of_ble_eq_true rfl) dX12_init_68 (fun q15 cA H hK1 hP hD hS => ?_)
  refine W.widen (k := 8) (n := 89) (by decide) (by decide) ?_
  have e9 : cI = cA := K3_int hK1
  subst e9
  obtain ⟨f16, f16_e⟩ : ∃ g : Nat → Int32, g = fun _ => 0 := ⟨_, rfl⟩
  rw [← f16_e] at hP hD
  have f16_b : Bd 12 0 4095 f16 := by rw [f16_e]; exact bd_c ik_0 (by decide)
  have hP : va_P (dC, dI) vwCl ([(o1, .inr (12, [.int 0, .ref q1, .int 0, .ref q3, .int 0, .ref q5, .ref q7, .int 0, .ref q9, .int 0, .ref q11, .int (-9), .int 0, .int 0, .ref q13, .null, .null, .null, .null, .int 0, .null, .null, .null, .int 0, .null, .null, .null, .int 0, .null])), (q1, .inl (cI, 5, .inl f2)), (q3, .inl (cI, 12, .inl f4)), (q5, .inl (cI, 12, .inl f6)), (q7, .inl (cI, 12, .inl f8)), (q9, .inl (cI, 12, .inl f10)), (q11, .inl (cI, 12, .inl f12)), (q13, .inl (cI, 12, .inl f14)), (q15, .inl (cI, 12, .inl f16))]) H := hP
  have hD : va_D A ([(o1, .inr (12, [.int 0, .ref q1, .int 0, .ref q3, .int 0, .ref q5, .ref q7, .int 0, .ref q9, .int 0, .ref q11, .int (-9), .int 0, .int 0, .ref q13, .null, .null, .null, .null, .int 0, .null, .null, .null, .int 0, .null, .null, .null, .int 0, .null])), (q1, .inl (cI, 5, .inl f2)), (q3, .inl (cI, 12, .inl f4)), (q5, .inl (cI, 12, .inl f6)), (q7, .inl (cI, 12, .inl f8)), (q9, .inl (cI, 12, .inl f10)), (q11, .inl (cI, 12, .inl f12)), (q13, .inl (cI, 12, .inl f14)), (q15, .inl (cI, 12, .inl f16))]) := hD
  refine va_putF (D := (dC, dI)) (ci := 12) (v := .ref q15) (ty := .array .int) (C := RX12) (T := TX12) (N := 29) hx hb hts iw_X12_init_X12 tyX12 tyX12_ok nmX12 hown hK hP hD hS 0 rfl rfl 15 (by decide) (hts (.fieldLink RX12 35 "HolelessHouseModel" "joins" "[I") hm_X12_init_13) (fun _ h9 => h9) rfl hin rfl (by decide +kernel) rfl rfl (Nat.le_of_ble_eq_true rfl) dX12_init_70 (fun H locs hP hD hS => ?_)
  have hP : va_P (dC, dI) vwCl ([(o1, .inr (12, [.int 0, .ref q1, .int 0, .ref q3, .int 0, .ref q5, .ref q7, .int 0, .ref q9, .int 0, .ref q11, .int (-9), .int 0, .int 0, .ref q13, .ref q15, .null, .null, .null, .int 0, .null, .null, .null, .int 0, .null, .null, .null, .int 0, .null])), (q1, .inl (cI, 5, .inl f2)), (q3, .inl (cI, 12, .inl f4)), (q5, .inl (cI, 12, .inl f6)), (q7, .inl (cI, 12, .inl f8)), (q9, .inl (cI, 12, .inl f10)), (q11, .inl (cI, 12, .inl f12)), (q13, .inl (cI, 12, .inl f14)), (q15, .inl (cI, 12, .inl f16))]) H := hP
  have hD : va_D A ([(o1, .inr (12, [.int 0, .ref q1, .int 0, .ref q3, .int 0, .ref q5, .ref q7, .int 0, .ref q9, .int 0, .ref q11, .int (-9), .int 0, .int 0, .ref q13, .ref q15, .null, .null, .null, .int 0, .null, .null, .null, .int 0, .null, .null, .null, .int 0, .null])), (q1, .inl (cI, 5, .inl f2)), (q3, .inl (cI, 12, .inl f4)), (q5, .inl (cI, 12, .inl f6)), (q7, .inl (cI, 12, .inl f8)), (q9, .inl (cI, 12, .inl f10)), (q11, .inl (cI, 12, .inl f12)), (q13, .inl (cI, 12, .inl f14)), (q15, .inl (cI, 12, .inl f16))]) := hD
  refine lv_aload_n hx hb dX12_init_73 rfl (lv_at hl 0 rfl) ?_
  refine lv_ldc (v := 49152) hx hb hown (hts (.constant RX12 38 (49152)) hm_X12_init_14) dX12_init_74 ?_
  refine va_newa (atype := .int) (ty := .int) (N' := 49152) (a0 := (49152, .inl (fun _ => 0))) hx hb (hts (.arrayClass .int) hm_X12_init_4) rfl hK hP hD hS hA (fun _ => rfl) (by decide +kernel) (by decide +kernel) (by decide +kernel) (Nat.le_of_ble_eq_true rfl) (Nat.le_of_ble_eq_true rfl) dX12_init_76 (fun q17 cA H hK1 hP hD hS => ?_)
  refine W.widen (k := 9) (n := 49241) (by decide) (by decide) ?_
  have e9 : cI = cA := K3_int hK1
  subst e9
  obtain ⟨f18, f18_e⟩ : ∃ g : Nat → Int32, g = fun _ => 0 := ⟨_, rfl⟩
  rw [← f18_e] at hP hD
  have f18_b : Bd 49152 0 4095 f18 := by rw [f18_e]; exact bd_c ik_0 (by decide)
  have hP : va_P (dC, dI) vwCl ([(o1, .inr (12, [.int 0, .ref q1, .int 0, .ref q3, .int 0, .ref q5, .ref q7, .int 0, .ref q9, .int 0, .ref q11, .int (-9), .int 0, .int 0, .ref q13, .ref q15, .null, .null, .null, .int 0, .null, .null, .null, .int 0, .null, .null, .null, .int 0, .null])), (q1, .inl (cI, 5, .inl f2)), (q3, .inl (cI, 12, .inl f4)), (q5, .inl (cI, 12, .inl f6)), (q7, .inl (cI, 12, .inl f8)), (q9, .inl (cI, 12, .inl f10)), (q11, .inl (cI, 12, .inl f12)), (q13, .inl (cI, 12, .inl f14)), (q15, .inl (cI, 12, .inl f16)), (q17, .inl (cI, 49152, .inl f18))]) H := hP
  have hD : va_D A ([(o1, .inr (12, [.int 0, .ref q1, .int 0, .ref q3, .int 0, .ref q5, .ref q7, .int 0, .ref q9, .int 0, .ref q11, .int (-9), .int 0, .int 0, .ref q13, .ref q15, .null, .null, .null, .int 0, .null, .null, .null, .int 0, .null, .null, .null, .int 0, .null])), (q1, .inl (cI, 5, .inl f2)), (q3, .inl (cI, 12, .inl f4)), (q5, .inl (cI, 12, .inl f6)), (q7, .inl (cI, 12, .inl f8)), (q9, .inl (cI, 12, .inl f10)), (q11, .inl (cI, 12, .inl f12)), (q13, .inl (cI, 12, .inl f14)), (q15, .inl (cI, 12, .inl f16)), (q17, .inl (cI, 49152, .inl f18))]) := hD
  refine va_putF (D := (dC, dI)) (ci := 12) (v := .ref q17) (ty := .array .int) (C := RX12) (T := TX12) (N := 29) hx hb hts iw_X12_init_X12 tyX12 tyX12_ok nmX12 hown hK hP hD hS 0 rfl rfl 16 (by decide) (hts (.fieldLink RX12 39 "HolelessHouseModel" "nearThen" "[I") hm_X12_init_15) (fun _ h9 => h9) rfl hin rfl (by decide +kernel) rfl rfl (Nat.le_of_ble_eq_true rfl) dX12_init_78 (fun H locs hP hD hS => ?_)
  have hP : va_P (dC, dI) vwCl ([(o1, .inr (12, [.int 0, .ref q1, .int 0, .ref q3, .int 0, .ref q5, .ref q7, .int 0, .ref q9, .int 0, .ref q11, .int (-9), .int 0, .int 0, .ref q13, .ref q15, .ref q17, .null, .null, .int 0, .null, .null, .null, .int 0, .null, .null, .null, .int 0, .null])), (q1, .inl (cI, 5, .inl f2)), (q3, .inl (cI, 12, .inl f4)), (q5, .inl (cI, 12, .inl f6)), (q7, .inl (cI, 12, .inl f8)), (q9, .inl (cI, 12, .inl f10)), (q11, .inl (cI, 12, .inl f12)), (q13, .inl (cI, 12, .inl f14)), (q15, .inl (cI, 12, .inl f16)), (q17, .inl (cI, 49152, .inl f18))]) H := hP
  have hD : va_D A ([(o1, .inr (12, [.int 0, .ref q1, .int 0, .ref q3, .int 0, .ref q5, .ref q7, .int 0, .ref q9, .int 0, .ref q11, .int (-9), .int 0, .int 0, .ref q13, .ref q15, .ref q17, .null, .null, .int 0, .null, .null, .null, .int 0, .null, .null, .null, .int 0, .null])), (q1, .inl (cI, 5, .inl f2)), (q3, .inl (cI, 12, .inl f4)), (q5, .inl (cI, 12, .inl f6)), (q7, .inl (cI, 12, .inl f8)), (q9, .inl (cI, 12, .inl f10)), (q11, .inl (cI, 12, .inl f12)), (q13, .inl (cI, 12, .inl f14)), (q15, .inl (cI, 12, .inl f16)), (q17, .inl (cI, 49152, .inl f18))]) := hD
  refine lv_aload_n hx hb dX12_init_81 rfl (lv_at hl 0 rfl) ?_
  refine lv_sipush (v := 4096) hx hb dX12_init_82 (by decide) ?_
  refine va_newa (atype := .int) (ty := .int) (N' := 4096) (a0 := (4096, .inl (fun _ => 0))) hx hb (hts (.arrayClass .int) hm_X12_init_4) rfl hK hP hD hS hA (fun _ => rfl) (by decide +kernel) (by decide +kernel) (by decide +kernel) (Nat.le_of_ble_eq_true rfl) (Nat.le_of_ble_eq_true rfl) dX12_init_85 (fun q19 cA H hK1 hP hD hS => ?_)
  refine W.widen (k := 10) (n := 53337) (by decide) (by decide) ?_
  have e9 : cI = cA := K3_int hK1
  subst e9
  obtain ⟨f20, f20_e⟩ : ∃ g : Nat → Int32, g = fun _ => 0 := ⟨_, rfl⟩
  rw [← f20_e] at hP hD
  have hP : va_P (dC, dI) vwCl ([(o1, .inr (12, [.int 0, .ref q1, .int 0, .ref q3, .int 0, .ref q5, .ref q7, .int 0, .ref q9, .int 0, .ref q11, .int (-9), .int 0, .int 0, .ref q13, .ref q15, .ref q17, .null, .null, .int 0, .null, .null, .null, .int 0, .null, .null, .null, .int 0, .null])), (q1, .inl (cI, 5, .inl f2)), (q3, .inl (cI, 12, .inl f4)), (q5, .inl (cI, 12, .inl f6)), (q7, .inl (cI, 12, .inl f8)), (q9, .inl (cI, 12, .inl f10)), (q11, .inl (cI, 12, .inl f12)), (q13, .inl (cI, 12, .inl f14)), (q15, .inl (cI, 12, .inl f16)), (q17, .inl (cI, 49152, .inl f18)), (q19, .inl (cI, 4096, .inl f20))]) H := hP
  have hD : va_D A ([(o1, .inr (12, [.int 0, .ref q1, .int 0, .ref q3, .int 0, .ref q5, .ref q7, .int 0, .ref q9, .int 0, .ref q11, .int (-9), .int 0, .int 0, .ref q13, .ref q15, .ref q17, .null, .null, .int 0, .null, .null, .null, .int 0, .null, .null, .null, .int 0, .null])), (q1, .inl (cI, 5, .inl f2)), (q3, .inl (cI, 12, .inl f4)), (q5, .inl (cI, 12, .inl f6)), (q7, .inl (cI, 12, .inl f8)), (q9, .inl (cI, 12, .inl f10)), (q11, .inl (cI, 12, .inl f12)), (q13, .inl (cI, 12, .inl f14)), (q15, .inl (cI, 12, .inl f16)), (q17, .inl (cI, 49152, .inl f18)), (q19, .inl (cI, 4096, .inl f20))]) := hD
  refine va_putF (D := (dC, dI)) (ci := 12) (v := .ref q19) (ty := .array .int) (C := RX12) (T := TX12) (N := 29) hx hb hts iw_X12_init_X12 tyX12 tyX12_ok nmX12 hown hK hP hD hS 0 rfl rfl 17 (by decide) (hts (.fieldLink RX12 42 "HolelessHouseModel" "least" "[I") hm_X12_init_16) (fun _ h9 => h9) rfl hin rfl (by decide +kernel) rfl rfl (Nat.le_of_ble_eq_true rfl) dX12_init_87 (fun H locs hP hD hS => ?_)
  have hP : va_P (dC, dI) vwCl ([(o1, .inr (12, [.int 0, .ref q1, .int 0, .ref q3, .int 0, .ref q5, .ref q7, .int 0, .ref q9, .int 0, .ref q11, .int (-9), .int 0, .int 0, .ref q13, .ref q15, .ref q17, .ref q19, .null, .int 0, .null, .null, .null, .int 0, .null, .null, .null, .int 0, .null])), (q1, .inl (cI, 5, .inl f2)), (q3, .inl (cI, 12, .inl f4)), (q5, .inl (cI, 12, .inl f6)), (q7, .inl (cI, 12, .inl f8)), (q9, .inl (cI, 12, .inl f10)), (q11, .inl (cI, 12, .inl f12)), (q13, .inl (cI, 12, .inl f14)), (q15, .inl (cI, 12, .inl f16)), (q17, .inl (cI, 49152, .inl f18)), (q19, .inl (cI, 4096, .inl f20))]) H := hP
  have hD : va_D A ([(o1, .inr (12, [.int 0, .ref q1, .int 0, .ref q3, .int 0, .ref q5, .ref q7, .int 0, .ref q9, .int 0, .ref q11, .int (-9), .int 0, .int 0, .ref q13, .ref q15, .ref q17, .ref q19, .null, .int 0, .null, .null, .null, .int 0, .null, .null, .null, .int 0, .null])), (q1, .inl (cI, 5, .inl f2)), (q3, .inl (cI, 12, .inl f4)), (q5, .inl (cI, 12, .inl f6)), (q7, .inl (cI, 12, .inl f8)), (q9, .inl (cI, 12, .inl f10)), (q11, .inl (cI, 12, .inl f12)), (q13, .inl (cI, 12, .inl f14)), (q15, .inl (cI, 12, .inl f16)), (q17, .inl (cI, 49152, .inl f18)), (q19, .inl (cI, 4096, .inl f20))]) := hD
  refine lv_aload_n hx hb dX12_init_90 rfl (lv_at hl 0 rfl) ?_
  refine lv_bipush (v := 100) hx hb dX12_init_91 (by decide) ?_
  refine va_newa (atype := .int) (ty := .int) (N' := 100) (a0 := (100, .inl (fun _ => 0))) hx hb (hts (.arrayClass .int) hm_X12_init_4) rfl hK hP hD hS hA (fun _ => rfl) (by decide +kernel) (by decide +kernel) (by decide +kernel) (Nat.le_of_ble_eq_true rfl) (Nat.le_of_ble_eq_true rfl) dX12_init_93 (fun q21 cA H hK1 hP hD hS => ?_)
  refine W.widen (k := 11) (n := 53437) (by decide) (by decide) ?_
  have e9 : cI = cA := K3_int hK1
  subst e9
  obtain ⟨f22, f22_e⟩ : ∃ g : Nat → Int32, g = fun _ => 0 := ⟨_, rfl⟩
  rw [← f22_e] at hP hD
  have f22_b : Bd 100 0 4095 f22 := by rw [f22_e]; exact bd_c ik_0 (by decide)
  have hP : va_P (dC, dI) vwCl ([(o1, .inr (12, [.int 0, .ref q1, .int 0, .ref q3, .int 0, .ref q5, .ref q7, .int 0, .ref q9, .int 0, .ref q11, .int (-9), .int 0, .int 0, .ref q13, .ref q15, .ref q17, .ref q19, .null, .int 0, .null, .null, .null, .int 0, .null, .null, .null, .int 0, .null])), (q1, .inl (cI, 5, .inl f2)), (q3, .inl (cI, 12, .inl f4)), (q5, .inl (cI, 12, .inl f6)), (q7, .inl (cI, 12, .inl f8)), (q9, .inl (cI, 12, .inl f10)), (q11, .inl (cI, 12, .inl f12)), (q13, .inl (cI, 12, .inl f14)), (q15, .inl (cI, 12, .inl f16)), (q17, .inl (cI, 49152, .inl f18)), (q19, .inl (cI, 4096, .inl f20)), (q21, .inl (cI, 100, .inl f22))]) H := hP
  have hD : va_D A ([(o1, .inr (12, [.int 0, .ref q1, .int 0, .ref q3, .int 0, .ref q5, .ref q7, .int 0, .ref q9, .int 0, .ref q11, .int (-9), .int 0, .int 0, .ref q13, .ref q15, .ref q17, .ref q19, .null, .int 0, .null, .null, .null, .int 0, .null, .null, .null, .int 0, .null])), (q1, .inl (cI, 5, .inl f2)), (q3, .inl (cI, 12, .inl f4)), (q5, .inl (cI, 12, .inl f6)), (q7, .inl (cI, 12, .inl f8)), (q9, .inl (cI, 12, .inl f10)), (q11, .inl (cI, 12, .inl f12)), (q13, .inl (cI, 12, .inl f14)), (q15, .inl (cI, 12, .inl f16)), (q17, .inl (cI, 49152, .inl f18)), (q19, .inl (cI, 4096, .inl f20)), (q21, .inl (cI, 100, .inl f22))]) := hD
  refine va_putF (D := (dC, dI)) (ci := 12) (v := .ref q21) (ty := .array .int) (C := RX12) (T := TX12) (N := 29) hx hb hts iw_X12_init_X12 tyX12 tyX12_ok nmX12 hown hK hP hD hS 0 rfl rfl 18 (by decide) (hts (.fieldLink RX12 45 "HolelessHouseModel" "cliques" "[I") hm_X12_init_17) (fun _ h9 => h9) rfl hin rfl (by decide +kernel) rfl rfl (Nat.le_of_ble_eq_true rfl) dX12_init_95 (fun H locs hP hD hS => ?_)
  have hP : va_P (dC, dI) vwCl ([(o1, .inr (12, [.int 0, .ref q1, .int 0, .ref q3, .int 0, .ref q5, .ref q7, .int 0, .ref q9, .int 0, .ref q11, .int (-9), .int 0, .int 0, .ref q13, .ref q15, .ref q17, .ref q19, .ref q21, .int 0, .null, .null, .null, .int 0, .null, .null, .null, .int 0, .null])), (q1, .inl (cI, 5, .inl f2)), (q3, .inl (cI, 12, .inl f4)), (q5, .inl (cI, 12, .inl f6)), (q7, .inl (cI, 12, .inl f8)), (q9, .inl (cI, 12, .inl f10)), (q11, .inl (cI, 12, .inl f12)), (q13, .inl (cI, 12, .inl f14)), (q15, .inl (cI, 12, .inl f16)), (q17, .inl (cI, 49152, .inl f18)), (q19, .inl (cI, 4096, .inl f20)), (q21, .inl (cI, 100, .inl f22))]) H := hP
  have hD : va_D A ([(o1, .inr (12, [.int 0, .ref q1, .int 0, .ref q3, .int 0, .ref q5, .ref q7, .int 0, .ref q9, .int 0, .ref q11, .int (-9), .int 0, .int 0, .ref q13, .ref q15, .ref q17, .ref q19, .ref q21, .int 0, .null, .null, .null, .int 0, .null, .null, .null, .int 0, .null])), (q1, .inl (cI, 5, .inl f2)), (q3, .inl (cI, 12, .inl f4)), (q5, .inl (cI, 12, .inl f6)), (q7, .inl (cI, 12, .inl f8)), (q9, .inl (cI, 12, .inl f10)), (q11, .inl (cI, 12, .inl f12)), (q13, .inl (cI, 12, .inl f14)), (q15, .inl (cI, 12, .inl f16)), (q17, .inl (cI, 49152, .inl f18)), (q19, .inl (cI, 4096, .inl f20)), (q21, .inl (cI, 100, .inl f22))]) := hD
  refine lv_aload_n hx hb dX12_init_98 rfl (lv_at hl 0 rfl) ?_
  refine lv_bipush (v := 12) hx hb dX12_init_99 (by decide) ?_
  refine va_newa (atype := .int) (ty := .int) (N' := 12) (a0 := (12, .inl (fun _ => 0))) hx hb (hts (.arrayClass .int) hm_X12_init_4) rfl hK hP hD hS hA (fun _ => rfl) (by decide +kernel) (by decide +kernel) (by decide +kernel) (Nat.le_of_ble_eq_true rfl) (Nat.le_of_ble_eq_true rfl) dX12_init_101 (fun q23 cA H hK1 hP hD hS => ?_)
  refine W.widen (k := 12) (n := 53449) (by decide) (by decide) ?_
  have e9 : cI = cA := K3_int hK1
  subst e9
  obtain ⟨f24, f24_e⟩ : ∃ g : Nat → Int32, g = fun _ => 0 := ⟨_, rfl⟩
  rw [← f24_e] at hP hD
  have f24_b : Bd 12 0 11 f24 := by rw [f24_e]; exact bd_c ik_0 (by decide)
  have hP : va_P (dC, dI) vwCl ([(o1, .inr (12, [.int 0, .ref q1, .int 0, .ref q3, .int 0, .ref q5, .ref q7, .int 0, .ref q9, .int 0, .ref q11, .int (-9), .int 0, .int 0, .ref q13, .ref q15, .ref q17, .ref q19, .ref q21, .int 0, .null, .null, .null, .int 0, .null, .null, .null, .int 0, .null])), (q1, .inl (cI, 5, .inl f2)), (q3, .inl (cI, 12, .inl f4)), (q5, .inl (cI, 12, .inl f6)), (q7, .inl (cI, 12, .inl f8)), (q9, .inl (cI, 12, .inl f10)), (q11, .inl (cI, 12, .inl f12)), (q13, .inl (cI, 12, .inl f14)), (q15, .inl (cI, 12, .inl f16)), (q17, .inl (cI, 49152, .inl f18)), (q19, .inl (cI, 4096, .inl f20)), (q21, .inl (cI, 100, .inl f22)), (q23, .inl (cI, 12, .inl f24))]) H := hP
  have hD : va_D A ([(o1, .inr (12, [.int 0, .ref q1, .int 0, .ref q3, .int 0, .ref q5, .ref q7, .int 0, .ref q9, .int 0, .ref q11, .int (-9), .int 0, .int 0, .ref q13, .ref q15, .ref q17, .ref q19, .ref q21, .int 0, .null, .null, .null, .int 0, .null, .null, .null, .int 0, .null])), (q1, .inl (cI, 5, .inl f2)), (q3, .inl (cI, 12, .inl f4)), (q5, .inl (cI, 12, .inl f6)), (q7, .inl (cI, 12, .inl f8)), (q9, .inl (cI, 12, .inl f10)), (q11, .inl (cI, 12, .inl f12)), (q13, .inl (cI, 12, .inl f14)), (q15, .inl (cI, 12, .inl f16)), (q17, .inl (cI, 49152, .inl f18)), (q19, .inl (cI, 4096, .inl f20)), (q21, .inl (cI, 100, .inl f22)), (q23, .inl (cI, 12, .inl f24))]) := hD
  refine va_putF (D := (dC, dI)) (ci := 12) (v := .ref q23) (ty := .array .int) (C := RX12) (T := TX12) (N := 29) hx hb hts iw_X12_init_X12 tyX12 tyX12_ok nmX12 hown hK hP hD hS 0 rfl rfl 20 (by decide) (hts (.fieldLink RX12 48 "HolelessHouseModel" "colours" "[I") hm_X12_init_18) (fun _ h9 => h9) rfl hin rfl (by decide +kernel) rfl rfl (Nat.le_of_ble_eq_true rfl) dX12_init_103 (fun H locs hP hD hS => ?_)
  have hP : va_P (dC, dI) vwCl ([(o1, .inr (12, [.int 0, .ref q1, .int 0, .ref q3, .int 0, .ref q5, .ref q7, .int 0, .ref q9, .int 0, .ref q11, .int (-9), .int 0, .int 0, .ref q13, .ref q15, .ref q17, .ref q19, .ref q21, .int 0, .ref q23, .null, .null, .int 0, .null, .null, .null, .int 0, .null])), (q1, .inl (cI, 5, .inl f2)), (q3, .inl (cI, 12, .inl f4)), (q5, .inl (cI, 12, .inl f6)), (q7, .inl (cI, 12, .inl f8)), (q9, .inl (cI, 12, .inl f10)), (q11, .inl (cI, 12, .inl f12)), (q13, .inl (cI, 12, .inl f14)), (q15, .inl (cI, 12, .inl f16)), (q17, .inl (cI, 49152, .inl f18)), (q19, .inl (cI, 4096, .inl f20)), (q21, .inl (cI, 100, .inl f22)), (q23, .inl (cI, 12, .inl f24))]) H := hP
  have hD : va_D A ([(o1, .inr (12, [.int 0, .ref q1, .int 0, .ref q3, .int 0, .ref q5, .ref q7, .int 0, .ref q9, .int 0, .ref q11, .int (-9), .int 0, .int 0, .ref q13, .ref q15, .ref q17, .ref q19, .ref q21, .int 0, .ref q23, .null, .null, .int 0, .null, .null, .null, .int 0, .null])), (q1, .inl (cI, 5, .inl f2)), (q3, .inl (cI, 12, .inl f4)), (q5, .inl (cI, 12, .inl f6)), (q7, .inl (cI, 12, .inl f8)), (q9, .inl (cI, 12, .inl f10)), (q11, .inl (cI, 12, .inl f12)), (q13, .inl (cI, 12, .inl f14)), (q15, .inl (cI, 12, .inl f16)), (q17, .inl (cI, 49152, .inl f18)), (q19, .inl (cI, 4096, .inl f20)), (q21, .inl (cI, 100, .inl f22)), (q23, .inl (cI, 12, .inl f24))]) := hD
  refine lv_aload_n hx hb dX12_init_106 rfl (lv_at hl 0 rfl) ?_
  refine lv_bipush (v := 100) hx hb dX12_init_107 (by decide) ?_
  refine va_newa (atype := .int) (ty := .int) (N' := 100) (a0 := (100, .inl (fun _ => 0))) hx hb (hts (.arrayClass .int) hm_X12_init_4) rfl hK hP hD hS hA (fun _ => rfl) (by decide +kernel) (by decide +kernel) (by decide +kernel) (Nat.le_of_ble_eq_true rfl) (Nat.le_of_ble_eq_true rfl) dX12_init_109 (fun q25 cA H hK1 hP hD hS => ?_)
  refine W.widen (k := 13) (n := 53549) (by decide) (by decide) ?_
  have e9 : cI = cA := K3_int hK1
  subst e9
  obtain ⟨f26, f26_e⟩ : ∃ g : Nat → Int32, g = fun _ => 0 := ⟨_, rfl⟩
  rw [← f26_e] at hP hD
  have f26_b : Bd 100 (-9) 99 f26 := by rw [f26_e]; exact bd_c ik_0 (by decide)
  have hP : va_P (dC, dI) vwCl ([(o1, .inr (12, [.int 0, .ref q1, .int 0, .ref q3, .int 0, .ref q5, .ref q7, .int 0, .ref q9, .int 0, .ref q11, .int (-9), .int 0, .int 0, .ref q13, .ref q15, .ref q17, .ref q19, .ref q21, .int 0, .ref q23, .null, .null, .int 0, .null, .null, .null, .int 0, .null])), (q1, .inl (cI, 5, .inl f2)), (q3, .inl (cI, 12, .inl f4)), (q5, .inl (cI, 12, .inl f6)), (q7, .inl (cI, 12, .inl f8)), (q9, .inl (cI, 12, .inl f10)), (q11, .inl (cI, 12, .inl f12)), (q13, .inl (cI, 12, .inl f14)), (q15, .inl (cI, 12, .inl f16)), (q17, .inl (cI, 49152, .inl f18)), (q19, .inl (cI, 4096, .inl f20)), (q21, .inl (cI, 100, .inl f22)), (q23, .inl (cI, 12, .inl f24)), (q25, .inl (cI, 100, .inl f26))]) H := hP
  have hD : va_D A ([(o1, .inr (12, [.int 0, .ref q1, .int 0, .ref q3, .int 0, .ref q5, .ref q7, .int 0, .ref q9, .int 0, .ref q11, .int (-9), .int 0, .int 0, .ref q13, .ref q15, .ref q17, .ref q19, .ref q21, .int 0, .ref q23, .null, .null, .int 0, .null, .null, .null, .int 0, .null])), (q1, .inl (cI, 5, .inl f2)), (q3, .inl (cI, 12, .inl f4)), (q5, .inl (cI, 12, .inl f6)), (q7, .inl (cI, 12, .inl f8)), (q9, .inl (cI, 12, .inl f10)), (q11, .inl (cI, 12, .inl f12)), (q13, .inl (cI, 12, .inl f14)), (q15, .inl (cI, 12, .inl f16)), (q17, .inl (cI, 49152, .inl f18)), (q19, .inl (cI, 4096, .inl f20)), (q21, .inl (cI, 100, .inl f22)), (q23, .inl (cI, 12, .inl f24)), (q25, .inl (cI, 100, .inl f26))]) := hD
  refine va_putF (D := (dC, dI)) (ci := 12) (v := .ref q25) (ty := .array .int) (C := RX12) (T := TX12) (N := 29) hx hb hts iw_X12_init_X12 tyX12 tyX12_ok nmX12 hown hK hP hD hS 0 rfl rfl 21 (by decide) (hts (.fieldLink RX12 51 "HolelessHouseModel" "parents" "[I") hm_X12_init_19) (fun _ h9 => h9) rfl hin rfl (by decide +kernel) rfl rfl (Nat.le_of_ble_eq_true rfl) dX12_init_111 (fun H locs hP hD hS => ?_)
  have hP : va_P (dC, dI) vwCl ([(o1, .inr (12, [.int 0, .ref q1, .int 0, .ref q3, .int 0, .ref q5, .ref q7, .int 0, .ref q9, .int 0, .ref q11, .int (-9), .int 0, .int 0, .ref q13, .ref q15, .ref q17, .ref q19, .ref q21, .int 0, .ref q23, .ref q25, .null, .int 0, .null, .null, .null, .int 0, .null])), (q1, .inl (cI, 5, .inl f2)), (q3, .inl (cI, 12, .inl f4)), (q5, .inl (cI, 12, .inl f6)), (q7, .inl (cI, 12, .inl f8)), (q9, .inl (cI, 12, .inl f10)), (q11, .inl (cI, 12, .inl f12)), (q13, .inl (cI, 12, .inl f14)), (q15, .inl (cI, 12, .inl f16)), (q17, .inl (cI, 49152, .inl f18)), (q19, .inl (cI, 4096, .inl f20)), (q21, .inl (cI, 100, .inl f22)), (q23, .inl (cI, 12, .inl f24)), (q25, .inl (cI, 100, .inl f26))]) H := hP
  have hD : va_D A ([(o1, .inr (12, [.int 0, .ref q1, .int 0, .ref q3, .int 0, .ref q5, .ref q7, .int 0, .ref q9, .int 0, .ref q11, .int (-9), .int 0, .int 0, .ref q13, .ref q15, .ref q17, .ref q19, .ref q21, .int 0, .ref q23, .ref q25, .null, .int 0, .null, .null, .null, .int 0, .null])), (q1, .inl (cI, 5, .inl f2)), (q3, .inl (cI, 12, .inl f4)), (q5, .inl (cI, 12, .inl f6)), (q7, .inl (cI, 12, .inl f8)), (q9, .inl (cI, 12, .inl f10)), (q11, .inl (cI, 12, .inl f12)), (q13, .inl (cI, 12, .inl f14)), (q15, .inl (cI, 12, .inl f16)), (q17, .inl (cI, 49152, .inl f18)), (q19, .inl (cI, 4096, .inl f20)), (q21, .inl (cI, 100, .inl f22)), (q23, .inl (cI, 12, .inl f24)), (q25, .inl (cI, 100, .inl f26))]) := hD
  refine lv_aload_n hx hb dX12_init_114 rfl (lv_at hl 0 rfl) ?_
  refine lv_bipush (v := 12) hx hb dX12_init_115 (by decide) ?_
  refine va_newa (atype := .int) (ty := .int) (N' := 12) (a0 := (12, .inl (fun _ => 0))) hx hb (hts (.arrayClass .int) hm_X12_init_4) rfl hK hP hD hS hA (fun _ => rfl) (by decide +kernel) (by decide +kernel) (by decide +kernel) (Nat.le_of_ble_eq_true rfl) (Nat.le_of_ble_eq_true rfl) dX12_init_117 (fun q27 cA H hK1 hP hD hS => ?_)
  refine W.widen (k := 14) (n := 53561) (by decide) (by decide) ?_
  have e9 : cI = cA := K3_int hK1
  subst e9
  obtain ⟨f28, f28_e⟩ : ∃ g : Nat → Int32, g = fun _ => 0 := ⟨_, rfl⟩
  rw [← f28_e] at hP hD
  have hP : va_P (dC, dI) vwCl ([(o1, .inr (12, [.int 0, .ref q1, .int 0, .ref q3, .int 0, .ref q5, .ref q7, .int 0, .ref q9, .int 0, .ref q11, .int (-9), .int 0, .int 0, .ref q13, .ref q15, .ref q17, .ref q19, .ref q21, .int 0, .ref q23, .ref q25, .null, .int 0, .null, .null, .null, .int 0, .null])), (q1, .inl (cI, 5, .inl f2)), (q3, .inl (cI, 12, .inl f4)), (q5, .inl (cI, 12, .inl f6)), (q7, .inl (cI, 12, .inl f8)), (q9, .inl (cI, 12, .inl f10)), (q11, .inl (cI, 12, .inl f12)), (q13, .inl (cI, 12, .inl f14)), (q15, .inl (cI, 12, .inl f16)), (q17, .inl (cI, 49152, .inl f18)), (q19, .inl (cI, 4096, .inl f20)), (q21, .inl (cI, 100, .inl f22)), (q23, .inl (cI, 12, .inl f24)), (q25, .inl (cI, 100, .inl f26)), (q27, .inl (cI, 12, .inl f28))]) H := hP
  have hD : va_D A ([(o1, .inr (12, [.int 0, .ref q1, .int 0, .ref q3, .int 0, .ref q5, .ref q7, .int 0, .ref q9, .int 0, .ref q11, .int (-9), .int 0, .int 0, .ref q13, .ref q15, .ref q17, .ref q19, .ref q21, .int 0, .ref q23, .ref q25, .null, .int 0, .null, .null, .null, .int 0, .null])), (q1, .inl (cI, 5, .inl f2)), (q3, .inl (cI, 12, .inl f4)), (q5, .inl (cI, 12, .inl f6)), (q7, .inl (cI, 12, .inl f8)), (q9, .inl (cI, 12, .inl f10)), (q11, .inl (cI, 12, .inl f12)), (q13, .inl (cI, 12, .inl f14)), (q15, .inl (cI, 12, .inl f16)), (q17, .inl (cI, 49152, .inl f18)), (q19, .inl (cI, 4096, .inl f20)), (q21, .inl (cI, 100, .inl f22)), (q23, .inl (cI, 12, .inl f24)), (q25, .inl (cI, 100, .inl f26)), (q27, .inl (cI, 12, .inl f28))]) := hD
  refine va_putF (D := (dC, dI)) (ci := 12) (v := .ref q27) (ty := .array .int) (C := RX12) (T := TX12) (N := 29) hx hb hts iw_X12_init_X12 tyX12 tyX12_ok nmX12 hown hK hP hD hS 0 rfl rfl 22 (by decide) (hts (.fieldLink RX12 54 "HolelessHouseModel" "things" "[I") hm_X12_init_20) (fun _ h9 => h9) rfl hin rfl (by decide +kernel) rfl rfl (Nat.le_of_ble_eq_true rfl) dX12_init_119 (fun H locs hP hD hS => ?_)
  have hP : va_P (dC, dI) vwCl ([(o1, .inr (12, [.int 0, .ref q1, .int 0, .ref q3, .int 0, .ref q5, .ref q7, .int 0, .ref q9, .int 0, .ref q11, .int (-9), .int 0, .int 0, .ref q13, .ref q15, .ref q17, .ref q19, .ref q21, .int 0, .ref q23, .ref q25, .ref q27, .int 0, .null, .null, .null, .int 0, .null])), (q1, .inl (cI, 5, .inl f2)), (q3, .inl (cI, 12, .inl f4)), (q5, .inl (cI, 12, .inl f6)), (q7, .inl (cI, 12, .inl f8)), (q9, .inl (cI, 12, .inl f10)), (q11, .inl (cI, 12, .inl f12)), (q13, .inl (cI, 12, .inl f14)), (q15, .inl (cI, 12, .inl f16)), (q17, .inl (cI, 49152, .inl f18)), (q19, .inl (cI, 4096, .inl f20)), (q21, .inl (cI, 100, .inl f22)), (q23, .inl (cI, 12, .inl f24)), (q25, .inl (cI, 100, .inl f26)), (q27, .inl (cI, 12, .inl f28))]) H := hP
  have hD : va_D A ([(o1, .inr (12, [.int 0, .ref q1, .int 0, .ref q3, .int 0, .ref q5, .ref q7, .int 0, .ref q9, .int 0, .ref q11, .int (-9), .int 0, .int 0, .ref q13, .ref q15, .ref q17, .ref q19, .ref q21, .int 0, .ref q23, .ref q25, .ref q27, .int 0, .null, .null, .null, .int 0, .null])), (q1, .inl (cI, 5, .inl f2)), (q3, .inl (cI, 12, .inl f4)), (q5, .inl (cI, 12, .inl f6)), (q7, .inl (cI, 12, .inl f8)), (q9, .inl (cI, 12, .inl f10)), (q11, .inl (cI, 12, .inl f12)), (q13, .inl (cI, 12, .inl f14)), (q15, .inl (cI, 12, .inl f16)), (q17, .inl (cI, 49152, .inl f18)), (q19, .inl (cI, 4096, .inl f20)), (q21, .inl (cI, 100, .inl f22)), (q23, .inl (cI, 12, .inl f24)), (q25, .inl (cI, 100, .inl f26)), (q27, .inl (cI, 12, .inl f28))]) := hD
  refine lv_aload_n hx hb dX12_init_122 rfl (lv_at hl 0 rfl) ?_
  refine lv_ldc (v := 49152) hx hb hown (hts (.constant RX12 38 (49152)) hm_X12_init_14) dX12_init_123 ?_
  refine va_newa (atype := .boolean) (ty := .boolean) (N' := 49152) (a0 := (49152, .inl (fun _ => 0))) hx hb (hts (.arrayClass .boolean) hm_X12_init_21) rfl hK hP hD hS hA (fun _ => rfl) (by decide +kernel) (by decide +kernel) (by decide +kernel) (Nat.le_of_ble_eq_true rfl) (Nat.le_of_ble_eq_true rfl) dX12_init_125 (fun q29 cA H hK1 hP hD hS => ?_)
  refine W.widen (k := 15) (n := 102713) (by decide) (by decide) ?_
  have e9 : cZ = cA := K3_z hK1
  subst e9
  obtain ⟨f30, f30_e⟩ : ∃ g : Nat → Int32, g = fun _ => 0 := ⟨_, rfl⟩
  rw [← f30_e] at hP hD
  have hP : va_P (dC, dI) vwCl ([(o1, .inr (12, [.int 0, .ref q1, .int 0, .ref q3, .int 0, .ref q5, .ref q7, .int 0, .ref q9, .int 0, .ref q11, .int (-9), .int 0, .int 0, .ref q13, .ref q15, .ref q17, .ref q19, .ref q21, .int 0, .ref q23, .ref q25, .ref q27, .int 0, .null, .null, .null, .int 0, .null])), (q1, .inl (cI, 5, .inl f2)), (q3, .inl (cI, 12, .inl f4)), (q5, .inl (cI, 12, .inl f6)), (q7, .inl (cI, 12, .inl f8)), (q9, .inl (cI, 12, .inl f10)), (q11, .inl (cI, 12, .inl f12)), (q13, .inl (cI, 12, .inl f14)), (q15, .inl (cI, 12, .inl f16)), (q17, .inl (cI, 49152, .inl f18)), (q19, .inl (cI, 4096, .inl f20)), (q21, .inl (cI, 100, .inl f22)), (q23, .inl (cI, 12, .inl f24)), (q25, .inl (cI, 100, .inl f26)), (q27, .inl (cI, 12, .inl f28)), (q29, .inl (cZ, 49152, .inl f30))]) H := hP
  have hD : va_D A ([(o1, .inr (12, [.int 0, .ref q1, .int 0, .ref q3, .int 0, .ref q5, .ref q7, .int 0, .ref q9, .int 0, .ref q11, .int (-9), .int 0, .int 0, .ref q13, .ref q15, .ref q17, .ref q19, .ref q21, .int 0, .ref q23, .ref q25, .ref q27, .int 0, .null, .null, .null, .int 0, .null])), (q1, .inl (cI, 5, .inl f2)), (q3, .inl (cI, 12, .inl f4)), (q5, .inl (cI, 12, .inl f6)), (q7, .inl (cI, 12, .inl f8)), (q9, .inl (cI, 12, .inl f10)), (q11, .inl (cI, 12, .inl f12)), (q13, .inl (cI, 12, .inl f14)), (q15, .inl (cI, 12, .inl f16)), (q17, .inl (cI, 49152, .inl f18)), (q19, .inl (cI, 4096, .inl f20)), (q21, .inl (cI, 100, .inl f22)), (q23, .inl (cI, 12, .inl f24)), (q25, .inl (cI, 100, .inl f26)), (q27, .inl (cI, 12, .inl f28)), (q29, .inl (cZ, 49152, .inl f30))]) := hD
  refine va_putF (D := (dC, dI)) (ci := 12) (v := .ref q29) (ty := .array .boolean) (C := RX12) (T := TX12) (N := 29) hx hb hts iw_X12_init_X12 tyX12 tyX12_ok nmX12 hown hK hP hD hS 0 rfl rfl 24 (by decide) (hts (.fieldLink RX12 57 "HolelessHouseModel" "can" "[Z") hm_X12_init_22) (fun _ h9 => h9) rfl hin rfl (by decide +kernel) rfl rfl (Nat.le_of_ble_eq_true rfl) dX12_init_127 (fun H locs hP hD hS => ?_)
  have hP : va_P (dC, dI) vwCl ([(o1, .inr (12, [.int 0, .ref q1, .int 0, .ref q3, .int 0, .ref q5, .ref q7, .int 0, .ref q9, .int 0, .ref q11, .int (-9), .int 0, .int 0, .ref q13, .ref q15, .ref q17, .ref q19, .ref q21, .int 0, .ref q23, .ref q25, .ref q27, .int 0, .ref q29, .null, .null, .int 0, .null])), (q1, .inl (cI, 5, .inl f2)), (q3, .inl (cI, 12, .inl f4)), (q5, .inl (cI, 12, .inl f6)), (q7, .inl (cI, 12, .inl f8)), (q9, .inl (cI, 12, .inl f10)), (q11, .inl (cI, 12, .inl f12)), (q13, .inl (cI, 12, .inl f14)), (q15, .inl (cI, 12, .inl f16)), (q17, .inl (cI, 49152, .inl f18)), (q19, .inl (cI, 4096, .inl f20)), (q21, .inl (cI, 100, .inl f22)), (q23, .inl (cI, 12, .inl f24)), (q25, .inl (cI, 100, .inl f26)), (q27, .inl (cI, 12, .inl f28)), (q29, .inl (cZ, 49152, .inl f30))]) H := hP
  have hD : va_D A ([(o1, .inr (12, [.int 0, .ref q1, .int 0, .ref q3, .int 0, .ref q5, .ref q7, .int 0, .ref q9, .int 0, .ref q11, .int (-9), .int 0, .int 0, .ref q13, .ref q15, .ref q17, .ref q19, .ref q21, .int 0, .ref q23, .ref q25, .ref q27, .int 0, .ref q29, .null, .null, .int 0, .null])), (q1, .inl (cI, 5, .inl f2)), (q3, .inl (cI, 12, .inl f4)), (q5, .inl (cI, 12, .inl f6)), (q7, .inl (cI, 12, .inl f8)), (q9, .inl (cI, 12, .inl f10)), (q11, .inl (cI, 12, .inl f12)), (q13, .inl (cI, 12, .inl f14)), (q15, .inl (cI, 12, .inl f16)), (q17, .inl (cI, 49152, .inl f18)), (q19, .inl (cI, 4096, .inl f20)), (q21, .inl (cI, 100, .inl f22)), (q23, .inl (cI, 12, .inl f24)), (q25, .inl (cI, 100, .inl f26)), (q27, .inl (cI, 12, .inl f28)), (q29, .inl (cZ, 49152, .inl f30))]) := hD
  refine lv_aload_n hx hb dX12_init_130 rfl (lv_at hl 0 rfl) ?_
  refine lv_ldc (v := 49152) hx hb hown (hts (.constant RX12 38 (49152)) hm_X12_init_14) dX12_init_131 ?_
  refine va_newa (atype := .int) (ty := .int) (N' := 49152) (a0 := (49152, .inl (fun _ => 0))) hx hb (hts (.arrayClass .int) hm_X12_init_4) rfl hK hP hD hS hA (fun _ => rfl) (by decide +kernel) (by decide +kernel) (by decide +kernel) (Nat.le_of_ble_eq_true rfl) (Nat.le_of_ble_eq_true rfl) dX12_init_133 (fun q31 cA H hK1 hP hD hS => ?_)
  refine W.widen (k := 16) (n := 151865) (by decide) (by decide) ?_
  have e9 : cI = cA := K3_int hK1
  subst e9
  obtain ⟨f32, f32_e⟩ : ∃ g : Nat → Int32, g = fun _ => 0 := ⟨_, rfl⟩
  rw [← f32_e] at hP hD
  have hP : va_P (dC, dI) vwCl ([(o1, .inr (12, [.int 0, .ref q1, .int 0, .ref q3, .int 0, .ref q5, .ref q7, .int 0, .ref q9, .int 0, .ref q11, .int (-9), .int 0, .int 0, .ref q13, .ref q15, .ref q17, .ref q19, .ref q21, .int 0, .ref q23, .ref q25, .ref q27, .int 0, .ref q29, .null, .null, .int 0, .null])), (q1, .inl (cI, 5, .inl f2)), (q3, .inl (cI, 12, .inl f4)), (q5, .inl (cI, 12, .inl f6)), (q7, .inl (cI, 12, .inl f8)), (q9, .inl (cI, 12, .inl f10)), (q11, .inl (cI, 12, .inl f12)), (q13, .inl (cI, 12, .inl f14)), (q15, .inl (cI, 12, .inl f16)), (q17, .inl (cI, 49152, .inl f18)), (q19, .inl (cI, 4096, .inl f20)), (q21, .inl (cI, 100, .inl f22)), (q23, .inl (cI, 12, .inl f24)), (q25, .inl (cI, 100, .inl f26)), (q27, .inl (cI, 12, .inl f28)), (q29, .inl (cZ, 49152, .inl f30)), (q31, .inl (cI, 49152, .inl f32))]) H := hP
  have hD : va_D A ([(o1, .inr (12, [.int 0, .ref q1, .int 0, .ref q3, .int 0, .ref q5, .ref q7, .int 0, .ref q9, .int 0, .ref q11, .int (-9), .int 0, .int 0, .ref q13, .ref q15, .ref q17, .ref q19, .ref q21, .int 0, .ref q23, .ref q25, .ref q27, .int 0, .ref q29, .null, .null, .int 0, .null])), (q1, .inl (cI, 5, .inl f2)), (q3, .inl (cI, 12, .inl f4)), (q5, .inl (cI, 12, .inl f6)), (q7, .inl (cI, 12, .inl f8)), (q9, .inl (cI, 12, .inl f10)), (q11, .inl (cI, 12, .inl f12)), (q13, .inl (cI, 12, .inl f14)), (q15, .inl (cI, 12, .inl f16)), (q17, .inl (cI, 49152, .inl f18)), (q19, .inl (cI, 4096, .inl f20)), (q21, .inl (cI, 100, .inl f22)), (q23, .inl (cI, 12, .inl f24)), (q25, .inl (cI, 100, .inl f26)), (q27, .inl (cI, 12, .inl f28)), (q29, .inl (cZ, 49152, .inl f30)), (q31, .inl (cI, 49152, .inl f32))]) := hD
  refine va_putF (D := (dC, dI)) (ci := 12) (v := .ref q31) (ty := .array .int) (C := RX12) (T := TX12) (N := 29) hx hb hts iw_X12_init_X12 tyX12 tyX12_ok nmX12 hown hK hP hD hS 0 rfl rfl 25 (by decide) (hts (.fieldLink RX12 61 "HolelessHouseModel" "counts" "[I") hm_X12_init_23) (fun _ h9 => h9) rfl hin rfl (by decide +kernel) rfl rfl (Nat.le_of_ble_eq_true rfl) dX12_init_135 (fun H locs hP hD hS => ?_)
  have hP : va_P (dC, dI) vwCl ([(o1, .inr (12, [.int 0, .ref q1, .int 0, .ref q3, .int 0, .ref q5, .ref q7, .int 0, .ref q9, .int 0, .ref q11, .int (-9), .int 0, .int 0, .ref q13, .ref q15, .ref q17, .ref q19, .ref q21, .int 0, .ref q23, .ref q25, .ref q27, .int 0, .ref q29, .ref q31, .null, .int 0, .null])), (q1, .inl (cI, 5, .inl f2)), (q3, .inl (cI, 12, .inl f4)), (q5, .inl (cI, 12, .inl f6)), (q7, .inl (cI, 12, .inl f8)), (q9, .inl (cI, 12, .inl f10)), (q11, .inl (cI, 12, .inl f12)), (q13, .inl (cI, 12, .inl f14)), (q15, .inl (cI, 12, .inl f16)), (q17, .inl (cI, 49152, .inl f18)), (q19, .inl (cI, 4096, .inl f20)), (q21, .inl (cI, 100, .inl f22)), (q23, .inl (cI, 12, .inl f24)), (q25, .inl (cI, 100, .inl f26)), (q27, .inl (cI, 12, .inl f28)), (q29, .inl (cZ, 49152, .inl f30)), (q31, .inl (cI, 49152, .inl f32))]) H := hP
  have hD : va_D A ([(o1, .inr (12, [.int 0, .ref q1, .int 0, .ref q3, .int 0, .ref q5, .ref q7, .int 0, .ref q9, .int 0, .ref q11, .int (-9), .int 0, .int 0, .ref q13, .ref q15, .ref q17, .ref q19, .ref q21, .int 0, .ref q23, .ref q25, .ref q27, .int 0, .ref q29, .ref q31, .null, .int 0, .null])), (q1, .inl (cI, 5, .inl f2)), (q3, .inl (cI, 12, .inl f4)), (q5, .inl (cI, 12, .inl f6)), (q7, .inl (cI, 12, .inl f8)), (q9, .inl (cI, 12, .inl f10)), (q11, .inl (cI, 12, .inl f12)), (q13, .inl (cI, 12, .inl f14)), (q15, .inl (cI, 12, .inl f16)), (q17, .inl (cI, 49152, .inl f18)), (q19, .inl (cI, 4096, .inl f20)), (q21, .inl (cI, 100, .inl f22)), (q23, .inl (cI, 12, .inl f24)), (q25, .inl (cI, 100, .inl f26)), (q27, .inl (cI, 12, .inl f28)), (q29, .inl (cZ, 49152, .inl f30)), (q31, .inl (cI, 49152, .inl f32))]) := hD
  refine lv_aload_n hx hb dX12_init_138 rfl (lv_at hl 0 rfl) ?_
  refine lv_bipush (v := 12) hx hb dX12_init_139 (by decide) ?_
  refine va_newa (atype := .int) (ty := .int) (N' := 12) (a0 := (12, .inl (fun _ => 0))) hx hb (hts (.arrayClass .int) hm_X12_init_4) rfl hK hP hD hS hA (fun _ => rfl) (by decide +kernel) (by decide +kernel) (by decide +kernel) (Nat.le_of_ble_eq_true rfl) (Nat.le_of_ble_eq_true rfl) dX12_init_141 (fun q33 cA H hK1 hP hD hS => ?_)
  refine W.widen (k := 17) (n := 151877) (by decide) (by decide) ?_
  have e9 : cI = cA := K3_int hK1
  subst e9
  obtain ⟨f34, f34_e⟩ : ∃ g : Nat → Int32, g = fun _ => 0 := ⟨_, rfl⟩
  rw [← f34_e] at hP hD
  have f34_b : Bd 12 0 11 f34 := by rw [f34_e]; exact bd_c ik_0 (by decide)
  have hP : va_P (dC, dI) vwCl ([(o1, .inr (12, [.int 0, .ref q1, .int 0, .ref q3, .int 0, .ref q5, .ref q7, .int 0, .ref q9, .int 0, .ref q11, .int (-9), .int 0, .int 0, .ref q13, .ref q15, .ref q17, .ref q19, .ref q21, .int 0, .ref q23, .ref q25, .ref q27, .int 0, .ref q29, .ref q31, .null, .int 0, .null])), (q1, .inl (cI, 5, .inl f2)), (q3, .inl (cI, 12, .inl f4)), (q5, .inl (cI, 12, .inl f6)), (q7, .inl (cI, 12, .inl f8)), (q9, .inl (cI, 12, .inl f10)), (q11, .inl (cI, 12, .inl f12)), (q13, .inl (cI, 12, .inl f14)), (q15, .inl (cI, 12, .inl f16)), (q17, .inl (cI, 49152, .inl f18)), (q19, .inl (cI, 4096, .inl f20)), (q21, .inl (cI, 100, .inl f22)), (q23, .inl (cI, 12, .inl f24)), (q25, .inl (cI, 100, .inl f26)), (q27, .inl (cI, 12, .inl f28)), (q29, .inl (cZ, 49152, .inl f30)), (q31, .inl (cI, 49152, .inl f32)), (q33, .inl (cI, 12, .inl f34))]) H := hP
  have hD : va_D A ([(o1, .inr (12, [.int 0, .ref q1, .int 0, .ref q3, .int 0, .ref q5, .ref q7, .int 0, .ref q9, .int 0, .ref q11, .int (-9), .int 0, .int 0, .ref q13, .ref q15, .ref q17, .ref q19, .ref q21, .int 0, .ref q23, .ref q25, .ref q27, .int 0, .ref q29, .ref q31, .null, .int 0, .null])), (q1, .inl (cI, 5, .inl f2)), (q3, .inl (cI, 12, .inl f4)), (q5, .inl (cI, 12, .inl f6)), (q7, .inl (cI, 12, .inl f8)), (q9, .inl (cI, 12, .inl f10)), (q11, .inl (cI, 12, .inl f12)), (q13, .inl (cI, 12, .inl f14)), (q15, .inl (cI, 12, .inl f16)), (q17, .inl (cI, 49152, .inl f18)), (q19, .inl (cI, 4096, .inl f20)), (q21, .inl (cI, 100, .inl f22)), (q23, .inl (cI, 12, .inl f24)), (q25, .inl (cI, 100, .inl f26)), (q27, .inl (cI, 12, .inl f28)), (q29, .inl (cZ, 49152, .inl f30)), (q31, .inl (cI, 49152, .inl f32)), (q33, .inl (cI, 12, .inl f34))]) := hD
  refine va_putF (D := (dC, dI)) (ci := 12) (v := .ref q33) (ty := .array .int) (C := RX12) (T := TX12) (N := 29) hx hb hts iw_X12_init_X12 tyX12 tyX12_ok nmX12 hown hK hP hD hS 0 rfl rfl 26 (by decide) (hts (.fieldLink RX12 64 "HolelessHouseModel" "line" "[I") hm_X12_init_24) (fun _ h9 => h9) rfl hin rfl (by decide +kernel) rfl rfl (Nat.le_of_ble_eq_true rfl) dX12_init_143 (fun H locs hP hD hS => ?_)
  have hP : va_P (dC, dI) vwCl ([(o1, .inr (12, [.int 0, .ref q1, .int 0, .ref q3, .int 0, .ref q5, .ref q7, .int 0, .ref q9, .int 0, .ref q11, .int (-9), .int 0, .int 0, .ref q13, .ref q15, .ref q17, .ref q19, .ref q21, .int 0, .ref q23, .ref q25, .ref q27, .int 0, .ref q29, .ref q31, .ref q33, .int 0, .null])), (q1, .inl (cI, 5, .inl f2)), (q3, .inl (cI, 12, .inl f4)), (q5, .inl (cI, 12, .inl f6)), (q7, .inl (cI, 12, .inl f8)), (q9, .inl (cI, 12, .inl f10)), (q11, .inl (cI, 12, .inl f12)), (q13, .inl (cI, 12, .inl f14)), (q15, .inl (cI, 12, .inl f16)), (q17, .inl (cI, 49152, .inl f18)), (q19, .inl (cI, 4096, .inl f20)), (q21, .inl (cI, 100, .inl f22)), (q23, .inl (cI, 12, .inl f24)), (q25, .inl (cI, 100, .inl f26)), (q27, .inl (cI, 12, .inl f28)), (q29, .inl (cZ, 49152, .inl f30)), (q31, .inl (cI, 49152, .inl f32)), (q33, .inl (cI, 12, .inl f34))]) H := hP
  have hD : va_D A ([(o1, .inr (12, [.int 0, .ref q1, .int 0, .ref q3, .int 0, .ref q5, .ref q7, .int 0, .ref q9, .int 0, .ref q11, .int (-9), .int 0, .int 0, .ref q13, .ref q15, .ref q17, .ref q19, .ref q21, .int 0, .ref q23, .ref q25, .ref q27, .int 0, .ref q29, .ref q31, .ref q33, .int 0, .null])), (q1, .inl (cI, 5, .inl f2)), (q3, .inl (cI, 12, .inl f4)), (q5, .inl (cI, 12, .inl f6)), (q7, .inl (cI, 12, .inl f8)), (q9, .inl (cI, 12, .inl f10)), (q11, .inl (cI, 12, .inl f12)), (q13, .inl (cI, 12, .inl f14)), (q15, .inl (cI, 12, .inl f16)), (q17, .inl (cI, 49152, .inl f18)), (q19, .inl (cI, 4096, .inl f20)), (q21, .inl (cI, 100, .inl f22)), (q23, .inl (cI, 12, .inl f24)), (q25, .inl (cI, 100, .inl f26)), (q27, .inl (cI, 12, .inl f28)), (q29, .inl (cZ, 49152, .inl f30)), (q31, .inl (cI, 49152, .inl f32)), (q33, .inl (cI, 12, .inl f34))]) := hD
  refine lv_aload_n hx hb dX12_init_146 rfl (lv_at hl 0 rfl) ?_
  refine lv_bipush (v := 12) hx hb dX12_init_147 (by decide) ?_
  refine va_newa (atype := .int) (ty := .int) (N' := 12) (a0 := (12, .inl (fun _ => 0))) hx hb (hts (.arrayClass .int) hm_X12_init_4) rfl hK hP hD hS hA (fun _ => rfl) (by decide +kernel) (by decide +kernel) (by decide +kernel) (Nat.le_of_ble_eq_true rfl) (Nat.le_of_ble_eq_true rfl) dX12_init_149 (fun q35 cA H hK1 hP hD hS => ?_)
  refine W.widen (k := 18) (n := 151889) (by decide) (by decide) ?_
  have e9 : cI = cA := K3_int hK1
  subst e9
  obtain ⟨f36, f36_e⟩ : ∃ g : Nat → Int32, g = fun _ => 0 := ⟨_, rfl⟩
  rw [← f36_e] at hP hD
  have f36_b : Bd 12 (-9) 255 f36 := by rw [f36_e]; exact bd_c ik_0 (by decide)
  have hP : va_P (dC, dI) vwCl ([(o1, .inr (12, [.int 0, .ref q1, .int 0, .ref q3, .int 0, .ref q5, .ref q7, .int 0, .ref q9, .int 0, .ref q11, .int (-9), .int 0, .int 0, .ref q13, .ref q15, .ref q17, .ref q19, .ref q21, .int 0, .ref q23, .ref q25, .ref q27, .int 0, .ref q29, .ref q31, .ref q33, .int 0, .null])), (q1, .inl (cI, 5, .inl f2)), (q3, .inl (cI, 12, .inl f4)), (q5, .inl (cI, 12, .inl f6)), (q7, .inl (cI, 12, .inl f8)), (q9, .inl (cI, 12, .inl f10)), (q11, .inl (cI, 12, .inl f12)), (q13, .inl (cI, 12, .inl f14)), (q15, .inl (cI, 12, .inl f16)), (q17, .inl (cI, 49152, .inl f18)), (q19, .inl (cI, 4096, .inl f20)), (q21, .inl (cI, 100, .inl f22)), (q23, .inl (cI, 12, .inl f24)), (q25, .inl (cI, 100, .inl f26)), (q27, .inl (cI, 12, .inl f28)), (q29, .inl (cZ, 49152, .inl f30)), (q31, .inl (cI, 49152, .inl f32)), (q33, .inl (cI, 12, .inl f34)), (q35, .inl (cI, 12, .inl f36))]) H := hP
  have hD : va_D A ([(o1, .inr (12, [.int 0, .ref q1, .int 0, .ref q3, .int 0, .ref q5, .ref q7, .int 0, .ref q9, .int 0, .ref q11, .int (-9), .int 0, .int 0, .ref q13, .ref q15, .ref q17, .ref q19, .ref q21, .int 0, .ref q23, .ref q25, .ref q27, .int 0, .ref q29, .ref q31, .ref q33, .int 0, .null])), (q1, .inl (cI, 5, .inl f2)), (q3, .inl (cI, 12, .inl f4)), (q5, .inl (cI, 12, .inl f6)), (q7, .inl (cI, 12, .inl f8)), (q9, .inl (cI, 12, .inl f10)), (q11, .inl (cI, 12, .inl f12)), (q13, .inl (cI, 12, .inl f14)), (q15, .inl (cI, 12, .inl f16)), (q17, .inl (cI, 49152, .inl f18)), (q19, .inl (cI, 4096, .inl f20)), (q21, .inl (cI, 100, .inl f22)), (q23, .inl (cI, 12, .inl f24)), (q25, .inl (cI, 100, .inl f26)), (q27, .inl (cI, 12, .inl f28)), (q29, .inl (cZ, 49152, .inl f30)), (q31, .inl (cI, 49152, .inl f32)), (q33, .inl (cI, 12, .inl f34)), (q35, .inl (cI, 12, .inl f36))]) := hD
  refine va_putF (D := (dC, dI)) (ci := 12) (v := .ref q35) (ty := .array .int) (C := RX12) (T := TX12) (N := 29) hx hb hts iw_X12_init_X12 tyX12 tyX12_ok nmX12 hown hK hP hD hS 0 rfl rfl 28 (by decide) (hts (.fieldLink RX12 67 "HolelessHouseModel" "moving" "[I") hm_X12_init_25) (fun _ h9 => h9) rfl hin rfl (by decide +kernel) rfl rfl (Nat.le_of_ble_eq_true rfl) dX12_init_151 (fun H locs hP hD hS => ?_)
  have hP : va_P (dC, dI) vwCl ([(o1, .inr (12, [.int 0, .ref q1, .int 0, .ref q3, .int 0, .ref q5, .ref q7, .int 0, .ref q9, .int 0, .ref q11, .int (-9), .int 0, .int 0, .ref q13, .ref q15, .ref q17, .ref q19, .ref q21, .int 0, .ref q23, .ref q25, .ref q27, .int 0, .ref q29, .ref q31, .ref q33, .int 0, .ref q35])), (q1, .inl (cI, 5, .inl f2)), (q3, .inl (cI, 12, .inl f4)), (q5, .inl (cI, 12, .inl f6)), (q7, .inl (cI, 12, .inl f8)), (q9, .inl (cI, 12, .inl f10)), (q11, .inl (cI, 12, .inl f12)), (q13, .inl (cI, 12, .inl f14)), (q15, .inl (cI, 12, .inl f16)), (q17, .inl (cI, 49152, .inl f18)), (q19, .inl (cI, 4096, .inl f20)), (q21, .inl (cI, 100, .inl f22)), (q23, .inl (cI, 12, .inl f24)), (q25, .inl (cI, 100, .inl f26)), (q27, .inl (cI, 12, .inl f28)), (q29, .inl (cZ, 49152, .inl f30)), (q31, .inl (cI, 49152, .inl f32)), (q33, .inl (cI, 12, .inl f34)), (q35, .inl (cI, 12, .inl f36))]) H := hP
  have hD : va_D A ([(o1, .inr (12, [.int 0, .ref q1, .int 0, .ref q3, .int 0, .ref q5, .ref q7, .int 0, .ref q9, .int 0, .ref q11, .int (-9), .int 0, .int 0, .ref q13, .ref q15, .ref q17, .ref q19, .ref q21, .int 0, .ref q23, .ref q25, .ref q27, .int 0, .ref q29, .ref q31, .ref q33, .int 0, .ref q35])), (q1, .inl (cI, 5, .inl f2)), (q3, .inl (cI, 12, .inl f4)), (q5, .inl (cI, 12, .inl f6)), (q7, .inl (cI, 12, .inl f8)), (q9, .inl (cI, 12, .inl f10)), (q11, .inl (cI, 12, .inl f12)), (q13, .inl (cI, 12, .inl f14)), (q15, .inl (cI, 12, .inl f16)), (q17, .inl (cI, 49152, .inl f18)), (q19, .inl (cI, 4096, .inl f20)), (q21, .inl (cI, 100, .inl f22)), (q23, .inl (cI, 12, .inl f24)), (q25, .inl (cI, 100, .inl f26)), (q27, .inl (cI, 12, .inl f28)), (q29, .inl (cZ, 49152, .inl f30)), (q31, .inl (cI, 49152, .inl f32)), (q33, .inl (cI, 12, .inl f34)), (q35, .inl (cI, 12, .inl f36))]) := hD
  refine lv_iconst (v := 0) hx hb dX12_init_154 (by decide) ?_
  refine lv_istore_n (lv' := [(1, .int 0), (0, .ref o1)]) hx hb dX12_init_155 rfl hl (by decide) rfl (fun ls hl => ?_)
  have L1 : ∀ (N : Nat) (x69 : Int32) (f70 : Nat → Int32) (H : Heap) (locs : List Loc) (ls : Array Slot), (12 - x69.toInt).toNat < N → Iv 0 12 x69 → Bd 12 (-9) 255 f70 → (∀ i : Nat, i < (Int32.toNatClampNeg x69) → f70 i = (-9)) → va_P (dC, dI) vwCl ([(o1, .inr (12, [.int 0, .ref q1, .int 0, .ref q3, .int 0, .ref q5, .ref q7, .int 0, .ref q9, .int 0, .ref q11, .int (-9), .int 0, .int 0, .ref q13, .ref q15, .ref q17, .ref q19, .ref q21, .int 0, .ref q23, .ref q25, .ref q27, .int 0, .ref q29, .ref q31, .ref q33, .int 0, .ref q35])), (q1, .inl (cI, 5, .inl f2)), (q3, .inl (cI, 12, .inl f4)), (q5, .inl (cI, 12, .inl f70)), (q7, .inl (cI, 12, .inl f8)), (q9, .inl (cI, 12, .inl f10)), (q11, .inl (cI, 12, .inl f12)), (q13, .inl (cI, 12, .inl f14)), (q15, .inl (cI, 12, .inl f16)), (q17, .inl (cI, 49152, .inl f18)), (q19, .inl (cI, 4096, .inl f20)), (q21, .inl (cI, 100, .inl f22)), (q23, .inl (cI, 12, .inl f24)), (q25, .inl (cI, 100, .inl f26)), (q27, .inl (cI, 12, .inl f28)), (q29, .inl (cZ, 49152, .inl f30)), (q31, .inl (cI, 49152, .inl f32)), (q33, .inl (cI, 12, .inl f34)), (q35, .inl (cI, 12, .inl f36))]) H → va_D A ([(o1, .inr (12, [.int 0, .ref q1, .int 0, .ref q3, .int 0, .ref q5, .ref q7, .int 0, .ref q9, .int 0, .ref q11, .int (-9), .int 0, .int 0, .ref q13, .ref q15, .ref q17, .ref q19, .ref q21, .int 0, .ref q23, .ref q25, .ref q27, .int 0, .ref q29, .ref q31, .ref q33, .int 0, .ref q35])), (q1, .inl (cI, 5, .inl f2)), (q3, .inl (cI, 12, .inl f4)), (q5, .inl (cI, 12, .inl f70)), (q7, .inl (cI, 12, .inl f8)), (q9, .inl (cI, 12, .inl f10)), (q11, .inl (cI, 12, .inl f12)), (q13, .inl (cI, 12, .inl f14)), (q15, .inl (cI, 12, .inl f16)), (q17, .inl (cI, 49152, .inl f18)), (q19, .inl (cI, 4096, .inl f20)), (q21, .inl (cI, 100, .inl f22)), (q23, .inl (cI, 12, .inl f24)), (q25, .inl (cI, 100, .inl f26)), (q27, .inl (cI, 12, .inl f28)), (q29, .inl (cZ, 49152, .inl f30)), (q31, .inl (cI, 49152, .inl f32)), (q33, .inl (cI, 12, .inl f34)), (q35, .inl (cI, 12, .inl f36))]) → va_S A s.heap H locs → lv_has ls 2 [(1, .int x69), (0, .ref o1)] → W p l e ({ frames := 1, cells := 18, slots := 151889, locals := 12 }) s m ([.ref o1] : List Value).toArray below meth c H locs 18 151889 Q (F0 m 156 ls []) := by
    intro N
    induction N with
    | zero =>
      intro x69 f70 H locs ls hM
      exact absurd hM (Nat.not_lt_zero _)
    | succ N ih1 =>
      intro x69 f70 H locs ls hM1 x69_h f70_b iv1_0 hP hD hS hl
      refine lv_iload_n hx hb dX12_init_156 rfl (lv_at hl 0 rfl) ?_
      refine lv_bipush (v := 12) hx hb dX12_init_157 (by decide) ?_
      refine lv_icmp_ge (tgt := 176) hx hb dX12_init_159 (by decide) (fun h71 => ?_) (fun h71 => ?_)
      ·
        have qh71 := le_i h71
        have j72 : Iv 12 12 x69 := r_ler qh71 ik_12 x69_h (by decide)
        rw [hQ]
        exact W.vret hx hb hr (fun t ht hW => ⟨⟨((-9), q1, q3, q5, q7, q9, q11, q13, q15, q17, q19, q21, q23, q25, q27, q29, q31, q33, q35, f2, f4, f70, f8, f10, f12, f14, f16, f18, f20, f22, f24, f26, f28, f30, f32, f34, f36), rfl, ⟨ikm_9, f4_b, f70_b, f8_b, f10_b, f12_b, f14_b, f16_b, f18_b, f22_b, f24_b, f26_b, f34_b, f36_b, (fil_e iv1_0 qh71)⟩, by rw [ht]; exact hP, va_K.moved hW.alike hK, hD⟩, hS.F ht⟩) hS.2.2 dX12_init_176
      ·
        have qh71 := nle_i h71
        have j73 : Iv 0 11 x69 := r_ltl qh71 x69_h ik_12 (by decide)
        refine lv_aload_n hx hb dX12_init_162 rfl (lv_at hl 1 rfl) ?_
        refine va_get (D := (dC, dI)) (ci := 12) (v := .ref q5) (C := RX12) (T := TX12) (N := 29) hx hb hts iw_X12_init_X12 hown hK hP 0 rfl rfl 5 (by decide) (hts (.fieldLink RX12 16 "HolelessHouseModel" "rows" "[I") hm_X12_init_7) (fun _ h9 => h9) rfl dX12_init_163 ?_
        refine lv_iload_n hx hb dX12_init_166 rfl (lv_at hl 0 rfl) ?_
        refine lv_bipush (v := (-9)) hx hb dX12_init_167 (by decide) ?_
        refine k_iast hx hb hK hP hD hS 3 0 rfl rfl (vin_iv j73 (by decide)) dX12_init_169 (fun f74 H locs f74_e hP hD hS => ?_)
        have f74_b : Bd 12 (-9) 255 f74 := bd_upd f74_e f70_b ikm_9 (by decide)
        have hP : va_P (dC, dI) vwCl ([(o1, .inr (12, [.int 0, .ref q1, .int 0, .ref q3, .int 0, .ref q5, .ref q7, .int 0, .ref q9, .int 0, .ref q11, .int (-9), .int 0, .int 0, .ref q13, .ref q15, .ref q17, .ref q19, .ref q21, .int 0, .ref q23, .ref q25, .ref q27, .int 0, .ref q29, .ref q31, .ref q33, .int 0, .ref q35])), (q1, .inl (cI, 5, .inl f2)), (q3, .inl (cI, 12, .inl f4)), (q5, .inl (cI, 12, .inl f74)), (q7, .inl (cI, 12, .inl f8)), (q9, .inl (cI, 12, .inl f10)), (q11, .inl (cI, 12, .inl f12)), (q13, .inl (cI, 12, .inl f14)), (q15, .inl (cI, 12, .inl f16)), (q17, .inl (cI, 49152, .inl f18)), (q19, .inl (cI, 4096, .inl f20)), (q21, .inl (cI, 100, .inl f22)), (q23, .inl (cI, 12, .inl f24)), (q25, .inl (cI, 100, .inl f26)), (q27, .inl (cI, 12, .inl f28)), (q29, .inl (cZ, 49152, .inl f30)), (q31, .inl (cI, 49152, .inl f32)), (q33, .inl (cI, 12, .inl f34)), (q35, .inl (cI, 12, .inl f36))]) H := hP
        have hD : va_D A ([(o1, .inr (12, [.int 0, .ref q1, .int 0, .ref q3, .int 0, .ref q5, .ref q7, .int 0, .ref q9, .int 0, .ref q11, .int (-9), .int 0, .int 0, .ref q13, .ref q15, .ref q17, .ref q19, .ref q21, .int 0, .ref q23, .ref q25, .ref q27, .int 0, .ref q29, .ref q31, .ref q33, .int 0, .ref q35])), (q1, .inl (cI, 5, .inl f2)), (q3, .inl (cI, 12, .inl f4)), (q5, .inl (cI, 12, .inl f74)), (q7, .inl (cI, 12, .inl f8)), (q9, .inl (cI, 12, .inl f10)), (q11, .inl (cI, 12, .inl f12)), (q13, .inl (cI, 12, .inl f14)), (q15, .inl (cI, 12, .inl f16)), (q17, .inl (cI, 49152, .inl f18)), (q19, .inl (cI, 4096, .inl f20)), (q21, .inl (cI, 100, .inl f22)), (q23, .inl (cI, 12, .inl f24)), (q25, .inl (cI, 100, .inl f26)), (q27, .inl (cI, 12, .inl f28)), (q29, .inl (cZ, 49152, .inl f30)), (q31, .inl (cI, 49152, .inl f32)), (q33, .inl (cI, 12, .inl f34)), (q35, .inl (cI, 12, .inl f36))]) := hD
        obtain ⟨x75, x75_e⟩ : ∃ z : Int32, z = x69 + 1 := ⟨_, rfl⟩
        have x75_h : Iv 1 12 x75 := iv_e x75_e (iv_add j73 ik_1 (by decide))
        refine lv_iinc (v := x75) (lv' := [(1, .int x75), (0, .ref o1)]) hx hb dX12_init_170 hl (k := 0) rfl (incN (by decide +kernel) x75_e) (by decide) rfl (fun ls hl => ?_)
        refine lv_goto (tgt := 156) hx hb dX12_init_173 (by decide) ?_
        exact ih1 x75 f74 _ _ _ (ms_up x75_e j73 (by decide) hM1) (iv_w x75_h (by decide)) f74_b (fil_s iv1_0 (iv_w (c := 0) (d := 4095) j73 (by decide)) x75_e f74_e) hP hD hS hl
  exact L1 _ 0 f6 _ _ _ (Nat.lt_succ_self _) (iv_w ik_0 (by decide)) f6_b fil_0 hP hD hS hl
set_option maxHeartbeats 4000000 in
set_option maxRecDepth 100000 in
theorem kxX12_in_12 (l : Launch) (dC : Nat → ClassId) (dI : Nat → Nat → Nat) (cI c2 cZ : ClassId) (a0 : Int32) (a1 : Int32) (a2 : Int32) (sz : Nat) (a1_h : Iv 0 0 a1) (a2_h : Iv 4 12 a2) : Met l yX12_in wsX12_in ({ frames := 0, cells := 0, slots := 0, locals := 0 }) (va_Pc [.int a0, .int a1, .int a2] (wPre (dC, dI) [(cI, .int), (c2, .array .int), (cZ, .boolean)] ([]) sz)) (va_Qi (fun (r : Int32) (_ : Unit) => Iv 0 1 r ∧ (¬ r = 0 → Iv 0 12 a0) ∧ (r : Int32) = if Int32.toInt a1 ≤ Int32.toInt a0 ∧ Int32.toInt a0 ≤ Int32.toInt a2 then 1 else 0) (fun _ t => wPost (dC, dI) [(cI, .int), (c2, .array .int), (cZ, .boolean)] (va_A ([]) sz) ([]) t) (va_A ([]) sz)) 0 0 (va_A ([]) sz) := by
  refine Met.ofW (cc := cX12_in) (maxL := 3) (ret := (some .boolean)) (by decide) rfl ?_
  intro p e s m args below meth c s₁ B hml hv
  obtain ⟨rfl, hsz, hP, hK, hD0, hN⟩ := hv
  have hx := B.exec
  have hb := B.bytes
  have hr := B.returns
  have hts := atoms_spec (ws := wsX12_in) B.pre
  have hown : s.vm.findClass RX12 = some m.cls := findClass_of_methodNamed B.named
  have hlocks := B.notSynchronized
  subst hsz
  have hD := hD0.self (sz := s.heap.size)
  generalize hAe : va_A ([]) s.heap.size = A at hD ⊢
  have hA : ∀ q : Nat, s.heap.size ≤ q → A q := fun q h => by rw [← hAe]; exact Or.inr h
  have hS : va_S A s.heap s.heap [] := va_S.rf
  have hP : va_P (dC, dI) vwCl ([]) s.heap := hP
  have hl := lv_entry ([.int a0, .int a1, .int a2]) (n := 3) (Nat.le_of_ble_eq_true rfl)
  rw [lg_entry_eq]
  generalize (lg_sl ([.int a0, .int a1, .int a2]) ++ List.replicate (3 - (lg_sl ([.int a0, .int a1, .int a2])).length) Slot.unset).toArray = ls at hl ⊢
  have hl : lv_has ls 3 [(0, .int a0), (1, .int a1), (2, .int a2)] := hl
  refine gen_Q (fun Q hQ => ?_)
  refine lv_iload_n hx hb dX12_in_0 rfl (lv_at hl 0 rfl) ?_
  refine lv_iload_n hx hb dX12_in_1 rfl (lv_at hl 1 rfl) ?_
  refine lv_icmp_lt (tgt := 14) hx hb dX12_in_2 (by decide) (fun h1 => ?_) (fun h1 => ?_)
  ·
    have qh1 := lt_i h1
    have j2 : Iv (-2147483648) (-1) a0 := r_ltl qh1 (iv_full a0) a1_h (by decide)
    refine lv_iconst (v := 0) hx hb dX12_in_14 (by decide) ?_
    rw [hQ]
    exact W.zret (v := 0) (ty := .boolean) hx hb hr rfl (fun t ht hW => ⟨⟨0, (), rfl, ⟨(iv_w ik_0 (by decide)), (fun h8 => absurd rfl h8), (inx_l qh1)⟩, by rw [ht]; exact hP, va_K.moved hW.alike hK, hD⟩, hS.F ht⟩) hS.2.2 dX12_in_15
  ·
    have qh1 := nlt_i h1
    have j3 : Iv 0 2147483647 a0 := r_ler qh1 a1_h (iv_full a0) (by decide)
    refine lv_iload_n hx hb dX12_in_5 rfl (lv_at hl 0 rfl) ?_
    refine lv_iload_n hx hb dX12_in_6 rfl (lv_at hl 2 rfl) ?_
    refine lv_icmp_gt (tgt := 14) hx hb dX12_in_7 (by decide) (fun h4 => ?_) (fun h4 => ?_)
    ·
      have qh4 := lt_i h4
      have j5 : Iv 5 2147483647 a0 := r_ltr qh4 a2_h j3 (by decide)
      refine lv_iconst (v := 0) hx hb dX12_in_14 (by decide) ?_
      rw [hQ]
      exact W.zret (v := 0) (ty := .boolean) hx hb hr rfl (fun t ht hW => ⟨⟨0, (), rfl, ⟨(iv_w ik_0 (by decide)), (fun h8 => absurd rfl h8), (inx_h qh4)⟩, by rw [ht]; exact hP, va_K.moved hW.alike hK, hD⟩, hS.F ht⟩) hS.2.2 dX12_in_15
    ·
      have qh4 := nlt_i h4
      have j6 : Iv 0 12 a0 := r_lel qh4 j3 a2_h (by decide)
      refine lv_iconst (v := 1) hx hb dX12_in_10 (by decide) ?_
      refine lv_goto (tgt := 15) hx hb dX12_in_11 (by decide) ?_
      rw [hQ]
      exact W.zret (v := 1) (ty := .boolean) hx hb hr rfl (fun t ht hW => ⟨⟨1, (), rfl, ⟨(iv_w ik_1 (by decide)), (fun _ => j6), (inx_t qh1 qh4)⟩, by rw [ht]; exact hP, va_K.moved hW.alike hK, hD⟩, hS.F ht⟩) hS.2.2 dX12_in_15
set_option maxHeartbeats 4000000 in
set_option maxRecDepth 100000 in
theorem kxX12_nodes_2 (l : Launch) (dC : Nat → ClassId) (dI : Nat → Nat → Nat) (cI c2 cZ : ClassId) (o1 : Nat) (o3 : Nat) (o6 : Nat) (o9 : Nat) (o11 : Nat) (o14 : Nat) (o17 : Nat) (o22 : Nat) (o24 : Nat) (o26 : Nat) (o28 : Nat) (o30 : Nat) (o33 : Nat) (o35 : Nat) (o37 : Nat) (o40 : Nat) (o42 : Nat) (o44 : Nat) (o47 : Nat) (v2 : Int32) (v5 : Int32) (fw7 : Nat → Int32) (v8 : Int32) (v13 : Int32) (fw15 : Nat → Int32) (v16 : Int32) (v19 : Int32) (v20 : Int32) (v21 : Int32) (v32 : Int32) (v39 : Int32) (v46 : Int32) (a1 : Int32) (sz : Nat) (v5_h : Iv 0 12 v5) (fw7_b : Bd 12 0 4095 fw7) (v8_h : Iv 0 8 v8) (v13_h : Iv 0 12 v13) (fw15_b : Bd 12 0 11 fw15) (v16_h : Iv 0 12 v16) (v19_h : Iv (-9) 12 v19) (v32_h : Iv 0 99 v32) (v39_h : Iv 0 12 v39) (v46_h : Iv 0 12 v46) (pre0 : DR v5 v16 fw15) : Met l yX12_nodes wsX12_nodes ({ frames := 1, cells := 0, slots := 0, locals := 22 }) (va_Pc [.ref o1, .int a1] (wPre (dC, dI) [(cI, .int), (c2, .array .int), (cZ, .boolean)] ([(o1, .inr (12, [.int v2, .ref o3, .int v5, .ref o6, .int v8, .ref o9, .ref o11, .int v13, .ref o14, .int v16, .ref o17, .int v19, .int v20, .int v21, .ref o22, .ref o24, .ref o26, .ref o28, .ref o30, .int v32, .ref o33, .ref o35, .ref o37, .int v39, .ref o40, .ref o42, .ref o44, .int v46, .ref o47])), (o6, .inl (cI, 12, .inl fw7)), (o14, .inl (cI, 12, .inl fw15))]) sz)) (va_Qi (fun (r : Int32) (u : Int32 × Int32 × Int32 × (Nat → Int32)) => Iv (-1) 12 r ∧ Iv 0 12 u.1 ∧ Iv 0 12 u.2.1 ∧ Iv (-9) 12 u.2.2.1 ∧ Bd 12 0 4095 u.2.2.2 ∧ (r : Int32) = nodeF a1 ∧ DR u.1 u.2.1 fw15) (fun u t => wPost (dC, dI) [(cI, .int), (c2, .array .int), (cZ, .boolean)] (va_A ([(o1, .inr (12, [.int v2, .ref o3, .int v5, .ref o6, .int v8, .ref o9, .ref o11, .int v13, .ref o14, .int v16, .ref o17, .int v19, .int v20, .int v21, .ref o22, .ref o24, .ref o26, .ref o28, .ref o30, .int v32, .ref o33, .ref o35, .ref o37, .int v39, .ref o40, .ref o42, .ref o44, .int v46, .ref o47])), (o6, .inl (cI, 12, .inl fw7)), (o14, .inl (cI, 12, .inl fw15))]) sz) ([(o1, .inr (12, [.int v2, .ref o3, .int u.1, .ref o6, .int v8, .ref o9, .ref o11, .int v13, .ref o14, .int u.2.1, .ref o17, .int u.2.2.1, .int v20, .int v21, .ref o22, .ref o24, .ref o26, .ref o28, .ref o30, .int v32, .ref o33, .ref o35, .ref o37, .int v39, .ref o40, .ref o42, .ref o44, .int v46, .ref o47])), (o6, .inl (cI, 12, .inl u.2.2.2)), (o14, .inl (cI, 12, .inl fw15))]) t) (va_A ([(o1, .inr (12, [.int v2, .ref o3, .int v5, .ref o6, .int v8, .ref o9, .ref o11, .int v13, .ref o14, .int v16, .ref o17, .int v19, .int v20, .int v21, .ref o22, .ref o24, .ref o26, .ref o28, .ref o30, .int v32, .ref o33, .ref o35, .ref o37, .int v39, .ref o40, .ref o42, .ref o44, .int v46, .ref o47])), (o6, .inl (cI, 12, .inl fw7)), (o14, .inl (cI, 12, .inl fw15))]) sz)) 0 0 (va_A ([(o1, .inr (12, [.int v2, .ref o3, .int v5, .ref o6, .int v8, .ref o9, .ref o11, .int v13, .ref o14, .int v16, .ref o17, .int v19, .int v20, .int v21, .ref o22, .ref o24, .ref o26, .ref o28, .ref o30, .int v32, .ref o33, .ref o35, .ref o37, .int v39, .ref o40, .ref o42, .ref o44, .int v46, .ref o47])), (o6, .inl (cI, 12, .inl fw7)), (o14, .inl (cI, 12, .inl fw15))]) sz) := by
  refine Met.ofW (cc := cX12_nodes) (maxL := 3) (ret := (some .int)) (by decide) rfl ?_
  intro p e s m args below meth c s₁ B hml hv
  obtain ⟨rfl, hsz, hP, hK, hD0, hN⟩ := hv
  have hx := B.exec
  have hb := B.bytes
  have hr := B.returns
  have hts := atoms_spec (ws := wsX12_nodes) B.pre
  have hown : s.vm.findClass RX12 = some m.cls := findClass_of_methodNamed B.named
  have hlocks := B.notSynchronized
  subst hsz
  have hD := hD0.self (sz := s.heap.size)
  generalize hAe : va_A ([(o1, .inr (12, [.int v2, .ref o3, .int v5, .ref o6, .int v8, .ref o9, .ref o11, .int v13, .ref o14, .int v16, .ref o17, .int v19, .int v20, .int v21, .ref o22, .ref o24, .ref o26, .ref o28, .ref o30, .int v32, .ref o33, .ref o35, .ref o37, .int v39, .ref o40, .ref o42, .ref o44, .int v46, .ref o47])), (o6, .inl (cI, 12, .inl fw7)), (o14, .inl (cI, 12, .inl fw15))]) s.heap.size = A at hD ⊢
  have hA : ∀ q : Nat, s.heap.size ≤ q → A q := fun q h => by rw [← hAe]; exact Or.inr h
  have hS : va_S A s.heap s.heap [] := va_S.rf
  have hP : va_P (dC, dI) vwCl ([(o1, .inr (12, [.int v2, .ref o3, .int v5, .ref o6, .int v8, .ref o9, .ref o11, .int v13, .ref o14, .int v16, .ref o17, .int v19, .int v20, .int v21, .ref o22, .ref o24, .ref o26, .ref o28, .ref o30, .int v32, .ref o33, .ref o35, .ref o37, .int v39, .ref o40, .ref o42, .ref o44, .int v46, .ref o47])), (o6, .inl (cI, 12, .inl fw7)), (o14, .inl (cI, 12, .inl fw15))]) s.heap := hP
  have hl := lv_entry ([.ref o1, .int a1]) (n := 3) (Nat.le_of_ble_eq_true rfl)
  rw [lg_entry_eq]
  generalize (lg_sl ([.ref o1, .int a1]) ++ List.replicate (3 - (lg_sl ([.ref o1, .int a1])).length) Slot.unset).toArray = ls at hl ⊢
  have hl : lv_has ls 3 [(0, .ref o1), (1, .int a1)] := hl
  refine gen_Q (fun Q hQ => ?_)
  refine lv_iload_n hx hb dX12_nodes_0 rfl (lv_at hl 1 rfl) ?_
  refine lv_iconst (v := 0) hx hb dX12_nodes_1 (by decide) ?_
  refine lv_bipush (v := 12) hx hb dX12_nodes_2 (by decide) ?_
  refine kc_i (D := (dC, dI)) (S := Unit) (wc := []) (wr := [(o1, .inr (12, [.int v2, .ref o3, .int v5, .ref o6, .int v8, .ref o9, .ref o11, .int v13, .ref o14, .int v16, .ref o17, .int v19, .int v20, .int v21, .ref o22, .ref o24, .ref o26, .ref o28, .ref o30, .int v32, .ref o33, .ref o35, .ref o37, .int v39, .ref o40, .ref o42, .ref o44, .int v46, .ref o47])), (o6, .inl (cI, 12, .inl fw7)), (o14, .inl (cI, 12, .inl fw15))]) (w1 := fun _ => []) (wn := fun _ => [(o1, .inr (12, [.int v2, .ref o3, .int v5, .ref o6, .int v8, .ref o9, .ref o11, .int v13, .ref o14, .int v16, .ref o17, .int v19, .int v20, .int v21, .ref o22, .ref o24, .ref o26, .ref o28, .ref o30, .int v32, .ref o33, .ref o35, .ref o37, .int v39, .ref o40, .ref o42, .ref o44, .int v46, .ref o47])), (o6, .inl (cI, 12, .inl fw7)), (o14, .inl (cI, 12, .inl fw15))]) (fun hPc hDc => va_runS (As := [.int a1, .int 0, .int 12]) (rest := []) ⟨hx, hb, hml, hown, hts⟩ (kxX12_in_12 l dC dI cI c2 cZ a1 0 12 s.heap.size ik_0 (iv_w ik_12 (by decide))) (va_cwS 3 hts gX12_nodes_X12_in rfl rfl rfl (by decide +kernel) ⟨Nat.le_of_ble_eq_true rfl, Nat.le_of_ble_eq_true rfl⟩) (pre_S hPc hK hDc hN) rfl rfl hl.1 rfl (lv_room (Nat.le_of_ble_eq_true rfl)) dX12_nodes_4 ⟨Nat.le_of_ble_eq_true rfl, Nat.le_of_ble_eq_true rfl⟩) hP hD hS hA [] [0, 1, 2] [0, 1, 2] rfl rfl (by decide +kernel) (by decide +kernel) (by decide +kernel) (by decide +kernel) (fun _ => rfl) (fun x1 _ H locs hq hP hD hS => ?_)
  obtain ⟨x1_h, i2, e3⟩ := hq
  have hP : va_P (dC, dI) vwCl ([(o1, .inr (12, [.int v2, .ref o3, .int v5, .ref o6, .int v8, .ref o9, .ref o11, .int v13, .ref o14, .int v16, .ref o17, .int v19, .int v20, .int v21, .ref o22, .ref o24, .ref o26, .ref o28, .ref o30, .int v32, .ref o33, .ref o35, .ref o37, .int v39, .ref o40, .ref o42, .ref o44, .int v46, .ref o47])), (o6, .inl (cI, 12, .inl fw7)), (o14, .inl (cI, 12, .inl fw15))]) H := hP
  have hD : va_D A ([(o1, .inr (12, [.int v2, .ref o3, .int v5, .ref o6, .int v8, .ref o9, .ref o11, .int v13, .ref o14, .int v16, .ref o17, .int v19, .int v20, .int v21, .ref o22, .ref o24, .ref o26, .ref o28, .ref o30, .int v32, .ref o33, .ref o35, .ref o37, .int v39, .ref o40, .ref o42, .ref o44, .int v46, .ref o47])), (o6, .inl (cI, 12, .inl fw7)), (o14, .inl (cI, 12, .inl fw15))]) := hD
  refine lv_if_ne (tgt := 12) hx hb dX12_nodes_7 (by decide) (fun h4 => ?_) (fun h4 => ?_)
  ·
    have j5 : Iv 1 1 x1 := r_nelo h4 x1_h ik_0 (by decide)
    have j6 : Iv 0 12 a1 := i2 h4
    refine lv_aload_n hx hb dX12_nodes_12 rfl (lv_at hl 0 rfl) ?_
    refine lv_iload_n hx hb dX12_nodes_13 rfl (lv_at hl 1 rfl) ?_
    refine va_put (D := (dC, dI)) (ci := 12) (v := .int a1) (ty := .int) (C := RX12) (T := TX12) (N := 29) hx hb hts iw_X12_nodes_X12 tyX12 tyX12_ok nmX12 hown hK hP hD hS 0 rfl rfl 2 (by decide) (hts (.fieldLink RX12 73 "HolelessHouseModel" "n" "I") hm_X12_nodes_1) (fun _ h9 => h9) rfl (by decide +kernel) rfl rfl (Nat.le_of_ble_eq_true rfl) dX12_nodes_14 (fun H locs hP hD hS => ?_)
    have hP : va_P (dC, dI) vwCl ([(o1, .inr (12, [.int v2, .ref o3, .int a1, .ref o6, .int v8, .ref o9, .ref o11, .int v13, .ref o14, .int v16, .ref o17, .int v19, .int v20, .int v21, .ref o22, .ref o24, .ref o26, .ref o28, .ref o30, .int v32, .ref o33, .ref o35, .ref o37, .int v39, .ref o40, .ref o42, .ref o44, .int v46, .ref o47])), (o6, .inl (cI, 12, .inl fw7)), (o14, .inl (cI, 12, .inl fw15))]) H := hP
    have hD : va_D A ([(o1, .inr (12, [.int v2, .ref o3, .int a1, .ref o6, .int v8, .ref o9, .ref o11, .int v13, .ref o14, .int v16, .ref o17, .int v19, .int v20, .int v21, .ref o22, .ref o24, .ref o26, .ref o28, .ref o30, .int v32, .ref o33, .ref o35, .ref o37, .int v39, .ref o40, .ref o42, .ref o44, .int v46, .ref o47])), (o6, .inl (cI, 12, .inl fw7)), (o14, .inl (cI, 12, .inl fw15))]) := hD
    refine lv_iconst (v := 0) hx hb dX12_nodes_17 (by decide) ?_
    refine lv_istore_n (lv' := [(2, .int 0), (0, .ref o1), (1, .int a1)]) hx hb dX12_nodes_18 rfl hl (by decide) rfl (fun ls hl => ?_)
    have L1 : ∀ (N : Nat) (x39 : Int32) (f40 : Nat → Int32) (H : Heap) (locs : List Loc) (ls : Array Slot), (12 - x39.toInt).toNat < N → Iv 0 12 x39 → Bd 12 0 4095 f40 → va_P (dC, dI) vwCl ([(o1, .inr (12, [.int v2, .ref o3, .int a1, .ref o6, .int v8, .ref o9, .ref o11, .int v13, .ref o14, .int v16, .ref o17, .int v19, .int v20, .int v21, .ref o22, .ref o24, .ref o26, .ref o28, .ref o30, .int v32, .ref o33, .ref o35, .ref o37, .int v39, .ref o40, .ref o42, .ref o44, .int v46, .ref o47])), (o6, .inl (cI, 12, .inl f40)), (o14, .inl (cI, 12, .inl fw15))]) H → va_D A ([(o1, .inr (12, [.int v2, .ref o3, .int a1, .ref o6, .int v8, .ref o9, .ref o11, .int v13, .ref o14, .int v16, .ref o17, .int v19, .int v20, .int v21, .ref o22, .ref o24, .ref o26, .ref o28, .ref o30, .int v32, .ref o33, .ref o35, .ref o37, .int v39, .ref o40, .ref o42, .ref o44, .int v46, .ref o47])), (o6, .inl (cI, 12, .inl f40)), (o14, .inl (cI, 12, .inl fw15))]) → va_S A s.heap H locs → lv_has ls 3 [(2, .int x39), (0, .ref o1), (1, .int a1)] → W p l e ({ frames := 1, cells := 0, slots := 0, locals := 22 }) s m ([.ref o1, .int a1] : List Value).toArray below meth c H locs 0 0 Q (F0 m 19 ls []) := by
      intro N
      induction N with
      | zero =>
        intro x39 f40 H locs ls hM
        exact absurd hM (Nat.not_lt_zero _)
      | succ N ih1 =>
        intro x39 f40 H locs ls hM1 x39_h f40_b hP hD hS hl
        refine lv_iload_n hx hb dX12_nodes_19 rfl (lv_at hl 0 rfl) ?_
        refine lv_bipush (v := 12) hx hb dX12_nodes_20 (by decide) ?_
        refine lv_icmp_ge (tgt := 38) hx hb dX12_nodes_22 (by decide) (fun h41 => ?_) (fun h41 => ?_)
        ·
          have qh41 := le_i h41
          have j42 : Iv 12 12 x39 := r_ler qh41 ik_12 x39_h (by decide)
          refine lv_aload_n hx hb dX12_nodes_38 rfl (lv_at hl 1 rfl) ?_
          refine lv_iconst (v := 0) hx hb dX12_nodes_39 (by decide) ?_
          refine va_put (D := (dC, dI)) (ci := 12) (v := .int 0) (ty := .int) (C := RX12) (T := TX12) (N := 29) hx hb hts iw_X12_nodes_X12 tyX12 tyX12_ok nmX12 hown hK hP hD hS 0 rfl rfl 9 (by decide) (hts (.fieldLink RX12 80 "HolelessHouseModel" "drafted" "I") hm_X12_nodes_3) (fun _ h9 => h9) rfl (by decide +kernel) rfl rfl (Nat.le_of_ble_eq_true rfl) dX12_nodes_40 (fun H locs hP hD hS => ?_)
          have hP : va_P (dC, dI) vwCl ([(o1, .inr (12, [.int v2, .ref o3, .int a1, .ref o6, .int v8, .ref o9, .ref o11, .int v13, .ref o14, .int 0, .ref o17, .int v19, .int v20, .int v21, .ref o22, .ref o24, .ref o26, .ref o28, .ref o30, .int v32, .ref o33, .ref o35, .ref o37, .int v39, .ref o40, .ref o42, .ref o44, .int v46, .ref o47])), (o6, .inl (cI, 12, .inl f40)), (o14, .inl (cI, 12, .inl fw15))]) H := hP
          have hD : va_D A ([(o1, .inr (12, [.int v2, .ref o3, .int a1, .ref o6, .int v8, .ref o9, .ref o11, .int v13, .ref o14, .int 0, .ref o17, .int v19, .int v20, .int v21, .ref o22, .ref o24, .ref o26, .ref o28, .ref o30, .int v32, .ref o33, .ref o35, .ref o37, .int v39, .ref o40, .ref o42, .ref o44, .int v46, .ref o47])), (o6, .inl (cI, 12, .inl f40)), (o14, .inl (cI, 12, .inl fw15))]) := hD
          refine lv_aload_n hx hb dX12_nodes_43 rfl (lv_at hl 1 rfl) ?_
          refine kc_v (D := (dC, dI)) (S := Int32) (wc := [(o1, .inr (12, [.int v2, .ref o3, .int a1, .ref o6, .int v8, .ref o9, .ref o11, .int v13, .ref o14, .int 0, .ref o17, .int v19, .int v20, .int v21, .ref o22, .ref o24, .ref o26, .ref o28, .ref o30, .int v32, .ref o33, .ref o35, .ref o37, .int v39, .ref o40, .ref o42, .ref o44, .int v46, .ref o47]))]) (wr := [(o6, .inl (cI, 12, .inl f40)), (o14, .inl (cI, 12, .inl fw15))]) (w1 := fun u => [(o1, .inr (12, [.int v2, .ref o3, .int a1, .ref o6, .int v8, .ref o9, .ref o11, .int v13, .ref o14, .int 0, .ref o17, .int u, .int v20, .int v21, .ref o22, .ref o24, .ref o26, .ref o28, .ref o30, .int v32, .ref o33, .ref o35, .ref o37, .int v39, .ref o40, .ref o42, .ref o44, .int v46, .ref o47]))]) (wn := fun u => [(o1, .inr (12, [.int v2, .ref o3, .int a1, .ref o6, .int v8, .ref o9, .ref o11, .int v13, .ref o14, .int 0, .ref o17, .int u, .int v20, .int v21, .ref o22, .ref o24, .ref o26, .ref o28, .ref o30, .int v32, .ref o33, .ref o35, .ref o37, .int v39, .ref o40, .ref o42, .ref o44, .int v46, .ref o47])), (o6, .inl (cI, 12, .inl f40)), (o14, .inl (cI, 12, .inl fw15))]) (fun hPc hDc => va_runV (As := []) (rest := []) ⟨hx, hb, hml, hown, hts⟩ (kX12_changed_1 l dC dI cI c2 cZ o1 o3 o6 o9 o11 o14 o17 o22 o24 o26 o28 o30 o33 o35 o37 o40 o42 o44 o47 v2 a1 v8 v13 0 v19 v20 v21 v32 v39 v46 H.size j6 v8_h v13_h (iv_w ik_0 (by decide)) v19_h v32_h v39_h v46_h) (cwV 0 hts gX12_nodes_X12_changed rfl rfl rfl (by decide +kernel) ⟨Nat.le_of_ble_eq_true rfl, Nat.le_of_ble_eq_true rfl⟩) (pre_V hPc hK hDc hN (ci := 12) (q0 := 0) rfl rfl) rfl rfl hl.1 rfl (lv_room (Nat.le_of_ble_eq_true rfl)) dX12_nodes_44 ⟨Nat.le_of_ble_eq_true rfl, Nat.le_of_ble_eq_true rfl⟩) hP hD hS hA [0] [1, 2] [2, 0, 1] rfl rfl (by decide +kernel) (by decide +kernel) (by decide +kernel) (by decide +kernel) (fun _ => rfl) (fun y43 H locs hq hP hD hS => ?_)
          have y43_h := hq
          have hP : va_P (dC, dI) vwCl ([(o1, .inr (12, [.int v2, .ref o3, .int a1, .ref o6, .int v8, .ref o9, .ref o11, .int v13, .ref o14, .int 0, .ref o17, .int y43, .int v20, .int v21, .ref o22, .ref o24, .ref o26, .ref o28, .ref o30, .int v32, .ref o33, .ref o35, .ref o37, .int v39, .ref o40, .ref o42, .ref o44, .int v46, .ref o47])), (o6, .inl (cI, 12, .inl f40)), (o14, .inl (cI, 12, .inl fw15))]) H := hP
          have hD : va_D A ([(o1, .inr (12, [.int v2, .ref o3, .int a1, .ref o6, .int v8, .ref o9, .ref o11, .int v13, .ref o14, .int 0, .ref o17, .int y43, .int v20, .int v21, .ref o22, .ref o24, .ref o26, .ref o28, .ref o30, .int v32, .ref o33, .ref o35, .ref o37, .int v39, .ref o40, .ref o42, .ref o44, .int v46, .ref o47])), (o6, .inl (cI, 12, .inl f40)), (o14, .inl (cI, 12, .inl fw15))]) := hD
          refine lv_aload_n hx hb dX12_nodes_47 rfl (lv_at hl 1 rfl) ?_
          refine va_get (D := (dC, dI)) (ci := 12) (v := .int a1) (C := RX12) (T := TX12) (N := 29) hx hb hts iw_X12_nodes_X12 hown hK hP 0 rfl rfl 2 (by decide) (hts (.fieldLink RX12 73 "HolelessHouseModel" "n" "I") hm_X12_nodes_1) (fun _ h9 => h9) rfl dX12_nodes_48 ?_
          rw [hQ]
          exact W.iret (v := a1) hx hb hr (fun t ht hW => ⟨⟨a1, (a1, 0, y43, f40), rfl, ⟨(iv_w j6 (by decide)), j6, (iv_w ik_0 (by decide)), (iv_w y43_h (by decide)), f40_b, (nodeF_ok j6), DR_0⟩, by rw [ht]; exact hP, va_K.moved hW.alike hK, hD⟩, hS.F ht⟩) hS.2.2 dX12_nodes_51
        ·
          have qh41 := nle_i h41
          have j44 : Iv 0 11 x39 := r_ltl qh41 x39_h ik_12 (by decide)
          refine lv_aload_n hx hb dX12_nodes_25 rfl (lv_at hl 1 rfl) ?_
          refine va_get (D := (dC, dI)) (ci := 12) (v := .ref o6) (C := RX12) (T := TX12) (N := 29) hx hb hts iw_X12_nodes_X12 hown hK hP 0 rfl rfl 3 (by decide) (hts (.fieldLink RX12 13 "HolelessHouseModel" "near" "[I") hm_X12_nodes_2) (fun _ h9 => h9) rfl dX12_nodes_26 ?_
          refine lv_iload_n hx hb dX12_nodes_29 rfl (lv_at hl 0 rfl) ?_
          refine lv_iconst (v := 0) hx hb dX12_nodes_30 (by decide) ?_
          refine k_iast hx hb hK hP hD hS 1 0 rfl rfl (vin_iv j44 (by decide)) dX12_nodes_31 (fun f45 H locs f45_e hP hD hS => ?_)
          have f45_b : Bd 12 0 4095 f45 := bd_upd f45_e f40_b ik_0 (by decide)
          have hP : va_P (dC, dI) vwCl ([(o1, .inr (12, [.int v2, .ref o3, .int a1, .ref o6, .int v8, .ref o9, .ref o11, .int v13, .ref o14, .int v16, .ref o17, .int v19, .int v20, .int v21, .ref o22, .ref o24, .ref o26, .ref o28, .ref o30, .int v32, .ref o33, .ref o35, .ref o37, .int v39, .ref o40, .ref o42, .ref o44, .int v46, .ref o47])), (o6, .inl (cI, 12, .inl f45)), (o14, .inl (cI, 12, .inl fw15))]) H := hP
          have hD : va_D A ([(o1, .inr (12, [.int v2, .ref o3, .int a1, .ref o6, .int v8, .ref o9, .ref o11, .int v13, .ref o14, .int v16, .ref o17, .int v19, .int v20, .int v21, .ref o22, .ref o24, .ref o26, .ref o28, .ref o30, .int v32, .ref o33, .ref o35, .ref o37, .int v39, .ref o40, .ref o42, .ref o44, .int v46, .ref o47])), (o6, .inl (cI, 12, .inl f45)), (o14, .inl (cI, 12, .inl fw15))]) := hD
          obtain ⟨x46, x46_e⟩ : ∃ z : Int32, z = x39 + 1 := ⟨_, rfl⟩
          have x46_h : Iv 1 12 x46 := iv_e x46_e (iv_add j44 ik_1 (by decide))
          refine lv_iinc (v := x46) (lv' := [(2, .int x46), (0, .ref o1), (1, .int a1)]) hx hb dX12_nodes_32 hl (k := 0) rfl (incN (by decide +kernel) x46_e) (by decide) rfl (fun ls hl => ?_)
          refine lv_goto (tgt := 19) hx hb dX12_nodes_35 (by decide) ?_
          exact ih1 x46 f45 _ _ _ (ms_up x46_e j44 (by decide) hM1) (iv_w x46_h (by decide)) f45_b hP hD hS hl
    exact L1 _ 0 fw7 _ _ _ (Nat.lt_succ_self _) (iv_w ik_0 (by decide)) fw7_b hP hD hS hl
  ·
    have j47 : Iv 0 0 x1 := r_eq h4 ik_0
    refine lv_iconst (v := (-1)) hx hb dX12_nodes_10 (by decide) ?_
    rw [hQ]
    exact W.iret (v := (-1)) hx hb hr (fun t ht hW => ⟨⟨(-1), (v5, v16, v19, fw7), rfl, ⟨(iv_w ikm_1 (by decide)), v5_h, v16_h, v19_h, fw7_b, (nodeF_no e3 h4), pre0⟩, by rw [ht]; exact hP, va_K.moved hW.alike hK, hD⟩, hS.F ht⟩) hS.2.2 dX12_nodes_11
