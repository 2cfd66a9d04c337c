set_option maxHeartbeats 1000000 in
set_option maxRecDepth 100000 in
theorem kX10_hasRun_63 (l : Launch) (dC : Nat → ClassId) (dI : Nat → Nat → Nat) (cI c2 : ClassId) (o0 : Nat) (o1 : Nat) (sz : Nat) (a2 : Int32) (a2_lo : 3 ≤ a2.toInt) (a2_hi : a2.toInt ≤ 12) : Met l yX10_hasRun wsX10_hasRun ({ frames := 0, cells := 0, slots := 0, locals := 0 }) (va_Pc [.ref o0, .int a2, .int 10] (wPre (dC, dI) [(cI, .int), (c2, .array .int)] [(o0, .inr (10, [.ref o1, .int 0, .int 0]))] sz)) (va_Qi (fun (r : Int32) (_ : Unit) => r = 0) (fun _ t => wPost (dC, dI) [(cI, .int), (c2, .array .int)] (va_A [(o0, .inr (10, [.ref o1, .int 0, .int 0]))] sz) [(o0, .inr (10, [.ref o1, .int 0, .int 0]))] t) (va_A [(o0, .inr (10, [.ref o1, .int 0, .int 0]))] sz)) 0 0 (va_A [(o0, .inr (10, [.ref o1, .int 0, .int 0]))] sz) := by
  refine Met.ofW (cc := cX10_hasRun) (maxL := 3) (ret := (some .boolean)) (by decide) rfl ?_
  intro p e s m args below meth c s₁ B hml hv
  obtain ⟨rfl, hsz, hP, hK, hD0, hN⟩ := hv
  have hx := B.exec
  have hb := B.bytes
  have hr := B.returns
  have hts := atoms_spec (ws := wsX10_hasRun) B.pre
  have hown : s.vm.findClass RX10 = some m.cls := findClass_of_methodNamed B.named
  have hlocks := B.notSynchronized
  subst hsz
  have hD := hD0.self (sz := s.heap.size)
  generalize hAe : va_A [(o0, .inr (10, [.ref o1, .int 0, .int 0]))] s.heap.size = A at hD ⊢
  have hA : ∀ q : Nat, s.heap.size ≤ q → A q := fun q h => by rw [← hAe]; exact Or.inr h
  have hS : va_S A s.heap s.heap [] := va_S.rf
  have hP : va_P (dC, dI) vwCl [(o0, .inr (10, [.ref o1, .int 0, .int 0]))] s.heap := hP
  have hl := lv_entry ([.ref o0, .int a2, .int 10]) (n := 3) (Nat.le_of_ble_eq_true rfl)
  rw [lg_entry_eq]
  generalize (lg_sl ([.ref o0, .int a2, .int 10]) ++ List.replicate (3 - (lg_sl ([.ref o0, .int a2, .int 10])).length) Slot.unset).toArray = ls at hl ⊢
  have hl : lv_has ls 3 [(0, .ref o0), (1, .int a2), (2, .int 10)] := hl
  refine lv_iload_n hx hb dX10_hasRun_0 rfl (lv_at hl 1 rfl) ?_
  refine lv_if_lt (tgt := 26) hx hb dX10_hasRun_1 (by decide) (fun h9 => absurd h9 (ib_nlt (X := a2.toInt) (Y := 0) rfl (by decide +kernel) (by omega))) (fun _ => ?_)
  refine lv_iload_n hx hb dX10_hasRun_4 rfl (lv_at hl 2 rfl) ?_
  refine lv_if_lt (tgt := 26) hx hb dX10_hasRun_5 (by decide) (fun h9 => absurd h9 (by decide +kernel)) (fun _ => ?_)
  refine lv_iload_n hx hb dX10_hasRun_8 rfl (lv_at hl 1 rfl) ?_
  refine lv_bipush (v := 12) hx hb dX10_hasRun_9 (by decide) ?_
  refine lv_icmp_gt (tgt := 26) hx hb dX10_hasRun_11 (by decide) (fun h9 => absurd h9 (ib_nlt (X := 12) (Y := a2.toInt) (by decide +kernel) rfl (by omega))) (fun _ => ?_)
  refine lv_iload_n hx hb dX10_hasRun_14 rfl (lv_at hl 2 rfl) ?_
  refine lv_bipush (v := 12) hx hb dX10_hasRun_15 (by decide) ?_
  refine lv_iload_n hx hb dX10_hasRun_17 rfl (lv_at hl 1 rfl) ?_
  refine lv_isub hx hb dX10_hasRun_18 ?_
  refine lv_icmp_gt (tgt := 26) hx hb dX10_hasRun_19 (by decide) (fun _ => ?_) (fun h9 => absurd (ib_lt (X := (12 - a2.toInt)) (Y := 10) (ti_sub (by decide +kernel) (by omega) (by omega)) (by decide +kernel) (by omega)) h9)
  refine lv_iconst (v := 0) hx hb dX10_hasRun_26 (by decide) ?_
  have hP9 := hP.sub (ws' := [(o0, .inr (10, [.ref o1, .int 0, .int 0]))]) [0] rfl
  have hD9 := hD.sub (ws' := [(o0, .inr (10, [.ref o1, .int 0, .int 0]))]) [0] (by decide) rfl
  exact W.zret (v := 0) (ty := .boolean) hx hb hr rfl (fun t ht hW => ⟨⟨0, (), rfl, rfl, by rw [ht]; exact hP9, va_K.moved hW.alike hK, hD9⟩, hS.F ht⟩) hS.2.2 dX10_hasRun_27
set_option maxHeartbeats 1000000 in
set_option maxRecDepth 100000 in
theorem kX11_copy_63 (l : Launch) (dC : Nat → ClassId) (dI : Nat → Nat → Nat) (cI c2 : ClassId) (o0 : Nat) (o1 : Nat) (o2 : Nat) (o3 : Nat) (o4 : Nat) (o5 : Nat) (o6 : Nat) (o7 : Nat) (o8 : Nat) (o9 : Nat) (o10 : Nat) (o11 : Nat) (o12 : Nat) (o13 : Nat) (sz : Nat) (a1 : Int32) (a2 : Int32) (a1_lo : 0 ≤ a1.toInt) (a1_hi : a1.toInt ≤ 2) (a2_lo : 3 ≤ a2.toInt) (a2_hi : a2.toInt ≤ 12) : Met l yX11_copy wsX11_copy ({ frames := 1, cells := 0, slots := 0, locals := 22 }) (va_Pc [.ref o0, .int a1, .int a2, .int 10] (wPre (dC, dI) [(cI, .int), (c2, .array .int)] [(o0, .inr (11, [.ref o3, .ref o1, .ref o4, .ref o5, .ref o6, .ref o7, .ref o8, .ref o9, .ref o10, .ref o11, .ref o12, .ref o2, .int 0])), (o1, .inr (10, [.ref o13, .int 0, .int 0])), (o2, .inl (cI, 5, .inl (fun _ => 0)))] sz)) (va_Qi (fun (r : Int32) (_ : Unit) => r = (-3)) (fun _ t => wPost (dC, dI) [(cI, .int), (c2, .array .int)] (va_A [(o0, .inr (11, [.ref o3, .ref o1, .ref o4, .ref o5, .ref o6, .ref o7, .ref o8, .ref o9, .ref o10, .ref o11, .ref o12, .ref o2, .int 0])), (o1, .inr (10, [.ref o13, .int 0, .int 0])), (o2, .inl (cI, 5, .inl (fun _ => 0)))] sz) [] t) (va_A [(o0, .inr (11, [.ref o3, .ref o1, .ref o4, .ref o5, .ref o6, .ref o7, .ref o8, .ref o9, .ref o10, .ref o11, .ref o12, .ref o2, .int 0])), (o1, .inr (10, [.ref o13, .int 0, .int 0])), (o2, .inl (cI, 5, .inl (fun _ => 0)))] sz)) 0 0 (va_A [(o0, .inr (11, [.ref o3, .ref o1, .ref o4, .ref o5, .ref o6, .ref o7, .ref o8, .ref o9, .ref o10, .ref o11, .ref o12, .ref o2, .int 0])), (o1, .inr (10, [.ref o13, .int 0, .int 0])), (o2, .inl (cI, 5, .inl (fun _ => 0)))] sz) := by
  refine Met.ofW (cc := cX11_copy) (maxL := 4) (ret := (some .int)) (by decide) rfl ?_
  intro p e s m args below meth c s₁ B hml hv
  obtain ⟨rfl, hsz, hP, hK, hD0, hN⟩ := hv
  have hx := B.exec
  have hb := B.bytes
  have hr := B.returns
  have hts := atoms_spec (ws := wsX11_copy) B.pre
  have hown : s.vm.findClass RX11 = some m.cls := findClass_of_methodNamed B.named
  have hlocks := B.notSynchronized
  subst hsz
  have hD := hD0.self (sz := s.heap.size)
  generalize hAe : va_A [(o0, .inr (11, [.ref o3, .ref o1, .ref o4, .ref o5, .ref o6, .ref o7, .ref o8, .ref o9, .ref o10, .ref o11, .ref o12, .ref o2, .int 0])), (o1, .inr (10, [.ref o13, .int 0, .int 0])), (o2, .inl (cI, 5, .inl (fun _ => 0)))] s.heap.size = A at hD ⊢
  have hA : ∀ q : Nat, s.heap.size ≤ q → A q := fun q h => by rw [← hAe]; exact Or.inr h
  have hS : va_S A s.heap s.heap [] := va_S.rf
  have hP : va_P (dC, dI) vwCl [(o0, .inr (11, [.ref o3, .ref o1, .ref o4, .ref o5, .ref o6, .ref o7, .ref o8, .ref o9, .ref o10, .ref o11, .ref o12, .ref o2, .int 0])), (o1, .inr (10, [.ref o13, .int 0, .int 0])), (o2, .inl (cI, 5, .inl (fun _ => 0)))] s.heap := hP
  have hl := lv_entry ([.ref o0, .int a1, .int a2, .int 10]) (n := 4) (Nat.le_of_ble_eq_true rfl)
  rw [lg_entry_eq]
  generalize (lg_sl ([.ref o0, .int a1, .int a2, .int 10]) ++ List.replicate (4 - (lg_sl ([.ref o0, .int a1, .int a2, .int 10])).length) Slot.unset).toArray = ls at hl ⊢
  have hl : lv_has ls 4 [(0, .ref o0), (1, .int a1), (2, .int a2), (3, .int 10)] := hl
  refine lv_aload_n hx hb dX11_copy_0 rfl (lv_at hl 0 rfl) ?_
  refine va_get (D := (dC, dI)) (ci := 11) (v := .ref o1) (C := RX11) (T := TX11) (N := 13) hx hb hts iw_X11_copy_X11 hown hK hP 0 rfl rfl 1 (by decide) (hts (.fieldLink RX11 19 "HolelessHouse" "table" "LHolelessHouse$Table;") (by decide +kernel)) (fun _ h9 => h9) rfl dX11_copy_1 ?_
  refine lv_iload_n hx hb dX11_copy_4 rfl (lv_at hl 1 rfl) ?_
  refine lv_iload_n hx hb dX11_copy_5 rfl (lv_at hl 3 rfl) ?_
  refine kcall_i (D := (dC, dI)) (S := Unit) (v := 1) (wc := [(o1, .inr (10, [.ref o13, .int 0, .int 0]))]) (wr := [(o0, .inr (11, [.ref o3, .ref o1, .ref o4, .ref o5, .ref o6, .ref o7, .ref o8, .ref o9, .ref o10, .ref o11, .ref o12, .ref o2, .int 0])), (o2, .inl (cI, 5, .inl (fun _ => 0)))]) (w1 := fun _ => [(o1, .inr (10, [.ref o13, .int 0, .int 0]))]) (fun hPc hDc => va_runVN (As := [.int a1, .int 10]) (rest := []) ⟨hx, hb, hml, hown, hts⟩ (kX10_hasRun_60 l dC dI cI c2 o1 o13 s.heap.size a1 (by omega) (by omega)) ⟨va_cnB 2 hts gX11_copy_X10_hasRun_n259 rfl rfl rfl (hN.1 _ ns_135) (hts (.initialized RX10) (by decide +kernel)) (by decide +kernel) ⟨Nat.le_of_ble_eq_true rfl, Nat.le_of_ble_eq_true rfl⟩, (hts (.instanceMethod yX10_hasRun) (by decide +kernel)), (hts (.selects RX10 yX10_hasRun yX10_hasRun) (by decide +kernel))⟩ (pre_V hPc hK hDc hN (ci := 10) (q0 := 0) rfl rfl) rfl rfl hl.1 rfl (lv_room (Nat.le_of_ble_eq_true rfl)) dX11_copy_6 ⟨Nat.le_of_ble_eq_true rfl, Nat.le_of_ble_eq_true rfl⟩) hP hD hS hA [1] [0, 2] rfl rfl (by decide) (by decide) (by decide) (fun u H locs hP hD hS => ?_)
  have hP : va_P (dC, dI) vwCl [(o0, .inr (11, [.ref o3, .ref o1, .ref o4, .ref o5, .ref o6, .ref o7, .ref o8, .ref o9, .ref o10, .ref o11, .ref o12, .ref o2, .int 0])), (o2, .inl (cI, 5, .inl (fun _ => 0))), (o1, .inr (10, [.ref o13, .int 0, .int 0]))] H := hP
  have hD : va_D A [(o0, .inr (11, [.ref o3, .ref o1, .ref o4, .ref o5, .ref o6, .ref o7, .ref o8, .ref o9, .ref o10, .ref o11, .ref o12, .ref o2, .int 0])), (o2, .inl (cI, 5, .inl (fun _ => 0))), (o1, .inr (10, [.ref o13, .int 0, .int 0]))] := hD
  refine lv_if_eq (tgt := 24) hx hb dX11_copy_9 (by decide) (fun h9 => absurd h9 (by decide +kernel)) (fun _ => ?_)
  refine lv_aload_n hx hb dX11_copy_12 rfl (lv_at hl 0 rfl) ?_
  refine va_get (D := (dC, dI)) (ci := 11) (v := .ref o1) (C := RX11) (T := TX11) (N := 13) hx hb hts iw_X11_copy_X11 hown hK hP 0 rfl rfl 1 (by decide) (hts (.fieldLink RX11 19 "HolelessHouse" "table" "LHolelessHouse$Table;") (by decide +kernel)) (fun _ h9 => h9) rfl dX11_copy_13 ?_
  refine lv_iload_n hx hb dX11_copy_16 rfl (lv_at hl 2 rfl) ?_
  refine lv_iload_n hx hb dX11_copy_17 rfl (lv_at hl 3 rfl) ?_
  refine kcall_i (D := (dC, dI)) (S := Unit) (v := 0) (wc := [(o1, .inr (10, [.ref o13, .int 0, .int 0]))]) (wr := [(o0, .inr (11, [.ref o3, .ref o1, .ref o4, .ref o5, .ref o6, .ref o7, .ref o8, .ref o9, .ref o10, .ref o11, .ref o12, .ref o2, .int 0])), (o2, .inl (cI, 5, .inl (fun _ => 0)))]) (w1 := fun _ => [(o1, .inr (10, [.ref o13, .int 0, .int 0]))]) (fun hPc hDc => va_runVN (As := [.int a2, .int 10]) (rest := []) ⟨hx, hb, hml, hown, hts⟩ (kX10_hasRun_63 l dC dI cI c2 o1 o13 H.size a2 (by omega) (by omega)) ⟨va_cnB 2 hts gX11_copy_X10_hasRun_n259 rfl rfl rfl (hN.1 _ ns_135) (hts (.initialized RX10) (by decide +kernel)) (by decide +kernel) ⟨Nat.le_of_ble_eq_true rfl, Nat.le_of_ble_eq_true rfl⟩, (hts (.instanceMethod yX10_hasRun) (by decide +kernel)), (hts (.selects RX10 yX10_hasRun yX10_hasRun) (by decide +kernel))⟩ (pre_V hPc hK hDc hN (ci := 10) (q0 := 0) rfl rfl) rfl rfl hl.1 rfl (lv_room (Nat.le_of_ble_eq_true rfl)) dX11_copy_18 ⟨Nat.le_of_ble_eq_true rfl, Nat.le_of_ble_eq_true rfl⟩) hP hD hS hA [2] [0, 1] rfl rfl (by decide) (by decide) (by decide) (fun u H locs hP hD hS => ?_)
  have hP : va_P (dC, dI) vwCl [(o0, .inr (11, [.ref o3, .ref o1, .ref o4, .ref o5, .ref o6, .ref o7, .ref o8, .ref o9, .ref o10, .ref o11, .ref o12, .ref o2, .int 0])), (o2, .inl (cI, 5, .inl (fun _ => 0))), (o1, .inr (10, [.ref o13, .int 0, .int 0]))] H := hP
  have hD : va_D A [(o0, .inr (11, [.ref o3, .ref o1, .ref o4, .ref o5, .ref o6, .ref o7, .ref o8, .ref o9, .ref o10, .ref o11, .ref o12, .ref o2, .int 0])), (o2, .inl (cI, 5, .inl (fun _ => 0))), (o1, .inr (10, [.ref o13, .int 0, .int 0]))] := hD
  refine lv_if_ne (tgt := 30) hx hb dX11_copy_21 (by decide) (fun h9 => absurd (by decide +kernel) h9) (fun _ => ?_)
  refine lv_aload_n hx hb dX11_copy_24 rfl (lv_at hl 0 rfl) ?_
  refine lv_iconst (v := 2) hx hb dX11_copy_25 (by decide) ?_
  refine kcall_i (D := (dC, dI)) (S := Unit) (v := (-3)) (wc := [(o0, .inr (11, [.ref o3, .ref o1, .ref o4, .ref o5, .ref o6, .ref o7, .ref o8, .ref o9, .ref o10, .ref o11, .ref o12, .ref o2, .int 0])), (o2, .inl (cI, 5, .inl (fun _ => 0)))]) (wr := [(o1, .inr (10, [.ref o13, .int 0, .int 0]))]) (w1 := fun _ => [(o0, .inr (11, [.ref o3, .ref o1, .ref o4, .ref o5, .ref o6, .ref o7, .ref o8, .ref o9, .ref o10, .ref o11, .ref o12, .ref o2, .int 2])), (o2, .inl (cI, 5, .inl (upd (fun _ => 0) (Int32.toNatClampNeg 2) 1)))]) (fun hPc hDc => va_runV (As := [.int 2]) (rest := []) ⟨hx, hb, hml, hown, hts⟩ (kX11_found_2 l dC dI cI c2 o0 o2 o3 o1 o4 o5 o6 o7 o8 o9 o10 o11 o12 H.size) (cwV 1 hts gX11_copy_X11_found rfl rfl rfl (by decide +kernel) ⟨Nat.le_of_ble_eq_true rfl, Nat.le_of_ble_eq_true rfl⟩) (pre_V hPc hK hDc hN (ci := 11) (q0 := 0) rfl rfl) rfl rfl hl.1 rfl (lv_room (Nat.le_of_ble_eq_true rfl)) dX11_copy_26 ⟨Nat.le_of_ble_eq_true rfl, Nat.le_of_ble_eq_true rfl⟩) hP hD hS hA [0, 1] [2] rfl rfl (by decide) (by decide) (by decide) (fun u H locs hP hD hS => ?_)
  have hP : va_P (dC, dI) vwCl [(o1, .inr (10, [.ref o13, .int 0, .int 0])), (o0, .inr (11, [.ref o3, .ref o1, .ref o4, .ref o5, .ref o6, .ref o7, .ref o8, .ref o9, .ref o10, .ref o11, .ref o12, .ref o2, .int 2])), (o2, .inl (cI, 5, .inl (upd (fun _ => 0) (Int32.toNatClampNeg 2) 1)))] H := hP
  have hD : va_D A [(o1, .inr (10, [.ref o13, .int 0, .int 0])), (o0, .inr (11, [.ref o3, .ref o1, .ref o4, .ref o5, .ref o6, .ref o7, .ref o8, .ref o9, .ref o10, .ref o11, .ref o12, .ref o2, .int 2])), (o2, .inl (cI, 5, .inl (upd (fun _ => 0) (Int32.toNatClampNeg 2) 1)))] := hD
  have hP9 := hP.sub (ws' := []) [] rfl
  have hD9 := hD.sub (ws' := []) [] (by decide) rfl
  exact W.iret (v := (-3)) hx hb hr (fun t ht hW => ⟨⟨(-3), (), rfl, rfl, by rw [ht]; exact hP9, va_K.moved hW.alike hK, hD9⟩, hS.F ht⟩) hS.2.2 dX11_copy_29
set_option maxHeartbeats 1000000 in
set_option maxRecDepth 100000 in
theorem kX12_copy_63 (l : Launch) (dC : Nat → ClassId) (dI : Nat → Nat → Nat) (cI c2 : ClassId) (o0 : Nat) (o1 : Nat) (o2 : Nat) (o3 : Nat) (o4 : Nat) (o5 : Nat) (o6 : Nat) (o7 : Nat) (o8 : Nat) (o9 : Nat) (o10 : Nat) (o11 : Nat) (o12 : Nat) (o13 : Nat) (o14 : Nat) (o15 : Nat) (o16 : Nat) (o17 : Nat) (o18 : Nat) (sz : Nat) (a1 : Int32) (a2 : Int32) (a1_lo : 0 ≤ a1.toInt) (a1_hi : a1.toInt ≤ 2) (a2_lo : 3 ≤ a2.toInt) (a2_hi : a2.toInt ≤ 12) : Met l yX12_copy wsX12_copy ({ frames := 1, cells := 0, slots := 0, locals := 21 }) (va_Pc [.ref o0, .int a1, .int a2, .int 10] (wPre (dC, dI) [(cI, .int), (c2, .array .int)] [(o0, .inr (12, [.int 0, .ref o1, .int 0, .ref o2, .int 0, .ref o3, .ref o4, .int 0, .ref o5, .int 0, .ref o6, .int (-9), .int 0, .int 0, .ref o7, .ref o8, .ref o9, .ref o10, .ref o11, .int 0, .ref o12, .ref o13, .ref o14, .int 0, .ref o15, .ref o16, .ref o17, .int 0, .ref o18])), (o1, .inl (cI, 5, .inl (fun _ => 0)))] sz)) (va_Qi (fun (r : Int32) (_ : Unit) => r = (-3)) (fun _ t => wPost (dC, dI) [(cI, .int), (c2, .array .int)] (va_A [(o0, .inr (12, [.int 0, .ref o1, .int 0, .ref o2, .int 0, .ref o3, .ref o4, .int 0, .ref o5, .int 0, .ref o6, .int (-9), .int 0, .int 0, .ref o7, .ref o8, .ref o9, .ref o10, .ref o11, .int 0, .ref o12, .ref o13, .ref o14, .int 0, .ref o15, .ref o16, .ref o17, .int 0, .ref o18])), (o1, .inl (cI, 5, .inl (fun _ => 0)))] sz) [] t) (va_A [(o0, .inr (12, [.int 0, .ref o1, .int 0, .ref o2, .int 0, .ref o3, .ref o4, .int 0, .ref o5, .int 0, .ref o6, .int (-9), .int 0, .int 0, .ref o7, .ref o8, .ref o9, .ref o10, .ref o11, .int 0, .ref o12, .ref o13, .ref o14, .int 0, .ref o15, .ref o16, .ref o17, .int 0, .ref o18])), (o1, .inl (cI, 5, .inl (fun _ => 0)))] sz)) 0 0 (va_A [(o0, .inr (12, [.int 0, .ref o1, .int 0, .ref o2, .int 0, .ref o3, .ref o4, .int 0, .ref o5, .int 0, .ref o6, .int (-9), .int 0, .int 0, .ref o7, .ref o8, .ref o9, .ref o10, .ref o11, .int 0, .ref o12, .ref o13, .ref o14, .int 0, .ref o15, .ref o16, .ref o17, .int 0, .ref o18])), (o1, .inl (cI, 5, .inl (fun _ => 0)))] sz) := by
  refine Met.ofW (cc := cX12_copy) (maxL := 5) (ret := (some .int)) (by decide) rfl ?_
  intro p e s m args below meth c s₁ B hml hv
  obtain ⟨rfl, hsz, hP, hK, hD0, hN⟩ := hv
  have hx := B.exec
  have hb := B.bytes
  have hr := B.returns
  have hts := atoms_spec (ws := wsX12_copy) B.pre
  have hown : s.vm.findClass RX12 = some m.cls := findClass_of_methodNamed B.named
  have hlocks := B.notSynchronized
  subst hsz
  have hD := hD0.self (sz := s.heap.size)
  generalize hAe : va_A [(o0, .inr (12, [.int 0, .ref o1, .int 0, .ref o2, .int 0, .ref o3, .ref o4, .int 0, .ref o5, .int 0, .ref o6, .int (-9), .int 0, .int 0, .ref o7, .ref o8, .ref o9, .ref o10, .ref o11, .int 0, .ref o12, .ref o13, .ref o14, .int 0, .ref o15, .ref o16, .ref o17, .int 0, .ref o18])), (o1, .inl (cI, 5, .inl (fun _ => 0)))] s.heap.size = A at hD ⊢
  have hA : ∀ q : Nat, s.heap.size ≤ q → A q := fun q h => by rw [← hAe]; exact Or.inr h
  have hS : va_S A s.heap s.heap [] := va_S.rf
  have hP : va_P (dC, dI) vwCl [(o0, .inr (12, [.int 0, .ref o1, .int 0, .ref o2, .int 0, .ref o3, .ref o4, .int 0, .ref o5, .int 0, .ref o6, .int (-9), .int 0, .int 0, .ref o7, .ref o8, .ref o9, .ref o10, .ref o11, .int 0, .ref o12, .ref o13, .ref o14, .int 0, .ref o15, .ref o16, .ref o17, .int 0, .ref o18])), (o1, .inl (cI, 5, .inl (fun _ => 0)))] s.heap := hP
  have hl := lv_entry ([.ref o0, .int a1, .int a2, .int 10]) (n := 5) (Nat.le_of_ble_eq_true rfl)
  rw [lg_entry_eq]
  generalize (lg_sl ([.ref o0, .int a1, .int a2, .int 10]) ++ List.replicate (5 - (lg_sl ([.ref o0, .int a1, .int a2, .int 10])).length) Slot.unset).toArray = ls at hl ⊢
  have hl : lv_has ls 5 [(0, .ref o0), (1, .int a1), (2, .int a2), (3, .int 10)] := hl
  refine lv_iload_n hx hb dX12_copy_0 rfl (lv_at hl 1 rfl) ?_
  refine lv_if_lt (tgt := 36) hx hb dX12_copy_1 (by decide) (fun h9 => absurd h9 (ib_nlt (X := a1.toInt) (Y := 0) rfl (by decide +kernel) (by omega))) (fun _ => ?_)
  refine lv_iload_n hx hb dX12_copy_4 rfl (lv_at hl 2 rfl) ?_
  refine lv_if_lt (tgt := 36) hx hb dX12_copy_5 (by decide) (fun h9 => absurd h9 (ib_nlt (X := a2.toInt) (Y := 0) rfl (by decide +kernel) (by omega))) (fun _ => ?_)
  refine lv_iload_n hx hb dX12_copy_8 rfl (lv_at hl 3 rfl) ?_
  refine lv_if_lt (tgt := 36) hx hb dX12_copy_9 (by decide) (fun h9 => absurd h9 (by decide +kernel)) (fun _ => ?_)
  refine lv_iload_n hx hb dX12_copy_12 rfl (lv_at hl 1 rfl) ?_
  refine lv_i2l (v := a1.toInt64) hx hb dX12_copy_13 rfl ?_
  refine lv_iload_n hx hb dX12_copy_14 rfl (lv_at hl 3 rfl) ?_
  refine lv_i2l (v := 10) hx hb dX12_copy_15 (by decide +kernel) ?_
  refine lv_ladd hx hb dX12_copy_16 ?_
  refine lv_ldc2 (v := 12) hx hb hown (hts (.constantLong RX12 209 (12)) (by decide +kernel)) dX12_copy_17 ?_
  refine W.lcmp hx hb dX12_copy_20 ?_
  refine lv_if_gt (tgt := 36) hx hb dX12_copy_21 (by decide) (fun h9 => absurd h9 (lc_nsum (K := 10) (Y := 12) (by decide +kernel) (by decide +kernel) (by omega) (by omega) (by omega))) (fun _ => ?_)
  refine lv_iload_n hx hb dX12_copy_24 rfl (lv_at hl 2 rfl) ?_
  refine lv_i2l (v := a2.toInt64) hx hb dX12_copy_25 rfl ?_
  refine lv_iload_n hx hb dX12_copy_26 rfl (lv_at hl 3 rfl) ?_
  refine lv_i2l (v := 10) hx hb dX12_copy_27 (by decide +kernel) ?_
  refine lv_ladd hx hb dX12_copy_28 ?_
  refine lv_ldc2 (v := 12) hx hb hown (hts (.constantLong RX12 209 (12)) (by decide +kernel)) dX12_copy_29 ?_
  refine W.lcmp hx hb dX12_copy_32 ?_
  refine lv_if_le (tgt := 42) hx hb dX12_copy_33 (by decide) (fun h9 => absurd h9 (i_nle (lc_sum (K := 10) (Y := 12) (by decide +kernel) (by decide +kernel) (by omega) (by omega) (by omega)))) (fun _ => ?_)
  refine lv_aload_n hx hb dX12_copy_36 rfl (lv_at hl 0 rfl) ?_
  refine lv_iconst (v := 2) hx hb dX12_copy_37 (by decide) ?_
  refine kcall_i (D := (dC, dI)) (S := Unit) (v := (-3)) (wc := [(o0, .inr (12, [.int 0, .ref o1, .int 0, .ref o2, .int 0, .ref o3, .ref o4, .int 0, .ref o5, .int 0, .ref o6, .int (-9), .int 0, .int 0, .ref o7, .ref o8, .ref o9, .ref o10, .ref o11, .int 0, .ref o12, .ref o13, .ref o14, .int 0, .ref o15, .ref o16, .ref o17, .int 0, .ref o18])), (o1, .inl (cI, 5, .inl (fun _ => 0)))]) (wr := []) (w1 := fun _ => [(o0, .inr (12, [.int 2, .ref o1, .int 0, .ref o2, .int 0, .ref o3, .ref o4, .int 0, .ref o5, .int 0, .ref o6, .int (-9), .int 0, .int 0, .ref o7, .ref o8, .ref o9, .ref o10, .ref o11, .int 0, .ref o12, .ref o13, .ref o14, .int 0, .ref o15, .ref o16, .ref o17, .int 0, .ref o18])), (o1, .inl (cI, 5, .inl (upd (fun _ => 0) (Int32.toNatClampNeg 2) 1)))]) (fun hPc hDc => va_runV (As := [.int 2]) (rest := []) ⟨hx, hb, hml, hown, hts⟩ (kX12_meets_2 l dC dI cI c2 o0 o1 o2 o3 o4 o5 o6 o7 o8 o9 o10 o11 o12 o13 o14 o15 o16 o17 o18 s.heap.size) (cwV 1 hts gX12_copy_X12_meets rfl rfl rfl (by decide +kernel) ⟨Nat.le_of_ble_eq_true rfl, Nat.le_of_ble_eq_true rfl⟩) (pre_V hPc hK hDc hN (ci := 12) (q0 := 0) rfl rfl) rfl rfl hl.1 rfl (lv_room (Nat.le_of_ble_eq_true rfl)) dX12_copy_38 ⟨Nat.le_of_ble_eq_true rfl, Nat.le_of_ble_eq_true rfl⟩) hP hD hS hA [0, 1] [] rfl rfl (by decide) (by decide) (by decide) (fun u H locs hP hD hS => ?_)
  have hP : va_P (dC, dI) vwCl [(o0, .inr (12, [.int 2, .ref o1, .int 0, .ref o2, .int 0, .ref o3, .ref o4, .int 0, .ref o5, .int 0, .ref o6, .int (-9), .int 0, .int 0, .ref o7, .ref o8, .ref o9, .ref o10, .ref o11, .int 0, .ref o12, .ref o13, .ref o14, .int 0, .ref o15, .ref o16, .ref o17, .int 0, .ref o18])), (o1, .inl (cI, 5, .inl (upd (fun _ => 0) (Int32.toNatClampNeg 2) 1)))] H := hP
  have hD : va_D A [(o0, .inr (12, [.int 2, .ref o1, .int 0, .ref o2, .int 0, .ref o3, .ref o4, .int 0, .ref o5, .int 0, .ref o6, .int (-9), .int 0, .int 0, .ref o7, .ref o8, .ref o9, .ref o10, .ref o11, .int 0, .ref o12, .ref o13, .ref o14, .int 0, .ref o15, .ref o16, .ref o17, .int 0, .ref o18])), (o1, .inl (cI, 5, .inl (upd (fun _ => 0) (Int32.toNatClampNeg 2) 1)))] := hD
  have hP9 := hP.sub (ws' := []) [] rfl
  have hD9 := hD.sub (ws' := []) [] (by decide) rfl
  exact W.iret (v := (-3)) hx hb hr (fun t ht hW => ⟨⟨(-3), (), rfl, rfl, by rw [ht]; exact hP9, va_K.moved hW.alike hK, hD9⟩, hS.F ht⟩) hS.2.2 dX12_copy_41
set_option maxHeartbeats 1000000 in
set_option maxRecDepth 100000 in
theorem kX10_hasRun_64 (l : Launch) (dC : Nat → ClassId) (dI : Nat → Nat → Nat) (cI c2 : ClassId) (o0 : Nat) (o1 : Nat) (sz : Nat) (a2 : Int32) (a2_lo : 13 ≤ a2.toInt) (a2_hi : a2.toInt ≤ 2147483647) : Met l yX10_hasRun wsX10_hasRun ({ frames := 0, cells := 0, slots := 0, locals := 0 }) (va_Pc [.ref o0, .int a2, .int 10] (wPre (dC, dI) [(cI, .int), (c2, .array .int)] [(o0, .inr (10, [.ref o1, .int 0, .int 0]))] sz)) (va_Qi (fun (r : Int32) (_ : Unit) => r = 0) (fun _ t => wPost (dC, dI) [(cI, .int), (c2, .array .int)] (va_A [(o0, .inr (10, [.ref o1, .int 0, .int 0]))] sz) [(o0, .inr (10, [.ref o1, .int 0, .int 0]))] t) (va_A [(o0, .inr (10, [.ref o1, .int 0, .int 0]))] sz)) 0 0 (va_A [(o0, .inr (10, [.ref o1, .int 0, .int 0]))] sz) := by
  refine Met.ofW (cc := cX10_hasRun) (maxL := 3) (ret := (some .boolean)) (by decide) rfl ?_
  intro p e s m args below meth c s₁ B hml hv
  obtain ⟨rfl, hsz, hP, hK, hD0, hN⟩ := hv
  have hx := B.exec
  have hb := B.bytes
  have hr := B.returns
  have hts := atoms_spec (ws := wsX10_hasRun) B.pre
  have hown : s.vm.findClass RX10 = some m.cls := findClass_of_methodNamed B.named
  have hlocks := B.notSynchronized
  subst hsz
  have hD := hD0.self (sz := s.heap.size)
  generalize hAe : va_A [(o0, .inr (10, [.ref o1, .int 0, .int 0]))] s.heap.size = A at hD ⊢
  have hA : ∀ q : Nat, s.heap.size ≤ q → A q := fun q h => by rw [← hAe]; exact Or.inr h
  have hS : va_S A s.heap s.heap [] := va_S.rf
  have hP : va_P (dC, dI) vwCl [(o0, .inr (10, [.ref o1, .int 0, .int 0]))] s.heap := hP
  have hl := lv_entry ([.ref o0, .int a2, .int 10]) (n := 3) (Nat.le_of_ble_eq_true rfl)
  rw [lg_entry_eq]
  generalize (lg_sl ([.ref o0, .int a2, .int 10]) ++ List.replicate (3 - (lg_sl ([.ref o0, .int a2, .int 10])).length) Slot.unset).toArray = ls at hl ⊢
  have hl : lv_has ls 3 [(0, .ref o0), (1, .int a2), (2, .int 10)] := hl
  refine lv_iload_n hx hb dX10_hasRun_0 rfl (lv_at hl 1 rfl) ?_
  refine lv_if_lt (tgt := 26) hx hb dX10_hasRun_1 (by decide) (fun h9 => absurd h9 (ib_nlt (X := a2.toInt) (Y := 0) rfl (by decide +kernel) (by omega))) (fun _ => ?_)
  refine lv_iload_n hx hb dX10_hasRun_4 rfl (lv_at hl 2 rfl) ?_
  refine lv_if_lt (tgt := 26) hx hb dX10_hasRun_5 (by decide) (fun h9 => absurd h9 (by decide +kernel)) (fun _ => ?_)
  refine lv_iload_n hx hb dX10_hasRun_8 rfl (lv_at hl 1 rfl) ?_
  refine lv_bipush (v := 12) hx hb dX10_hasRun_9 (by decide) ?_
  refine lv_icmp_gt (tgt := 26) hx hb dX10_hasRun_11 (by decide) (fun _ => ?_) (fun h9 => absurd (ib_lt (X := 12) (Y := a2.toInt) (by decide +kernel) rfl (by omega)) h9)
  refine lv_iconst (v := 0) hx hb dX10_hasRun_26 (by decide) ?_
  have hP9 := hP.sub (ws' := [(o0, .inr (10, [.ref o1, .int 0, .int 0]))]) [0] rfl
  have hD9 := hD.sub (ws' := [(o0, .inr (10, [.ref o1, .int 0, .int 0]))]) [0] (by decide) rfl
  exact W.zret (v := 0) (ty := .boolean) hx hb hr rfl (fun t ht hW => ⟨⟨0, (), rfl, rfl, by rw [ht]; exact hP9, va_K.moved hW.alike hK, hD9⟩, hS.F ht⟩) hS.2.2 dX10_hasRun_27
set_option maxHeartbeats 1000000 in
set_option maxRecDepth 100000 in
theorem kX11_copy_64 (l : Launch) (dC : Nat → ClassId) (dI : Nat → Nat → Nat) (cI c2 : ClassId) (o0 : Nat) (o1 : Nat) (o2 : Nat) (o3 : Nat) (o4 : Nat) (o5 : Nat) (o6 : Nat) (o7 : Nat) (o8 : Nat) (o9 : Nat) (o10 : Nat) (o11 : Nat) (o12 : Nat) (o13 : Nat) (sz : Nat) (a1 : Int32) (a2 : Int32) (a1_lo : 0 ≤ a1.toInt) (a1_hi : a1.toInt ≤ 2) (a2_lo : 13 ≤ a2.toInt) (a2_hi : a2.toInt ≤ 2147483647) : Met l yX11_copy wsX11_copy ({ frames := 1, cells := 0, slots := 0, locals := 22 }) (va_Pc [.ref o0, .int a1, .int a2, .int 10] (wPre (dC, dI) [(cI, .int), (c2, .array .int)] [(o0, .inr (11, [.ref o3, .ref o1, .ref o4, .ref o5, .ref o6, .ref o7, .ref o8, .ref o9, .ref o10, .ref o11, .ref o12, .ref o2, .int 0])), (o1, .inr (10, [.ref o13, .int 0, .int 0])), (o2, .inl (cI, 5, .inl (fun _ => 0)))] sz)) (va_Qi (fun (r : Int32) (_ : Unit) => r = (-3)) (fun _ t => wPost (dC, dI) [(cI, .int), (c2, .array .int)] (va_A [(o0, .inr (11, [.ref o3, .ref o1, .ref o4, .ref o5, .ref o6, .ref o7, .ref o8, .ref o9, .ref o10, .ref o11, .ref o12, .ref o2, .int 0])), (o1, .inr (10, [.ref o13, .int 0, .int 0])), (o2, .inl (cI, 5, .inl (fun _ => 0)))] sz) [] t) (va_A [(o0, .inr (11, [.ref o3, .ref o1, .ref o4, .ref o5, .ref o6, .ref o7, .ref o8, .ref o9, .ref o10, .ref o11, .ref o12, .ref o2, .int 0])), (o1, .inr (10, [.ref o13, .int 0, .int 0])), (o2, .inl (cI, 5, .inl (fun _ => 0)))] sz)) 0 0 (va_A [(o0, .inr (11, [.ref o3, .ref o1, .ref o4, .ref o5, .ref o6, .ref o7, .ref o8, .ref o9, .ref o10, .ref o11, .ref o12, .ref o2, .int 0])), (o1, .inr (10, [.ref o13, .int 0, .int 0])), (o2, .inl (cI, 5, .inl (fun _ => 0)))] sz) := by
  refine Met.ofW (cc := cX11_copy) (maxL := 4) (ret := (some .int)) (by decide) rfl ?_
  intro p e s m args below meth c s₁ B hml hv
  obtain ⟨rfl, hsz, hP, hK, hD0, hN⟩ := hv
  have hx := B.exec
  have hb := B.bytes
  have hr := B.returns
  have hts := atoms_spec (ws := wsX11_copy) B.pre
  have hown : s.vm.findClass RX11 = some m.cls := findClass_of_methodNamed B.named
  have hlocks := B.notSynchronized
  subst hsz
  have hD := hD0.self (sz := s.heap.size)
  generalize hAe : va_A [(o0, .inr (11, [.ref o3, .ref o1, .ref o4, .ref o5, .ref o6, .ref o7, .ref o8, .ref o9, .ref o10, .ref o11, .ref o12, .ref o2, .int 0])), (o1, .inr (10, [.ref o13, .int 0, .int 0])), (o2, .inl (cI, 5, .inl (fun _ => 0)))] s.heap.size = A at hD ⊢
  have hA : ∀ q : Nat, s.heap.size ≤ q → A q := fun q h => by rw [← hAe]; exact Or.inr h
  have hS : va_S A s.heap s.heap [] := va_S.rf
  have hP : va_P (dC, dI) vwCl [(o0, .inr (11, [.ref o3, .ref o1, .ref o4, .ref o5, .ref o6, .ref o7, .ref o8, .ref o9, .ref o10, .ref o11, .ref o12, .ref o2, .int 0])), (o1, .inr (10, [.ref o13, .int 0, .int 0])), (o2, .inl (cI, 5, .inl (fun _ => 0)))] s.heap := hP
  have hl := lv_entry ([.ref o0, .int a1, .int a2, .int 10]) (n := 4) (Nat.le_of_ble_eq_true rfl)
  rw [lg_entry_eq]
  generalize (lg_sl ([.ref o0, .int a1, .int a2, .int 10]) ++ List.replicate (4 - (lg_sl ([.ref o0, .int a1, .int a2, .int 10])).length) Slot.unset).toArray = ls at hl ⊢
  have hl : lv_has ls 4 [(0, .ref o0), (1, .int a1), (2, .int a2), (3, .int 10)] := hl
  refine lv_aload_n hx hb dX11_copy_0 rfl (lv_at hl 0 rfl) ?_
  refine va_get (D := (dC, dI)) (ci := 11) (v := .ref o1) (C := RX11) (T := TX11) (N := 13) hx hb hts iw_X11_copy_X11 hown hK hP 0 rfl rfl 1 (by decide) (hts (.fieldLink RX11 19 "HolelessHouse" "table" "LHolelessHouse$Table;") (by decide +kernel)) (fun _ h9 => h9) rfl dX11_copy_1 ?_
  refine lv_iload_n hx hb dX11_copy_4 rfl (lv_at hl 1 rfl) ?_
  refine lv_iload_n hx hb dX11_copy_5 rfl (lv_at hl 3 rfl) ?_
  refine kcall_i (D := (dC, dI)) (S := Unit) (v := 1) (wc := [(o1, .inr (10, [.ref o13, .int 0, .int 0]))]) (wr := [(o0, .inr (11, [.ref o3, .ref o1, .ref o4, .ref o5, .ref o6, .ref o7, .ref o8, .ref o9, .ref o10, .ref o11, .ref o12, .ref o2, .int 0])), (o2, .inl (cI, 5, .inl (fun _ => 0)))]) (w1 := fun _ => [(o1, .inr (10, [.ref o13, .int 0, .int 0]))]) (fun hPc hDc => va_runVN (As := [.int a1, .int 10]) (rest := []) ⟨hx, hb, hml, hown, hts⟩ (kX10_hasRun_60 l dC dI cI c2 o1 o13 s.heap.size a1 (by omega) (by omega)) ⟨va_cnB 2 hts gX11_copy_X10_hasRun_n259 rfl rfl rfl (hN.1 _ ns_135) (hts (.initialized RX10) (by decide +kernel)) (by decide +kernel) ⟨Nat.le_of_ble_eq_true rfl, Nat.le_of_ble_eq_true rfl⟩, (hts (.instanceMethod yX10_hasRun) (by decide +kernel)), (hts (.selects RX10 yX10_hasRun yX10_hasRun) (by decide +kernel))⟩ (pre_V hPc hK hDc hN (ci := 10) (q0 := 0) rfl rfl) rfl rfl hl.1 rfl (lv_room (Nat.le_of_ble_eq_true rfl)) dX11_copy_6 ⟨Nat.le_of_ble_eq_true rfl, Nat.le_of_ble_eq_true rfl⟩) hP hD hS hA [1] [0, 2] rfl rfl (by decide) (by decide) (by decide) (fun u H locs hP hD hS => ?_)
  have hP : va_P (dC, dI) vwCl [(o0, .inr (11, [.ref o3, .ref o1, .ref o4, .ref o5, .ref o6, .ref o7, .ref o8, .ref o9, .ref o10, .ref o11, .ref o12, .ref o2, .int 0])), (o2, .inl (cI, 5, .inl (fun _ => 0))), (o1, .inr (10, [.ref o13, .int 0, .int 0]))] H := hP
  have hD : va_D A [(o0, .inr (11, [.ref o3, .ref o1, .ref o4, .ref o5, .ref o6, .ref o7, .ref o8, .ref o9, .ref o10, .ref o11, .ref o12, .ref o2, .int 0])), (o2, .inl (cI, 5, .inl (fun _ => 0))), (o1, .inr (10, [.ref o13, .int 0, .int 0]))] := hD
  refine lv_if_eq (tgt := 24) hx hb dX11_copy_9 (by decide) (fun h9 => absurd h9 (by decide +kernel)) (fun _ => ?_)
  refine lv_aload_n hx hb dX11_copy_12 rfl (lv_at hl 0 rfl) ?_
  refine va_get (D := (dC, dI)) (ci := 11) (v := .ref o1) (C := RX11) (T := TX11) (N := 13) hx hb hts iw_X11_copy_X11 hown hK hP 0 rfl rfl 1 (by decide) (hts (.fieldLink RX11 19 "HolelessHouse" "table" "LHolelessHouse$Table;") (by decide +kernel)) (fun _ h9 => h9) rfl dX11_copy_13 ?_
  refine lv_iload_n hx hb dX11_copy_16 rfl (lv_at hl 2 rfl) ?_
  refine lv_iload_n hx hb dX11_copy_17 rfl (lv_at hl 3 rfl) ?_
  refine kcall_i (D := (dC, dI)) (S := Unit) (v := 0) (wc := [(o1, .inr (10, [.ref o13, .int 0, .int 0]))]) (wr := [(o0, .inr (11, [.ref o3, .ref o1, .ref o4, .ref o5, .ref o6, .ref o7, .ref o8, .ref o9, .ref o10, .ref o11, .ref o12, .ref o2, .int 0])), (o2, .inl (cI, 5, .inl (fun _ => 0)))]) (w1 := fun _ => [(o1, .inr (10, [.ref o13, .int 0, .int 0]))]) (fun hPc hDc => va_runVN (As := [.int a2, .int 10]) (rest := []) ⟨hx, hb, hml, hown, hts⟩ (kX10_hasRun_64 l dC dI cI c2 o1 o13 H.size a2 (by omega) (by omega)) ⟨va_cnB 2 hts gX11_copy_X10_hasRun_n259 rfl rfl rfl (hN.1 _ ns_135) (hts (.initialized RX10) (by decide +kernel)) (by decide +kernel) ⟨Nat.le_of_ble_eq_true rfl, Nat.le_of_ble_eq_true rfl⟩, (hts (.instanceMethod yX10_hasRun) (by decide +kernel)), (hts (.selects RX10 yX10_hasRun yX10_hasRun) (by decide +kernel))⟩ (pre_V hPc hK hDc hN (ci := 10) (q0 := 0) rfl rfl) rfl rfl hl.1 rfl (lv_room (Nat.le_of_ble_eq_true rfl)) dX11_copy_18 ⟨Nat.le_of_ble_eq_true rfl, Nat.le_of_ble_eq_true rfl⟩) hP hD hS hA [2] [0, 1] rfl rfl (by decide) (by decide) (by decide) (fun u H locs hP hD hS => ?_)
  have hP : va_P (dC, dI) vwCl [(o0, .inr (11, [.ref o3, .ref o1, .ref o4, .ref o5, .ref o6, .ref o7, .ref o8, .ref o9, .ref o10, .ref o11, .ref o12, .ref o2, .int 0])), (o2, .inl (cI, 5, .inl (fun _ => 0))), (o1, .inr (10, [.ref o13, .int 0, .int 0]))] H := hP
  have hD : va_D A [(o0, .inr (11, [.ref o3, .ref o1, .ref o4, .ref o5, .ref o6, .ref o7, .ref o8, .ref o9, .ref o10, .ref o11, .ref o12, .ref o2, .int 0])), (o2, .inl (cI, 5, .inl (fun _ => 0))), (o1, .inr (10, [.ref o13, .int 0, .int 0]))] := hD
  refine lv_if_ne (tgt := 30) hx hb dX11_copy_21 (by decide) (fun h9 => absurd (by decide +kernel) h9) (fun _ => ?_)
  refine lv_aload_n hx hb dX11_copy_24 rfl (lv_at hl 0 rfl) ?_
  refine lv_iconst (v := 2) hx hb dX11_copy_25 (by decide) ?_
  refine kcall_i (D := (dC, dI)) (S := Unit) (v := (-3)) (wc := [(o0, .inr (11, [.ref o3, .ref o1, .ref o4, .ref o5, .ref o6, .ref o7, .ref o8, .ref o9, .ref o10, .ref o11, .ref o12, .ref o2, .int 0])), (o2, .inl (cI, 5, .inl (fun _ => 0)))]) (wr := [(o1, .inr (10, [.ref o13, .int 0, .int 0]))]) (w1 := fun _ => [(o0, .inr (11, [.ref o3, .ref o1, .ref o4, .ref o5, .ref o6, .ref o7, .ref o8, .ref o9, .ref o10, .ref o11, .ref o12, .ref o2, .int 2])), (o2, .inl (cI, 5, .inl (upd (fun _ => 0) (Int32.toNatClampNeg 2) 1)))]) (fun hPc hDc => va_runV (As := [.int 2]) (rest := []) ⟨hx, hb, hml, hown, hts⟩ (kX11_found_2 l dC dI cI c2 o0 o2 o3 o1 o4 o5 o6 o7 o8 o9 o10 o11 o12 H.size) (cwV 1 hts gX11_copy_X11_found rfl rfl rfl (by decide +kernel) ⟨Nat.le_of_ble_eq_true rfl, Nat.le_of_ble_eq_true rfl⟩) (pre_V hPc hK hDc hN (ci := 11) (q0 := 0) rfl rfl) rfl rfl hl.1 rfl (lv_room (Nat.le_of_ble_eq_true rfl)) dX11_copy_26 ⟨Nat.le_of_ble_eq_true rfl, Nat.le_of_ble_eq_true rfl⟩) hP hD hS hA [0, 1] [2] rfl rfl (by decide) (by decide) (by decide) (fun u H locs hP hD hS => ?_)
  have hP : va_P (dC, dI) vwCl [(o1, .inr (10, [.ref o13, .int 0, .int 0])), (o0, .inr (11, [.ref o3, .ref o1, .ref o4, .ref o5, .ref o6, .ref o7, .ref o8, .ref o9, .ref o10, .ref o11, .ref o12, .ref o2, .int 2])), (o2, .inl (cI, 5, .inl (upd (fun _ => 0) (Int32.toNatClampNeg 2) 1)))] H := hP
  have hD : va_D A [(o1, .inr (10, [.ref o13, .int 0, .int 0])), (o0, .inr (11, [.ref o3, .ref o1, .ref o4, .ref o5, .ref o6, .ref o7, .ref o8, .ref o9, .ref o10, .ref o11, .ref o12, .ref o2, .int 2])), (o2, .inl (cI, 5, .inl (upd (fun _ => 0) (Int32.toNatClampNeg 2) 1)))] := hD
  have hP9 := hP.sub (ws' := []) [] rfl
  have hD9 := hD.sub (ws' := []) [] (by decide) rfl
  exact W.iret (v := (-3)) hx hb hr (fun t ht hW => ⟨⟨(-3), (), rfl, rfl, by rw [ht]; exact hP9, va_K.moved hW.alike hK, hD9⟩, hS.F ht⟩) hS.2.2 dX11_copy_29
set_option maxHeartbeats 1000000 in
set_option maxRecDepth 100000 in
theorem kX12_copy_64 (l : Launch) (dC : Nat → ClassId) (dI : Nat → Nat → Nat) (cI c2 : ClassId) (o0 : Nat) (o1 : Nat) (o2 : Nat) (o3 : Nat) (o4 : Nat) (o5 : Nat) (o6 : Nat) (o7 : Nat) (o8 : Nat) (o9 : Nat) (o10 : Nat) (o11 : Nat) (o12 : Nat) (o13 : Nat) (o14 : Nat) (o15 : Nat) (o16 : Nat) (o17 : Nat) (o18 : Nat) (sz : Nat) (a1 : Int32) (a2 : Int32) (a1_lo : 0 ≤ a1.toInt) (a1_hi : a1.toInt ≤ 2) (a2_lo : 13 ≤ a2.toInt) (a2_hi : a2.toInt ≤ 2147483647) : Met l yX12_copy wsX12_copy ({ frames := 1, cells := 0, slots := 0, locals := 21 }) (va_Pc [.ref o0, .int a1, .int a2, .int 10] (wPre (dC, dI) [(cI, .int), (c2, .array .int)] [(o0, .inr (12, [.int 0, .ref o1, .int 0, .ref o2, .int 0, .ref o3, .ref o4, .int 0, .ref o5, .int 0, .ref o6, .int (-9), .int 0, .int 0, .ref o7, .ref o8, .ref o9, .ref o10, .ref o11, .int 0, .ref o12, .ref o13, .ref o14, .int 0, .ref o15, .ref o16, .ref o17, .int 0, .ref o18])), (o1, .inl (cI, 5, .inl (fun _ => 0)))] sz)) (va_Qi (fun (r : Int32) (_ : Unit) => r = (-3)) (fun _ t => wPost (dC, dI) [(cI, .int), (c2, .array .int)] (va_A [(o0, .inr (12, [.int 0, .ref o1, .int 0, .ref o2, .int 0, .ref o3, .ref o4, .int 0, .ref o5, .int 0, .ref o6, .int (-9), .int 0, .int 0, .ref o7, .ref o8, .ref o9, .ref o10, .ref o11, .int 0, .ref o12, .ref o13, .ref o14, .int 0, .ref o15, .ref o16, .ref o17, .int 0, .ref o18])), (o1, .inl (cI, 5, .inl (fun _ => 0)))] sz) [] t) (va_A [(o0, .inr (12, [.int 0, .ref o1, .int 0, .ref o2, .int 0, .ref o3, .ref o4, .int 0, .ref o5, .int 0, .ref o6, .int (-9), .int 0, .int 0, .ref o7, .ref o8, .ref o9, .ref o10, .ref o11, .int 0, .ref o12, .ref o13, .ref o14, .int 0, .ref o15, .ref o16, .ref o17, .int 0, .ref o18])), (o1, .inl (cI, 5, .inl (fun _ => 0)))] sz)) 0 0 (va_A [(o0, .inr (12, [.int 0, .ref o1, .int 0, .ref o2, .int 0, .ref o3, .ref o4, .int 0, .ref o5, .int 0, .ref o6, .int (-9), .int 0, .int 0, .ref o7, .ref o8, .ref o9, .ref o10, .ref o11, .int 0, .ref o12, .ref o13, .ref o14, .int 0, .ref o15, .ref o16, .ref o17, .int 0, .ref o18])), (o1, .inl (cI, 5, .inl (fun _ => 0)))] sz) := by
  refine Met.ofW (cc := cX12_copy) (maxL := 5) (ret := (some .int)) (by decide) rfl ?_
  intro p e s m args below meth c s₁ B hml hv
  obtain ⟨rfl, hsz, hP, hK, hD0, hN⟩ := hv
  have hx := B.exec
  have hb := B.bytes
  have hr := B.returns
  have hts := atoms_spec (ws := wsX12_copy) B.pre
  have hown : s.vm.findClass RX12 = some m.cls := findClass_of_methodNamed B.named
  have hlocks := B.notSynchronized
  subst hsz
  have hD := hD0.self (sz := s.heap.size)
  generalize hAe : va_A [(o0, .inr (12, [.int 0, .ref o1, .int 0, .ref o2, .int 0, .ref o3, .ref o4, .int 0, .ref o5, .int 0, .ref o6, .int (-9), .int 0, .int 0, .ref o7, .ref o8, .ref o9, .ref o10, .ref o11, .int 0, .ref o12, .ref o13, .ref o14, .int 0, .ref o15, .ref o16, .ref o17, .int 0, .ref o18])), (o1, .inl (cI, 5, .inl (fun _ => 0)))] s.heap.size = A at hD ⊢
  have hA : ∀ q : Nat, s.heap.size ≤ q → A q := fun q h => by rw [← hAe]; exact Or.inr h
  have hS : va_S A s.heap s.heap [] := va_S.rf
  have hP : va_P (dC, dI) vwCl [(o0, .inr (12, [.int 0, .ref o1, .int 0, .ref o2, .int 0, .ref o3, .ref o4, .int 0, .ref o5, .int 0, .ref o6, .int (-9), .int 0, .int 0, .ref o7, .ref o8, .ref o9, .ref o10, .ref o11, .int 0, .ref o12, .ref o13, .ref o14, .int 0, .ref o15, .ref o16, .ref o17, .int 0, .ref o18])), (o1, .inl (cI, 5, .inl (fun _ => 0)))] s.heap := hP
  have hl := lv_entry ([.ref o0, .int a1, .int a2, .int 10]) (n := 5) (Nat.le_of_ble_eq_true rfl)
  rw [lg_entry_eq]
  generalize (lg_sl ([.ref o0, .int a1, .int a2, .int 10]) ++ List.replicate (5 - (lg_sl ([.ref o0, .int a1, .int a2, .int 10])).length) Slot.unset).toArray = ls at hl ⊢
  have hl : lv_has ls 5 [(0, .ref o0), (1, .int a1), (2, .int a2), (3, .int 10)] := hl
  refine lv_iload_n hx hb dX12_copy_0 rfl (lv_at hl 1 rfl) ?_
  refine lv_if_lt (tgt := 36) hx hb dX12_copy_1 (by decide) (fun h9 => absurd h9 (ib_nlt (X := a1.toInt) (Y := 0) rfl (by decide +kernel) (by omega))) (fun _ => ?_)
  refine lv_iload_n hx hb dX12_copy_4 rfl (lv_at hl 2 rfl) ?_
  refine lv_if_lt (tgt := 36) hx hb dX12_copy_5 (by decide) (fun h9 => absurd h9 (ib_nlt (X := a2.toInt) (Y := 0) rfl (by decide +kernel) (by omega))) (fun _ => ?_)
  refine lv_iload_n hx hb dX12_copy_8 rfl (lv_at hl 3 rfl) ?_
  refine lv_if_lt (tgt := 36) hx hb dX12_copy_9 (by decide) (fun h9 => absurd h9 (by decide +kernel)) (fun _ => ?_)
  refine lv_iload_n hx hb dX12_copy_12 rfl (lv_at hl 1 rfl) ?_
  refine lv_i2l (v := a1.toInt64) hx hb dX12_copy_13 rfl ?_
  refine lv_iload_n hx hb dX12_copy_14 rfl (lv_at hl 3 rfl) ?_
  refine lv_i2l (v := 10) hx hb dX12_copy_15 (by decide +kernel) ?_
  refine lv_ladd hx hb dX12_copy_16 ?_
  refine lv_ldc2 (v := 12) hx hb hown (hts (.constantLong RX12 209 (12)) (by decide +kernel)) dX12_copy_17 ?_
  refine W.lcmp hx hb dX12_copy_20 ?_
  refine lv_if_gt (tgt := 36) hx hb dX12_copy_21 (by decide) (fun h9 => absurd h9 (lc_nsum (K := 10) (Y := 12) (by decide +kernel) (by decide +kernel) (by omega) (by omega) (by omega))) (fun _ => ?_)
  refine lv_iload_n hx hb dX12_copy_24 rfl (lv_at hl 2 rfl) ?_
  refine lv_i2l (v := a2.toInt64) hx hb dX12_copy_25 rfl ?_
  refine lv_iload_n hx hb dX12_copy_26 rfl (lv_at hl 3 rfl) ?_
  refine lv_i2l (v := 10) hx hb dX12_copy_27 (by decide +kernel) ?_
  refine lv_ladd hx hb dX12_copy_28 ?_
  refine lv_ldc2 (v := 12) hx hb hown (hts (.constantLong RX12 209 (12)) (by decide +kernel)) dX12_copy_29 ?_
  refine W.lcmp hx hb dX12_copy_32 ?_
  refine lv_if_le (tgt := 42) hx hb dX12_copy_33 (by decide) (fun h9 => absurd h9 (i_nle (lc_sum (K := 10) (Y := 12) (by decide +kernel) (by decide +kernel) (by omega) (by omega) (by omega)))) (fun _ => ?_)
  refine lv_aload_n hx hb dX12_copy_36 rfl (lv_at hl 0 rfl) ?_
  refine lv_iconst (v := 2) hx hb dX12_copy_37 (by decide) ?_
  refine kcall_i (D := (dC, dI)) (S := Unit) (v := (-3)) (wc := [(o0, .inr (12, [.int 0, .ref o1, .int 0, .ref o2, .int 0, .ref o3, .ref o4, .int 0, .ref o5, .int 0, .ref o6, .int (-9), .int 0, .int 0, .ref o7, .ref o8, .ref o9, .ref o10, .ref o11, .int 0, .ref o12, .ref o13, .ref o14, .int 0, .ref o15, .ref o16, .ref o17, .int 0, .ref o18])), (o1, .inl (cI, 5, .inl (fun _ => 0)))]) (wr := []) (w1 := fun _ => [(o0, .inr (12, [.int 2, .ref o1, .int 0, .ref o2, .int 0, .ref o3, .ref o4, .int 0, .ref o5, .int 0, .ref o6, .int (-9), .int 0, .int 0, .ref o7, .ref o8, .ref o9, .ref o10, .ref o11, .int 0, .ref o12, .ref o13, .ref o14, .int 0, .ref o15, .ref o16, .ref o17, .int 0, .ref o18])), (o1, .inl (cI, 5, .inl (upd (fun _ => 0) (Int32.toNatClampNeg 2) 1)))]) (fun hPc hDc => va_runV (As := [.int 2]) (rest := []) ⟨hx, hb, hml, hown, hts⟩ (kX12_meets_2 l dC dI cI c2 o0 o1 o2 o3 o4 o5 o6 o7 o8 o9 o10 o11 o12 o13 o14 o15 o16 o17 o18 s.heap.size) (cwV 1 hts gX12_copy_X12_meets rfl rfl rfl (by decide +kernel) ⟨Nat.le_of_ble_eq_true rfl, Nat.le_of_ble_eq_true rfl⟩) (pre_V hPc hK hDc hN (ci := 12) (q0 := 0) rfl rfl) rfl rfl hl.1 rfl (lv_room (Nat.le_of_ble_eq_true rfl)) dX12_copy_38 ⟨Nat.le_of_ble_eq_true rfl, Nat.le_of_ble_eq_true rfl⟩) hP hD hS hA [0, 1] [] rfl rfl (by decide) (by decide) (by decide) (fun u H locs hP hD hS => ?_)
  have hP : va_P (dC, dI) vwCl [(o0, .inr (12, [.int 2, .ref o1, .int 0, .ref o2, .int 0, .ref o3, .ref o4, .int 0, .ref o5, .int 0, .ref o6, .int (-9), .int 0, .int 0, .ref o7, .ref o8, .ref o9, .ref o10, .ref o11, .int 0, .ref o12, .ref o13, .ref o14, .int 0, .ref o15, .ref o16, .ref o17, .int 0, .ref o18])), (o1, .inl (cI, 5, .inl (upd (fun _ => 0) (Int32.toNatClampNeg 2) 1)))] H := hP
  have hD : va_D A [(o0, .inr (12, [.int 2, .ref o1, .int 0, .ref o2, .int 0, .ref o3, .ref o4, .int 0, .ref o5, .int 0, .ref o6, .int (-9), .int 0, .int 0, .ref o7, .ref o8, .ref o9, .ref o10, .ref o11, .int 0, .ref o12, .ref o13, .ref o14, .int 0, .ref o15, .ref o16, .ref o17, .int 0, .ref o18])), (o1, .inl (cI, 5, .inl (upd (fun _ => 0) (Int32.toNatClampNeg 2) 1)))] := hD
  have hP9 := hP.sub (ws' := []) [] rfl
  have hD9 := hD.sub (ws' := []) [] (by decide) rfl
  exact W.iret (v := (-3)) hx hb hr (fun t ht hW => ⟨⟨(-3), (), rfl, rfl, by rw [ht]; exact hP9, va_K.moved hW.alike hK, hD9⟩, hS.F ht⟩) hS.2.2 dX12_copy_41
set_option maxHeartbeats 1000000 in
set_option maxRecDepth 100000 in
theorem kX10_hasRun_65 (l : Launch) (dC : Nat → ClassId) (dI : Nat → Nat → Nat) (cI c2 : ClassId) (o0 : Nat) (o1 : Nat) (sz : Nat) (a1 : Int32) (a1_lo : 3 ≤ a1.toInt) (a1_hi : a1.toInt ≤ 12) : Met l yX10_hasRun wsX10_hasRun ({ frames := 0, cells := 0, slots := 0, locals := 0 }) (va_Pc [.ref o0, .int a1, .int 10] (wPre (dC, dI) [(cI, .int), (c2, .array .int)] [(o0, .inr (10, [.ref o1, .int 0, .int 0]))] sz)) (va_Qi (fun (r : Int32) (_ : Unit) => r = 0) (fun _ t => wPost (dC, dI) [(cI, .int), (c2, .array .int)] (va_A [(o0, .inr (10, [.ref o1, .int 0, .int 0]))] sz) [(o0, .inr (10, [.ref o1, .int 0, .int 0]))] t) (va_A [(o0, .inr (10, [.ref o1, .int 0, .int 0]))] sz)) 0 0 (va_A [(o0, .inr (10, [.ref o1, .int 0, .int 0]))] sz) := by
  refine Met.ofW (cc := cX10_hasRun) (maxL := 3) (ret := (some .boolean)) (by decide) rfl ?_
  intro p e s m args below meth c s₁ B hml hv
  obtain ⟨rfl, hsz, hP, hK, hD0, hN⟩ := hv
  have hx := B.exec
  have hb := B.bytes
  have hr := B.returns
  have hts := atoms_spec (ws := wsX10_hasRun) B.pre
  have hown : s.vm.findClass RX10 = some m.cls := findClass_of_methodNamed B.named
  have hlocks := B.notSynchronized
  subst hsz
  have hD := hD0.self (sz := s.heap.size)
  generalize hAe : va_A [(o0, .inr (10, [.ref o1, .int 0, .int 0]))] s.heap.size = A at hD ⊢
  have hA : ∀ q : Nat, s.heap.size ≤ q → A q := fun q h => by rw [← hAe]; exact Or.inr h
  have hS : va_S A s.heap s.heap [] := va_S.rf
  have hP : va_P (dC, dI) vwCl [(o0, .inr (10, [.ref o1, .int 0, .int 0]))] s.heap := hP
  have hl := lv_entry ([.ref o0, .int a1, .int 10]) (n := 3) (Nat.le_of_ble_eq_true rfl)
  rw [lg_entry_eq]
  generalize (lg_sl ([.ref o0, .int a1, .int 10]) ++ List.replicate (3 - (lg_sl ([.ref o0, .int a1, .int 10])).length) Slot.unset).toArray = ls at hl ⊢
  have hl : lv_has ls 3 [(0, .ref o0), (1, .int a1), (2, .int 10)] := hl
  refine lv_iload_n hx hb dX10_hasRun_0 rfl (lv_at hl 1 rfl) ?_
  refine lv_if_lt (tgt := 26) hx hb dX10_hasRun_1 (by decide) (fun h9 => absurd h9 (ib_nlt (X := a1.toInt) (Y := 0) rfl (by decide +kernel) (by omega))) (fun _ => ?_)
  refine lv_iload_n hx hb dX10_hasRun_4 rfl (lv_at hl 2 rfl) ?_
  refine lv_if_lt (tgt := 26) hx hb dX10_hasRun_5 (by decide) (fun h9 => absurd h9 (by decide +kernel)) (fun _ => ?_)
  refine lv_iload_n hx hb dX10_hasRun_8 rfl (lv_at hl 1 rfl) ?_
  refine lv_bipush (v := 12) hx hb dX10_hasRun_9 (by decide) ?_
  refine lv_icmp_gt (tgt := 26) hx hb dX10_hasRun_11 (by decide) (fun h9 => absurd h9 (ib_nlt (X := 12) (Y := a1.toInt) (by decide +kernel) rfl (by omega))) (fun _ => ?_)
  refine lv_iload_n hx hb dX10_hasRun_14 rfl (lv_at hl 2 rfl) ?_
  refine lv_bipush (v := 12) hx hb dX10_hasRun_15 (by decide) ?_
  refine lv_iload_n hx hb dX10_hasRun_17 rfl (lv_at hl 1 rfl) ?_
  refine lv_isub hx hb dX10_hasRun_18 ?_
  refine lv_icmp_gt (tgt := 26) hx hb dX10_hasRun_19 (by decide) (fun _ => ?_) (fun h9 => absurd (ib_lt (X := (12 - a1.toInt)) (Y := 10) (ti_sub (by decide +kernel) (by omega) (by omega)) (by decide +kernel) (by omega)) h9)
  refine lv_iconst (v := 0) hx hb dX10_hasRun_26 (by decide) ?_
  have hP9 := hP.sub (ws' := [(o0, .inr (10, [.ref o1, .int 0, .int 0]))]) [0] rfl
  have hD9 := hD.sub (ws' := [(o0, .inr (10, [.ref o1, .int 0, .int 0]))]) [0] (by decide) rfl
  exact W.zret (v := 0) (ty := .boolean) hx hb hr rfl (fun t ht hW => ⟨⟨0, (), rfl, rfl, by rw [ht]; exact hP9, va_K.moved hW.alike hK, hD9⟩, hS.F ht⟩) hS.2.2 dX10_hasRun_27
set_option maxHeartbeats 1000000 in
set_option maxRecDepth 100000 in
theorem kX11_copy_65 (l : Launch) (dC : Nat → ClassId) (dI : Nat → Nat → Nat) (cI c2 : ClassId) (o0 : Nat) (o1 : Nat) (o2 : Nat) (o3 : Nat) (o4 : Nat) (o5 : Nat) (o6 : Nat) (o7 : Nat) (o8 : Nat) (o9 : Nat) (o10 : Nat) (o11 : Nat) (o12 : Nat) (o13 : Nat) (sz : Nat) (a1 : Int32) (a2 : Int32) (a1_lo : 3 ≤ a1.toInt) (a1_hi : a1.toInt ≤ 12) (a2_lo : (-2147483648) ≤ a2.toInt) (a2_hi : a2.toInt ≤ (-1)) : Met l yX11_copy wsX11_copy ({ frames := 1, cells := 0, slots := 0, locals := 22 }) (va_Pc [.ref o0, .int a1, .int a2, .int 10] (wPre (dC, dI) [(cI, .int), (c2, .array .int)] [(o0, .inr (11, [.ref o3, .ref o1, .ref o4, .ref o5, .ref o6, .ref o7, .ref o8, .ref o9, .ref o10, .ref o11, .ref o12, .ref o2, .int 0])), (o1, .inr (10, [.ref o13, .int 0, .int 0])), (o2, .inl (cI, 5, .inl (fun _ => 0)))] sz)) (va_Qi (fun (r : Int32) (_ : Unit) => r = (-3)) (fun _ t => wPost (dC, dI) [(cI, .int), (c2, .array .int)] (va_A [(o0, .inr (11, [.ref o3, .ref o1, .ref o4, .ref o5, .ref o6, .ref o7, .ref o8, .ref o9, .ref o10, .ref o11, .ref o12, .ref o2, .int 0])), (o1, .inr (10, [.ref o13, .int 0, .int 0])), (o2, .inl (cI, 5, .inl (fun _ => 0)))] sz) [] t) (va_A [(o0, .inr (11, [.ref o3, .ref o1, .ref o4, .ref o5, .ref o6, .ref o7, .ref o8, .ref o9, .ref o10, .ref o11, .ref o12, .ref o2, .int 0])), (o1, .inr (10, [.ref o13, .int 0, .int 0])), (o2, .inl (cI, 5, .inl (fun _ => 0)))] sz)) 0 0 (va_A [(o0, .inr (11, [.ref o3, .ref o1, .ref o4, .ref o5, .ref o6, .ref o7, .ref o8, .ref o9, .ref o10, .ref o11, .ref o12, .ref o2, .int 0])), (o1, .inr (10, [.ref o13, .int 0, .int 0])), (o2, .inl (cI, 5, .inl (fun _ => 0)))] sz) := by
  refine Met.ofW (cc := cX11_copy) (maxL := 4) (ret := (some .int)) (by decide) rfl ?_
  intro p e s m args below meth c s₁ B hml hv
  obtain ⟨rfl, hsz, hP, hK, hD0, hN⟩ := hv
  have hx := B.exec
  have hb := B.bytes
  have hr := B.returns
  have hts := atoms_spec (ws := wsX11_copy) B.pre
  have hown : s.vm.findClass RX11 = some m.cls := findClass_of_methodNamed B.named
  have hlocks := B.notSynchronized
  subst hsz
  have hD := hD0.self (sz := s.heap.size)
  generalize hAe : va_A [(o0, .inr (11, [.ref o3, .ref o1, .ref o4, .ref o5, .ref o6, .ref o7, .ref o8, .ref o9, .ref o10, .ref o11, .ref o12, .ref o2, .int 0])), (o1, .inr (10, [.ref o13, .int 0, .int 0])), (o2, .inl (cI, 5, .inl (fun _ => 0)))] s.heap.size = A at hD ⊢
  have hA : ∀ q : Nat, s.heap.size ≤ q → A q := fun q h => by rw [← hAe]; exact Or.inr h
  have hS : va_S A s.heap s.heap [] := va_S.rf
  have hP : va_P (dC, dI) vwCl [(o0, .inr (11, [.ref o3, .ref o1, .ref o4, .ref o5, .ref o6, .ref o7, .ref o8, .ref o9, .ref o10, .ref o11, .ref o12, .ref o2, .int 0])), (o1, .inr (10, [.ref o13, .int 0, .int 0])), (o2, .inl (cI, 5, .inl (fun _ => 0)))] s.heap := hP
  have hl := lv_entry ([.ref o0, .int a1, .int a2, .int 10]) (n := 4) (Nat.le_of_ble_eq_true rfl)
  rw [lg_entry_eq]
  generalize (lg_sl ([.ref o0, .int a1, .int a2, .int 10]) ++ List.replicate (4 - (lg_sl ([.ref o0, .int a1, .int a2, .int 10])).length) Slot.unset).toArray = ls at hl ⊢
  have hl : lv_has ls 4 [(0, .ref o0), (1, .int a1), (2, .int a2), (3, .int 10)] := hl
  refine lv_aload_n hx hb dX11_copy_0 rfl (lv_at hl 0 rfl) ?_
  refine va_get (D := (dC, dI)) (ci := 11) (v := .ref o1) (C := RX11) (T := TX11) (N := 13) hx hb hts iw_X11_copy_X11 hown hK hP 0 rfl rfl 1 (by decide) (hts (.fieldLink RX11 19 "HolelessHouse" "table" "LHolelessHouse$Table;") (by decide +kernel)) (fun _ h9 => h9) rfl dX11_copy_1 ?_
  refine lv_iload_n hx hb dX11_copy_4 rfl (lv_at hl 1 rfl) ?_
  refine lv_iload_n hx hb dX11_copy_5 rfl (lv_at hl 3 rfl) ?_
  refine kcall_i (D := (dC, dI)) (S := Unit) (v := 0) (wc := [(o1, .inr (10, [.ref o13, .int 0, .int 0]))]) (wr := [(o0, .inr (11, [.ref o3, .ref o1, .ref o4, .ref o5, .ref o6, .ref o7, .ref o8, .ref o9, .ref o10, .ref o11, .ref o12, .ref o2, .int 0])), (o2, .inl (cI, 5, .inl (fun _ => 0)))]) (w1 := fun _ => [(o1, .inr (10, [.ref o13, .int 0, .int 0]))]) (fun hPc hDc => va_runVN (As := [.int a1, .int 10]) (rest := []) ⟨hx, hb, hml, hown, hts⟩ (kX10_hasRun_65 l dC dI cI c2 o1 o13 s.heap.size a1 (by omega) (by omega)) ⟨va_cnB 2 hts gX11_copy_X10_hasRun_n259 rfl rfl rfl (hN.1 _ ns_135) (hts (.initialized RX10) (by decide +kernel)) (by decide +kernel) ⟨Nat.le_of_ble_eq_true rfl, Nat.le_of_ble_eq_true rfl⟩, (hts (.instanceMethod yX10_hasRun) (by decide +kernel)), (hts (.selects RX10 yX10_hasRun yX10_hasRun) (by decide +kernel))⟩ (pre_V hPc hK hDc hN (ci := 10) (q0 := 0) rfl rfl) rfl rfl hl.1 rfl (lv_room (Nat.le_of_ble_eq_true rfl)) dX11_copy_6 ⟨Nat.le_of_ble_eq_true rfl, Nat.le_of_ble_eq_true rfl⟩) hP hD hS hA [1] [0, 2] rfl rfl (by decide) (by decide) (by decide) (fun u H locs hP hD hS => ?_)
  have hP : va_P (dC, dI) vwCl [(o0, .inr (11, [.ref o3, .ref o1, .ref o4, .ref o5, .ref o6, .ref o7, .ref o8, .ref o9, .ref o10, .ref o11, .ref o12, .ref o2, .int 0])), (o2, .inl (cI, 5, .inl (fun _ => 0))), (o1, .inr (10, [.ref o13, .int 0, .int 0]))] H := hP
  have hD : va_D A [(o0, .inr (11, [.ref o3, .ref o1, .ref o4, .ref o5, .ref o6, .ref o7, .ref o8, .ref o9, .ref o10, .ref o11, .ref o12, .ref o2, .int 0])), (o2, .inl (cI, 5, .inl (fun _ => 0))), (o1, .inr (10, [.ref o13, .int 0, .int 0]))] := hD
  refine lv_if_eq (tgt := 24) hx hb dX11_copy_9 (by decide) (fun _ => ?_) (fun h9 => absurd (by decide +kernel) h9)
  refine lv_aload_n hx hb dX11_copy_24 rfl (lv_at hl 0 rfl) ?_
  refine lv_iconst (v := 2) hx hb dX11_copy_25 (by decide) ?_
  refine kcall_i (D := (dC, dI)) (S := Unit) (v := (-3)) (wc := [(o0, .inr (11, [.ref o3, .ref o1, .ref o4, .ref o5, .ref o6, .ref o7, .ref o8, .ref o9, .ref o10, .ref o11, .ref o12, .ref o2, .int 0])), (o2, .inl (cI, 5, .inl (fun _ => 0)))]) (wr := [(o1, .inr (10, [.ref o13, .int 0, .int 0]))]) (w1 := fun _ => [(o0, .inr (11, [.ref o3, .ref o1, .ref o4, .ref o5, .ref o6, .ref o7, .ref o8, .ref o9, .ref o10, .ref o11, .ref o12, .ref o2, .int 2])), (o2, .inl (cI, 5, .inl (upd (fun _ => 0) (Int32.toNatClampNeg 2) 1)))]) (fun hPc hDc => va_runV (As := [.int 2]) (rest := []) ⟨hx, hb, hml, hown, hts⟩ (kX11_found_2 l dC dI cI c2 o0 o2 o3 o1 o4 o5 o6 o7 o8 o9 o10 o11 o12 H.size) (cwV 1 hts gX11_copy_X11_found rfl rfl rfl (by decide +kernel) ⟨Nat.le_of_ble_eq_true rfl, Nat.le_of_ble_eq_true rfl⟩) (pre_V hPc hK hDc hN (ci := 11) (q0 := 0) rfl rfl) rfl rfl hl.1 rfl (lv_room (Nat.le_of_ble_eq_true rfl)) dX11_copy_26 ⟨Nat.le_of_ble_eq_true rfl, Nat.le_of_ble_eq_true rfl⟩) hP hD hS hA [0, 1] [2] rfl rfl (by decide) (by decide) (by decide) (fun u H locs hP hD hS => ?_)
  have hP : va_P (dC, dI) vwCl [(o1, .inr (10, [.ref o13, .int 0, .int 0])), (o0, .inr (11, [.ref o3, .ref o1, .ref o4, .ref o5, .ref o6, .ref o7, .ref o8, .ref o9, .ref o10, .ref o11, .ref o12, .ref o2, .int 2])), (o2, .inl (cI, 5, .inl (upd (fun _ => 0) (Int32.toNatClampNeg 2) 1)))] H := hP
  have hD : va_D A [(o1, .inr (10, [.ref o13, .int 0, .int 0])), (o0, .inr (11, [.ref o3, .ref o1, .ref o4, .ref o5, .ref o6, .ref o7, .ref o8, .ref o9, .ref o10, .ref o11, .ref o12, .ref o2, .int 2])), (o2, .inl (cI, 5, .inl (upd (fun _ => 0) (Int32.toNatClampNeg 2) 1)))] := hD
  have hP9 := hP.sub (ws' := []) [] rfl
  have hD9 := hD.sub (ws' := []) [] (by decide) rfl
  exact W.iret (v := (-3)) hx hb hr (fun t ht hW => ⟨⟨(-3), (), rfl, rfl, by rw [ht]; exact hP9, va_K.moved hW.alike hK, hD9⟩, hS.F ht⟩) hS.2.2 dX11_copy_29
set_option maxHeartbeats 1000000 in
set_option maxRecDepth 100000 in
theorem kX12_copy_65 (l : Launch) (dC : Nat → ClassId) (dI : Nat → Nat → Nat) (cI c2 : ClassId) (o0 : Nat) (o1 : Nat) (o2 : Nat) (o3 : Nat) (o4 : Nat) (o5 : Nat) (o6 : Nat) (o7 : Nat) (o8 : Nat) (o9 : Nat) (o10 : Nat) (o11 : Nat) (o12 : Nat) (o13 : Nat) (o14 : Nat) (o15 : Nat) (o16 : Nat) (o17 : Nat) (o18 : Nat) (sz : Nat) (a1 : Int32) (a2 : Int32) (a1_lo : 3 ≤ a1.toInt) (a1_hi : a1.toInt ≤ 12) (a2_lo : (-2147483648) ≤ a2.toInt) (a2_hi : a2.toInt ≤ (-1)) : Met l yX12_copy wsX12_copy ({ frames := 1, cells := 0, slots := 0, locals := 21 }) (va_Pc [.ref o0, .int a1, .int a2, .int 10] (wPre (dC, dI) [(cI, .int), (c2, .array .int)] [(o0, .inr (12, [.int 0, .ref o1, .int 0, .ref o2, .int 0, .ref o3, .ref o4, .int 0, .ref o5, .int 0, .ref o6, .int (-9), .int 0, .int 0, .ref o7, .ref o8, .ref o9, .ref o10, .ref o11, .int 0, .ref o12, .ref o13, .ref o14, .int 0, .ref o15, .ref o16, .ref o17, .int 0, .ref o18])), (o1, .inl (cI, 5, .inl (fun _ => 0)))] sz)) (va_Qi (fun (r : Int32) (_ : Unit) => r = (-3)) (fun _ t => wPost (dC, dI) [(cI, .int), (c2, .array .int)] (va_A [(o0, .inr (12, [.int 0, .ref o1, .int 0, .ref o2, .int 0, .ref o3, .ref o4, .int 0, .ref o5, .int 0, .ref o6, .int (-9), .int 0, .int 0, .ref o7, .ref o8, .ref o9, .ref o10, .ref o11, .int 0, .ref o12, .ref o13, .ref o14, .int 0, .ref o15, .ref o16, .ref o17, .int 0, .ref o18])), (o1, .inl (cI, 5, .inl (fun _ => 0)))] sz) [] t) (va_A [(o0, .inr (12, [.int 0, .ref o1, .int 0, .ref o2, .int 0, .ref o3, .ref o4, .int 0, .ref o5, .int 0, .ref o6, .int (-9), .int 0, .int 0, .ref o7, .ref o8, .ref o9, .ref o10, .ref o11, .int 0, .ref o12, .ref o13, .ref o14, .int 0, .ref o15, .ref o16, .ref o17, .int 0, .ref o18])), (o1, .inl (cI, 5, .inl (fun _ => 0)))] sz)) 0 0 (va_A [(o0, .inr (12, [.int 0, .ref o1, .int 0, .ref o2, .int 0, .ref o3, .ref o4, .int 0, .ref o5, .int 0, .ref o6, .int (-9), .int 0, .int 0, .ref o7, .ref o8, .ref o9, .ref o10, .ref o11, .int 0, .ref o12, .ref o13, .ref o14, .int 0, .ref o15, .ref o16, .ref o17, .int 0, .ref o18])), (o1, .inl (cI, 5, .inl (fun _ => 0)))] sz) := by
  refine Met.ofW (cc := cX12_copy) (maxL := 5) (ret := (some .int)) (by decide) rfl ?_
  intro p e s m args below meth c s₁ B hml hv
  obtain ⟨rfl, hsz, hP, hK, hD0, hN⟩ := hv
  have hx := B.exec
  have hb := B.bytes
  have hr := B.returns
  have hts := atoms_spec (ws := wsX12_copy) B.pre
  have hown : s.vm.findClass RX12 = some m.cls := findClass_of_methodNamed B.named
  have hlocks := B.notSynchronized
  subst hsz
  have hD := hD0.self (sz := s.heap.size)
  generalize hAe : va_A [(o0, .inr (12, [.int 0, .ref o1, .int 0, .ref o2, .int 0, .ref o3, .ref o4, .int 0, .ref o5, .int 0, .ref o6, .int (-9), .int 0, .int 0, .ref o7, .ref o8, .ref o9, .ref o10, .ref o11, .int 0, .ref o12, .ref o13, .ref o14, .int 0, .ref o15, .ref o16, .ref o17, .int 0, .ref o18])), (o1, .inl (cI, 5, .inl (fun _ => 0)))] s.heap.size = A at hD ⊢
  have hA : ∀ q : Nat, s.heap.size ≤ q → A q := fun q h => by rw [← hAe]; exact Or.inr h
  have hS : va_S A s.heap s.heap [] := va_S.rf
  have hP : va_P (dC, dI) vwCl [(o0, .inr (12, [.int 0, .ref o1, .int 0, .ref o2, .int 0, .ref o3, .ref o4, .int 0, .ref o5, .int 0, .ref o6, .int (-9), .int 0, .int 0, .ref o7, .ref o8, .ref o9, .ref o10, .ref o11, .int 0, .ref o12, .ref o13, .ref o14, .int 0, .ref o15, .ref o16, .ref o17, .int 0, .ref o18])), (o1, .inl (cI, 5, .inl (fun _ => 0)))] s.heap := hP
  have hl := lv_entry ([.ref o0, .int a1, .int a2, .int 10]) (n := 5) (Nat.le_of_ble_eq_true rfl)
  rw [lg_entry_eq]
  generalize (lg_sl ([.ref o0, .int a1, .int a2, .int 10]) ++ List.replicate (5 - (lg_sl ([.ref o0, .int a1, .int a2, .int 10])).length) Slot.unset).toArray = ls at hl ⊢
  have hl : lv_has ls 5 [(0, .ref o0), (1, .int a1), (2, .int a2), (3, .int 10)] := hl
  refine lv_iload_n hx hb dX12_copy_0 rfl (lv_at hl 1 rfl) ?_
  refine lv_if_lt (tgt := 36) hx hb dX12_copy_1 (by decide) (fun h9 => absurd h9 (ib_nlt (X := a1.toInt) (Y := 0) rfl (by decide +kernel) (by omega))) (fun _ => ?_)
  refine lv_iload_n hx hb dX12_copy_4 rfl (lv_at hl 2 rfl) ?_
  refine lv_if_lt (tgt := 36) hx hb dX12_copy_5 (by decide) (fun _ => ?_) (fun h9 => absurd (ib_lt (X := a2.toInt) (Y := 0) rfl (by decide +kernel) (by omega)) h9)
  refine lv_aload_n hx hb dX12_copy_36 rfl (lv_at hl 0 rfl) ?_
  refine lv_iconst (v := 2) hx hb dX12_copy_37 (by decide) ?_
  refine kcall_i (D := (dC, dI)) (S := Unit) (v := (-3)) (wc := [(o0, .inr (12, [.int 0, .ref o1, .int 0, .ref o2, .int 0, .ref o3, .ref o4, .int 0, .ref o5, .int 0, .ref o6, .int (-9), .int 0, .int 0, .ref o7, .ref o8, .ref o9, .ref o10, .ref o11, .int 0, .ref o12, .ref o13, .ref o14, .int 0, .ref o15, .ref o16, .ref o17, .int 0, .ref o18])), (o1, .inl (cI, 5, .inl (fun _ => 0)))]) (wr := []) (w1 := fun _ => [(o0, .inr (12, [.int 2, .ref o1, .int 0, .ref o2, .int 0, .ref o3, .ref o4, .int 0, .ref o5, .int 0, .ref o6, .int (-9), .int 0, .int 0, .ref o7, .ref o8, .ref o9, .ref o10, .ref o11, .int 0, .ref o12, .ref o13, .ref o14, .int 0, .ref o15, .ref o16, .ref o17, .int 0, .ref o18])), (o1, .inl (cI, 5, .inl (upd (fun _ => 0) (Int32.toNatClampNeg 2) 1)))]) (fun hPc hDc => va_runV (As := [.int 2]) (rest := []) ⟨hx, hb, hml, hown, hts⟩ (kX12_meets_2 l dC dI cI c2 o0 o1 o2 o3 o4 o5 o6 o7 o8 o9 o10 o11 o12 o13 o14 o15 o16 o17 o18 s.heap.size) (cwV 1 hts gX12_copy_X12_meets rfl rfl rfl (by decide +kernel) ⟨Nat.le_of_ble_eq_true rfl, Nat.le_of_ble_eq_true rfl⟩) (pre_V hPc hK hDc hN (ci := 12) (q0 := 0) rfl rfl) rfl rfl hl.1 rfl (lv_room (Nat.le_of_ble_eq_true rfl)) dX12_copy_38 ⟨Nat.le_of_ble_eq_true rfl, Nat.le_of_ble_eq_true rfl⟩) hP hD hS hA [0, 1] [] rfl rfl (by decide) (by decide) (by decide) (fun u H locs hP hD hS => ?_)
  have hP : va_P (dC, dI) vwCl [(o0, .inr (12, [.int 2, .ref o1, .int 0, .ref o2, .int 0, .ref o3, .ref o4, .int 0, .ref o5, .int 0, .ref o6, .int (-9), .int 0, .int 0, .ref o7, .ref o8, .ref o9, .ref o10, .ref o11, .int 0, .ref o12, .ref o13, .ref o14, .int 0, .ref o15, .ref o16, .ref o17, .int 0, .ref o18])), (o1, .inl (cI, 5, .inl (upd (fun _ => 0) (Int32.toNatClampNeg 2) 1)))] H := hP
  have hD : va_D A [(o0, .inr (12, [.int 2, .ref o1, .int 0, .ref o2, .int 0, .ref o3, .ref o4, .int 0, .ref o5, .int 0, .ref o6, .int (-9), .int 0, .int 0, .ref o7, .ref o8, .ref o9, .ref o10, .ref o11, .int 0, .ref o12, .ref o13, .ref o14, .int 0, .ref o15, .ref o16, .ref o17, .int 0, .ref o18])), (o1, .inl (cI, 5, .inl (upd (fun _ => 0) (Int32.toNatClampNeg 2) 1)))] := hD
  have hP9 := hP.sub (ws' := []) [] rfl
  have hD9 := hD.sub (ws' := []) [] (by decide) rfl
  exact W.iret (v := (-3)) hx hb hr (fun t ht hW => ⟨⟨(-3), (), rfl, rfl, by rw [ht]; exact hP9, va_K.moved hW.alike hK, hD9⟩, hS.F ht⟩) hS.2.2 dX12_copy_41
set_option maxHeartbeats 1000000 in
set_option maxRecDepth 100000 in
theorem kX11_copy_66 (l : Launch) (dC : Nat → ClassId) (dI : Nat → Nat → Nat) (cI c2 : ClassId) (o0 : Nat) (o1 : Nat) (o2 : Nat) (o3 : Nat) (o4 : Nat) (o5 : Nat) (o6 : Nat) (o7 : Nat) (o8 : Nat) (o9 : Nat) (o10 : Nat) (o11 : Nat) (o12 : Nat) (o13 : Nat) (sz : Nat) (a1 : Int32) (a2 : Int32) (a1_lo : 3 ≤ a1.toInt) (a1_hi : a1.toInt ≤ 12) (a2_lo : 0 ≤ a2.toInt) (a2_hi : a2.toInt ≤ 2147483647) : Met l yX11_copy wsX11_copy ({ frames := 1, cells := 0, slots := 0, locals := 22 }) (va_Pc [.ref o0, .int a1, .int a2, .int 10] (wPre (dC, dI) [(cI, .int), (c2, .array .int)] [(o0, .inr (11, [.ref o3, .ref o1, .ref o4, .ref o5, .ref o6, .ref o7, .ref o8, .ref o9, .ref o10, .ref o11, .ref o12, .ref o2, .int 0])), (o1, .inr (10, [.ref o13, .int 0, .int 0])), (o2, .inl (cI, 5, .inl (fun _ => 0)))] sz)) (va_Qi (fun (r : Int32) (_ : Unit) => r = (-3)) (fun _ t => wPost (dC, dI) [(cI, .int), (c2, .array .int)] (va_A [(o0, .inr (11, [.ref o3, .ref o1, .ref o4, .ref o5, .ref o6, .ref o7, .ref o8, .ref o9, .ref o10, .ref o11, .ref o12, .ref o2, .int 0])), (o1, .inr (10, [.ref o13, .int 0, .int 0])), (o2, .inl (cI, 5, .inl (fun _ => 0)))] sz) [] t) (va_A [(o0, .inr (11, [.ref o3, .ref o1, .ref o4, .ref o5, .ref o6, .ref o7, .ref o8, .ref o9, .ref o10, .ref o11, .ref o12, .ref o2, .int 0])), (o1, .inr (10, [.ref o13, .int 0, .int 0])), (o2, .inl (cI, 5, .inl (fun _ => 0)))] sz)) 0 0 (va_A [(o0, .inr (11, [.ref o3, .ref o1, .ref o4, .ref o5, .ref o6, .ref o7, .ref o8, .ref o9, .ref o10, .ref o11, .ref o12, .ref o2, .int 0])), (o1, .inr (10, [.ref o13, .int 0, .int 0])), (o2, .inl (cI, 5, .inl (fun _ => 0)))] sz) := by
  refine Met.ofW (cc := cX11_copy) (maxL := 4) (ret := (some .int)) (by decide) rfl ?_
  intro p e s m args below meth c s₁ B hml hv
  obtain ⟨rfl, hsz, hP, hK, hD0, hN⟩ := hv
  have hx := B.exec
  have hb := B.bytes
  have hr := B.returns
  have hts := atoms_spec (ws := wsX11_copy) B.pre
  have hown : s.vm.findClass RX11 = some m.cls := findClass_of_methodNamed B.named
  have hlocks := B.notSynchronized
  subst hsz
  have hD := hD0.self (sz := s.heap.size)
  generalize hAe : va_A [(o0, .inr (11, [.ref o3, .ref o1, .ref o4, .ref o5, .ref o6, .ref o7, .ref o8, .ref o9, .ref o10, .ref o11, .ref o12, .ref o2, .int 0])), (o1, .inr (10, [.ref o13, .int 0, .int 0])), (o2, .inl (cI, 5, .inl (fun _ => 0)))] s.heap.size = A at hD ⊢
  have hA : ∀ q : Nat, s.heap.size ≤ q → A q := fun q h => by rw [← hAe]; exact Or.inr h
  have hS : va_S A s.heap s.heap [] := va_S.rf
  have hP : va_P (dC, dI) vwCl [(o0, .inr (11, [.ref o3, .ref o1, .ref o4, .ref o5, .ref o6, .ref o7, .ref o8, .ref o9, .ref o10, .ref o11, .ref o12, .ref o2, .int 0])), (o1, .inr (10, [.ref o13, .int 0, .int 0])), (o2, .inl (cI, 5, .inl (fun _ => 0)))] s.heap := hP
  have hl := lv_entry ([.ref o0, .int a1, .int a2, .int 10]) (n := 4) (Nat.le_of_ble_eq_true rfl)
  rw [lg_entry_eq]
  generalize (lg_sl ([.ref o0, .int a1, .int a2, .int 10]) ++ List.replicate (4 - (lg_sl ([.ref o0, .int a1, .int a2, .int 10])).length) Slot.unset).toArray = ls at hl ⊢
  have hl : lv_has ls 4 [(0, .ref o0), (1, .int a1), (2, .int a2), (3, .int 10)] := hl
  refine lv_aload_n hx hb dX11_copy_0 rfl (lv_at hl 0 rfl) ?_
  refine va_get (D := (dC, dI)) (ci := 11) (v := .ref o1) (C := RX11) (T := TX11) (N := 13) hx hb hts iw_X11_copy_X11 hown hK hP 0 rfl rfl 1 (by decide) (hts (.fieldLink RX11 19 "HolelessHouse" "table" "LHolelessHouse$Table;") (by decide +kernel)) (fun _ h9 => h9) rfl dX11_copy_1 ?_
  refine lv_iload_n hx hb dX11_copy_4 rfl (lv_at hl 1 rfl) ?_
  refine lv_iload_n hx hb dX11_copy_5 rfl (lv_at hl 3 rfl) ?_
  refine kcall_i (D := (dC, dI)) (S := Unit) (v := 0) (wc := [(o1, .inr (10, [.ref o13, .int 0, .int 0]))]) (wr := [(o0, .inr (11, [.ref o3, .ref o1, .ref o4, .ref o5, .ref o6, .ref o7, .ref o8, .ref o9, .ref o10, .ref o11, .ref o12, .ref o2, .int 0])), (o2, .inl (cI, 5, .inl (fun _ => 0)))]) (w1 := fun _ => [(o1, .inr (10, [.ref o13, .int 0, .int 0]))]) (fun hPc hDc => va_runVN (As := [.int a1, .int 10]) (rest := []) ⟨hx, hb, hml, hown, hts⟩ (kX10_hasRun_65 l dC dI cI c2 o1 o13 s.heap.size a1 (by omega) (by omega)) ⟨va_cnB 2 hts gX11_copy_X10_hasRun_n259 rfl rfl rfl (hN.1 _ ns_135) (hts (.initialized RX10) (by decide +kernel)) (by decide +kernel) ⟨Nat.le_of_ble_eq_true rfl, Nat.le_of_ble_eq_true rfl⟩, (hts (.instanceMethod yX10_hasRun) (by decide +kernel)), (hts (.selects RX10 yX10_hasRun yX10_hasRun) (by decide +kernel))⟩ (pre_V hPc hK hDc hN (ci := 10) (q0 := 0) rfl rfl) rfl rfl hl.1 rfl (lv_room (Nat.le_of_ble_eq_true rfl)) dX11_copy_6 ⟨Nat.le_of_ble_eq_true rfl, Nat.le_of_ble_eq_true rfl⟩) hP hD hS hA [1] [0, 2] rfl rfl (by decide) (by decide) (by decide) (fun u H locs hP hD hS => ?_)
  have hP : va_P (dC, dI) vwCl [(o0, .inr (11, [.ref o3, .ref o1, .ref o4, .ref o5, .ref o6, .ref o7, .ref o8, .ref o9, .ref o10, .ref o11, .ref o12, .ref o2, .int 0])), (o2, .inl (cI, 5, .inl (fun _ => 0))), (o1, .inr (10, [.ref o13, .int 0, .int 0]))] H := hP
  have hD : va_D A [(o0, .inr (11, [.ref o3, .ref o1, .ref o4, .ref o5, .ref o6, .ref o7, .ref o8, .ref o9, .ref o10, .ref o11, .ref o12, .ref o2, .int 0])), (o2, .inl (cI, 5, .inl (fun _ => 0))), (o1, .inr (10, [.ref o13, .int 0, .int 0]))] := hD
  refine lv_if_eq (tgt := 24) hx hb dX11_copy_9 (by decide) (fun _ => ?_) (fun h9 => absurd (by decide +kernel) h9)
  refine lv_aload_n hx hb dX11_copy_24 rfl (lv_at hl 0 rfl) ?_
  refine lv_iconst (v := 2) hx hb dX11_copy_25 (by decide) ?_
  refine kcall_i (D := (dC, dI)) (S := Unit) (v := (-3)) (wc := [(o0, .inr (11, [.ref o3, .ref o1, .ref o4, .ref o5, .ref o6, .ref o7, .ref o8, .ref o9, .ref o10, .ref o11, .ref o12, .ref o2, .int 0])), (o2, .inl (cI, 5, .inl (fun _ => 0)))]) (wr := [(o1, .inr (10, [.ref o13, .int 0, .int 0]))]) (w1 := fun _ => [(o0, .inr (11, [.ref o3, .ref o1, .ref o4, .ref o5, .ref o6, .ref o7, .ref o8, .ref o9, .ref o10, .ref o11, .ref o12, .ref o2, .int 2])), (o2, .inl (cI, 5, .inl (upd (fun _ => 0) (Int32.toNatClampNeg 2) 1)))]) (fun hPc hDc => va_runV (As := [.int 2]) (rest := []) ⟨hx, hb, hml, hown, hts⟩ (kX11_found_2 l dC dI cI c2 o0 o2 o3 o1 o4 o5 o6 o7 o8 o9 o10 o11 o12 H.size) (cwV 1 hts gX11_copy_X11_found rfl rfl rfl (by decide +kernel) ⟨Nat.le_of_ble_eq_true rfl, Nat.le_of_ble_eq_true rfl⟩) (pre_V hPc hK hDc hN (ci := 11) (q0 := 0) rfl rfl) rfl rfl hl.1 rfl (lv_room (Nat.le_of_ble_eq_true rfl)) dX11_copy_26 ⟨Nat.le_of_ble_eq_true rfl, Nat.le_of_ble_eq_true rfl⟩) hP hD hS hA [0, 1] [2] rfl rfl (by decide) (by decide) (by decide) (fun u H locs hP hD hS => ?_)
  have hP : va_P (dC, dI) vwCl [(o1, .inr (10, [.ref o13, .int 0, .int 0])), (o0, .inr (11, [.ref o3, .ref o1, .ref o4, .ref o5, .ref o6, .ref o7, .ref o8, .ref o9, .ref o10, .ref o11, .ref o12, .ref o2, .int 2])), (o2, .inl (cI, 5, .inl (upd (fun _ => 0) (Int32.toNatClampNeg 2) 1)))] H := hP
  have hD : va_D A [(o1, .inr (10, [.ref o13, .int 0, .int 0])), (o0, .inr (11, [.ref o3, .ref o1, .ref o4, .ref o5, .ref o6, .ref o7, .ref o8, .ref o9, .ref o10, .ref o11, .ref o12, .ref o2, .int 2])), (o2, .inl (cI, 5, .inl (upd (fun _ => 0) (Int32.toNatClampNeg 2) 1)))] := hD
  have hP9 := hP.sub (ws' := []) [] rfl
  have hD9 := hD.sub (ws' := []) [] (by decide) rfl
  exact W.iret (v := (-3)) hx hb hr (fun t ht hW => ⟨⟨(-3), (), rfl, rfl, by rw [ht]; exact hP9, va_K.moved hW.alike hK, hD9⟩, hS.F ht⟩) hS.2.2 dX11_copy_29
set_option maxHeartbeats 1000000 in
set_option maxRecDepth 100000 in
theorem kX12_copy_66 (l : Launch) (dC : Nat → ClassId) (dI : Nat → Nat → Nat) (cI c2 : ClassId) (o0 : Nat) (o1 : Nat) (o2 : Nat) (o3 : Nat) (o4 : Nat) (o5 : Nat) (o6 : Nat) (o7 : Nat) (o8 : Nat) (o9 : Nat) (o10 : Nat) (o11 : Nat) (o12 : Nat) (o13 : Nat) (o14 : Nat) (o15 : Nat) (o16 : Nat) (o17 : Nat) (o18 : Nat) (sz : Nat) (a1 : Int32) (a2 : Int32) (a1_lo : 3 ≤ a1.toInt) (a1_hi : a1.toInt ≤ 12) (a2_lo : 0 ≤ a2.toInt) (a2_hi : a2.toInt ≤ 2147483647) : Met l yX12_copy wsX12_copy ({ frames := 1, cells := 0, slots := 0, locals := 21 }) (va_Pc [.ref o0, .int a1, .int a2, .int 10] (wPre (dC, dI) [(cI, .int), (c2, .array .int)] [(o0, .inr (12, [.int 0, .ref o1, .int 0, .ref o2, .int 0, .ref o3, .ref o4, .int 0, .ref o5, .int 0, .ref o6, .int (-9), .int 0, .int 0, .ref o7, .ref o8, .ref o9, .ref o10, .ref o11, .int 0, .ref o12, .ref o13, .ref o14, .int 0, .ref o15, .ref o16, .ref o17, .int 0, .ref o18])), (o1, .inl (cI, 5, .inl (fun _ => 0)))] sz)) (va_Qi (fun (r : Int32) (_ : Unit) => r = (-3)) (fun _ t => wPost (dC, dI) [(cI, .int), (c2, .array .int)] (va_A [(o0, .inr (12, [.int 0, .ref o1, .int 0, .ref o2, .int 0, .ref o3, .ref o4, .int 0, .ref o5, .int 0, .ref o6, .int (-9), .int 0, .int 0, .ref o7, .ref o8, .ref o9, .ref o10, .ref o11, .int 0, .ref o12, .ref o13, .ref o14, .int 0, .ref o15, .ref o16, .ref o17, .int 0, .ref o18])), (o1, .inl (cI, 5, .inl (fun _ => 0)))] sz) [] t) (va_A [(o0, .inr (12, [.int 0, .ref o1, .int 0, .ref o2, .int 0, .ref o3, .ref o4, .int 0, .ref o5, .int 0, .ref o6, .int (-9), .int 0, .int 0, .ref o7, .ref o8, .ref o9, .ref o10, .ref o11, .int 0, .ref o12, .ref o13, .ref o14, .int 0, .ref o15, .ref o16, .ref o17, .int 0, .ref o18])), (o1, .inl (cI, 5, .inl (fun _ => 0)))] sz)) 0 0 (va_A [(o0, .inr (12, [.int 0, .ref o1, .int 0, .ref o2, .int 0, .ref o3, .ref o4, .int 0, .ref o5, .int 0, .ref o6, .int (-9), .int 0, .int 0, .ref o7, .ref o8, .ref o9, .ref o10, .ref o11, .int 0, .ref o12, .ref o13, .ref o14, .int 0, .ref o15, .ref o16, .ref o17, .int 0, .ref o18])), (o1, .inl (cI, 5, .inl (fun _ => 0)))] sz) := by
  refine Met.ofW (cc := cX12_copy) (maxL := 5) (ret := (some .int)) (by decide) rfl ?_
  intro p e s m args below meth c s₁ B hml hv
  obtain ⟨rfl, hsz, hP, hK, hD0, hN⟩ := hv
  have hx := B.exec
  have hb := B.bytes
  have hr := B.returns
  have hts := atoms_spec (ws := wsX12_copy) B.pre
  have hown : s.vm.findClass RX12 = some m.cls := findClass_of_methodNamed B.named
  have hlocks := B.notSynchronized
  subst hsz
  have hD := hD0.self (sz := s.heap.size)
  generalize hAe : va_A [(o0, .inr (12, [.int 0, .ref o1, .int 0, .ref o2, .int 0, .ref o3, .ref o4, .int 0, .ref o5, .int 0, .ref o6, .int (-9), .int 0, .int 0, .ref o7, .ref o8, .ref o9, .ref o10, .ref o11, .int 0, .ref o12, .ref o13, .ref o14, .int 0, .ref o15, .ref o16, .ref o17, .int 0, .ref o18])), (o1, .inl (cI, 5, .inl (fun _ => 0)))] s.heap.size = A at hD ⊢
  have hA : ∀ q : Nat, s.heap.size ≤ q → A q := fun q h => by rw [← hAe]; exact Or.inr h
  have hS : va_S A s.heap s.heap [] := va_S.rf
  have hP : va_P (dC, dI) vwCl [(o0, .inr (12, [.int 0, .ref o1, .int 0, .ref o2, .int 0, .ref o3, .ref o4, .int 0, .ref o5, .int 0, .ref o6, .int (-9), .int 0, .int 0, .ref o7, .ref o8, .ref o9, .ref o10, .ref o11, .int 0, .ref o12, .ref o13, .ref o14, .int 0, .ref o15, .ref o16, .ref o17, .int 0, .ref o18])), (o1, .inl (cI, 5, .inl (fun _ => 0)))] s.heap := hP
  have hl := lv_entry ([.ref o0, .int a1, .int a2, .int 10]) (n := 5) (Nat.le_of_ble_eq_true rfl)
  rw [lg_entry_eq]
  generalize (lg_sl ([.ref o0, .int a1, .int a2, .int 10]) ++ List.replicate (5 - (lg_sl ([.ref o0, .int a1, .int a2, .int 10])).length) Slot.unset).toArray = ls at hl ⊢
  have hl : lv_has ls 5 [(0, .ref o0), (1, .int a1), (2, .int a2), (3, .int 10)] := hl
  refine lv_iload_n hx hb dX12_copy_0 rfl (lv_at hl 1 rfl) ?_
  refine lv_if_lt (tgt := 36) hx hb dX12_copy_1 (by decide) (fun h9 => absurd h9 (ib_nlt (X := a1.toInt) (Y := 0) rfl (by decide +kernel) (by omega))) (fun _ => ?_)
  refine lv_iload_n hx hb dX12_copy_4 rfl (lv_at hl 2 rfl) ?_
  refine lv_if_lt (tgt := 36) hx hb dX12_copy_5 (by decide) (fun h9 => absurd h9 (ib_nlt (X := a2.toInt) (Y := 0) rfl (by decide +kernel) (by omega))) (fun _ => ?_)
  refine lv_iload_n hx hb dX12_copy_8 rfl (lv_at hl 3 rfl) ?_
  refine lv_if_lt (tgt := 36) hx hb dX12_copy_9 (by decide) (fun h9 => absurd h9 (by decide +kernel)) (fun _ => ?_)
  refine lv_iload_n hx hb dX12_copy_12 rfl (lv_at hl 1 rfl) ?_
  refine lv_i2l (v := a1.toInt64) hx hb dX12_copy_13 rfl ?_
  refine lv_iload_n hx hb dX12_copy_14 rfl (lv_at hl 3 rfl) ?_
  refine lv_i2l (v := 10) hx hb dX12_copy_15 (by decide +kernel) ?_
  refine lv_ladd hx hb dX12_copy_16 ?_
  refine lv_ldc2 (v := 12) hx hb hown (hts (.constantLong RX12 209 (12)) (by decide +kernel)) dX12_copy_17 ?_
  refine W.lcmp hx hb dX12_copy_20 ?_
  refine lv_if_gt (tgt := 36) hx hb dX12_copy_21 (by decide) (fun _ => ?_) (fun h9 => absurd (lc_sum (K := 10) (Y := 12) (by decide +kernel) (by decide +kernel) (by omega) (by omega) (by omega)) h9)
  refine lv_aload_n hx hb dX12_copy_36 rfl (lv_at hl 0 rfl) ?_
  refine lv_iconst (v := 2) hx hb dX12_copy_37 (by decide) ?_
  refine kcall_i (D := (dC, dI)) (S := Unit) (v := (-3)) (wc := [(o0, .inr (12, [.int 0, .ref o1, .int 0, .ref o2, .int 0, .ref o3, .ref o4, .int 0, .ref o5, .int 0, .ref o6, .int (-9), .int 0, .int 0, .ref o7, .ref o8, .ref o9, .ref o10, .ref o11, .int 0, .ref o12, .ref o13, .ref o14, .int 0, .ref o15, .ref o16, .ref o17, .int 0, .ref o18])), (o1, .inl (cI, 5, .inl (fun _ => 0)))]) (wr := []) (w1 := fun _ => [(o0, .inr (12, [.int 2, .ref o1, .int 0, .ref o2, .int 0, .ref o3, .ref o4, .int 0, .ref o5, .int 0, .ref o6, .int (-9), .int 0, .int 0, .ref o7, .ref o8, .ref o9, .ref o10, .ref o11, .int 0, .ref o12, .ref o13, .ref o14, .int 0, .ref o15, .ref o16, .ref o17, .int 0, .ref o18])), (o1, .inl (cI, 5, .inl (upd (fun _ => 0) (Int32.toNatClampNeg 2) 1)))]) (fun hPc hDc => va_runV (As := [.int 2]) (rest := []) ⟨hx, hb, hml, hown, hts⟩ (kX12_meets_2 l dC dI cI c2 o0 o1 o2 o3 o4 o5 o6 o7 o8 o9 o10 o11 o12 o13 o14 o15 o16 o17 o18 s.heap.size) (cwV 1 hts gX12_copy_X12_meets rfl rfl rfl (by decide +kernel) ⟨Nat.le_of_ble_eq_true rfl, Nat.le_of_ble_eq_true rfl⟩) (pre_V hPc hK hDc hN (ci := 12) (q0 := 0) rfl rfl) rfl rfl hl.1 rfl (lv_room (Nat.le_of_ble_eq_true rfl)) dX12_copy_38 ⟨Nat.le_of_ble_eq_true rfl, Nat.le_of_ble_eq_true rfl⟩) hP hD hS hA [0, 1] [] rfl rfl (by decide) (by decide) (by decide) (fun u H locs hP hD hS => ?_)
  have hP : va_P (dC, dI) vwCl [(o0, .inr (12, [.int 2, .ref o1, .int 0, .ref o2, .int 0, .ref o3, .ref o4, .int 0, .ref o5, .int 0, .ref o6, .int (-9), .int 0, .int 0, .ref o7, .ref o8, .ref o9, .ref o10, .ref o11, .int 0, .ref o12, .ref o13, .ref o14, .int 0, .ref o15, .ref o16, .ref o17, .int 0, .ref o18])), (o1, .inl (cI, 5, .inl (upd (fun _ => 0) (Int32.toNatClampNeg 2) 1)))] H := hP
  have hD : va_D A [(o0, .inr (12, [.int 2, .ref o1, .int 0, .ref o2, .int 0, .ref o3, .ref o4, .int 0, .ref o5, .int 0, .ref o6, .int (-9), .int 0, .int 0, .ref o7, .ref o8, .ref o9, .ref o10, .ref o11, .int 0, .ref o12, .ref o13, .ref o14, .int 0, .ref o15, .ref o16, .ref o17, .int 0, .ref o18])), (o1, .inl (cI, 5, .inl (upd (fun _ => 0) (Int32.toNatClampNeg 2) 1)))] := hD
  have hP9 := hP.sub (ws' := []) [] rfl
  have hD9 := hD.sub (ws' := []) [] (by decide) rfl
  exact W.iret (v := (-3)) hx hb hr (fun t ht hW => ⟨⟨(-3), (), rfl, rfl, by rw [ht]; exact hP9, va_K.moved hW.alike hK, hD9⟩, hS.F ht⟩) hS.2.2 dX12_copy_41
set_option maxHeartbeats 1000000 in
set_option maxRecDepth 100000 in
theorem kX10_hasRun_66 (l : Launch) (dC : Nat → ClassId) (dI : Nat → Nat → Nat) (cI c2 : ClassId) (o0 : Nat) (o1 : Nat) (sz : Nat) (a1 : Int32) (a1_lo : 0 ≤ a1.toInt) (a1_hi : a1.toInt ≤ 1) : Met l yX10_hasRun wsX10_hasRun ({ frames := 0, cells := 0, slots := 0, locals := 0 }) (va_Pc [.ref o0, .int a1, .int 11] (wPre (dC, dI) [(cI, .int), (c2, .array .int)] [(o0, .inr (10, [.ref o1, .int 0, .int 0]))] sz)) (va_Qi (fun (r : Int32) (_ : Unit) => r = 1) (fun _ t => wPost (dC, dI) [(cI, .int), (c2, .array .int)] (va_A [(o0, .inr (10, [.ref o1, .int 0, .int 0]))] sz) [(o0, .inr (10, [.ref o1, .int 0, .int 0]))] t) (va_A [(o0, .inr (10, [.ref o1, .int 0, .int 0]))] sz)) 0 0 (va_A [(o0, .inr (10, [.ref o1, .int 0, .int 0]))] sz) := by
  refine Met.ofW (cc := cX10_hasRun) (maxL := 3) (ret := (some .boolean)) (by decide) rfl ?_
  intro p e s m args below meth c s₁ B hml hv
  obtain ⟨rfl, hsz, hP, hK, hD0, hN⟩ := hv
  have hx := B.exec
  have hb := B.bytes
  have hr := B.returns
  have hts := atoms_spec (ws := wsX10_hasRun) B.pre
  have hown : s.vm.findClass RX10 = some m.cls := findClass_of_methodNamed B.named
  have hlocks := B.notSynchronized
  subst hsz
  have hD := hD0.self (sz := s.heap.size)
  generalize hAe : va_A [(o0, .inr (10, [.ref o1, .int 0, .int 0]))] s.heap.size = A at hD ⊢
  have hA : ∀ q : Nat, s.heap.size ≤ q → A q := fun q h => by rw [← hAe]; exact Or.inr h
  have hS : va_S A s.heap s.heap [] := va_S.rf
  have hP : va_P (dC, dI) vwCl [(o0, .inr (10, [.ref o1, .int 0, .int 0]))] s.heap := hP
  have hl := lv_entry ([.ref o0, .int a1, .int 11]) (n := 3) (Nat.le_of_ble_eq_true rfl)
  rw [lg_entry_eq]
  generalize (lg_sl ([.ref o0, .int a1, .int 11]) ++ List.replicate (3 - (lg_sl ([.ref o0, .int a1, .int 11])).length) Slot.unset).toArray = ls at hl ⊢
  have hl : lv_has ls 3 [(0, .ref o0), (1, .int a1), (2, .int 11)] := hl
  refine lv_iload_n hx hb dX10_hasRun_0 rfl (lv_at hl 1 rfl) ?_
  refine lv_if_lt (tgt := 26) hx hb dX10_hasRun_1 (by decide) (fun h9 => absurd h9 (ib_nlt (X := a1.toInt) (Y := 0) rfl (by decide +kernel) (by omega))) (fun _ => ?_)
  refine lv_iload_n hx hb dX10_hasRun_4 rfl (lv_at hl 2 rfl) ?_
  refine lv_if_lt (tgt := 26) hx hb dX10_hasRun_5 (by decide) (fun h9 => absurd h9 (by decide +kernel)) (fun _ => ?_)
  refine lv_iload_n hx hb dX10_hasRun_8 rfl (lv_at hl 1 rfl) ?_
  refine lv_bipush (v := 12) hx hb dX10_hasRun_9 (by decide) ?_
  refine lv_icmp_gt (tgt := 26) hx hb dX10_hasRun_11 (by decide) (fun h9 => absurd h9 (ib_nlt (X := 12) (Y := a1.toInt) (by decide +kernel) rfl (by omega))) (fun _ => ?_)
  refine lv_iload_n hx hb dX10_hasRun_14 rfl (lv_at hl 2 rfl) ?_
  refine lv_bipush (v := 12) hx hb dX10_hasRun_15 (by decide) ?_
  refine lv_iload_n hx hb dX10_hasRun_17 rfl (lv_at hl 1 rfl) ?_
  refine lv_isub hx hb dX10_hasRun_18 ?_
  refine lv_icmp_gt (tgt := 26) hx hb dX10_hasRun_19 (by decide) (fun h9 => absurd h9 (ib_nlt (X := (12 - a1.toInt)) (Y := 11) (ti_sub (by decide +kernel) (by omega) (by omega)) (by decide +kernel) (by omega))) (fun _ => ?_)
  refine lv_iconst (v := 1) hx hb dX10_hasRun_22 (by decide) ?_
  refine lv_goto (tgt := 27) hx hb dX10_hasRun_23 (by decide) ?_
  have hP9 := hP.sub (ws' := [(o0, .inr (10, [.ref o1, .int 0, .int 0]))]) [0] rfl
  have hD9 := hD.sub (ws' := [(o0, .inr (10, [.ref o1, .int 0, .int 0]))]) [0] (by decide) rfl
  exact W.zret (v := 1) (ty := .boolean) hx hb hr rfl (fun t ht hW => ⟨⟨1, (), rfl, rfl, by rw [ht]; exact hP9, va_K.moved hW.alike hK, hD9⟩, hS.F ht⟩) hS.2.2 dX10_hasRun_27
set_option maxHeartbeats 1000000 in
set_option maxRecDepth 100000 in
theorem kX10_hasRun_67 (l : Launch) (dC : Nat → ClassId) (dI : Nat → Nat → Nat) (cI c2 : ClassId) (o0 : Nat) (o1 : Nat) (sz : Nat) (a2 : Int32) (a2_lo : (-2147483648) ≤ a2.toInt) (a2_hi : a2.toInt ≤ (-1)) : Met l yX10_hasRun wsX10_hasRun ({ frames := 0, cells := 0, slots := 0, locals := 0 }) (va_Pc [.ref o0, .int a2, .int 11] (wPre (dC, dI) [(cI, .int), (c2, .array .int)] [(o0, .inr (10, [.ref o1, .int 0, .int 0]))] sz)) (va_Qi (fun (r : Int32) (_ : Unit) => r = 0) (fun _ t => wPost (dC, dI) [(cI, .int), (c2, .array .int)] (va_A [(o0, .inr (10, [.ref o1, .int 0, .int 0]))] sz) [(o0, .inr (10, [.ref o1, .int 0, .int 0]))] t) (va_A [(o0, .inr (10, [.ref o1, .int 0, .int 0]))] sz)) 0 0 (va_A [(o0, .inr (10, [.ref o1, .int 0, .int 0]))] sz) := by
  refine Met.ofW (cc := cX10_hasRun) (maxL := 3) (ret := (some .boolean)) (by decide) rfl ?_
  intro p e s m args below meth c s₁ B hml hv
  obtain ⟨rfl, hsz, hP, hK, hD0, hN⟩ := hv
  have hx := B.exec
  have hb := B.bytes
  have hr := B.returns
  have hts := atoms_spec (ws := wsX10_hasRun) B.pre
  have hown : s.vm.findClass RX10 = some m.cls := findClass_of_methodNamed B.named
  have hlocks := B.notSynchronized
  subst hsz
  have hD := hD0.self (sz := s.heap.size)
  generalize hAe : va_A [(o0, .inr (10, [.ref o1, .int 0, .int 0]))] s.heap.size = A at hD ⊢
  have hA : ∀ q : Nat, s.heap.size ≤ q → A q := fun q h => by rw [← hAe]; exact Or.inr h
  have hS : va_S A s.heap s.heap [] := va_S.rf
  have hP : va_P (dC, dI) vwCl [(o0, .inr (10, [.ref o1, .int 0, .int 0]))] s.heap := hP
  have hl := lv_entry ([.ref o0, .int a2, .int 11]) (n := 3) (Nat.le_of_ble_eq_true rfl)
  rw [lg_entry_eq]
  generalize (lg_sl ([.ref o0, .int a2, .int 11]) ++ List.replicate (3 - (lg_sl ([.ref o0, .int a2, .int 11])).length) Slot.unset).toArray = ls at hl ⊢
  have hl : lv_has ls 3 [(0, .ref o0), (1, .int a2), (2, .int 11)] := hl
  refine lv_iload_n hx hb dX10_hasRun_0 rfl (lv_at hl 1 rfl) ?_
  refine lv_if_lt (tgt := 26) hx hb dX10_hasRun_1 (by decide) (fun _ => ?_) (fun h9 => absurd (ib_lt (X := a2.toInt) (Y := 0) rfl (by decide +kernel) (by omega)) h9)
  refine lv_iconst (v := 0) hx hb dX10_hasRun_26 (by decide) ?_
  have hP9 := hP.sub (ws' := [(o0, .inr (10, [.ref o1, .int 0, .int 0]))]) [0] rfl
  have hD9 := hD.sub (ws' := [(o0, .inr (10, [.ref o1, .int 0, .int 0]))]) [0] (by decide) rfl
  exact W.zret (v := 0) (ty := .boolean) hx hb hr rfl (fun t ht hW => ⟨⟨0, (), rfl, rfl, by rw [ht]; exact hP9, va_K.moved hW.alike hK, hD9⟩, hS.F ht⟩) hS.2.2 dX10_hasRun_27
set_option maxHeartbeats 1000000 in
set_option maxRecDepth 100000 in
theorem kX11_copy_67 (l : Launch) (dC : Nat → ClassId) (dI : Nat → Nat → Nat) (cI c2 : ClassId) (o0 : Nat) (o1 : Nat) (o2 : Nat) (o3 : Nat) (o4 : Nat) (o5 : Nat) (o6 : Nat) (o7 : Nat) (o8 : Nat) (o9 : Nat) (o10 : Nat) (o11 : Nat) (o12 : Nat) (o13 : Nat) (sz : Nat) (a1 : Int32) (a2 : Int32) (a1_lo : 0 ≤ a1.toInt) (a1_hi : a1.toInt ≤ 1) (a2_lo : (-2147483648) ≤ a2.toInt) (a2_hi : a2.toInt ≤ (-1)) : Met l yX11_copy wsX11_copy ({ frames := 1, cells := 0, slots := 0, locals := 22 }) (va_Pc [.ref o0, .int a1, .int a2, .int 11] (wPre (dC, dI) [(cI, .int), (c2, .array .int)] [(o0, .inr (11, [.ref o3, .ref o1, .ref o4, .ref o5, .ref o6, .ref o7, .ref o8, .ref o9, .ref o10, .ref o11, .ref o12, .ref o2, .int 0])), (o1, .inr (10, [.ref o13, .int 0, .int 0])), (o2, .inl (cI, 5, .inl (fun _ => 0)))] sz)) (va_Qi (fun (r : Int32) (_ : Unit) => r = (-3)) (fun _ t => wPost (dC, dI) [(cI, .int), (c2, .array .int)] (va_A [(o0, .inr (11, [.ref o3, .ref o1, .ref o4, .ref o5, .ref o6, .ref o7, .ref o8, .ref o9, .ref o10, .ref o11, .ref o12, .ref o2, .int 0])), (o1, .inr (10, [.ref o13, .int 0, .int 0])), (o2, .inl (cI, 5, .inl (fun _ => 0)))] sz) [] t) (va_A [(o0, .inr (11, [.ref o3, .ref o1, .ref o4, .ref o5, .ref o6, .ref o7, .ref o8, .ref o9, .ref o10, .ref o11, .ref o12, .ref o2, .int 0])), (o1, .inr (10, [.ref o13, .int 0, .int 0])), (o2, .inl (cI, 5, .inl (fun _ => 0)))] sz)) 0 0 (va_A [(o0, .inr (11, [.ref o3, .ref o1, .ref o4, .ref o5, .ref o6, .ref o7, .ref o8, .ref o9, .ref o10, .ref o11, .ref o12, .ref o2, .int 0])), (o1, .inr (10, [.ref o13, .int 0, .int 0])), (o2, .inl (cI, 5, .inl (fun _ => 0)))] sz) := by
  refine Met.ofW (cc := cX11_copy) (maxL := 4) (ret := (some .int)) (by decide) rfl ?_
  intro p e s m args below meth c s₁ B hml hv
  obtain ⟨rfl, hsz, hP, hK, hD0, hN⟩ := hv
  have hx := B.exec
  have hb := B.bytes
  have hr := B.returns
  have hts := atoms_spec (ws := wsX11_copy) B.pre
  have hown : s.vm.findClass RX11 = some m.cls := findClass_of_methodNamed B.named
  have hlocks := B.notSynchronized
  subst hsz
  have hD := hD0.self (sz := s.heap.size)
  generalize hAe : va_A [(o0, .inr (11, [.ref o3, .ref o1, .ref o4, .ref o5, .ref o6, .ref o7, .ref o8, .ref o9, .ref o10, .ref o11, .ref o12, .ref o2, .int 0])), (o1, .inr (10, [.ref o13, .int 0, .int 0])), (o2, .inl (cI, 5, .inl (fun _ => 0)))] s.heap.size = A at hD ⊢
  have hA : ∀ q : Nat, s.heap.size ≤ q → A q := fun q h => by rw [← hAe]; exact Or.inr h
  have hS : va_S A s.heap s.heap [] := va_S.rf
  have hP : va_P (dC, dI) vwCl [(o0, .inr (11, [.ref o3, .ref o1, .ref o4, .ref o5, .ref o6, .ref o7, .ref o8, .ref o9, .ref o10, .ref o11, .ref o12, .ref o2, .int 0])), (o1, .inr (10, [.ref o13, .int 0, .int 0])), (o2, .inl (cI, 5, .inl (fun _ => 0)))] s.heap := hP
  have hl := lv_entry ([.ref o0, .int a1, .int a2, .int 11]) (n := 4) (Nat.le_of_ble_eq_true rfl)
  rw [lg_entry_eq]
  generalize (lg_sl ([.ref o0, .int a1, .int a2, .int 11]) ++ List.replicate (4 - (lg_sl ([.ref o0, .int a1, .int a2, .int 11])).length) Slot.unset).toArray = ls at hl ⊢
  have hl : lv_has ls 4 [(0, .ref o0), (1, .int a1), (2, .int a2), (3, .int 11)] := hl
  refine lv_aload_n hx hb dX11_copy_0 rfl (lv_at hl 0 rfl) ?_
  refine va_get (D := (dC, dI)) (ci := 11) (v := .ref o1) (C := RX11) (T := TX11) (N := 13) hx hb hts iw_X11_copy_X11 hown hK hP 0 rfl rfl 1 (by decide) (hts (.fieldLink RX11 19 "HolelessHouse" "table" "LHolelessHouse$Table;") (by decide +kernel)) (fun _ h9 => h9) rfl dX11_copy_1 ?_
  refine lv_iload_n hx hb dX11_copy_4 rfl (lv_at hl 1 rfl) ?_
  refine lv_iload_n hx hb dX11_copy_5 rfl (lv_at hl 3 rfl) ?_
  refine kcall_i (D := (dC, dI)) (S := Unit) (v := 1) (wc := [(o1, .inr (10, [.ref o13, .int 0, .int 0]))]) (wr := [(o0, .inr (11, [.ref o3, .ref o1, .ref o4, .ref o5, .ref o6, .ref o7, .ref o8, .ref o9, .ref o10, .ref o11, .ref o12, .ref o2, .int 0])), (o2, .inl (cI, 5, .inl (fun _ => 0)))]) (w1 := fun _ => [(o1, .inr (10, [.ref o13, .int 0, .int 0]))]) (fun hPc hDc => va_runVN (As := [.int a1, .int 11]) (rest := []) ⟨hx, hb, hml, hown, hts⟩ (kX10_hasRun_66 l dC dI cI c2 o1 o13 s.heap.size a1 (by omega) (by omega)) ⟨va_cnB 2 hts gX11_copy_X10_hasRun_n259 rfl rfl rfl (hN.1 _ ns_135) (hts (.initialized RX10) (by decide +kernel)) (by decide +kernel) ⟨Nat.le_of_ble_eq_true rfl, Nat.le_of_ble_eq_true rfl⟩, (hts (.instanceMethod yX10_hasRun) (by decide +kernel)), (hts (.selects RX10 yX10_hasRun yX10_hasRun) (by decide +kernel))⟩ (pre_V hPc hK hDc hN (ci := 10) (q0 := 0) rfl rfl) rfl rfl hl.1 rfl (lv_room (Nat.le_of_ble_eq_true rfl)) dX11_copy_6 ⟨Nat.le_of_ble_eq_true rfl, Nat.le_of_ble_eq_true rfl⟩) hP hD hS hA [1] [0, 2] rfl rfl (by decide) (by decide) (by decide) (fun u H locs hP hD hS => ?_)
  have hP : va_P (dC, dI) vwCl [(o0, .inr (11, [.ref o3, .ref o1, .ref o4, .ref o5, .ref o6, .ref o7, .ref o8, .ref o9, .ref o10, .ref o11, .ref o12, .ref o2, .int 0])), (o2, .inl (cI, 5, .inl (fun _ => 0))), (o1, .inr (10, [.ref o13, .int 0, .int 0]))] H := hP
  have hD : va_D A [(o0, .inr (11, [.ref o3, .ref o1, .ref o4, .ref o5, .ref o6, .ref o7, .ref o8, .ref o9, .ref o10, .ref o11, .ref o12, .ref o2, .int 0])), (o2, .inl (cI, 5, .inl (fun _ => 0))), (o1, .inr (10, [.ref o13, .int 0, .int 0]))] := hD
  refine lv_if_eq (tgt := 24) hx hb dX11_copy_9 (by decide) (fun h9 => absurd h9 (by decide +kernel)) (fun _ => ?_)
  refine lv_aload_n hx hb dX11_copy_12 rfl (lv_at hl 0 rfl) ?_
  refine va_get (D := (dC, dI)) (ci := 11) (v := .ref o1) (C := RX11) (T := TX11) (N := 13) hx hb hts iw_X11_copy_X11 hown hK hP 0 rfl rfl 1 (by decide) (hts (.fieldLink RX11 19 "HolelessHouse" "table" "LHolelessHouse$Table;") (by decide +kernel)) (fun _ h9 => h9) rfl dX11_copy_13 ?_
  refine lv_iload_n hx hb dX11_copy_16 rfl (lv_at hl 2 rfl) ?_
  refine lv_iload_n hx hb dX11_copy_17 rfl (lv_at hl 3 rfl) ?_
  refine kcall_i (D := (dC, dI)) (S := Unit) (v := 0) (wc := [(o1, .inr (10, [.ref o13, .int 0, .int 0]))]) (wr := [(o0, .inr (11, [.ref o3, .ref o1, .ref o4, .ref o5, .ref o6, .ref o7, .ref o8, .ref o9, .ref o10, .ref o11, .ref o12, .ref o2, .int 0])), (o2, .inl (cI, 5, .inl (fun _ => 0)))]) (w1 := fun _ => [(o1, .inr (10, [.ref o13, .int 0, .int 0]))]) (fun hPc hDc => va_runVN (As := [.int a2, .int 11]) (rest := []) ⟨hx, hb, hml, hown, hts⟩ (kX10_hasRun_67 l dC dI cI c2 o1 o13 H.size a2 (by omega) (by omega)) ⟨va_cnB 2 hts gX11_copy_X10_hasRun_n259 rfl rfl rfl (hN.1 _ ns_135) (hts (.initialized RX10) (by decide +kernel)) (by decide +kernel) ⟨Nat.le_of_ble_eq_true rfl, Nat.le_of_ble_eq_true rfl⟩, (hts (.instanceMethod yX10_hasRun) (by decide +kernel)), (hts (.selects RX10 yX10_hasRun yX10_hasRun) (by decide +kernel))⟩ (pre_V hPc hK hDc hN (ci := 10) (q0 := 0) rfl rfl) rfl rfl hl.1 rfl (lv_room (Nat.le_of_ble_eq_true rfl)) dX11_copy_18 ⟨Nat.le_of_ble_eq_true rfl, Nat.le_of_ble_eq_true rfl⟩) hP hD hS hA [2] [0, 1] rfl rfl (by decide) (by decide) (by decide) (fun u H locs hP hD hS => ?_)
  have hP : va_P (dC, dI) vwCl [(o0, .inr (11, [.ref o3, .ref o1, .ref o4, .ref o5, .ref o6, .ref o7, .ref o8, .ref o9, .ref o10, .ref o11, .ref o12, .ref o2, .int 0])), (o2, .inl (cI, 5, .inl (fun _ => 0))), (o1, .inr (10, [.ref o13, .int 0, .int 0]))] H := hP
  have hD : va_D A [(o0, .inr (11, [.ref o3, .ref o1, .ref o4, .ref o5, .ref o6, .ref o7, .ref o8, .ref o9, .ref o10, .ref o11, .ref o12, .ref o2, .int 0])), (o2, .inl (cI, 5, .inl (fun _ => 0))), (o1, .inr (10, [.ref o13, .int 0, .int 0]))] := hD
  refine lv_if_ne (tgt := 30) hx hb dX11_copy_21 (by decide) (fun h9 => absurd (by decide +kernel) h9) (fun _ => ?_)
  refine lv_aload_n hx hb dX11_copy_24 rfl (lv_at hl 0 rfl) ?_
  refine lv_iconst (v := 2) hx hb dX11_copy_25 (by decide) ?_
  refine kcall_i (D := (dC, dI)) (S := Unit) (v := (-3)) (wc := [(o0, .inr (11, [.ref o3, .ref o1, .ref o4, .ref o5, .ref o6, .ref o7, .ref o8, .ref o9, .ref o10, .ref o11, .ref o12, .ref o2, .int 0])), (o2, .inl (cI, 5, .inl (fun _ => 0)))]) (wr := [(o1, .inr (10, [.ref o13, .int 0, .int 0]))]) (w1 := fun _ => [(o0, .inr (11, [.ref o3, .ref o1, .ref o4, .ref o5, .ref o6, .ref o7, .ref o8, .ref o9, .ref o10, .ref o11, .ref o12, .ref o2, .int 2])), (o2, .inl (cI, 5, .inl (upd (fun _ => 0) (Int32.toNatClampNeg 2) 1)))]) (fun hPc hDc => va_runV (As := [.int 2]) (rest := []) ⟨hx, hb, hml, hown, hts⟩ (kX11_found_2 l dC dI cI c2 o0 o2 o3 o1 o4 o5 o6 o7 o8 o9 o10 o11 o12 H.size) (cwV 1 hts gX11_copy_X11_found rfl rfl rfl (by decide +kernel) ⟨Nat.le_of_ble_eq_true rfl, Nat.le_of_ble_eq_true rfl⟩) (pre_V hPc hK hDc hN (ci := 11) (q0 := 0) rfl rfl) rfl rfl hl.1 rfl (lv_room (Nat.le_of_ble_eq_true rfl)) dX11_copy_26 ⟨Nat.le_of_ble_eq_true rfl, Nat.le_of_ble_eq_true rfl⟩) hP hD hS hA [0, 1] [2] rfl rfl (by decide) (by decide) (by decide) (fun u H locs hP hD hS => ?_)
  have hP : va_P (dC, dI) vwCl [(o1, .inr (10, [.ref o13, .int 0, .int 0])), (o0, .inr (11, [.ref o3, .ref o1, .ref o4, .ref o5, .ref o6, .ref o7, .ref o8, .ref o9, .ref o10, .ref o11, .ref o12, .ref o2, .int 2])), (o2, .inl (cI, 5, .inl (upd (fun _ => 0) (Int32.toNatClampNeg 2) 1)))] H := hP
  have hD : va_D A [(o1, .inr (10, [.ref o13, .int 0, .int 0])), (o0, .inr (11, [.ref o3, .ref o1, .ref o4, .ref o5, .ref o6, .ref o7, .ref o8, .ref o9, .ref o10, .ref o11, .ref o12, .ref o2, .int 2])), (o2, .inl (cI, 5, .inl (upd (fun _ => 0) (Int32.toNatClampNeg 2) 1)))] := hD
  have hP9 := hP.sub (ws' := []) [] rfl
  have hD9 := hD.sub (ws' := []) [] (by decide) rfl
  exact W.iret (v := (-3)) hx hb hr (fun t ht hW => ⟨⟨(-3), (), rfl, rfl, by rw [ht]; exact hP9, va_K.moved hW.alike hK, hD9⟩, hS.F ht⟩) hS.2.2 dX11_copy_29
set_option maxHeartbeats 1000000 in
set_option maxRecDepth 100000 in
theorem kX12_copy_67 (l : Launch) (dC : Nat → ClassId) (dI : Nat → Nat → Nat) (cI c2 : ClassId) (o0 : Nat) (o1 : Nat) (o2 : Nat) (o3 : Nat) (o4 : Nat) (o5 : Nat) (o6 : Nat) (o7 : Nat) (o8 : Nat) (o9 : Nat) (o10 : Nat) (o11 : Nat) (o12 : Nat) (o13 : Nat) (o14 : Nat) (o15 : Nat) (o16 : Nat) (o17 : Nat) (o18 : Nat) (sz : Nat) (a1 : Int32) (a2 : Int32) (a1_lo : 0 ≤ a1.toInt) (a1_hi : a1.toInt ≤ 1) (a2_lo : (-2147483648) ≤ a2.toInt) (a2_hi : a2.toInt ≤ (-1)) : Met l yX12_copy wsX12_copy ({ frames := 1, cells := 0, slots := 0, locals := 21 }) (va_Pc [.ref o0, .int a1, .int a2, .int 11] (wPre (dC, dI) [(cI, .int), (c2, .array .int)] [(o0, .inr (12, [.int 0, .ref o1, .int 0, .ref o2, .int 0, .ref o3, .ref o4, .int 0, .ref o5, .int 0, .ref o6, .int (-9), .int 0, .int 0, .ref o7, .ref o8, .ref o9, .ref o10, .ref o11, .int 0, .ref o12, .ref o13, .ref o14, .int 0, .ref o15, .ref o16, .ref o17, .int 0, .ref o18])), (o1, .inl (cI, 5, .inl (fun _ => 0)))] sz)) (va_Qi (fun (r : Int32) (_ : Unit) => r = (-3)) (fun _ t => wPost (dC, dI) [(cI, .int), (c2, .array .int)] (va_A [(o0, .inr (12, [.int 0, .ref o1, .int 0, .ref o2, .int 0, .ref o3, .ref o4, .int 0, .ref o5, .int 0, .ref o6, .int (-9), .int 0, .int 0, .ref o7, .ref o8, .ref o9, .ref o10, .ref o11, .int 0, .ref o12, .ref o13, .ref o14, .int 0, .ref o15, .ref o16, .ref o17, .int 0, .ref o18])), (o1, .inl (cI, 5, .inl (fun _ => 0)))] sz) [] t) (va_A [(o0, .inr (12, [.int 0, .ref o1, .int 0, .ref o2, .int 0, .ref o3, .ref o4, .int 0, .ref o5, .int 0, .ref o6, .int (-9), .int 0, .int 0, .ref o7, .ref o8, .ref o9, .ref o10, .ref o11, .int 0, .ref o12, .ref o13, .ref o14, .int 0, .ref o15, .ref o16, .ref o17, .int 0, .ref o18])), (o1, .inl (cI, 5, .inl (fun _ => 0)))] sz)) 0 0 (va_A [(o0, .inr (12, [.int 0, .ref o1, .int 0, .ref o2, .int 0, .ref o3, .ref o4, .int 0, .ref o5, .int 0, .ref o6, .int (-9), .int 0, .int 0, .ref o7, .ref o8, .ref o9, .ref o10, .ref o11, .int 0, .ref o12, .ref o13, .ref o14, .int 0, .ref o15, .ref o16, .ref o17, .int 0, .ref o18])), (o1, .inl (cI, 5, .inl (fun _ => 0)))] sz) := by
  refine Met.ofW (cc := cX12_copy) (maxL := 5) (ret := (some .int)) (by decide) rfl ?_
  intro p e s m args below meth c s₁ B hml hv
  obtain ⟨rfl, hsz, hP, hK, hD0, hN⟩ := hv
  have hx := B.exec
  have hb := B.bytes
  have hr := B.returns
  have hts := atoms_spec (ws := wsX12_copy) B.pre
  have hown : s.vm.findClass RX12 = some m.cls := findClass_of_methodNamed B.named
  have hlocks := B.notSynchronized
  subst hsz
  have hD := hD0.self (sz := s.heap.size)
  generalize hAe : va_A [(o0, .inr (12, [.int 0, .ref o1, .int 0, .ref o2, .int 0, .ref o3, .ref o4, .int 0, .ref o5, .int 0, .ref o6, .int (-9), .int 0, .int 0, .ref o7, .ref o8, .ref o9, .ref o10, .ref o11, .int 0, .ref o12, .ref o13, .ref o14, .int 0, .ref o15, .ref o16, .ref o17, .int 0, .ref o18])), (o1, .inl (cI, 5, .inl (fun _ => 0)))] s.heap.size = A at hD ⊢
  have hA : ∀ q : Nat, s.heap.size ≤ q → A q := fun q h => by rw [← hAe]; exact Or.inr h
  have hS : va_S A s.heap s.heap [] := va_S.rf
  have hP : va_P (dC, dI) vwCl [(o0, .inr (12, [.int 0, .ref o1, .int 0, .ref o2, .int 0, .ref o3, .ref o4, .int 0, .ref o5, .int 0, .ref o6, .int (-9), .int 0, .int 0, .ref o7, .ref o8, .ref o9, .ref o10, .ref o11, .int 0, .ref o12, .ref o13, .ref o14, .int 0, .ref o15, .ref o16, .ref o17, .int 0, .ref o18])), (o1, .inl (cI, 5, .inl (fun _ => 0)))] s.heap := hP
  have hl := lv_entry ([.ref o0, .int a1, .int a2, .int 11]) (n := 5) (Nat.le_of_ble_eq_true rfl)
  rw [lg_entry_eq]
  generalize (lg_sl ([.ref o0, .int a1, .int a2, .int 11]) ++ List.replicate (5 - (lg_sl ([.ref o0, .int a1, .int a2, .int 11])).length) Slot.unset).toArray = ls at hl ⊢
  have hl : lv_has ls 5 [(0, .ref o0), (1, .int a1), (2, .int a2), (3, .int 11)] := hl
  refine lv_iload_n hx hb dX12_copy_0 rfl (lv_at hl 1 rfl) ?_
  refine lv_if_lt (tgt := 36) hx hb dX12_copy_1 (by decide) (fun h9 => absurd h9 (ib_nlt (X := a1.toInt) (Y := 0) rfl (by decide +kernel) (by omega))) (fun _ => ?_)
  refine lv_iload_n hx hb dX12_copy_4 rfl (lv_at hl 2 rfl) ?_
  refine lv_if_lt (tgt := 36) hx hb dX12_copy_5 (by decide) (fun _ => ?_) (fun h9 => absurd (ib_lt (X := a2.toInt) (Y := 0) rfl (by decide +kernel) (by omega)) h9)
  refine lv_aload_n hx hb dX12_copy_36 rfl (lv_at hl 0 rfl) ?_
  refine lv_iconst (v := 2) hx hb dX12_copy_37 (by decide) ?_
  refine kcall_i (D := (dC, dI)) (S := Unit) (v := (-3)) (wc := [(o0, .inr (12, [.int 0, .ref o1, .int 0, .ref o2, .int 0, .ref o3, .ref o4, .int 0, .ref o5, .int 0, .ref o6, .int (-9), .int 0, .int 0, .ref o7, .ref o8, .ref o9, .ref o10, .ref o11, .int 0, .ref o12, .ref o13, .ref o14, .int 0, .ref o15, .ref o16, .ref o17, .int 0, .ref o18])), (o1, .inl (cI, 5, .inl (fun _ => 0)))]) (wr := []) (w1 := fun _ => [(o0, .inr (12, [.int 2, .ref o1, .int 0, .ref o2, .int 0, .ref o3, .ref o4, .int 0, .ref o5, .int 0, .ref o6, .int (-9), .int 0, .int 0, .ref o7, .ref o8, .ref o9, .ref o10, .ref o11, .int 0, .ref o12, .ref o13, .ref o14, .int 0, .ref o15, .ref o16, .ref o17, .int 0, .ref o18])), (o1, .inl (cI, 5, .inl (upd (fun _ => 0) (Int32.toNatClampNeg 2) 1)))]) (fun hPc hDc => va_runV (As := [.int 2]) (rest := []) ⟨hx, hb, hml, hown, hts⟩ (kX12_meets_2 l dC dI cI c2 o0 o1 o2 o3 o4 o5 o6 o7 o8 o9 o10 o11 o12 o13 o14 o15 o16 o17 o18 s.heap.size) (cwV 1 hts gX12_copy_X12_meets rfl rfl rfl (by decide +kernel) ⟨Nat.le_of_ble_eq_true rfl, Nat.le_of_ble_eq_true rfl⟩) (pre_V hPc hK hDc hN (ci := 12) (q0 := 0) rfl rfl) rfl rfl hl.1 rfl (lv_room (Nat.le_of_ble_eq_true rfl)) dX12_copy_38 ⟨Nat.le_of_ble_eq_true rfl, Nat.le_of_ble_eq_true rfl⟩) hP hD hS hA [0, 1] [] rfl rfl (by decide) (by decide) (by decide) (fun u H locs hP hD hS => ?_)
  have hP : va_P (dC, dI) vwCl [(o0, .inr (12, [.int 2, .ref o1, .int 0, .ref o2, .int 0, .ref o3, .ref o4, .int 0, .ref o5, .int 0, .ref o6, .int (-9), .int 0, .int 0, .ref o7, .ref o8, .ref o9, .ref o10, .ref o11, .int 0, .ref o12, .ref o13, .ref o14, .int 0, .ref o15, .ref o16, .ref o17, .int 0, .ref o18])), (o1, .inl (cI, 5, .inl (upd (fun _ => 0) (Int32.toNatClampNeg 2) 1)))] H := hP
  have hD : va_D A [(o0, .inr (12, [.int 2, .ref o1, .int 0, .ref o2, .int 0, .ref o3, .ref o4, .int 0, .ref o5, .int 0, .ref o6, .int (-9), .int 0, .int 0, .ref o7, .ref o8, .ref o9, .ref o10, .ref o11, .int 0, .ref o12, .ref o13, .ref o14, .int 0, .ref o15, .ref o16, .ref o17, .int 0, .ref o18])), (o1, .inl (cI, 5, .inl (upd (fun _ => 0) (Int32.toNatClampNeg 2) 1)))] := hD
  have hP9 := hP.sub (ws' := []) [] rfl
  have hD9 := hD.sub (ws' := []) [] (by decide) rfl
  exact W.iret (v := (-3)) hx hb hr (fun t ht hW => ⟨⟨(-3), (), rfl, rfl, by rw [ht]; exact hP9, va_K.moved hW.alike hK, hD9⟩, hS.F ht⟩) hS.2.2 dX12_copy_41
set_option maxHeartbeats 1000000 in
set_option maxRecDepth 100000 in
theorem kX10_hasRun_68 (l : Launch) (dC : Nat → ClassId) (dI : Nat → Nat → Nat) (cI c2 : ClassId) (o0 : Nat) (o1 : Nat) (sz : Nat) (a2 : Int32) (a2_lo : 0 ≤ a2.toInt) (a2_hi : a2.toInt ≤ 1) : Met l yX10_hasRun wsX10_hasRun ({ frames := 0, cells := 0, slots := 0, locals := 0 }) (va_Pc [.ref o0, .int a2, .int 11] (wPre (dC, dI) [(cI, .int), (c2, .array .int)] [(o0, .inr (10, [.ref o1, .int 0, .int 0]))] sz)) (va_Qi (fun (r : Int32) (_ : Unit) => r = 1) (fun _ t => wPost (dC, dI) [(cI, .int), (c2, .array .int)] (va_A [(o0, .inr (10, [.ref o1, .int 0, .int 0]))] sz) [(o0, .inr (10, [.ref o1, .int 0, .int 0]))] t) (va_A [(o0, .inr (10, [.ref o1, .int 0, .int 0]))] sz)) 0 0 (va_A [(o0, .inr (10, [.ref o1, .int 0, .int 0]))] sz) := by
  refine Met.ofW (cc := cX10_hasRun) (maxL := 3) (ret := (some .boolean)) (by decide) rfl ?_
  intro p e s m args below meth c s₁ B hml hv
  obtain ⟨rfl, hsz, hP, hK, hD0, hN⟩ := hv
  have hx := B.exec
  have hb := B.bytes
  have hr := B.returns
  have hts := atoms_spec (ws := wsX10_hasRun) B.pre
  have hown : s.vm.findClass RX10 = some m.cls := findClass_of_methodNamed B.named
  have hlocks := B.notSynchronized
  subst hsz
  have hD := hD0.self (sz := s.heap.size)
  generalize hAe : va_A [(o0, .inr (10, [.ref o1, .int 0, .int 0]))] s.heap.size = A at hD ⊢
  have hA : ∀ q : Nat, s.heap.size ≤ q → A q := fun q h => by rw [← hAe]; exact Or.inr h
  have hS : va_S A s.heap s.heap [] := va_S.rf
  have hP : va_P (dC, dI) vwCl [(o0, .inr (10, [.ref o1, .int 0, .int 0]))] s.heap := hP
  have hl := lv_entry ([.ref o0, .int a2, .int 11]) (n := 3) (Nat.le_of_ble_eq_true rfl)
  rw [lg_entry_eq]
  generalize (lg_sl ([.ref o0, .int a2, .int 11]) ++ List.replicate (3 - (lg_sl ([.ref o0, .int a2, .int 11])).length) Slot.unset).toArray = ls at hl ⊢
  have hl : lv_has ls 3 [(0, .ref o0), (1, .int a2), (2, .int 11)] := hl
  refine lv_iload_n hx hb dX10_hasRun_0 rfl (lv_at hl 1 rfl) ?_
  refine lv_if_lt (tgt := 26) hx hb dX10_hasRun_1 (by decide) (fun h9 => absurd h9 (ib_nlt (X := a2.toInt) (Y := 0) rfl (by decide +kernel) (by omega))) (fun _ => ?_)
  refine lv_iload_n hx hb dX10_hasRun_4 rfl (lv_at hl 2 rfl) ?_
  refine lv_if_lt (tgt := 26) hx hb dX10_hasRun_5 (by decide) (fun h9 => absurd h9 (by decide +kernel)) (fun _ => ?_)
  refine lv_iload_n hx hb dX10_hasRun_8 rfl (lv_at hl 1 rfl) ?_
  refine lv_bipush (v := 12) hx hb dX10_hasRun_9 (by decide) ?_
  refine lv_icmp_gt (tgt := 26) hx hb dX10_hasRun_11 (by decide) (fun h9 => absurd h9 (ib_nlt (X := 12) (Y := a2.toInt) (by decide +kernel) rfl (by omega))) (fun _ => ?_)
  refine lv_iload_n hx hb dX10_hasRun_14 rfl (lv_at hl 2 rfl) ?_
  refine lv_bipush (v := 12) hx hb dX10_hasRun_15 (by decide) ?_
  refine lv_iload_n hx hb dX10_hasRun_17 rfl (lv_at hl 1 rfl) ?_
  refine lv_isub hx hb dX10_hasRun_18 ?_
  refine lv_icmp_gt (tgt := 26) hx hb dX10_hasRun_19 (by decide) (fun h9 => absurd h9 (ib_nlt (X := (12 - a2.toInt)) (Y := 11) (ti_sub (by decide +kernel) (by omega) (by omega)) (by decide +kernel) (by omega))) (fun _ => ?_)
  refine lv_iconst (v := 1) hx hb dX10_hasRun_22 (by decide) ?_
  refine lv_goto (tgt := 27) hx hb dX10_hasRun_23 (by decide) ?_
  have hP9 := hP.sub (ws' := [(o0, .inr (10, [.ref o1, .int 0, .int 0]))]) [0] rfl
  have hD9 := hD.sub (ws' := [(o0, .inr (10, [.ref o1, .int 0, .int 0]))]) [0] (by decide) rfl
  exact W.zret (v := 1) (ty := .boolean) hx hb hr rfl (fun t ht hW => ⟨⟨1, (), rfl, rfl, by rw [ht]; exact hP9, va_K.moved hW.alike hK, hD9⟩, hS.F ht⟩) hS.2.2 dX10_hasRun_27
set_option maxHeartbeats 1000000 in
set_option maxRecDepth 100000 in
theorem kX10_move_12 (l : Launch) (dC : Nat → ClassId) (dI : Nat → Nat → Nat) (cI c2 : ClassId) (o0 : Nat) (o1 : Nat) (sz : Nat) (a1 : Int32) (a2 : Int32) (a1_lo : 0 ≤ a1.toInt) (a1_hi : a1.toInt ≤ 1) (a2_lo : 0 ≤ a2.toInt) (a2_hi : a2.toInt ≤ 1) : Met l yX10_move wsX10_move ({ frames := 1, cells := 0, slots := 0, locals := 64 }) (va_Pc [.ref o0, .int a1, .int a2, .int 11] (wPre (dC, dI) [(cI, .int), (c2, .array .int)] [(o0, .inr (10, [.ref o1, .int 0, .int 0])), (o1, .inl (cI, 12, .inl (fun _ => (-1))))] sz)) (va_Qv (fun (_ : Unit) => True) (fun _ t => wPost (dC, dI) [(cI, .int), (c2, .array .int)] (va_A [(o0, .inr (10, [.ref o1, .int 0, .int 0])), (o1, .inl (cI, 12, .inl (fun _ => (-1))))] sz) [(o0, .inr (10, [.ref o1, .int 0, .int 1])), (o1, .inl (cI, 12, .inl (va_cpy (fun _ => (-1)) (fun _ => (-1)) (Int32.toNatClampNeg a1) (Int32.toNatClampNeg a2) (Int32.toNatClampNeg 11))))] t) (va_A [(o0, .inr (10, [.ref o1, .int 0, .int 0])), (o1, .inl (cI, 12, .inl (fun _ => (-1))))] sz)) 0 0 (va_A [(o0, .inr (10, [.ref o1, .int 0, .int 0])), (o1, .inl (cI, 12, .inl (fun _ => (-1))))] sz) := by
  refine Met.ofW (cc := cX10_move) (maxL := 4) (ret := none) (by decide) rfl ?_
  intro p e s m args below meth c s₁ B hml hv
  obtain ⟨rfl, hsz, hP, hK, hD0, hN⟩ := hv
  have hx := B.exec
  have hb := B.bytes
  have hr := B.returns
  have hts := atoms_spec (ws := wsX10_move) B.pre
  have hown : s.vm.findClass RX10 = some m.cls := findClass_of_methodNamed B.named
  have hlocks := B.notSynchronized
  subst hsz
  have hD := hD0.self (sz := s.heap.size)
  generalize hAe : va_A [(o0, .inr (10, [.ref o1, .int 0, .int 0])), (o1, .inl (cI, 12, .inl (fun _ => (-1))))] s.heap.size = A at hD ⊢
  have hA : ∀ q : Nat, s.heap.size ≤ q → A q := fun q h => by rw [← hAe]; exact Or.inr h
  have hS : va_S A s.heap s.heap [] := va_S.rf
  have hP : va_P (dC, dI) vwCl [(o0, .inr (10, [.ref o1, .int 0, .int 0])), (o1, .inl (cI, 12, .inl (fun _ => (-1))))] s.heap := hP
  have hl := lv_entry ([.ref o0, .int a1, .int a2, .int 11]) (n := 4) (Nat.le_of_ble_eq_true rfl)
  rw [lg_entry_eq]
  generalize (lg_sl ([.ref o0, .int a1, .int a2, .int 11]) ++ List.replicate (4 - (lg_sl ([.ref o0, .int a1, .int a2, .int 11])).length) Slot.unset).toArray = ls at hl ⊢
  have hl : lv_has ls 4 [(0, .ref o0), (1, .int a1), (2, .int a2), (3, .int 11)] := hl
  refine lv_aload_n hx hb dX10_move_0 rfl (lv_at hl 0 rfl) ?_
  refine va_get (D := (dC, dI)) (ci := 10) (v := .ref o1) (C := RX10) (T := TX10) (N := 3) hx hb hts iw_X10_move_X10 hown hK hP 0 rfl rfl 0 (by decide) (hts (.fieldLink RX10 9 "HolelessHouse$Table" "rows" "[I") (by decide +kernel)) (fun _ h9 => h9) rfl dX10_move_1 ?_
  refine lv_iload_n hx hb dX10_move_4 rfl (lv_at hl 1 rfl) ?_
  refine lv_aload_n hx hb dX10_move_5 rfl (lv_at hl 0 rfl) ?_
  refine va_get (D := (dC, dI)) (ci := 10) (v := .ref o1) (C := RX10) (T := TX10) (N := 3) hx hb hts iw_X10_move_X10 hown hK hP 0 rfl rfl 0 (by decide) (hts (.fieldLink RX10 9 "HolelessHouse$Table" "rows" "[I") (by decide +kernel)) (fun _ h9 => h9) rfl dX10_move_6 ?_
  refine lv_iload_n hx hb dX10_move_9 rfl (lv_at hl 2 rfl) ?_
  refine lv_iload_n hx hb dX10_move_10 rfl (lv_at hl 3 rfl) ?_
  refine va_copyi hx hb (hml.trans hl.1.symm) hown (hts (.methodLink RX10 28 arraycopyName) (by decide +kernel)) (hts (.native arraycopyName) (by decide +kernel)) (hts (.static arraycopyName) (by decide +kernel)) (hts (.initialized "java/lang/System") (by decide +kernel)) hK hP hD hS 1 1 0 0 rfl rfl rfl rfl rfl (ib_nlt (X := a1.toInt) (Y := 0) rfl (by decide +kernel) (by omega)) (ib_nlt (X := a2.toInt) (Y := 0) rfl (by decide +kernel) (by omega)) (by decide) (cp_in (N := 11) (by decide +kernel) (by omega) (by omega)) (cp_in (N := 11) (by decide +kernel) (by omega) (by omega)) (fun _ _ => rfl) (Nat.le_of_ble_eq_true rfl) (by decide +kernel) dX10_move_11 (fun H locs hP hD hS => ?_)
  have hP : va_P (dC, dI) vwCl [(o0, .inr (10, [.ref o1, .int 0, .int 0])), (o1, .inl (cI, 12, .inl (va_cpy (fun _ => (-1)) (fun _ => (-1)) (Int32.toNatClampNeg a1) (Int32.toNatClampNeg a2) (Int32.toNatClampNeg 11))))] H := hP
  have hD : va_D A [(o0, .inr (10, [.ref o1, .int 0, .int 0])), (o1, .inl (cI, 12, .inl (va_cpy (fun _ => (-1)) (fun _ => (-1)) (Int32.toNatClampNeg a1) (Int32.toNatClampNeg a2) (Int32.toNatClampNeg 11))))] := hD
  refine lv_aload_n hx hb dX10_move_14 rfl (lv_at hl 0 rfl) ?_
  refine lv_dup hx hb dX10_move_15 rfl ?_
  refine va_get (D := (dC, dI)) (ci := 10) (v := .int 0) (C := RX10) (T := TX10) (N := 3) hx hb hts iw_X10_move_X10 hown hK hP 0 rfl rfl 2 (by decide) (hts (.fieldLink RX10 19 "HolelessHouse$Table" "version" "I") (by decide +kernel)) (fun _ h9 => h9) rfl dX10_move_16 ?_
  refine lv_iconst (v := 1) hx hb dX10_move_19 (by decide) ?_
  refine lv_iadd hx hb dX10_move_20 (tk_i (v := 1) (by decide +kernel) ?_)
  refine va_put (D := (dC, dI)) (ci := 10) (v := .int 1) (ty := .int) (C := RX10) (T := TX10) (N := 3) hx hb hts iw_X10_move_X10 tyX10 tyX10_ok nmX10 hown hK hP hD hS 0 rfl rfl 2 (by decide) (hts (.fieldLink RX10 19 "HolelessHouse$Table" "version" "I") (by decide +kernel)) (fun _ h9 => h9) rfl (by decide +kernel) rfl rfl (Nat.le_of_ble_eq_true rfl) dX10_move_21 (fun H locs hP hD hS => ?_)
  have hP : va_P (dC, dI) vwCl [(o0, .inr (10, [.ref o1, .int 0, .int 1])), (o1, .inl (cI, 12, .inl (va_cpy (fun _ => (-1)) (fun _ => (-1)) (Int32.toNatClampNeg a1) (Int32.toNatClampNeg a2) (Int32.toNatClampNeg 11))))] H := hP
  have hD : va_D A [(o0, .inr (10, [.ref o1, .int 0, .int 1])), (o1, .inl (cI, 12, .inl (va_cpy (fun _ => (-1)) (fun _ => (-1)) (Int32.toNatClampNeg a1) (Int32.toNatClampNeg a2) (Int32.toNatClampNeg 11))))] := hD
  have hP9 := hP.sub (ws' := [(o0, .inr (10, [.ref o1, .int 0, .int 1])), (o1, .inl (cI, 12, .inl (va_cpy (fun _ => (-1)) (fun _ => (-1)) (Int32.toNatClampNeg a1) (Int32.toNatClampNeg a2) (Int32.toNatClampNeg 11))))]) [0, 1] rfl
  have hD9 := hD.sub (ws' := [(o0, .inr (10, [.ref o1, .int 0, .int 1])), (o1, .inl (cI, 12, .inl (va_cpy (fun _ => (-1)) (fun _ => (-1)) (Int32.toNatClampNeg a1) (Int32.toNatClampNeg a2) (Int32.toNatClampNeg 11))))]) [0, 1] (by decide) rfl
  exact W.vret hx hb hr (fun t ht hW => ⟨⟨(), rfl, trivial, by rw [ht]; exact hP9, va_K.moved hW.alike hK, hD9⟩, hS.F ht⟩) hS.2.2 dX10_move_24
set_option maxHeartbeats 1000000 in
set_option maxRecDepth 100000 in
theorem kX11_copy_68 (l : Launch) (dC : Nat → ClassId) (dI : Nat → Nat → Nat) (cI c2 : ClassId) (o0 : Nat) (o1 : Nat) (o2 : Nat) (o3 : Nat) (o4 : Nat) (o5 : Nat) (o6 : Nat) (o7 : Nat) (o8 : Nat) (o9 : Nat) (o10 : Nat) (o11 : Nat) (o12 : Nat) (o13 : Nat) (sz : Nat) (a1 : Int32) (a2 : Int32) (a1_lo : 0 ≤ a1.toInt) (a1_hi : a1.toInt ≤ 1) (a2_lo : 0 ≤ a2.toInt) (a2_hi : a2.toInt ≤ 1) : Met l yX11_copy wsX11_copy ({ frames := 2, cells := 0, slots := 0, locals := 87 }) (va_Pc [.ref o0, .int a1, .int a2, .int 11] (wPre (dC, dI) [(cI, .int), (c2, .array .int)] [(o0, .inr (11, [.ref o3, .ref o1, .ref o4, .ref o5, .ref o6, .ref o7, .ref o8, .ref o9, .ref o10, .ref o11, .ref o12, .ref o13, .int 0])), (o1, .inr (10, [.ref o2, .int 0, .int 0])), (o2, .inl (cI, 12, .inl (fun _ => (-1))))] sz)) (va_Qi (fun (r : Int32) (_ : Unit) => r = 1) (fun _ t => wPost (dC, dI) [(cI, .int), (c2, .array .int)] (va_A [(o0, .inr (11, [.ref o3, .ref o1, .ref o4, .ref o5, .ref o6, .ref o7, .ref o8, .ref o9, .ref o10, .ref o11, .ref o12, .ref o13, .int 0])), (o1, .inr (10, [.ref o2, .int 0, .int 0])), (o2, .inl (cI, 12, .inl (fun _ => (-1))))] sz) [] t) (va_A [(o0, .inr (11, [.ref o3, .ref o1, .ref o4, .ref o5, .ref o6, .ref o7, .ref o8, .ref o9, .ref o10, .ref o11, .ref o12, .ref o13, .int 0])), (o1, .inr (10, [.ref o2, .int 0, .int 0])), (o2, .inl (cI, 12, .inl (fun _ => (-1))))] sz)) 0 0 (va_A [(o0, .inr (11, [.ref o3, .ref o1, .ref o4, .ref o5, .ref o6, .ref o7, .ref o8, .ref o9, .ref o10, .ref o11, .ref o12, .ref o13, .int 0])), (o1, .inr (10, [.ref o2, .int 0, .int 0])), (o2, .inl (cI, 12, .inl (fun _ => (-1))))] sz) := by
  refine Met.ofW (cc := cX11_copy) (maxL := 4) (ret := (some .int)) (by decide) rfl ?_
  intro p e s m args below meth c s₁ B hml hv
  obtain ⟨rfl, hsz, hP, hK, hD0, hN⟩ := hv
  have hx := B.exec
  have hb := B.bytes
  have hr := B.returns
  have hts := atoms_spec (ws := wsX11_copy) B.pre
  have hown : s.vm.findClass RX11 = some m.cls := findClass_of_methodNamed B.named
  have hlocks := B.notSynchronized
  subst hsz
  have hD := hD0.self (sz := s.heap.size)
  generalize hAe : va_A [(o0, .inr (11, [.ref o3, .ref o1, .ref o4, .ref o5, .ref o6, .ref o7, .ref o8, .ref o9, .ref o10, .ref o11, .ref o12, .ref o13, .int 0])), (o1, .inr (10, [.ref o2, .int 0, .int 0])), (o2, .inl (cI, 12, .inl (fun _ => (-1))))] s.heap.size = A at hD ⊢
  have hA : ∀ q : Nat, s.heap.size ≤ q → A q := fun q h => by rw [← hAe]; exact Or.inr h
  have hS : va_S A s.heap s.heap [] := va_S.rf
  have hP : va_P (dC, dI) vwCl [(o0, .inr (11, [.ref o3, .ref o1, .ref o4, .ref o5, .ref o6, .ref o7, .ref o8, .ref o9, .ref o10, .ref o11, .ref o12, .ref o13, .int 0])), (o1, .inr (10, [.ref o2, .int 0, .int 0])), (o2, .inl (cI, 12, .inl (fun _ => (-1))))] s.heap := hP
  have hl := lv_entry ([.ref o0, .int a1, .int a2, .int 11]) (n := 4) (Nat.le_of_ble_eq_true rfl)
  rw [lg_entry_eq]
  generalize (lg_sl ([.ref o0, .int a1, .int a2, .int 11]) ++ List.replicate (4 - (lg_sl ([.ref o0, .int a1, .int a2, .int 11])).length) Slot.unset).toArray = ls at hl ⊢
  have hl : lv_has ls 4 [(0, .ref o0), (1, .int a1), (2, .int a2), (3, .int 11)] := hl
  refine lv_aload_n hx hb dX11_copy_0 rfl (lv_at hl 0 rfl) ?_
  refine va_get (D := (dC, dI)) (ci := 11) (v := .ref o1) (C := RX11) (T := TX11) (N := 13) hx hb hts iw_X11_copy_X11 hown hK hP 0 rfl rfl 1 (by decide) (hts (.fieldLink RX11 19 "HolelessHouse" "table" "LHolelessHouse$Table;") (by decide +kernel)) (fun _ h9 => h9) rfl dX11_copy_1 ?_
  refine lv_iload_n hx hb dX11_copy_4 rfl (lv_at hl 1 rfl) ?_
  refine lv_iload_n hx hb dX11_copy_5 rfl (lv_at hl 3 rfl) ?_
  refine kcall_i (D := (dC, dI)) (S := Unit) (v := 1) (wc := [(o1, .inr (10, [.ref o2, .int 0, .int 0]))]) (wr := [(o0, .inr (11, [.ref o3, .ref o1, .ref o4, .ref o5, .ref o6, .ref o7, .ref o8, .ref o9, .ref o10, .ref o11, .ref o12, .ref o13, .int 0])), (o2, .inl (cI, 12, .inl (fun _ => (-1))))]) (w1 := fun _ => [(o1, .inr (10, [.ref o2, .int 0, .int 0]))]) (fun hPc hDc => va_runVN (As := [.int a1, .int 11]) (rest := []) ⟨hx, hb, hml, hown, hts⟩ (kX10_hasRun_66 l dC dI cI c2 o1 o2 s.heap.size a1 (by omega) (by omega)) ⟨va_cnB 2 hts gX11_copy_X10_hasRun_n259 rfl rfl rfl (hN.1 _ ns_135) (hts (.initialized RX10) (by decide +kernel)) (by decide +kernel) ⟨Nat.le_of_ble_eq_true rfl, Nat.le_of_ble_eq_true rfl⟩, (hts (.instanceMethod yX10_hasRun) (by decide +kernel)), (hts (.selects RX10 yX10_hasRun yX10_hasRun) (by decide +kernel))⟩ (pre_V hPc hK hDc hN (ci := 10) (q0 := 0) rfl rfl) rfl rfl hl.1 rfl (lv_room (Nat.le_of_ble_eq_true rfl)) dX11_copy_6 ⟨Nat.le_of_ble_eq_true rfl, Nat.le_of_ble_eq_true rfl⟩) hP hD hS hA [1] [0, 2] rfl rfl (by decide) (by decide) (by decide) (fun u H locs hP hD hS => ?_)
  have hP : va_P (dC, dI) vwCl [(o0, .inr (11, [.ref o3, .ref o1, .ref o4, .ref o5, .ref o6, .ref o7, .ref o8, .ref o9, .ref o10, .ref o11, .ref o12, .ref o13, .int 0])), (o2, .inl (cI, 12, .inl (fun _ => (-1)))), (o1, .inr (10, [.ref o2, .int 0, .int 0]))] H := hP
  have hD : va_D A [(o0, .inr (11, [.ref o3, .ref o1, .ref o4, .ref o5, .ref o6, .ref o7, .ref o8, .ref o9, .ref o10, .ref o11, .ref o12, .ref o13, .int 0])), (o2, .inl (cI, 12, .inl (fun _ => (-1)))), (o1, .inr (10, [.ref o2, .int 0, .int 0]))] := hD
  refine lv_if_eq (tgt := 24) hx hb dX11_copy_9 (by decide) (fun h9 => absurd h9 (by decide +kernel)) (fun _ => ?_)
  refine lv_aload_n hx hb dX11_copy_12 rfl (lv_at hl 0 rfl) ?_
  refine va_get (D := (dC, dI)) (ci := 11) (v := .ref o1) (C := RX11) (T := TX11) (N := 13) hx hb hts iw_X11_copy_X11 hown hK hP 0 rfl rfl 1 (by decide) (hts (.fieldLink RX11 19 "HolelessHouse" "table" "LHolelessHouse$Table;") (by decide +kernel)) (fun _ h9 => h9) rfl dX11_copy_13 ?_
  refine lv_iload_n hx hb dX11_copy_16 rfl (lv_at hl 2 rfl) ?_
  refine lv_iload_n hx hb dX11_copy_17 rfl (lv_at hl 3 rfl) ?_
  refine kcall_i (D := (dC, dI)) (S := Unit) (v := 1) (wc := [(o1, .inr (10, [.ref o2, .int 0, .int 0]))]) (wr := [(o0, .inr (11, [.ref o3, .ref o1, .ref o4, .ref o5, .ref o6, .ref o7, .ref o8, .ref o9, .ref o10, .ref o11, .ref o12, .ref o13, .int 0])), (o2, .inl (cI, 12, .inl (fun _ => (-1))))]) (w1 := fun _ => [(o1, .inr (10, [.ref o2, .int 0, .int 0]))]) (fun hPc hDc => va_runVN (As := [.int a2, .int 11]) (rest := []) ⟨hx, hb, hml, hown, hts⟩ (kX10_hasRun_68 l dC dI cI c2 o1 o2 H.size a2 (by omega) (by omega)) ⟨va_cnB 2 hts gX11_copy_X10_hasRun_n259 rfl rfl rfl (hN.1 _ ns_135) (hts (.initialized RX10) (by decide +kernel)) (by decide +kernel) ⟨Nat.le_of_ble_eq_true rfl, Nat.le_of_ble_eq_true rfl⟩, (hts (.instanceMethod yX10_hasRun) (by decide +kernel)), (hts (.selects RX10 yX10_hasRun yX10_hasRun) (by decide +kernel))⟩ (pre_V hPc hK hDc hN (ci := 10) (q0 := 0) rfl rfl) rfl rfl hl.1 rfl (lv_room (Nat.le_of_ble_eq_true rfl)) dX11_copy_18 ⟨Nat.le_of_ble_eq_true rfl, Nat.le_of_ble_eq_true rfl⟩) hP hD hS hA [2] [0, 1] rfl rfl (by decide) (by decide) (by decide) (fun u H locs hP hD hS => ?_)
  have hP : va_P (dC, dI) vwCl [(o0, .inr (11, [.ref o3, .ref o1, .ref o4, .ref o5, .ref o6, .ref o7, .ref o8, .ref o9, .ref o10, .ref o11, .ref o12, .ref o13, .int 0])), (o2, .inl (cI, 12, .inl (fun _ => (-1)))), (o1, .inr (10, [.ref o2, .int 0, .int 0]))] H := hP
  have hD : va_D A [(o0, .inr (11, [.ref o3, .ref o1, .ref o4, .ref o5, .ref o6, .ref o7, .ref o8, .ref o9, .ref o10, .ref o11, .ref o12, .ref o13, .int 0])), (o2, .inl (cI, 12, .inl (fun _ => (-1)))), (o1, .inr (10, [.ref o2, .int 0, .int 0]))] := hD
  refine lv_if_ne (tgt := 30) hx hb dX11_copy_21 (by decide) (fun _ => ?_) (fun h9 => absurd h9 (by decide +kernel))
  refine lv_aload_n hx hb dX11_copy_30 rfl (lv_at hl 0 rfl) ?_
  refine va_get (D := (dC, dI)) (ci := 11) (v := .ref o1) (C := RX11) (T := TX11) (N := 13) hx hb hts iw_X11_copy_X11 hown hK hP 0 rfl rfl 1 (by decide) (hts (.fieldLink RX11 19 "HolelessHouse" "table" "LHolelessHouse$Table;") (by decide +kernel)) (fun _ h9 => h9) rfl dX11_copy_31 ?_
  refine lv_iload_n hx hb dX11_copy_34 rfl (lv_at hl 1 rfl) ?_
  refine lv_iload_n hx hb dX11_copy_35 rfl (lv_at hl 2 rfl) ?_
  refine lv_iload_n hx hb dX11_copy_36 rfl (lv_at hl 3 rfl) ?_
  refine kcall_v (D := (dC, dI)) (S := Unit) (wc := [(o1, .inr (10, [.ref o2, .int 0, .int 0])), (o2, .inl (cI, 12, .inl (fun _ => (-1))))]) (wr := [(o0, .inr (11, [.ref o3, .ref o1, .ref o4, .ref o5, .ref o6, .ref o7, .ref o8, .ref o9, .ref o10, .ref o11, .ref o12, .ref o13, .int 0]))]) (w1 := fun _ => [(o1, .inr (10, [.ref o2, .int 0, .int 1])), (o2, .inl (cI, 12, .inl (va_cpy (fun _ => (-1)) (fun _ => (-1)) (Int32.toNatClampNeg a1) (Int32.toNatClampNeg a2) (Int32.toNatClampNeg 11))))]) (fun hPc hDc => va_runVN (As := [.int a1, .int a2, .int 11]) (rest := []) ⟨hx, hb, hml, hown, hts⟩ (kX10_move_12 l dC dI cI c2 o1 o2 H.size a1 a2 (by omega) (by omega) (by omega) (by omega)) ⟨va_cnB 3 hts gX11_copy_X10_move_n262 rfl rfl rfl (hN.1 _ ns_136) (hts (.initialized RX10) (by decide +kernel)) (by decide +kernel) ⟨Nat.le_of_ble_eq_true rfl, Nat.le_of_ble_eq_true rfl⟩, (hts (.instanceMethod yX10_move) (by decide +kernel)), (hts (.selects RX10 yX10_move yX10_move) (by decide +kernel))⟩ (pre_V hPc hK hDc hN (ci := 10) (q0 := 0) rfl rfl) rfl rfl hl.1 rfl (lv_room (Nat.le_of_ble_eq_true rfl)) dX11_copy_37 ⟨Nat.le_of_ble_eq_true rfl, Nat.le_of_ble_eq_true rfl⟩) hP hD hS hA [2, 1] [0] rfl rfl (by decide) (by decide) (by decide) (fun u H locs hP hD hS => ?_)
  have hP : va_P (dC, dI) vwCl [(o0, .inr (11, [.ref o3, .ref o1, .ref o4, .ref o5, .ref o6, .ref o7, .ref o8, .ref o9, .ref o10, .ref o11, .ref o12, .ref o13, .int 0])), (o1, .inr (10, [.ref o2, .int 0, .int 1])), (o2, .inl (cI, 12, .inl (va_cpy (fun _ => (-1)) (fun _ => (-1)) (Int32.toNatClampNeg a1) (Int32.toNatClampNeg a2) (Int32.toNatClampNeg 11))))] H := hP
  have hD : va_D A [(o0, .inr (11, [.ref o3, .ref o1, .ref o4, .ref o5, .ref o6, .ref o7, .ref o8, .ref o9, .ref o10, .ref o11, .ref o12, .ref o13, .int 0])), (o1, .inr (10, [.ref o2, .int 0, .int 1])), (o2, .inl (cI, 12, .inl (va_cpy (fun _ => (-1)) (fun _ => (-1)) (Int32.toNatClampNeg a1) (Int32.toNatClampNeg a2) (Int32.toNatClampNeg 11))))] := hD
  refine lv_iconst (v := 1) hx hb dX11_copy_40 (by decide) ?_
  have hP9 := hP.sub (ws' := []) [] rfl
  have hD9 := hD.sub (ws' := []) [] (by decide) rfl
  exact W.iret (v := 1) hx hb hr (fun t ht hW => ⟨⟨1, (), rfl, rfl, by rw [ht]; exact hP9, va_K.moved hW.alike hK, hD9⟩, hS.F ht⟩) hS.2.2 dX11_copy_41
set_option maxHeartbeats 1000000 in
set_option maxRecDepth 100000 in
theorem kX12_copy_68 (l : Launch) (dC : Nat → ClassId) (dI : Nat → Nat → Nat) (cI c2 : ClassId) (o0 : Nat) (o1 : Nat) (o2 : Nat) (o3 : Nat) (o4 : Nat) (o5 : Nat) (o6 : Nat) (o7 : Nat) (o8 : Nat) (o9 : Nat) (o10 : Nat) (o11 : Nat) (o12 : Nat) (o13 : Nat) (o14 : Nat) (o15 : Nat) (o16 : Nat) (o17 : Nat) (o18 : Nat) (sz : Nat) (a1 : Int32) (a2 : Int32) (a1_lo : 0 ≤ a1.toInt) (a1_hi : a1.toInt ≤ 1) (a2_lo : 0 ≤ a2.toInt) (a2_hi : a2.toInt ≤ 1) : Met l yX12_copy wsX12_copy ({ frames := 0, cells := 0, slots := 0, locals := 0 }) (va_Pc [.ref o0, .int a1, .int a2, .int 11] (wPre (dC, dI) [(cI, .int), (c2, .array .int)] [(o0, .inr (12, [.int 0, .ref o3, .int 0, .ref o4, .int 0, .ref o1, .ref o5, .int 0, .ref o6, .int 0, .ref o7, .int (-9), .int 0, .int 0, .ref o8, .ref o9, .ref o10, .ref o11, .ref o12, .int 0, .ref o13, .ref o14, .ref o15, .int 0, .ref o16, .ref o17, .ref o18, .int 0, .ref o2])), (o1, .inl (cI, 12, .inl (fun _ => (-9)))), (o2, .inl (cI, 12, .inl (fun _ => 0)))] sz)) (va_Qi (fun (r : Int32) (_ : Unit) => r = 1) (fun _ t => wPost (dC, dI) [(cI, .int), (c2, .array .int)] (va_A [(o0, .inr (12, [.int 0, .ref o3, .int 0, .ref o4, .int 0, .ref o1, .ref o5, .int 0, .ref o6, .int 0, .ref o7, .int (-9), .int 0, .int 0, .ref o8, .ref o9, .ref o10, .ref o11, .ref o12, .int 0, .ref o13, .ref o14, .ref o15, .int 0, .ref o16, .ref o17, .ref o18, .int 0, .ref o2])), (o1, .inl (cI, 12, .inl (fun _ => (-9)))), (o2, .inl (cI, 12, .inl (fun _ => 0)))] sz) [] t) (va_A [(o0, .inr (12, [.int 0, .ref o3, .int 0, .ref o4, .int 0, .ref o1, .ref o5, .int 0, .ref o6, .int 0, .ref o7, .int (-9), .int 0, .int 0, .ref o8, .ref o9, .ref o10, .ref o11, .ref o12, .int 0, .ref o13, .ref o14, .ref o15, .int 0, .ref o16, .ref o17, .ref o18, .int 0, .ref o2])), (o1, .inl (cI, 12, .inl (fun _ => (-9)))), (o2, .inl (cI, 12, .inl (fun _ => 0)))] sz)) 0 0 (va_A [(o0, .inr (12, [.int 0, .ref o3, .int 0, .ref o4, .int 0, .ref o1, .ref o5, .int 0, .ref o6, .int 0, .ref o7, .int (-9), .int 0, .int 0, .ref o8, .ref o9, .ref o10, .ref o11, .ref o12, .int 0, .ref o13, .ref o14, .ref o15, .int 0, .ref o16, .ref o17, .ref o18, .int 0, .ref o2])), (o1, .inl (cI, 12, .inl (fun _ => (-9)))), (o2, .inl (cI, 12, .inl (fun _ => 0)))] sz) := by
  refine Met.ofW (cc := cX12_copy) (maxL := 5) (ret := (some .int)) (by decide) rfl ?_
  intro p e s m args below meth c s₁ B hml hv
  obtain ⟨rfl, hsz, hP, hK, hD0, hN⟩ := hv
  have hx := B.exec
  have hb := B.bytes
  have hr := B.returns
  have hts := atoms_spec (ws := wsX12_copy) B.pre
  have hown : s.vm.findClass RX12 = some m.cls := findClass_of_methodNamed B.named
  have hlocks := B.notSynchronized
  subst hsz
  have hD := hD0.self (sz := s.heap.size)
  generalize hAe : va_A [(o0, .inr (12, [.int 0, .ref o3, .int 0, .ref o4, .int 0, .ref o1, .ref o5, .int 0, .ref o6, .int 0, .ref o7, .int (-9), .int 0, .int 0, .ref o8, .ref o9, .ref o10, .ref o11, .ref o12, .int 0, .ref o13, .ref o14, .ref o15, .int 0, .ref o16, .ref o17, .ref o18, .int 0, .ref o2])), (o1, .inl (cI, 12, .inl (fun _ => (-9)))), (o2, .inl (cI, 12, .inl (fun _ => 0)))] s.heap.size = A at hD ⊢
  have hA : ∀ q : Nat, s.heap.size ≤ q → A q := fun q h => by rw [← hAe]; exact Or.inr h
  have hS : va_S A s.heap s.heap [] := va_S.rf
  have hP : va_P (dC, dI) vwCl [(o0, .inr (12, [.int 0, .ref o3, .int 0, .ref o4, .int 0, .ref o1, .ref o5, .int 0, .ref o6, .int 0, .ref o7, .int (-9), .int 0, .int 0, .ref o8, .ref o9, .ref o10, .ref o11, .ref o12, .int 0, .ref o13, .ref o14, .ref o15, .int 0, .ref o16, .ref o17, .ref o18, .int 0, .ref o2])), (o1, .inl (cI, 12, .inl (fun _ => (-9)))), (o2, .inl (cI, 12, .inl (fun _ => 0)))] s.heap := hP
  have hl := lv_entry ([.ref o0, .int a1, .int a2, .int 11]) (n := 5) (Nat.le_of_ble_eq_true rfl)
  rw [lg_entry_eq]
  generalize (lg_sl ([.ref o0, .int a1, .int a2, .int 11]) ++ List.replicate (5 - (lg_sl ([.ref o0, .int a1, .int a2, .int 11])).length) Slot.unset).toArray = ls at hl ⊢
  have hl : lv_has ls 5 [(0, .ref o0), (1, .int a1), (2, .int a2), (3, .int 11)] := hl
  refine lv_iload_n hx hb dX12_copy_0 rfl (lv_at hl 1 rfl) ?_
  refine lv_if_lt (tgt := 36) hx hb dX12_copy_1 (by decide) (fun h9 => absurd h9 (ib_nlt (X := a1.toInt) (Y := 0) rfl (by decide +kernel) (by omega))) (fun _ => ?_)
  refine lv_iload_n hx hb dX12_copy_4 rfl (lv_at hl 2 rfl) ?_
  refine lv_if_lt (tgt := 36) hx hb dX12_copy_5 (by decide) (fun h9 => absurd h9 (ib_nlt (X := a2.toInt) (Y := 0) rfl (by decide +kernel) (by omega))) (fun _ => ?_)
  refine lv_iload_n hx hb dX12_copy_8 rfl (lv_at hl 3 rfl) ?_
  refine lv_if_lt (tgt := 36) hx hb dX12_copy_9 (by decide) (fun h9 => absurd h9 (by decide +kernel)) (fun _ => ?_)
  refine lv_iload_n hx hb dX12_copy_12 rfl (lv_at hl 1 rfl) ?_
  refine lv_i2l (v := a1.toInt64) hx hb dX12_copy_13 rfl ?_
  refine lv_iload_n hx hb dX12_copy_14 rfl (lv_at hl 3 rfl) ?_
  refine lv_i2l (v := 11) hx hb dX12_copy_15 (by decide +kernel) ?_
  refine lv_ladd hx hb dX12_copy_16 ?_
  refine lv_ldc2 (v := 12) hx hb hown (hts (.constantLong RX12 209 (12)) (by decide +kernel)) dX12_copy_17 ?_
  refine W.lcmp hx hb dX12_copy_20 ?_
  refine lv_if_gt (tgt := 36) hx hb dX12_copy_21 (by decide) (fun h9 => absurd h9 (lc_nsum (K := 11) (Y := 12) (by decide +kernel) (by decide +kernel) (by omega) (by omega) (by omega))) (fun _ => ?_)
  refine lv_iload_n hx hb dX12_copy_24 rfl (lv_at hl 2 rfl) ?_
  refine lv_i2l (v := a2.toInt64) hx hb dX12_copy_25 rfl ?_
  refine lv_iload_n hx hb dX12_copy_26 rfl (lv_at hl 3 rfl) ?_
  refine lv_i2l (v := 11) hx hb dX12_copy_27 (by decide +kernel) ?_
  refine lv_ladd hx hb dX12_copy_28 ?_
  refine lv_ldc2 (v := 12) hx hb hown (hts (.constantLong RX12 209 (12)) (by decide +kernel)) dX12_copy_29 ?_
  refine W.lcmp hx hb dX12_copy_32 ?_
  refine lv_if_le (tgt := 42) hx hb dX12_copy_33 (by decide) (fun _ => ?_) (fun h9 => absurd (i_le (lc_nsum (K := 11) (Y := 12) (by decide +kernel) (by decide +kernel) (by omega) (by omega) (by omega))) h9)
  refine lv_iconst (v := 0) hx hb dX12_copy_42 (by decide) ?_
  refine lv_istore (lv' := [(4, .int 0), (0, .ref o0), (1, .int a1), (2, .int a2), (3, .int 11)]) hx hb dX12_copy_43 hl (by decide) rfl (fun ls hl => ?_)
  refine lv_iload hx hb dX12_copy_45 (lv_at hl 0 rfl) ?_
  refine lv_iload_n hx hb dX12_copy_47 rfl (lv_at hl 4 rfl) ?_
  refine lv_icmp_ge (tgt := 73) hx hb dX12_copy_48 (by decide) (fun h9 => absurd h9 (by decide +kernel)) (fun _ => ?_)
  refine lv_aload_n hx hb dX12_copy_51 rfl (lv_at hl 1 rfl) ?_
  refine va_get (D := (dC, dI)) (ci := 12) (v := .ref o2) (C := RX12) (T := TX12) (N := 29) hx hb hts iw_X12_copy_X12 hown hK hP 0 rfl rfl 28 (by decide) (hts (.fieldLink RX12 67 "HolelessHouseModel" "moving" "[I") (by decide +kernel)) (fun _ h9 => h9) rfl dX12_copy_52 ?_
  refine lv_iload hx hb dX12_copy_55 (lv_at hl 0 rfl) ?_
  refine lv_aload_n hx hb dX12_copy_57 rfl (lv_at hl 1 rfl) ?_
  refine va_get (D := (dC, dI)) (ci := 12) (v := .ref o1) (C := RX12) (T := TX12) (N := 29) hx hb hts iw_X12_copy_X12 hown hK hP 0 rfl rfl 5 (by decide) (hts (.fieldLink RX12 16 "HolelessHouseModel" "rows" "[I") (by decide +kernel)) (fun _ h9 => h9) rfl dX12_copy_58 ?_
  refine lv_iload_n hx hb dX12_copy_61 rfl (lv_at hl 2 rfl) ?_
  refine lv_iload hx hb dX12_copy_62 (lv_at hl 0 rfl) ?_
  refine lv_iadd hx hb dX12_copy_64 ?_
  refine va_iald hx hb hK hP 1 0 rfl rfl (vp_in_iff.mpr (by rw [ti_add (C := 0) (by decide +kernel) (by omega) (by omega)]; exact ⟨by omega, by omega⟩)) dX12_copy_65 (tk_i (v := (-9)) rfl ?_)
  refine va_iast hx hb hK hP hD hS 2 0 rfl rfl (vin (by decide +kernel)) dX12_copy_66 (fun H locs hP hD hS => ?_)
  have hP : va_P (dC, dI) vwCl [(o0, .inr (12, [.int 0, .ref o3, .int 0, .ref o4, .int 0, .ref o1, .ref o5, .int 0, .ref o6, .int 0, .ref o7, .int (-9), .int 0, .int 0, .ref o8, .ref o9, .ref o10, .ref o11, .ref o12, .int 0, .ref o13, .ref o14, .ref o15, .int 0, .ref o16, .ref o17, .ref o18, .int 0, .ref o2])), (o1, .inl (cI, 12, .inl (fun _ => (-9)))), (o2, .inl (cI, 12, .inl (upd (fun _ => 0) (Int32.toNatClampNeg 0) (-9))))] H := hP
  have hD : va_D A [(o0, .inr (12, [.int 0, .ref o3, .int 0, .ref o4, .int 0, .ref o1, .ref o5, .int 0, .ref o6, .int 0, .ref o7, .int (-9), .int 0, .int 0, .ref o8, .ref o9, .ref o10, .ref o11, .ref o12, .int 0, .ref o13, .ref o14, .ref o15, .int 0, .ref o16, .ref o17, .ref o18, .int 0, .ref o2])), (o1, .inl (cI, 12, .inl (fun _ => (-9)))), (o2, .inl (cI, 12, .inl (upd (fun _ => 0) (Int32.toNatClampNeg 0) (-9))))] := hD
  refine lv_iinc (v := 1) (lv' := [(4, .int 1), (0, .ref o0), (1, .int a1), (2, .int a2), (3, .int 11)]) hx hb dX12_copy_67 hl (k := 0) rfl (by decide +kernel) (by decide) rfl (fun ls hl => ?_)
  refine lv_goto (tgt := 45) hx hb dX12_copy_70 (by decide) ?_
  refine lv_iload hx hb dX12_copy_45 (lv_at hl 0 rfl) ?_
  refine lv_iload_n hx hb dX12_copy_47 rfl (lv_at hl 4 rfl) ?_
  refine lv_icmp_ge (tgt := 73) hx hb dX12_copy_48 (by decide) (fun h9 => absurd h9 (by decide +kernel)) (fun _ => ?_)
  refine lv_aload_n hx hb dX12_copy_51 rfl (lv_at hl 1 rfl) ?_
  refine va_get (D := (dC, dI)) (ci := 12) (v := .ref o2) (C := RX12) (T := TX12) (N := 29) hx hb hts iw_X12_copy_X12 hown hK hP 0 rfl rfl 28 (by decide) (hts (.fieldLink RX12 67 "HolelessHouseModel" "moving" "[I") (by decide +kernel)) (fun _ h9 => h9) rfl dX12_copy_52 ?_
  refine lv_iload hx hb dX12_copy_55 (lv_at hl 0 rfl) ?_
  refine lv_aload_n hx hb dX12_copy_57 rfl (lv_at hl 1 rfl) ?_
  refine va_get (D := (dC, dI)) (ci := 12) (v := .ref o1) (C := RX12) (T := TX12) (N := 29) hx hb hts iw_X12_copy_X12 hown hK hP 0 rfl rfl 5 (by decide) (hts (.fieldLink RX12 16 "HolelessHouseModel" "rows" "[I") (by decide +kernel)) (fun _ h9 => h9) rfl dX12_copy_58 ?_
  refine lv_iload_n hx hb dX12_copy_61 rfl (lv_at hl 2 rfl) ?_
  refine lv_iload hx hb dX12_copy_62 (lv_at hl 0 rfl) ?_
  refine lv_iadd hx hb dX12_copy_64 ?_
  refine va_iald hx hb hK hP 1 0 rfl rfl (vp_in_iff.mpr (by rw [ti_add (C := 1) (by decide +kernel) (by omega) (by omega)]; exact ⟨by omega, by omega⟩)) dX12_copy_65 (tk_i (v := (-9)) rfl ?_)
  refine va_iast hx hb hK hP hD hS 2 0 rfl rfl (vin (by decide +kernel)) dX12_copy_66 (fun H locs hP hD hS => ?_)
  have hP : va_P (dC, dI) vwCl [(o0, .inr (12, [.int 0, .ref o3, .int 0, .ref o4, .int 0, .ref o1, .ref o5, .int 0, .ref o6, .int 0, .ref o7, .int (-9), .int 0, .int 0, .ref o8, .ref o9, .ref o10, .ref o11, .ref o12, .int 0, .ref o13, .ref o14, .ref o15, .int 0, .ref o16, .ref o17, .ref o18, .int 0, .ref o2])), (o1, .inl (cI, 12, .inl (fun _ => (-9)))), (o2, .inl (cI, 12, .inl (upd (upd (fun _ => 0) (Int32.toNatClampNeg 0) (-9)) (Int32.toNatClampNeg 1) (-9))))] H := hP
  have hD : va_D A [(o0, .inr (12, [.int 0, .ref o3, .int 0, .ref o4, .int 0, .ref o1, .ref o5, .int 0, .ref o6, .int 0, .ref o7, .int (-9), .int 0, .int 0, .ref o8, .ref o9, .ref o10, .ref o11, .ref o12, .int 0, .ref o13, .ref o14, .ref o15, .int 0, .ref o16, .ref o17, .ref o18, .int 0, .ref o2])), (o1, .inl (cI, 12, .inl (fun _ => (-9)))), (o2, .inl (cI, 12, .inl (upd (upd (fun _ => 0) (Int32.toNatClampNeg 0) (-9)) (Int32.toNatClampNeg 1) (-9))))] := hD
  refine lv_iinc (v := 2) (lv' := [(4, .int 2), (0, .ref o0), (1, .int a1), (2, .int a2), (3, .int 11)]) hx hb dX12_copy_67 hl (k := 0) rfl (by decide +kernel) (by decide) rfl (fun ls hl => ?_)
  refine lv_goto (tgt := 45) hx hb dX12_copy_70 (by decide) ?_
  refine lv_iload hx hb dX12_copy_45 (lv_at hl 0 rfl) ?_
  refine lv_iload_n hx hb dX12_copy_47 rfl (lv_at hl 4 rfl) ?_
  refine lv_icmp_ge (tgt := 73) hx hb dX12_copy_48 (by decide) (fun h9 => absurd h9 (by decide +kernel)) (fun _ => ?_)
  refine lv_aload_n hx hb dX12_copy_51 rfl (lv_at hl 1 rfl) ?_
  refine va_get (D := (dC, dI)) (ci := 12) (v := .ref o2) (C := RX12) (T := TX12) (N := 29) hx hb hts iw_X12_copy_X12 hown hK hP 0 rfl rfl 28 (by decide) (hts (.fieldLink RX12 67 "HolelessHouseModel" "moving" "[I") (by decide +kernel)) (fun _ h9 => h9) rfl dX12_copy_52 ?_
  refine lv_iload hx hb dX12_copy_55 (lv_at hl 0 rfl) ?_
  refine lv_aload_n hx hb dX12_copy_57 rfl (lv_at hl 1 rfl) ?_
  refine va_get (D := (dC, dI)) (ci := 12) (v := .ref o1) (C := RX12) (T := TX12) (N := 29) hx hb hts iw_X12_copy_X12 hown hK hP 0 rfl rfl 5 (by decide) (hts (.fieldLink RX12 16 "HolelessHouseModel" "rows" "[I") (by decide +kernel)) (fun _ h9 => h9) rfl dX12_copy_58 ?_
  refine lv_iload_n hx hb dX12_copy_61 rfl (lv_at hl 2 rfl) ?_
  refine lv_iload hx hb dX12_copy_62 (lv_at hl 0 rfl) ?_
  refine lv_iadd hx hb dX12_copy_64 ?_
  refine va_iald hx hb hK hP 1 0 rfl rfl (vp_in_iff.mpr (by rw [ti_add (C := 2) (by decide +kernel) (by omega) (by omega)]; exact ⟨by omega, by omega⟩)) dX12_copy_65 (tk_i (v := (-9)) rfl ?_)
  refine va_iast hx hb hK hP hD hS 2 0 rfl rfl (vin (by decide +kernel)) dX12_copy_66 (fun H locs hP hD hS => ?_)
  have hP : va_P (dC, dI) vwCl [(o0, .inr (12, [.int 0, .ref o3, .int 0, .ref o4, .int 0, .ref o1, .ref o5, .int 0, .ref o6, .int 0, .ref o7, .int (-9), .int 0, .int 0, .ref o8, .ref o9, .ref o10, .ref o11, .ref o12, .int 0, .ref o13, .ref o14, .ref o15, .int 0, .ref o16, .ref o17, .ref o18, .int 0, .ref o2])), (o1, .inl (cI, 12, .inl (fun _ => (-9)))), (o2, .inl (cI, 12, .inl (upd (upd (upd (fun _ => 0) (Int32.toNatClampNeg 0) (-9)) (Int32.toNatClampNeg 1) (-9)) (Int32.toNatClampNeg 2) (-9))))] H := hP
  have hD : va_D A [(o0, .inr (12, [.int 0, .ref o3, .int 0, .ref o4, .int 0, .ref o1, .ref o5, .int 0, .ref o6, .int 0, .ref o7, .int (-9), .int 0, .int 0, .ref o8, .ref o9, .ref o10, .ref o11, .ref o12, .int 0, .ref o13, .ref o14, .ref o15, .int 0, .ref o16, .ref o17, .ref o18, .int 0, .ref o2])), (o1, .inl (cI, 12, .inl (fun _ => (-9)))), (o2, .inl (cI, 12, .inl (upd (upd (upd (fun _ => 0) (Int32.toNatClampNeg 0) (-9)) (Int32.toNatClampNeg 1) (-9)) (Int32.toNatClampNeg 2) (-9))))] := hD
  refine lv_iinc (v := 3) (lv' := [(4, .int 3), (0, .ref o0), (1, .int a1), (2, .int a2), (3, .int 11)]) hx hb dX12_copy_67 hl (k := 0) rfl (by decide +kernel) (by decide) rfl (fun ls hl => ?_)
  refine lv_goto (tgt := 45) hx hb dX12_copy_70 (by decide) ?_
  refine lv_iload hx hb dX12_copy_45 (lv_at hl 0 rfl) ?_
  refine lv_iload_n hx hb dX12_copy_47 rfl (lv_at hl 4 rfl) ?_
  refine lv_icmp_ge (tgt := 73) hx hb dX12_copy_48 (by decide) (fun h9 => absurd h9 (by decide +kernel)) (fun _ => ?_)
  refine lv_aload_n hx hb dX12_copy_51 rfl (lv_at hl 1 rfl) ?_
  refine va_get (D := (dC, dI)) (ci := 12) (v := .ref o2) (C := RX12) (T := TX12) (N := 29) hx hb hts iw_X12_copy_X12 hown hK hP 0 rfl rfl 28 (by decide) (hts (.fieldLink RX12 67 "HolelessHouseModel" "moving" "[I") (by decide +kernel)) (fun _ h9 => h9) rfl dX12_copy_52 ?_
  refine lv_iload hx hb dX12_copy_55 (lv_at hl 0 rfl) ?_
  refine lv_aload_n hx hb dX12_copy_57 rfl (lv_at hl 1 rfl) ?_
  refine va_get (D := (dC, dI)) (ci := 12) (v := .ref o1) (C := RX12) (T := TX12) (N := 29) hx hb hts iw_X12_copy_X12 hown hK hP 0 rfl rfl 5 (by decide) (hts (.fieldLink RX12 16 "HolelessHouseModel" "rows" "[I") (by decide +kernel)) (fun _ h9 => h9) rfl dX12_copy_58 ?_
  refine lv_iload_n hx hb dX12_copy_61 rfl (lv_at hl 2 rfl) ?_
  refine lv_iload hx hb dX12_copy_62 (lv_at hl 0 rfl) ?_
  refine lv_iadd hx hb dX12_copy_64 ?_
  refine va_iald hx hb hK hP 1 0 rfl rfl (vp_in_iff.mpr (by rw [ti_add (C := 3) (by decide +kernel) (by omega) (by omega)]; exact ⟨by omega, by omega⟩)) dX12_copy_65 (tk_i (v := (-9)) rfl ?_)
  refine va_iast hx hb hK hP hD hS 2 0 rfl rfl (vin (by decide +kernel)) dX12_copy_66 (fun H locs hP hD hS => ?_)
  have hP : va_P (dC, dI) vwCl [(o0, .inr (12, [.int 0, .ref o3, .int 0, .ref o4, .int 0, .ref o1, .ref o5, .int 0, .ref o6, .int 0, .ref o7, .int (-9), .int 0, .int 0, .ref o8, .ref o9, .ref o10, .ref o11, .ref o12, .int 0, .ref o13, .ref o14, .ref o15, .int 0, .ref o16, .ref o17, .ref o18, .int 0, .ref o2])), (o1, .inl (cI, 12, .inl (fun _ => (-9)))), (o2, .inl (cI, 12, .inl (upd (upd (upd (upd (fun _ => 0) (Int32.toNatClampNeg 0) (-9)) (Int32.toNatClampNeg 1) (-9)) (Int32.toNatClampNeg 2) (-9)) (Int32.toNatClampNeg 3) (-9))))] H := hP
  have hD : va_D A [(o0, .inr (12, [.int 0, .ref o3, .int 0, .ref o4, .int 0, .ref o1, .ref o5, .int 0, .ref o6, .int 0, .ref o7, .int (-9), .int 0, .int 0, .ref o8, .ref o9, .ref o10, .ref o11, .ref o12, .int 0, .ref o13, .ref o14, .ref o15, .int 0, .ref o16, .ref o17, .ref o18, .int 0, .ref o2])), (o1, .inl (cI, 12, .inl (fun _ => (-9)))), (o2, .inl (cI, 12, .inl (upd (upd (upd (upd (fun _ => 0) (Int32.toNatClampNeg 0) (-9)) (Int32.toNatClampNeg 1) (-9)) (Int32.toNatClampNeg 2) (-9)) (Int32.toNatClampNeg 3) (-9))))] := hD
  refine lv_iinc (v := 4) (lv' := [(4, .int 4), (0, .ref o0), (1, .int a1), (2, .int a2), (3, .int 11)]) hx hb dX12_copy_67 hl (k := 0) rfl (by decide +kernel) (by decide) rfl (fun ls hl => ?_)
  refine lv_goto (tgt := 45) hx hb dX12_copy_70 (by decide) ?_
  refine lv_iload hx hb dX12_copy_45 (lv_at hl 0 rfl) ?_
  refine lv_iload_n hx hb dX12_copy_47 rfl (lv_at hl 4 rfl) ?_
  refine lv_icmp_ge (tgt := 73) hx hb dX12_copy_48 (by decide) (fun h9 => absurd h9 (by decide +kernel)) (fun _ => ?_)
  refine lv_aload_n hx hb dX12_copy_51 rfl (lv_at hl 1 rfl) ?_
  refine va_get (D := (dC, dI)) (ci := 12) (v := .ref o2) (C := RX12) (T := TX12) (N := 29) hx hb hts iw_X12_copy_X12 hown hK hP 0 rfl rfl 28 (by decide) (hts (.fieldLink RX12 67 "HolelessHouseModel" "moving" "[I") (by decide +kernel)) (fun _ h9 => h9) rfl dX12_copy_52 ?_
  refine lv_iload hx hb dX12_copy_55 (lv_at hl 0 rfl) ?_
  refine lv_aload_n hx hb dX12_copy_57 rfl (lv_at hl 1 rfl) ?_
  refine va_get (D := (dC, dI)) (ci := 12) (v := .ref o1) (C := RX12) (T := TX12) (N := 29) hx hb hts iw_X12_copy_X12 hown hK hP 0 rfl rfl 5 (by decide) (hts (.fieldLink RX12 16 "HolelessHouseModel" "rows" "[I") (by decide +kernel)) (fun _ h9 => h9) rfl dX12_copy_58 ?_
  refine lv_iload_n hx hb dX12_copy_61 rfl (lv_at hl 2 rfl) ?_
  refine lv_iload hx hb dX12_copy_62 (lv_at hl 0 rfl) ?_
  refine lv_iadd hx hb dX12_copy_64 ?_
  refine va_iald hx hb hK hP 1 0 rfl rfl (vp_in_iff.mpr (by rw [ti_add (C := 4) (by decide +kernel) (by omega) (by omega)]; exact ⟨by omega, by omega⟩)) dX12_copy_65 (tk_i (v := (-9)) rfl ?_)
  refine va_iast hx hb hK hP hD hS 2 0 rfl rfl (vin (by decide +kernel)) dX12_copy_66 (fun H locs hP hD hS => ?_)
  have hP : va_P (dC, dI) vwCl [(o0, .inr (12, [.int 0, .ref o3, .int 0, .ref o4, .int 0, .ref o1, .ref o5, .int 0, .ref o6, .int 0, .ref o7, .int (-9), .int 0, .int 0, .ref o8, .ref o9, .ref o10, .ref o11, .ref o12, .int 0, .ref o13, .ref o14, .ref o15, .int 0, .ref o16, .ref o17, .ref o18, .int 0, .ref o2])), (o1, .inl (cI, 12, .inl (fun _ => (-9)))), (o2, .inl (cI, 12, .inl (upd (upd (upd (upd (upd (fun _ => 0) (Int32.toNatClampNeg 0) (-9)) (Int32.toNatClampNeg 1) (-9)) (Int32.toNatClampNeg 2) (-9)) (Int32.toNatClampNeg 3) (-9)) (Int32.toNatClampNeg 4) (-9))))] H := hP
  have hD : va_D A [(o0, .inr (12, [.int 0, .ref o3, .int 0, .ref o4, .int 0, .ref o1, .ref o5, .int 0, .ref o6, .int 0, .ref o7, .int (-9), .int 0, .int 0, .ref o8, .ref o9, .ref o10, .ref o11, .ref o12, .int 0, .ref o13, .ref o14, .ref o15, .int 0, .ref o16, .ref o17, .ref o18, .int 0, .ref o2])), (o1, .inl (cI, 12, .inl (fun _ => (-9)))), (o2, .inl (cI, 12, .inl (upd (upd (upd (upd (upd (fun _ => 0) (Int32.toNatClampNeg 0) (-9)) (Int32.toNatClampNeg 1) (-9)) (Int32.toNatClampNeg 2) (-9)) (Int32.toNatClampNeg 3) (-9)) (Int32.toNatClampNeg 4) (-9))))] := hD
  refine lv_iinc (v := 5) (lv' := [(4, .int 5), (0, .ref o0), (1, .int a1), (2, .int a2), (3, .int 11)]) hx hb dX12_copy_67 hl (k := 0) rfl (by decide +kernel) (by decide) rfl (fun ls hl => ?_)
  refine lv_goto (tgt := 45) hx hb dX12_copy_70 (by decide) ?_
  refine lv_iload hx hb dX12_copy_45 (lv_at hl 0 rfl) ?_
  refine lv_iload_n hx hb dX12_copy_47 rfl (lv_at hl 4 rfl) ?_
  refine lv_icmp_ge (tgt := 73) hx hb dX12_copy_48 (by decide) (fun h9 => absurd h9 (by decide +kernel)) (fun _ => ?_)
  refine lv_aload_n hx hb dX12_copy_51 rfl (lv_at hl 1 rfl) ?_
  refine va_get (D := (dC, dI)) (ci := 12) (v := .ref o2) (C := RX12) (T := TX12) (N := 29) hx hb hts iw_X12_copy_X12 hown hK hP 0 rfl rfl 28 (by decide) (hts (.fieldLink RX12 67 "HolelessHouseModel" "moving" "[I") (by decide +kernel)) (fun _ h9 => h9) rfl dX12_copy_52 ?_
  refine lv_iload hx hb dX12_copy_55 (lv_at hl 0 rfl) ?_
  refine lv_aload_n hx hb dX12_copy_57 rfl (lv_at hl 1 rfl) ?_
  refine va_get (D := (dC, dI)) (ci := 12) (v := .ref o1) (C := RX12) (T := TX12) (N := 29) hx hb hts iw_X12_copy_X12 hown hK hP 0 rfl rfl 5 (by decide) (hts (.fieldLink RX12 16 "HolelessHouseModel" "rows" "[I") (by decide +kernel)) (fun _ h9 => h9) rfl dX12_copy_58 ?_
  refine lv_iload_n hx hb dX12_copy_61 rfl (lv_at hl 2 rfl) ?_
  refine lv_iload hx hb dX12_copy_62 (lv_at hl 0 rfl) ?_
  refine lv_iadd hx hb dX12_copy_64 ?_
  refine va_iald hx hb hK hP 1 0 rfl rfl (vp_in_iff.mpr (by rw [ti_add (C := 5) (by decide +kernel) (by omega) (by omega)]; exact ⟨by omega, by omega⟩)) dX12_copy_65 (tk_i (v := (-9)) rfl ?_)
  refine va_iast hx hb hK hP hD hS 2 0 rfl rfl (vin (by decide +kernel)) dX12_copy_66 (fun H locs hP hD hS => ?_)
  have hP : va_P (dC, dI) vwCl [(o0, .inr (12, [.int 0, .ref o3, .int 0, .ref o4, .int 0, .ref o1, .ref o5, .int 0, .ref o6, .int 0, .ref o7, .int (-9), .int 0, .int 0, .ref o8, .ref o9, .ref o10, .ref o11, .ref o12, .int 0, .ref o13, .ref o14, .ref o15, .int 0, .ref o16, .ref o17, .ref o18, .int 0, .ref o2])), (o1, .inl (cI, 12, .inl (fun _ => (-9)))), (o2, .inl (cI, 12, .inl (upd (upd (upd (upd (upd (upd (fun _ => 0) (Int32.toNatClampNeg 0) (-9)) (Int32.toNatClampNeg 1) (-9)) (Int32.toNatClampNeg 2) (-9)) (Int32.toNatClampNeg 3) (-9)) (Int32.toNatClampNeg 4) (-9)) (Int32.toNatClampNeg 5) (-9))))] H := hP
  have hD : va_D A [(o0, .inr (12, [.int 0, .ref o3, .int 0, .ref o4, .int 0, .ref o1, .ref o5, .int 0, .ref o6, .int 0, .ref o7, .int (-9), .int 0, .int 0, .ref o8, .ref o9, .ref o10, .ref o11, .ref o12, .int 0, .ref o13, .ref o14, .ref o15, .int 0, .ref o16, .ref o17, .ref o18, .int 0, .ref o2])), (o1, .inl (cI, 12, .inl (fun _ => (-9)))), (o2, .inl (cI, 12, .inl (upd (upd (upd (upd (upd (upd (fun _ => 0) (Int32.toNatClampNeg 0) (-9)) (Int32.toNatClampNeg 1) (-9)) (Int32.toNatClampNeg 2) (-9)) (Int32.toNatClampNeg 3) (-9)) (Int32.toNatClampNeg 4) (-9)) (Int32.toNatClampNeg 5) (-9))))] := hD
  refine lv_iinc (v := 6) (lv' := [(4, .int 6), (0, .ref o0), (1, .int a1), (2, .int a2), (3, .int 11)]) hx hb dX12_copy_67 hl (k := 0) rfl (by decide +kernel) (by decide) rfl (fun ls hl => ?_)
  refine lv_goto (tgt := 45) hx hb dX12_copy_70 (by decide) ?_
  refine lv_iload hx hb dX12_copy_45 (lv_at hl 0 rfl) ?_
  refine lv_iload_n hx hb dX12_copy_47 rfl (lv_at hl 4 rfl) ?_
  refine lv_icmp_ge (tgt := 73) hx hb dX12_copy_48 (by decide) (fun h9 => absurd h9 (by decide +kernel)) (fun _ => ?_)
  refine lv_aload_n hx hb dX12_copy_51 rfl (lv_at hl 1 rfl) ?_
  refine va_get (D := (dC, dI)) (ci := 12) (v := .ref o2) (C := RX12) (T := TX12) (N := 29) hx hb hts iw_X12_copy_X12 hown hK hP 0 rfl rfl 28 (by decide) (hts (.fieldLink RX12 67 "HolelessHouseModel" "moving" "[I") (by decide +kernel)) (fun _ h9 => h9) rfl dX12_copy_52 ?_
  refine lv_iload hx hb dX12_copy_55 (lv_at hl 0 rfl) ?_
  refine lv_aload_n hx hb dX12_copy_57 rfl (lv_at hl 1 rfl) ?_
  refine va_get (D := (dC, dI)) (ci := 12) (v := .ref o1) (C := RX12) (T := TX12) (N := 29) hx hb hts iw_X12_copy_X12 hown hK hP 0 rfl rfl 5 (by decide) (hts (.fieldLink RX12 16 "HolelessHouseModel" "rows" "[I") (by decide +kernel)) (fun _ h9 => h9) rfl dX12_copy_58 ?_
  refine lv_iload_n hx hb dX12_copy_61 rfl (lv_at hl 2 rfl) ?_
  refine lv_iload hx hb dX12_copy_62 (lv_at hl 0 rfl) ?_
  refine lv_iadd hx hb dX12_copy_64 ?_
  refine va_iald hx hb hK hP 1 0 rfl rfl (vp_in_iff.mpr (by rw [ti_add (C := 6) (by decide +kernel) (by omega) (by omega)]; exact ⟨by omega, by omega⟩)) dX12_copy_65 (tk_i (v := (-9)) rfl ?_)
  refine va_iast hx hb hK hP hD hS 2 0 rfl rfl (vin (by decide +kernel)) dX12_copy_66 (fun H locs hP hD hS => ?_)
  have hP : va_P (dC, dI) vwCl [(o0, .inr (12, [.int 0, .ref o3, .int 0, .ref o4, .int 0, .ref o1, .ref o5, .int 0, .ref o6, .int 0, .ref o7, .int (-9), .int 0, .int 0, .ref o8, .ref o9, .ref o10, .ref o11, .ref o12, .int 0, .ref o13, .ref o14, .ref o15, .int 0, .ref o16, .ref o17, .ref o18, .int 0, .ref o2])), (o1, .inl (cI, 12, .inl (fun _ => (-9)))), (o2, .inl (cI, 12, .inl (upd (upd (upd (upd (upd (upd (upd (fun _ => 0) (Int32.toNatClampNeg 0) (-9)) (Int32.toNatClampNeg 1) (-9)) (Int32.toNatClampNeg 2) (-9)) (Int32.toNatClampNeg 3) (-9)) (Int32.toNatClampNeg 4) (-9)) (Int32.toNatClampNeg 5) (-9)) (Int32.toNatClampNeg 6) (-9))))] H := hP
  have hD : va_D A [(o0, .inr (12, [.int 0, .ref o3, .int 0, .ref o4, .int 0, .ref o1, .ref o5, .int 0, .ref o6, .int 0, .ref o7, .int (-9), .int 0, .int 0, .ref o8, .ref o9, .ref o10, .ref o11, .ref o12, .int 0, .ref o13, .ref o14, .ref o15, .int 0, .ref o16, .ref o17, .ref o18, .int 0, .ref o2])), (o1, .inl (cI, 12, .inl (fun _ => (-9)))), (o2, .inl (cI, 12, .inl (upd (upd (upd (upd (upd (upd (upd (fun _ => 0) (Int32.toNatClampNeg 0) (-9)) (Int32.toNatClampNeg 1) (-9)) (Int32.toNatClampNeg 2) (-9)) (Int32.toNatClampNeg 3) (-9)) (Int32.toNatClampNeg 4) (-9)) (Int32.toNatClampNeg 5) (-9)) (Int32.toNatClampNeg 6) (-9))))] := hD
  refine lv_iinc (v := 7) (lv' := [(4, .int 7), (0, .ref o0), (1, .int a1), (2, .int a2), (3, .int 11)]) hx hb dX12_copy_67 hl (k := 0) rfl (by decide +kernel) (by decide) rfl (fun ls hl => ?_)
  refine lv_goto (tgt := 45) hx hb dX12_copy_70 (by decide) ?_
  refine lv_iload hx hb dX12_copy_45 (lv_at hl 0 rfl) ?_
  refine lv_iload_n hx hb dX12_copy_47 rfl (lv_at hl 4 rfl) ?_
  refine lv_icmp_ge (tgt := 73) hx hb dX12_copy_48 (by decide) (fun h9 => absurd h9 (by decide +kernel)) (fun _ => ?_)
  refine lv_aload_n hx hb dX12_copy_51 rfl (lv_at hl 1 rfl) ?_
  refine va_get (D := (dC, dI)) (ci := 12) (v := .ref o2) (C := RX12) (T := TX12) (N := 29) hx hb hts iw_X12_copy_X12 hown hK hP 0 rfl rfl 28 (by decide) (hts (.fieldLink RX12 67 "HolelessHouseModel" "moving" "[I") (by decide +kernel)) (fun _ h9 => h9) rfl dX12_copy_52 ?_
  refine lv_iload hx hb dX12_copy_55 (lv_at hl 0 rfl) ?_
  refine lv_aload_n hx hb dX12_copy_57 rfl (lv_at hl 1 rfl) ?_
  refine va_get (D := (dC, dI)) (ci := 12) (v := .ref o1) (C := RX12) (T := TX12) (N := 29) hx hb hts iw_X12_copy_X12 hown hK hP 0 rfl rfl 5 (by decide) (hts (.fieldLink RX12 16 "HolelessHouseModel" "rows" "[I") (by decide +kernel)) (fun _ h9 => h9) rfl dX12_copy_58 ?_
  refine lv_iload_n hx hb dX12_copy_61 rfl (lv_at hl 2 rfl) ?_
  refine lv_iload hx hb dX12_copy_62 (lv_at hl 0 rfl) ?_
  refine lv_iadd hx hb dX12_copy_64 ?_
  refine va_iald hx hb hK hP 1 0 rfl rfl (vp_in_iff.mpr (by rw [ti_add (C := 7) (by decide +kernel) (by omega) (by omega)]; exact ⟨by omega, by omega⟩)) dX12_copy_65 (tk_i (v := (-9)) rfl ?_)
  refine va_iast hx hb hK hP hD hS 2 0 rfl rfl (vin (by decide +kernel)) dX12_copy_66 (fun H locs hP hD hS => ?_)
  have hP : va_P (dC, dI) vwCl [(o0, .inr (12, [.int 0, .ref o3, .int 0, .ref o4, .int 0, .ref o1, .ref o5, .int 0, .ref o6, .int 0, .ref o7, .int (-9), .int 0, .int 0, .ref o8, .ref o9, .ref o10, .ref o11, .ref o12, .int 0, .ref o13, .ref o14, .ref o15, .int 0, .ref o16, .ref o17, .ref o18, .int 0, .ref o2])), (o1, .inl (cI, 12, .inl (fun _ => (-9)))), (o2, .inl (cI, 12, .inl (upd (upd (upd (upd (upd (upd (upd (upd (fun _ => 0) (Int32.toNatClampNeg 0) (-9)) (Int32.toNatClampNeg 1) (-9)) (Int32.toNatClampNeg 2) (-9)) (Int32.toNatClampNeg 3) (-9)) (Int32.toNatClampNeg 4) (-9)) (Int32.toNatClampNeg 5) (-9)) (Int32.toNatClampNeg 6) (-9)) (Int32.toNatClampNeg 7) (-9))))] H := hP
  have hD : va_D A [(o0, .inr (12, [.int 0, .ref o3, .int 0, .ref o4, .int 0, .ref o1, .ref o5, .int 0, .ref o6, .int 0, .ref o7, .int (-9), .int 0, .int 0, .ref o8, .ref o9, .ref o10, .ref o11, .ref o12, .int 0, .ref o13, .ref o14, .ref o15, .int 0, .ref o16, .ref o17, .ref o18, .int 0, .ref o2])), (o1, .inl (cI, 12, .inl (fun _ => (-9)))), (o2, .inl (cI, 12, .inl (upd (upd (upd (upd (upd (upd (upd (upd (fun _ => 0) (Int32.toNatClampNeg 0) (-9)) (Int32.toNatClampNeg 1) (-9)) (Int32.toNatClampNeg 2) (-9)) (Int32.toNatClampNeg 3) (-9)) (Int32.toNatClampNeg 4) (-9)) (Int32.toNatClampNeg 5) (-9)) (Int32.toNatClampNeg 6) (-9)) (Int32.toNatClampNeg 7) (-9))))] := hD
  refine lv_iinc (v := 8) (lv' := [(4, .int 8), (0, .ref o0), (1, .int a1), (2, .int a2), (3, .int 11)]) hx hb dX12_copy_67 hl (k := 0) rfl (by decide +kernel) (by decide) rfl (fun ls hl => ?_)
  refine lv_goto (tgt := 45) hx hb dX12_copy_70 (by decide) ?_
  refine lv_iload hx hb dX12_copy_45 (lv_at hl 0 rfl) ?_
  refine lv_iload_n hx hb dX12_copy_47 rfl (lv_at hl 4 rfl) ?_
  refine lv_icmp_ge (tgt := 73) hx hb dX12_copy_48 (by decide) (fun h9 => absurd h9 (by decide +kernel)) (fun _ => ?_)
  refine lv_aload_n hx hb dX12_copy_51 rfl (lv_at hl 1 rfl) ?_
  refine va_get (D := (dC, dI)) (ci := 12) (v := .ref o2) (C := RX12) (T := TX12) (N := 29) hx hb hts iw_X12_copy_X12 hown hK hP 0 rfl rfl 28 (by decide) (hts (.fieldLink RX12 67 "HolelessHouseModel" "moving" "[I") (by decide +kernel)) (fun _ h9 => h9) rfl dX12_copy_52 ?_
  refine lv_iload hx hb dX12_copy_55 (lv_at hl 0 rfl) ?_
  refine lv_aload_n hx hb dX12_copy_57 rfl (lv_at hl 1 rfl) ?_
  refine va_get (D := (dC, dI)) (ci := 12) (v := .ref o1) (C := RX12) (T := TX12) (N := 29) hx hb hts iw_X12_copy_X12 hown hK hP 0 rfl rfl 5 (by decide) (hts (.fieldLink RX12 16 "HolelessHouseModel" "rows" "[I") (by decide +kernel)) (fun _ h9 => h9) rfl dX12_copy_58 ?_
  refine lv_iload_n hx hb dX12_copy_61 rfl (lv_at hl 2 rfl) ?_
  refine lv_iload hx hb dX12_copy_62 (lv_at hl 0 rfl) ?_
  refine lv_iadd hx hb dX12_copy_64 ?_
  refine va_iald hx hb hK hP 1 0 rfl rfl (vp_in_iff.mpr (by rw [ti_add (C := 8) (by decide +kernel) (by omega) (by omega)]; exact ⟨by omega, by omega⟩)) dX12_copy_65 (tk_i (v := (-9)) rfl ?_)
  refine va_iast hx hb hK hP hD hS 2 0 rfl rfl (vin (by decide +kernel)) dX12_copy_66 (fun H locs hP hD hS => ?_)
  have hP : va_P (dC, dI) vwCl [(o0, .inr (12, [.int 0, .ref o3, .int 0, .ref o4, .int 0, .ref o1, .ref o5, .int 0, .ref o6, .int 0, .ref o7, .int (-9), .int 0, .int 0, .ref o8, .ref o9, .ref o10, .ref o11, .ref o12, .int 0, .ref o13, .ref o14, .ref o15, .int 0, .ref o16, .ref o17, .ref o18, .int 0, .ref o2])), (o1, .inl (cI, 12, .inl (fun _ => (-9)))), (o2, .inl (cI, 12, .inl (upd (upd (upd (upd (upd (upd (upd (upd (upd (fun _ => 0) (Int32.toNatClampNeg 0) (-9)) (Int32.toNatClampNeg 1) (-9)) (Int32.toNatClampNeg 2) (-9)) (Int32.toNatClampNeg 3) (-9)) (Int32.toNatClampNeg 4) (-9)) (Int32.toNatClampNeg 5) (-9)) (Int32.toNatClampNeg 6) (-9)) (Int32.toNatClampNeg 7) (-9)) (Int32.toNatClampNeg 8) (-9))))] H := hP
  have hD : va_D A [(o0, .inr (12, [.int 0, .ref o3, .int 0, .ref o4, .int 0, .ref o1, .ref o5, .int 0, .ref o6, .int 0, .ref o7, .int (-9), .int 0, .int 0, .ref o8, .ref o9, .ref o10, .ref o11, .ref o12, .int 0, .ref o13, .ref o14, .ref o15, .int 0, .ref o16, .ref o17, .ref o18, .int 0, .ref o2])), (o1, .inl (cI, 12, .inl (fun _ => (-9)))), (o2, .inl (cI, 12, .inl (upd (upd (upd (upd (upd (upd (upd (upd (upd (fun _ => 0) (Int32.toNatClampNeg 0) (-9)) (Int32.toNatClampNeg 1) (-9)) (Int32.toNatClampNeg 2) (-9)) (Int32.toNatClampNeg 3) (-9)) (Int32.toNatClampNeg 4) (-9)) (Int32.toNatClampNeg 5) (-9)) (Int32.toNatClampNeg 6) (-9)) (Int32.toNatClampNeg 7) (-9)) (Int32.toNatClampNeg 8) (-9))))] := hD
  refine lv_iinc (v := 9) (lv' := [(4, .int 9), (0, .ref o0), (1, .int a1), (2, .int a2), (3, .int 11)]) hx hb dX12_copy_67 hl (k := 0) rfl (by decide +kernel) (by decide) rfl (fun ls hl => ?_)
  refine lv_goto (tgt := 45) hx hb dX12_copy_70 (by decide) ?_
  refine lv_iload hx hb dX12_copy_45 (lv_at hl 0 rfl) ?_
  refine lv_iload_n hx hb dX12_copy_47 rfl (lv_at hl 4 rfl) ?_
  refine lv_icmp_ge (tgt := 73) hx hb dX12_copy_48 (by decide) (fun h9 => absurd h9 (by decide +kernel)) (fun _ => ?_)
  refine lv_aload_n hx hb dX12_copy_51 rfl (lv_at hl 1 rfl) ?_
  refine va_get (D := (dC, dI)) (ci := 12) (v := .ref o2) (C := RX12) (T := TX12) (N := 29) hx hb hts iw_X12_copy_X12 hown hK hP 0 rfl rfl 28 (by decide) (hts (.fieldLink RX12 67 "HolelessHouseModel" "moving" "[I") (by decide +kernel)) (fun _ h9 => h9) rfl dX12_copy_52 ?_
  refine lv_iload hx hb dX12_copy_55 (lv_at hl 0 rfl) ?_
  refine lv_aload_n hx hb dX12_copy_57 rfl (lv_at hl 1 rfl) ?_
  refine va_get (D := (dC, dI)) (ci := 12) (v := .ref o1) (C := RX12) (T := TX12) (N := 29) hx hb hts iw_X12_copy_X12 hown hK hP 0 rfl rfl 5 (by decide) (hts (.fieldLink RX12 16 "HolelessHouseModel" "rows" "[I") (by decide +kernel)) (fun _ h9 => h9) rfl dX12_copy_58 ?_
  refine lv_iload_n hx hb dX12_copy_61 rfl (lv_at hl 2 rfl) ?_
  refine lv_iload hx hb dX12_copy_62 (lv_at hl 0 rfl) ?_
  refine lv_iadd hx hb dX12_copy_64 ?_
  refine va_iald hx hb hK hP 1 0 rfl rfl (vp_in_iff.mpr (by rw [ti_add (C := 9) (by decide +kernel) (by omega) (by omega)]; exact ⟨by omega, by omega⟩)) dX12_copy_65 (tk_i (v := (-9)) rfl ?_)
  refine va_iast hx hb hK hP hD hS 2 0 rfl rfl (vin (by decide +kernel)) dX12_copy_66 (fun H locs hP hD hS => ?_)
  have hP : va_P (dC, dI) vwCl [(o0, .inr (12, [.int 0, .ref o3, .int 0, .ref o4, .int 0, .ref o1, .ref o5, .int 0, .ref o6, .int 0, .ref o7, .int (-9), .int 0, .int 0, .ref o8, .ref o9, .ref o10, .ref o11, .ref o12, .int 0, .ref o13, .ref o14, .ref o15, .int 0, .ref o16, .ref o17, .ref o18, .int 0, .ref o2])), (o1, .inl (cI, 12, .inl (fun _ => (-9)))), (o2, .inl (cI, 12, .inl (upd (upd (upd (upd (upd (upd (upd (upd (upd (upd (fun _ => 0) (Int32.toNatClampNeg 0) (-9)) (Int32.toNatClampNeg 1) (-9)) (Int32.toNatClampNeg 2) (-9)) (Int32.toNatClampNeg 3) (-9)) (Int32.toNatClampNeg 4) (-9)) (Int32.toNatClampNeg 5) (-9)) (Int32.toNatClampNeg 6) (-9)) (Int32.toNatClampNeg 7) (-9)) (Int32.toNatClampNeg 8) (-9)) (Int32.toNatClampNeg 9) (-9))))] H := hP
  have hD : va_D A [(o0, .inr (12, [.int 0, .ref o3, .int 0, .ref o4, .int 0, .ref o1, .ref o5, .int 0, .ref o6, .int 0, .ref o7, .int (-9), .int 0, .int 0, .ref o8, .ref o9, .ref o10, .ref o11, .ref o12, .int 0, .ref o13, .ref o14, .ref o15, .int 0, .ref o16, .ref o17, .ref o18, .int 0, .ref o2])), (o1, .inl (cI, 12, .inl (fun _ => (-9)))), (o2, .inl (cI, 12, .inl (upd (upd (upd (upd (upd (upd (upd (upd (upd (upd (fun _ => 0) (Int32.toNatClampNeg 0) (-9)) (Int32.toNatClampNeg 1) (-9)) (Int32.toNatClampNeg 2) (-9)) (Int32.toNatClampNeg 3) (-9)) (Int32.toNatClampNeg 4) (-9)) (Int32.toNatClampNeg 5) (-9)) (Int32.toNatClampNeg 6) (-9)) (Int32.toNatClampNeg 7) (-9)) (Int32.toNatClampNeg 8) (-9)) (Int32.toNatClampNeg 9) (-9))))] := hD
  refine lv_iinc (v := 10) (lv' := [(4, .int 10), (0, .ref o0), (1, .int a1), (2, .int a2), (3, .int 11)]) hx hb dX12_copy_67 hl (k := 0) rfl (by decide +kernel) (by decide) rfl (fun ls hl => ?_)
  refine lv_goto (tgt := 45) hx hb dX12_copy_70 (by decide) ?_
  refine lv_iload hx hb dX12_copy_45 (lv_at hl 0 rfl) ?_
  refine lv_iload_n hx hb dX12_copy_47 rfl (lv_at hl 4 rfl) ?_
  refine lv_icmp_ge (tgt := 73) hx hb dX12_copy_48 (by decide) (fun h9 => absurd h9 (by decide +kernel)) (fun _ => ?_)
  refine lv_aload_n hx hb dX12_copy_51 rfl (lv_at hl 1 rfl) ?_
  refine va_get (D := (dC, dI)) (ci := 12) (v := .ref o2) (C := RX12) (T := TX12) (N := 29) hx hb hts iw_X12_copy_X12 hown hK hP 0 rfl rfl 28 (by decide) (hts (.fieldLink RX12 67 "HolelessHouseModel" "moving" "[I") (by decide +kernel)) (fun _ h9 => h9) rfl dX12_copy_52 ?_
  refine lv_iload hx hb dX12_copy_55 (lv_at hl 0 rfl) ?_
  refine lv_aload_n hx hb dX12_copy_57 rfl (lv_at hl 1 rfl) ?_
  refine va_get (D := (dC, dI)) (ci := 12) (v := .ref o1) (C := RX12) (T := TX12) (N := 29) hx hb hts iw_X12_copy_X12 hown hK hP 0 rfl rfl 5 (by decide) (hts (.fieldLink RX12 16 "HolelessHouseModel" "rows" "[I") (by decide +kernel)) (fun _ h9 => h9) rfl dX12_copy_58 ?_
  refine lv_iload_n hx hb dX12_copy_61 rfl (lv_at hl 2 rfl) ?_
  refine lv_iload hx hb dX12_copy_62 (lv_at hl 0 rfl) ?_
  refine lv_iadd hx hb dX12_copy_64 ?_
  refine va_iald hx hb hK hP 1 0 rfl rfl (vp_in_iff.mpr (by rw [ti_add (C := 10) (by decide +kernel) (by omega) (by omega)]; exact ⟨by omega, by omega⟩)) dX12_copy_65 (tk_i (v := (-9)) rfl ?_)
  refine va_iast hx hb hK hP hD hS 2 0 rfl rfl (vin (by decide +kernel)) dX12_copy_66 (fun H locs hP hD hS => ?_)
  have hP : va_P (dC, dI) vwCl [(o0, .inr (12, [.int 0, .ref o3, .int 0, .ref o4, .int 0, .ref o1, .ref o5, .int 0, .ref o6, .int 0, .ref o7, .int (-9), .int 0, .int 0, .ref o8, .ref o9, .ref o10, .ref o11, .ref o12, .int 0, .ref o13, .ref o14, .ref o15, .int 0, .ref o16, .ref o17, .ref o18, .int 0, .ref o2])), (o1, .inl (cI, 12, .inl (fun _ => (-9)))), (o2, .inl (cI, 12, .inl (upd (upd (upd (upd (upd (upd (upd (upd (upd (upd (upd (fun _ => 0) (Int32.toNatClampNeg 0) (-9)) (Int32.toNatClampNeg 1) (-9)) (Int32.toNatClampNeg 2) (-9)) (Int32.toNatClampNeg 3) (-9)) (Int32.toNatClampNeg 4) (-9)) (Int32.toNatClampNeg 5) (-9)) (Int32.toNatClampNeg 6) (-9)) (Int32.toNatClampNeg 7) (-9)) (Int32.toNatClampNeg 8) (-9)) (Int32.toNatClampNeg 9) (-9)) (Int32.toNatClampNeg 10) (-9))))] H := hP
  have hD : va_D A [(o0, .inr (12, [.int 0, .ref o3, .int 0, .ref o4, .int 0, .ref o1, .ref o5, .int 0, .ref o6, .int 0, .ref o7, .int (-9), .int 0, .int 0, .ref o8, .ref o9, .ref o10, .ref o11, .ref o12, .int 0, .ref o13, .ref o14, .ref o15, .int 0, .ref o16, .ref o17, .ref o18, .int 0, .ref o2])), (o1, .inl (cI, 12, .inl (fun _ => (-9)))), (o2, .inl (cI, 12, .inl (upd (upd (upd (upd (upd (upd (upd (upd (upd (upd (upd (fun _ => 0) (Int32.toNatClampNeg 0) (-9)) (Int32.toNatClampNeg 1) (-9)) (Int32.toNatClampNeg 2) (-9)) (Int32.toNatClampNeg 3) (-9)) (Int32.toNatClampNeg 4) (-9)) (Int32.toNatClampNeg 5) (-9)) (Int32.toNatClampNeg 6) (-9)) (Int32.toNatClampNeg 7) (-9)) (Int32.toNatClampNeg 8) (-9)) (Int32.toNatClampNeg 9) (-9)) (Int32.toNatClampNeg 10) (-9))))] := hD
  refine lv_iinc (v := 11) (lv' := [(4, .int 11), (0, .ref o0), (1, .int a1), (2, .int a2), (3, .int 11)]) hx hb dX12_copy_67 hl (k := 0) rfl (by decide +kernel) (by decide) rfl (fun ls hl => ?_)
  refine lv_goto (tgt := 45) hx hb dX12_copy_70 (by decide) ?_
  refine lv_iload hx hb dX12_copy_45 (lv_at hl 0 rfl) ?_
  refine lv_iload_n hx hb dX12_copy_47 rfl (lv_at hl 4 rfl) ?_
  refine lv_icmp_ge (tgt := 73) hx hb dX12_copy_48 (by decide) (fun _ => ?_) (fun h9 => absurd (by decide +kernel) h9)
  refine lv_iconst (v := 0) hx hb dX12_copy_73 (by decide) ?_
  refine lv_istore (lv' := [(4, .int 0), (0, .ref o0), (1, .int a1), (2, .int a2), (3, .int 11)]) hx hb dX12_copy_74 hl (by decide) rfl (fun ls hl => ?_)
  refine lv_iload hx hb dX12_copy_76 (lv_at hl 0 rfl) ?_
  refine lv_iload_n hx hb dX12_copy_78 rfl (lv_at hl 4 rfl) ?_
  refine lv_icmp_ge (tgt := 104) hx hb dX12_copy_79 (by decide) (fun h9 => absurd h9 (by decide +kernel)) (fun _ => ?_)
  refine lv_aload_n hx hb dX12_copy_82 rfl (lv_at hl 1 rfl) ?_
  refine va_get (D := (dC, dI)) (ci := 12) (v := .ref o1) (C := RX12) (T := TX12) (N := 29) hx hb hts iw_X12_copy_X12 hown hK hP 0 rfl rfl 5 (by decide) (hts (.fieldLink RX12 16 "HolelessHouseModel" "rows" "[I") (by decide +kernel)) (fun _ h9 => h9) rfl dX12_copy_83 ?_
  refine lv_iload_n hx hb dX12_copy_86 rfl (lv_at hl 3 rfl) ?_
  refine lv_iload hx hb dX12_copy_87 (lv_at hl 0 rfl) ?_
  refine lv_iadd hx hb dX12_copy_89 ?_
  refine lv_aload_n hx hb dX12_copy_90 rfl (lv_at hl 1 rfl) ?_
  refine va_get (D := (dC, dI)) (ci := 12) (v := .ref o2) (C := RX12) (T := TX12) (N := 29) hx hb hts iw_X12_copy_X12 hown hK hP 0 rfl rfl 28 (by decide) (hts (.fieldLink RX12 67 "HolelessHouseModel" "moving" "[I") (by decide +kernel)) (fun _ h9 => h9) rfl dX12_copy_91 ?_
  refine lv_iload hx hb dX12_copy_94 (lv_at hl 0 rfl) ?_
  refine va_iald hx hb hK hP 2 0 rfl rfl (vin (by decide +kernel)) dX12_copy_96 (tk_i (v := (-9)) (by decide +kernel) ?_)
  refine va_iast hx hb hK hP hD hS 1 0 rfl rfl (vp_in_iff.mpr (by rw [ti_add (C := 0) (by decide +kernel) (by omega) (by omega)]; exact ⟨by omega, by omega⟩)) dX12_copy_97 (fun H locs hP hD hS => ?_)
  have hP : va_P (dC, dI) vwCl [(o0, .inr (12, [.int 0, .ref o3, .int 0, .ref o4, .int 0, .ref o1, .ref o5, .int 0, .ref o6, .int 0, .ref o7, .int (-9), .int 0, .int 0, .ref o8, .ref o9, .ref o10, .ref o11, .ref o12, .int 0, .ref o13, .ref o14, .ref o15, .int 0, .ref o16, .ref o17, .ref o18, .int 0, .ref o2])), (o1, .inl (cI, 12, .inl (upd (fun _ => (-9)) (Int32.toNatClampNeg (a2 + 0)) (-9)))), (o2, .inl (cI, 12, .inl (upd (upd (upd (upd (upd (upd (upd (upd (upd (upd (upd (fun _ => 0) (Int32.toNatClampNeg 0) (-9)) (Int32.toNatClampNeg 1) (-9)) (Int32.toNatClampNeg 2) (-9)) (Int32.toNatClampNeg 3) (-9)) (Int32.toNatClampNeg 4) (-9)) (Int32.toNatClampNeg 5) (-9)) (Int32.toNatClampNeg 6) (-9)) (Int32.toNatClampNeg 7) (-9)) (Int32.toNatClampNeg 8) (-9)) (Int32.toNatClampNeg 9) (-9)) (Int32.toNatClampNeg 10) (-9))))] H := hP
  have hD : va_D A [(o0, .inr (12, [.int 0, .ref o3, .int 0, .ref o4, .int 0, .ref o1, .ref o5, .int 0, .ref o6, .int 0, .ref o7, .int (-9), .int 0, .int 0, .ref o8, .ref o9, .ref o10, .ref o11, .ref o12, .int 0, .ref o13, .ref o14, .ref o15, .int 0, .ref o16, .ref o17, .ref o18, .int 0, .ref o2])), (o1, .inl (cI, 12, .inl (upd (fun _ => (-9)) (Int32.toNatClampNeg (a2 + 0)) (-9)))), (o2, .inl (cI, 12, .inl (upd (upd (upd (upd (upd (upd (upd (upd (upd (upd (upd (fun _ => 0) (Int32.toNatClampNeg 0) (-9)) (Int32.toNatClampNeg 1) (-9)) (Int32.toNatClampNeg 2) (-9)) (Int32.toNatClampNeg 3) (-9)) (Int32.toNatClampNeg 4) (-9)) (Int32.toNatClampNeg 5) (-9)) (Int32.toNatClampNeg 6) (-9)) (Int32.toNatClampNeg 7) (-9)) (Int32.toNatClampNeg 8) (-9)) (Int32.toNatClampNeg 9) (-9)) (Int32.toNatClampNeg 10) (-9))))] := hD
  refine lv_iinc (v := 1) (lv' := [(4, .int 1), (0, .ref o0), (1, .int a1), (2, .int a2), (3, .int 11)]) hx hb dX12_copy_98 hl (k := 0) rfl (by decide +kernel) (by decide) rfl (fun ls hl => ?_)
  refine lv_goto (tgt := 76) hx hb dX12_copy_101 (by decide) ?_
  refine lv_iload hx hb dX12_copy_76 (lv_at hl 0 rfl) ?_
  refine lv_iload_n hx hb dX12_copy_78 rfl (lv_at hl 4 rfl) ?_
  refine lv_icmp_ge (tgt := 104) hx hb dX12_copy_79 (by decide) (fun h9 => absurd h9 (by decide +kernel)) (fun _ => ?_)
  refine lv_aload_n hx hb dX12_copy_82 rfl (lv_at hl 1 rfl) ?_
  refine va_get (D := (dC, dI)) (ci := 12) (v := .ref o1) (C := RX12) (T := TX12) (N := 29) hx hb hts iw_X12_copy_X12 hown hK hP 0 rfl rfl 5 (by decide) (hts (.fieldLink RX12 16 "HolelessHouseModel" "rows" "[I") (by decide +kernel)) (fun _ h9 => h9) rfl dX12_copy_83 ?_
  refine lv_iload_n hx hb dX12_copy_86 rfl (lv_at hl 3 rfl) ?_
  refine lv_iload hx hb dX12_copy_87 (lv_at hl 0 rfl) ?_
  refine lv_iadd hx hb dX12_copy_89 ?_
  refine lv_aload_n hx hb dX12_copy_90 rfl (lv_at hl 1 rfl) ?_
  refine va_get (D := (dC, dI)) (ci := 12) (v := .ref o2) (C := RX12) (T := TX12) (N := 29) hx hb hts iw_X12_copy_X12 hown hK hP 0 rfl rfl 28 (by decide) (hts (.fieldLink RX12 67 "HolelessHouseModel" "moving" "[I") (by decide +kernel)) (fun _ h9 => h9) rfl dX12_copy_91 ?_
  refine lv_iload hx hb dX12_copy_94 (lv_at hl 0 rfl) ?_
  refine va_iald hx hb hK hP 2 0 rfl rfl (vin (by decide +kernel)) dX12_copy_96 (tk_i (v := (-9)) (by decide +kernel) ?_)
  refine va_iast hx hb hK hP hD hS 1 0 rfl rfl (vp_in_iff.mpr (by rw [ti_add (C := 1) (by decide +kernel) (by omega) (by omega)]; exact ⟨by omega, by omega⟩)) dX12_copy_97 (fun H locs hP hD hS => ?_)
  have hP : va_P (dC, dI) vwCl [(o0, .inr (12, [.int 0, .ref o3, .int 0, .ref o4, .int 0, .ref o1, .ref o5, .int 0, .ref o6, .int 0, .ref o7, .int (-9), .int 0, .int 0, .ref o8, .ref o9, .ref o10, .ref o11, .ref o12, .int 0, .ref o13, .ref o14, .ref o15, .int 0, .ref o16, .ref o17, .ref o18, .int 0, .ref o2])), (o1, .inl (cI, 12, .inl (upd (upd (fun _ => (-9)) (Int32.toNatClampNeg (a2 + 0)) (-9)) (Int32.toNatClampNeg (a2 + 1)) (-9)))), (o2, .inl (cI, 12, .inl (upd (upd (upd (upd (upd (upd (upd (upd (upd (upd (upd (fun _ => 0) (Int32.toNatClampNeg 0) (-9)) (Int32.toNatClampNeg 1) (-9)) (Int32.toNatClampNeg 2) (-9)) (Int32.toNatClampNeg 3) (-9)) (Int32.toNatClampNeg 4) (-9)) (Int32.toNatClampNeg 5) (-9)) (Int32.toNatClampNeg 6) (-9)) (Int32.toNatClampNeg 7) (-9)) (Int32.toNatClampNeg 8) (-9)) (Int32.toNatClampNeg 9) (-9)) (Int32.toNatClampNeg 10) (-9))))] H := hP
  have hD : va_D A [(o0, .inr (12, [.int 0, .ref o3, .int 0, .ref o4, .int 0, .ref o1, .ref o5, .int 0, .ref o6, .int 0, .ref o7, .int (-9), .int 0, .int 0, .ref o8, .ref o9, .ref o10, .ref o11, .ref o12, .int 0, .ref o13, .ref o14, .ref o15, .int 0, .ref o16, .ref o17, .ref o18, .int 0, .ref o2])), (o1, .inl (cI, 12, .inl (upd (upd (fun _ => (-9)) (Int32.toNatClampNeg (a2 + 0)) (-9)) (Int32.toNatClampNeg (a2 + 1)) (-9)))), (o2, .inl (cI, 12, .inl (upd (upd (upd (upd (upd (upd (upd (upd (upd (upd (upd (fun _ => 0) (Int32.toNatClampNeg 0) (-9)) (Int32.toNatClampNeg 1) (-9)) (Int32.toNatClampNeg 2) (-9)) (Int32.toNatClampNeg 3) (-9)) (Int32.toNatClampNeg 4) (-9)) (Int32.toNatClampNeg 5) (-9)) (Int32.toNatClampNeg 6) (-9)) (Int32.toNatClampNeg 7) (-9)) (Int32.toNatClampNeg 8) (-9)) (Int32.toNatClampNeg 9) (-9)) (Int32.toNatClampNeg 10) (-9))))] := hD
  refine lv_iinc (v := 2) (lv' := [(4, .int 2), (0, .ref o0), (1, .int a1), (2, .int a2), (3, .int 11)]) hx hb dX12_copy_98 hl (k := 0) rfl (by decide +kernel) (by decide) rfl (fun ls hl => ?_)
  refine lv_goto (tgt := 76) hx hb dX12_copy_101 (by decide) ?_
  refine lv_iload hx hb dX12_copy_76 (lv_at hl 0 rfl) ?_
  refine lv_iload_n hx hb dX12_copy_78 rfl (lv_at hl 4 rfl) ?_
  refine lv_icmp_ge (tgt := 104) hx hb dX12_copy_79 (by decide) (fun h9 => absurd h9 (by decide +kernel)) (fun _ => ?_)
  refine lv_aload_n hx hb dX12_copy_82 rfl (lv_at hl 1 rfl) ?_
  refine va_get (D := (dC, dI)) (ci := 12) (v := .ref o1) (C := RX12) (T := TX12) (N := 29) hx hb hts iw_X12_copy_X12 hown hK hP 0 rfl rfl 5 (by decide) (hts (.fieldLink RX12 16 "HolelessHouseModel" "rows" "[I") (by decide +kernel)) (fun _ h9 => h9) rfl dX12_copy_83 ?_
  refine lv_iload_n hx hb dX12_copy_86 rfl (lv_at hl 3 rfl) ?_
  refine lv_iload hx hb dX12_copy_87 (lv_at hl 0 rfl) ?_
  refine lv_iadd hx hb dX12_copy_89 ?_
  refine lv_aload_n hx hb dX12_copy_90 rfl (lv_at hl 1 rfl) ?_
  refine va_get (D := (dC, dI)) (ci := 12) (v := .ref o2) (C := RX12) (T := TX12) (N := 29) hx hb hts iw_X12_copy_X12 hown hK hP 0 rfl rfl 28 (by decide) (hts (.fieldLink RX12 67 "HolelessHouseModel" "moving" "[I") (by decide +kernel)) (fun _ h9 => h9) rfl dX12_copy_91 ?_
  refine lv_iload hx hb dX12_copy_94 (lv_at hl 0 rfl) ?_
  refine va_iald hx hb hK hP 2 0 rfl rfl (vin (by decide +kernel)) dX12_copy_96 (tk_i (v := (-9)) (by decide +kernel) ?_)
  refine va_iast hx hb hK hP hD hS 1 0 rfl rfl (vp_in_iff.mpr (by rw [ti_add (C := 2) (by decide +kernel) (by omega) (by omega)]; exact ⟨by omega, by omega⟩)) dX12_copy_97 (fun H locs hP hD hS => ?_)
  have hP : va_P (dC, dI) vwCl [(o0, .inr (12, [.int 0, .ref o3, .int 0, .ref o4, .int 0, .ref o1, .ref o5, .int 0, .ref o6, .int 0, .ref o7, .int (-9), .int 0, .int 0, .ref o8, .ref o9, .ref o10, .ref o11, .ref o12, .int 0, .ref o13, .ref o14, .ref o15, .int 0, .ref o16, .ref o17, .ref o18, .int 0, .ref o2])), (o1, .inl (cI, 12, .inl (upd (upd (upd (fun _ => (-9)) (Int32.toNatClampNeg (a2 + 0)) (-9)) (Int32.toNatClampNeg (a2 + 1)) (-9)) (Int32.toNatClampNeg (a2 + 2)) (-9)))), (o2, .inl (cI, 12, .inl (upd (upd (upd (upd (upd (upd (upd (upd (upd (upd (upd (fun _ => 0) (Int32.toNatClampNeg 0) (-9)) (Int32.toNatClampNeg 1) (-9)) (Int32.toNatClampNeg 2) (-9)) (Int32.toNatClampNeg 3) (-9)) (Int32.toNatClampNeg 4) (-9)) (Int32.toNatClampNeg 5) (-9)) (Int32.toNatClampNeg 6) (-9)) (Int32.toNatClampNeg 7) (-9)) (Int32.toNatClampNeg 8) (-9)) (Int32.toNatClampNeg 9) (-9)) (Int32.toNatClampNeg 10) (-9))))] H := hP
  have hD : va_D A [(o0, .inr (12, [.int 0, .ref o3, .int 0, .ref o4, .int 0, .ref o1, .ref o5, .int 0, .ref o6, .int 0, .ref o7, .int (-9), .int 0, .int 0, .ref o8, .ref o9, .ref o10, .ref o11, .ref o12, .int 0, .ref o13, .ref o14, .ref o15, .int 0, .ref o16, .ref o17, .ref o18, .int 0, .ref o2])), (o1, .inl (cI, 12, .inl (upd (upd (upd (fun _ => (-9)) (Int32.toNatClampNeg (a2 + 0)) (-9)) (Int32.toNatClampNeg (a2 + 1)) (-9)) (Int32.toNatClampNeg (a2 + 2)) (-9)))), (o2, .inl (cI, 12, .inl (upd (upd (upd (upd (upd (upd (upd (upd (upd (upd (upd (fun _ => 0) (Int32.toNatClampNeg 0) (-9)) (Int32.toNatClampNeg 1) (-9)) (Int32.toNatClampNeg 2) (-9)) (Int32.toNatClampNeg 3) (-9)) (Int32.toNatClampNeg 4) (-9)) (Int32.toNatClampNeg 5) (-9)) (Int32.toNatClampNeg 6) (-9)) (Int32.toNatClampNeg 7) (-9)) (Int32.toNatClampNeg 8) (-9)) (Int32.toNatClampNeg 9) (-9)) (Int32.toNatClampNeg 10) (-9))))] := hD
  refine lv_iinc (v := 3) (lv' := [(4, .int 3), (0, .ref o0), (1, .int a1), (2, .int a2), (3, .int 11)]) hx hb dX12_copy_98 hl (k := 0) rfl (by decide +kernel) (by decide) rfl (fun ls hl => ?_)
  refine lv_goto (tgt := 76) hx hb dX12_copy_101 (by decide) ?_
  refine lv_iload hx hb dX12_copy_76 (lv_at hl 0 rfl) ?_
  refine lv_iload_n hx hb dX12_copy_78 rfl (lv_at hl 4 rfl) ?_
  refine lv_icmp_ge (tgt := 104) hx hb dX12_copy_79 (by decide) (fun h9 => absurd h9 (by decide +kernel)) (fun _ => ?_)
  refine lv_aload_n hx hb dX12_copy_82 rfl (lv_at hl 1 rfl) ?_
  refine va_get (D := (dC, dI)) (ci := 12) (v := .ref o1) (C := RX12) (T := TX12) (N := 29) hx hb hts iw_X12_copy_X12 hown hK hP 0 rfl rfl 5 (by decide) (hts (.fieldLink RX12 16 "HolelessHouseModel" "rows" "[I") (by decide +kernel)) (fun _ h9 => h9) rfl dX12_copy_83 ?_
  refine lv_iload_n hx hb dX12_copy_86 rfl (lv_at hl 3 rfl) ?_
  refine lv_iload hx hb dX12_copy_87 (lv_at hl 0 rfl) ?_
  refine lv_iadd hx hb dX12_copy_89 ?_
  refine lv_aload_n hx hb dX12_copy_90 rfl (lv_at hl 1 rfl) ?_
  refine va_get (D := (dC, dI)) (ci := 12) (v := .ref o2) (C := RX12) (T := TX12) (N := 29) hx hb hts iw_X12_copy_X12 hown hK hP 0 rfl rfl 28 (by decide) (hts (.fieldLink RX12 67 "HolelessHouseModel" "moving" "[I") (by decide +kernel)) (fun _ h9 => h9) rfl dX12_copy_91 ?_
  refine lv_iload hx hb dX12_copy_94 (lv_at hl 0 rfl) ?_
  refine va_iald hx hb hK hP 2 0 rfl rfl (vin (by decide +kernel)) dX12_copy_96 (tk_i (v := (-9)) (by decide +kernel) ?_)
  refine va_iast hx hb hK hP hD hS 1 0 rfl rfl (vp_in_iff.mpr (by rw [ti_add (C := 3) (by decide +kernel) (by omega) (by omega)]; exact ⟨by omega, by omega⟩)) dX12_copy_97 (fun H locs hP hD hS => ?_)
  have hP : va_P (dC, dI) vwCl [(o0, .inr (12, [.int 0, .ref o3, .int 0, .ref o4, .int 0, .ref o1, .ref o5, .int 0, .ref o6, .int 0, .ref o7, .int (-9), .int 0, .int 0, .ref o8, .ref o9, .ref o10, .ref o11, .ref o12, .int 0, .ref o13, .ref o14, .ref o15, .int 0, .ref o16, .ref o17, .ref o18, .int 0, .ref o2])), (o1, .inl (cI, 12, .inl (upd (upd (upd (upd (fun _ => (-9)) (Int32.toNatClampNeg (a2 + 0)) (-9)) (Int32.toNatClampNeg (a2 + 1)) (-9)) (Int32.toNatClampNeg (a2 + 2)) (-9)) (Int32.toNatClampNeg (a2 + 3)) (-9)))), (o2, .inl (cI, 12, .inl (upd (upd (upd (upd (upd (upd (upd (upd (upd (upd (upd (fun _ => 0) (Int32.toNatClampNeg 0) (-9)) (Int32.toNatClampNeg 1) (-9)) (Int32.toNatClampNeg 2) (-9)) (Int32.toNatClampNeg 3) (-9)) (Int32.toNatClampNeg 4) (-9)) (Int32.toNatClampNeg 5) (-9)) (Int32.toNatClampNeg 6) (-9)) (Int32.toNatClampNeg 7) (-9)) (Int32.toNatClampNeg 8) (-9)) (Int32.toNatClampNeg 9) (-9)) (Int32.toNatClampNeg 10) (-9))))] H := hP
  have hD : va_D A [(o0, .inr (12, [.int 0, .ref o3, .int 0, .ref o4, .int 0, .ref o1, .ref o5, .int 0, .ref o6, .int 0, .ref o7, .int (-9), .int 0, .int 0, .ref o8, .ref o9, .ref o10, .ref o11, .ref o12, .int 0, .ref o13, .ref o14, .ref o15, .int 0, .ref o16, .ref o17, .ref o18, .int 0, .ref o2])), (o1, .inl (cI, 12, .inl (upd (upd (upd (upd (fun _ => (-9)) (Int32.toNatClampNeg (a2 + 0)) (-9)) (Int32.toNatClampNeg (a2 + 1)) (-9)) (Int32.toNatClampNeg (a2 + 2)) (-9)) (Int32.toNatClampNeg (a2 + 3)) (-9)))), (o2, .inl (cI, 12, .inl (upd (upd (upd (upd (upd (upd (upd (upd (upd (upd (upd (fun _ => 0) (Int32.toNatClampNeg 0) (-9)) (Int32.toNatClampNeg 1) (-9)) (Int32.toNatClampNeg 2) (-9)) (Int32.toNatClampNeg 3) (-9)) (Int32.toNatClampNeg 4) (-9)) (Int32.toNatClampNeg 5) (-9)) (Int32.toNatClampNeg 6) (-9)) (Int32.toNatClampNeg 7) (-9)) (Int32.toNatClampNeg 8) (-9)) (Int32.toNatClampNeg 9) (-9)) (Int32.toNatClampNeg 10) (-9))))] := hD
  refine lv_iinc (v := 4) (lv' := [(4, .int 4), (0, .ref o0), (1, .int a1), (2, .int a2), (3, .int 11)]) hx hb dX12_copy_98 hl (k := 0) rfl (by decide +kernel) (by decide) rfl (fun ls hl => ?_)
  refine lv_goto (tgt := 76) hx hb dX12_copy_101 (by decide) ?_
  refine lv_iload hx hb dX12_copy_76 (lv_at hl 0 rfl) ?_
  refine lv_iload_n hx hb dX12_copy_78 rfl (lv_at hl 4 rfl) ?_
  refine lv_icmp_ge (tgt := 104) hx hb dX12_copy_79 (by decide) (fun h9 => absurd h9 (by decide +kernel)) (fun _ => ?_)
  refine lv_aload_n hx hb dX12_copy_82 rfl (lv_at hl 1 rfl) ?_
  refine va_get (D := (dC, dI)) (ci := 12) (v := .ref o1) (C := RX12) (T := TX12) (N := 29) hx hb hts iw_X12_copy_X12 hown hK hP 0 rfl rfl 5 (by decide) (hts (.fieldLink RX12 16 "HolelessHouseModel" "rows" "[I") (by decide +kernel)) (fun _ h9 => h9) rfl dX12_copy_83 ?_
  refine lv_iload_n hx hb dX12_copy_86 rfl (lv_at hl 3 rfl) ?_
  refine lv_iload hx hb dX12_copy_87 (lv_at hl 0 rfl) ?_
  refine lv_iadd hx hb dX12_copy_89 ?_
  refine lv_aload_n hx hb dX12_copy_90 rfl (lv_at hl 1 rfl) ?_
  refine va_get (D := (dC, dI)) (ci := 12) (v := .ref o2) (C := RX12) (T := TX12) (N := 29) hx hb hts iw_X12_copy_X12 hown hK hP 0 rfl rfl 28 (by decide) (hts (.fieldLink RX12 67 "HolelessHouseModel" "moving" "[I") (by decide +kernel)) (fun _ h9 => h9) rfl dX12_copy_91 ?_
  refine lv_iload hx hb dX12_copy_94 (lv_at hl 0 rfl) ?_
  refine va_iald hx hb hK hP 2 0 rfl rfl (vin (by decide +kernel)) dX12_copy_96 (tk_i (v := (-9)) (by decide +kernel) ?_)
  refine va_iast hx hb hK hP hD hS 1 0 rfl rfl (vp_in_iff.mpr (by rw [ti_add (C := 4) (by decide +kernel) (by omega) (by omega)]; exact ⟨by omega, by omega⟩)) dX12_copy_97 (fun H locs hP hD hS => ?_)
  have hP : va_P (dC, dI) vwCl [(o0, .inr (12, [.int 0, .ref o3, .int 0, .ref o4, .int 0, .ref o1, .ref o5, .int 0, .ref o6, .int 0, .ref o7, .int (-9), .int 0, .int 0, .ref o8, .ref o9, .ref o10, .ref o11, .ref o12, .int 0, .ref o13, .ref o14, .ref o15, .int 0, .ref o16, .ref o17, .ref o18, .int 0, .ref o2])), (o1, .inl (cI, 12, .inl (upd (upd (upd (upd (upd (fun _ => (-9)) (Int32.toNatClampNeg (a2 + 0)) (-9)) (Int32.toNatClampNeg (a2 + 1)) (-9)) (Int32.toNatClampNeg (a2 + 2)) (-9)) (Int32.toNatClampNeg (a2 + 3)) (-9)) (Int32.toNatClampNeg (a2 + 4)) (-9)))), (o2, .inl (cI, 12, .inl (upd (upd (upd (upd (upd (upd (upd (upd (upd (upd (upd (fun _ => 0) (Int32.toNatClampNeg 0) (-9)) (Int32.toNatClampNeg 1) (-9)) (Int32.toNatClampNeg 2) (-9)) (Int32.toNatClampNeg 3) (-9)) (Int32.toNatClampNeg 4) (-9)) (Int32.toNatClampNeg 5) (-9)) (Int32.toNatClampNeg 6) (-9)) (Int32.toNatClampNeg 7) (-9)) (Int32.toNatClampNeg 8) (-9)) (Int32.toNatClampNeg 9) (-9)) (Int32.toNatClampNeg 10) (-9))))] H := hP
  have hD : va_D A [(o0, .inr (12, [.int 0, .ref o3, .int 0, .ref o4, .int 0, .ref o1, .ref o5, .int 0, .ref o6, .int 0, .ref o7, .int (-9), .int 0, .int 0, .ref o8, .ref o9, .ref o10, .ref o11, .ref o12, .int 0, .ref o13, .ref o14, .ref o15, .int 0, .ref o16, .ref o17, .ref o18, .int 0, .ref o2])), (o1, .inl (cI, 12, .inl (upd (upd (upd (upd (upd (fun _ => (-9)) (Int32.toNatClampNeg (a2 + 0)) (-9)) (Int32.toNatClampNeg (a2 + 1)) (-9)) (Int32.toNatClampNeg (a2 + 2)) (-9)) (Int32.toNatClampNeg (a2 + 3)) (-9)) (Int32.toNatClampNeg (a2 + 4)) (-9)))), (o2, .inl (cI, 12, .inl (upd (upd (upd (upd (upd (upd (upd (upd (upd (upd (upd (fun _ => 0) (Int32.toNatClampNeg 0) (-9)) (Int32.toNatClampNeg 1) (-9)) (Int32.toNatClampNeg 2) (-9)) (Int32.toNatClampNeg 3) (-9)) (Int32.toNatClampNeg 4) (-9)) (Int32.toNatClampNeg 5) (-9)) (Int32.toNatClampNeg 6) (-9)) (Int32.toNatClampNeg 7) (-9)) (Int32.toNatClampNeg 8) (-9)) (Int32.toNatClampNeg 9) (-9)) (Int32.toNatClampNeg 10) (-9))))] := hD
  refine lv_iinc (v := 5) (lv' := [(4, .int 5), (0, .ref o0), (1, .int a1), (2, .int a2), (3, .int 11)]) hx hb dX12_copy_98 hl (k := 0) rfl (by decide +kernel) (by decide) rfl (fun ls hl => ?_)
  refine lv_goto (tgt := 76) hx hb dX12_copy_101 (by decide) ?_
  refine lv_iload hx hb dX12_copy_76 (lv_at hl 0 rfl) ?_
  refine lv_iload_n hx hb dX12_copy_78 rfl (lv_at hl 4 rfl) ?_
  refine lv_icmp_ge (tgt := 104) hx hb dX12_copy_79 (by decide) (fun h9 => absurd h9 (by decide +kernel)) (fun _ => ?_)
  refine lv_aload_n hx hb dX12_copy_82 rfl (lv_at hl 1 rfl) ?_
  refine va_get (D := (dC, dI)) (ci := 12) (v := .ref o1) (C := RX12) (T := TX12) (N := 29) hx hb hts iw_X12_copy_X12 hown hK hP 0 rfl rfl 5 (by decide) (hts (.fieldLink RX12 16 "HolelessHouseModel" "rows" "[I") (by decide +kernel)) (fun _ h9 => h9) rfl dX12_copy_83 ?_
  refine lv_iload_n hx hb dX12_copy_86 rfl (lv_at hl 3 rfl) ?_
  refine lv_iload hx hb dX12_copy_87 (lv_at hl 0 rfl) ?_
  refine lv_iadd hx hb dX12_copy_89 ?_
  refine lv_aload_n hx hb dX12_copy_90 rfl (lv_at hl 1 rfl) ?_
  refine va_get (D := (dC, dI)) (ci := 12) (v := .ref o2) (C := RX12) (T := TX12) (N := 29) hx hb hts iw_X12_copy_X12 hown hK hP 0 rfl rfl 28 (by decide) (hts (.fieldLink RX12 67 "HolelessHouseModel" "moving" "[I") (by decide +kernel)) (fun _ h9 => h9) rfl dX12_copy_91 ?_
  refine lv_iload hx hb dX12_copy_94 (lv_at hl 0 rfl) ?_
  refine va_iald hx hb hK hP 2 0 rfl rfl (vin (by decide +kernel)) dX12_copy_96 (tk_i (v := (-9)) (by decide +kernel) ?_)
  refine va_iast hx hb hK hP hD hS 1 0 rfl rfl (vp_in_iff.mpr (by rw [ti_add (C := 5) (by decide +kernel) (by omega) (by omega)]; exact ⟨by omega, by omega⟩)) dX12_copy_97 (fun H locs hP hD hS => ?_)
  have hP : va_P (dC, dI) vwCl [(o0, .inr (12, [.int 0, .ref o3, .int 0, .ref o4, .int 0, .ref o1, .ref o5, .int 0, .ref o6, .int 0, .ref o7, .int (-9), .int 0, .int 0, .ref o8, .ref o9, .ref o10, .ref o11, .ref o12, .int 0, .ref o13, .ref o14, .ref o15, .int 0, .ref o16, .ref o17, .ref o18, .int 0, .ref o2])), (o1, .inl (cI, 12, .inl (upd (upd (upd (upd (upd (upd (fun _ => (-9)) (Int32.toNatClampNeg (a2 + 0)) (-9)) (Int32.toNatClampNeg (a2 + 1)) (-9)) (Int32.toNatClampNeg (a2 + 2)) (-9)) (Int32.toNatClampNeg (a2 + 3)) (-9)) (Int32.toNatClampNeg (a2 + 4)) (-9)) (Int32.toNatClampNeg (a2 + 5)) (-9)))), (o2, .inl (cI, 12, .inl (upd (upd (upd (upd (upd (upd (upd (upd (upd (upd (upd (fun _ => 0) (Int32.toNatClampNeg 0) (-9)) (Int32.toNatClampNeg 1) (-9)) (Int32.toNatClampNeg 2) (-9)) (Int32.toNatClampNeg 3) (-9)) (Int32.toNatClampNeg 4) (-9)) (Int32.toNatClampNeg 5) (-9)) (Int32.toNatClampNeg 6) (-9)) (Int32.toNatClampNeg 7) (-9)) (Int32.toNatClampNeg 8) (-9)) (Int32.toNatClampNeg 9) (-9)) (Int32.toNatClampNeg 10) (-9))))] H := hP
  have hD : va_D A [(o0, .inr (12, [.int 0, .ref o3, .int 0, .ref o4, .int 0, .ref o1, .ref o5, .int 0, .ref o6, .int 0, .ref o7, .int (-9), .int 0, .int 0, .ref o8, .ref o9, .ref o10, .ref o11, .ref o12, .int 0, .ref o13, .ref o14, .ref o15, .int 0, .ref o16, .ref o17, .ref o18, .int 0, .ref o2])), (o1, .inl (cI, 12, .inl (upd (upd (upd (upd (upd (upd (fun _ => (-9)) (Int32.toNatClampNeg (a2 + 0)) (-9)) (Int32.toNatClampNeg (a2 + 1)) (-9)) (Int32.toNatClampNeg (a2 + 2)) (-9)) (Int32.toNatClampNeg (a2 + 3)) (-9)) (Int32.toNatClampNeg (a2 + 4)) (-9)) (Int32.toNatClampNeg (a2 + 5)) (-9)))), (o2, .inl (cI, 12, .inl (upd (upd (upd (upd (upd (upd (upd (upd (upd (upd (upd (fun _ => 0) (Int32.toNatClampNeg 0) (-9)) (Int32.toNatClampNeg 1) (-9)) (Int32.toNatClampNeg 2) (-9)) (Int32.toNatClampNeg 3) (-9)) (Int32.toNatClampNeg 4) (-9)) (Int32.toNatClampNeg 5) (-9)) (Int32.toNatClampNeg 6) (-9)) (Int32.toNatClampNeg 7) (-9)) (Int32.toNatClampNeg 8) (-9)) (Int32.toNatClampNeg 9) (-9)) (Int32.toNatClampNeg 10) (-9))))] := hD
  refine lv_iinc (v := 6) (lv' := [(4, .int 6), (0, .ref o0), (1, .int a1), (2, .int a2), (3, .int 11)]) hx hb dX12_copy_98 hl (k := 0) rfl (by decide +kernel) (by decide) rfl (fun ls hl => ?_)
  refine lv_goto (tgt := 76) hx hb dX12_copy_101 (by decide) ?_
  refine lv_iload hx hb dX12_copy_76 (lv_at hl 0 rfl) ?_
  refine lv_iload_n hx hb dX12_copy_78 rfl (lv_at hl 4 rfl) ?_
  refine lv_icmp_ge (tgt := 104) hx hb dX12_copy_79 (by decide) (fun h9 => absurd h9 (by decide +kernel)) (fun _ => ?_)
  refine lv_aload_n hx hb dX12_copy_82 rfl (lv_at hl 1 rfl) ?_
  refine va_get (D := (dC, dI)) (ci := 12) (v := .ref o1) (C := RX12) (T := TX12) (N := 29) hx hb hts iw_X12_copy_X12 hown hK hP 0 rfl rfl 5 (by decide) (hts (.fieldLink RX12 16 "HolelessHouseModel" "rows" "[I") (by decide +kernel)) (fun _ h9 => h9) rfl dX12_copy_83 ?_
  refine lv_iload_n hx hb dX12_copy_86 rfl (lv_at hl 3 rfl) ?_
  refine lv_iload hx hb dX12_copy_87 (lv_at hl 0 rfl) ?_
  refine lv_iadd hx hb dX12_copy_89 ?_
  refine lv_aload_n hx hb dX12_copy_90 rfl (lv_at hl 1 rfl) ?_
  refine va_get (D := (dC, dI)) (ci := 12) (v := .ref o2) (C := RX12) (T := TX12) (N := 29) hx hb hts iw_X12_copy_X12 hown hK hP 0 rfl rfl 28 (by decide) (hts (.fieldLink RX12 67 "HolelessHouseModel" "moving" "[I") (by decide +kernel)) (fun _ h9 => h9) rfl dX12_copy_91 ?_
  refine lv_iload hx hb dX12_copy_94 (lv_at hl 0 rfl) ?_
  refine va_iald hx hb hK hP 2 0 rfl rfl (vin (by decide +kernel)) dX12_copy_96 (tk_i (v := (-9)) (by decide +kernel) ?_)
  refine va_iast hx hb hK hP hD hS 1 0 rfl rfl (vp_in_iff.mpr (by rw [ti_add (C := 6) (by decide +kernel) (by omega) (by omega)]; exact ⟨by omega, by omega⟩)) dX12_copy_97 (fun H locs hP hD hS => ?_)
  have hP : va_P (dC, dI) vwCl [(o0, .inr (12, [.int 0, .ref o3, .int 0, .ref o4, .int 0, .ref o1, .ref o5, .int 0, .ref o6, .int 0, .ref o7, .int (-9), .int 0, .int 0, .ref o8, .ref o9, .ref o10, .ref o11, .ref o12, .int 0, .ref o13, .ref o14, .ref o15, .int 0, .ref o16, .ref o17, .ref o18, .int 0, .ref o2])), (o1, .inl (cI, 12, .inl (upd (upd (upd (upd (upd (upd (upd (fun _ => (-9)) (Int32.toNatClampNeg (a2 + 0)) (-9)) (Int32.toNatClampNeg (a2 + 1)) (-9)) (Int32.toNatClampNeg (a2 + 2)) (-9)) (Int32.toNatClampNeg (a2 + 3)) (-9)) (Int32.toNatClampNeg (a2 + 4)) (-9)) (Int32.toNatClampNeg (a2 + 5)) (-9)) (Int32.toNatClampNeg (a2 + 6)) (-9)))), (o2, .inl (cI, 12, .inl (upd (upd (upd (upd (upd (upd (upd (upd (upd (upd (upd (fun _ => 0) (Int32.toNatClampNeg 0) (-9)) (Int32.toNatClampNeg 1) (-9)) (Int32.toNatClampNeg 2) (-9)) (Int32.toNatClampNeg 3) (-9)) (Int32.toNatClampNeg 4) (-9)) (Int32.toNatClampNeg 5) (-9)) (Int32.toNatClampNeg 6) (-9)) (Int32.toNatClampNeg 7) (-9)) (Int32.toNatClampNeg 8) (-9)) (Int32.toNatClampNeg 9) (-9)) (Int32.toNatClampNeg 10) (-9))))] H := hP
  have hD : va_D A [(o0, .inr (12, [.int 0, .ref o3, .int 0, .ref o4, .int 0, .ref o1, .ref o5, .int 0, .ref o6, .int 0, .ref o7, .int (-9), .int 0, .int 0, .ref o8, .ref o9, .ref o10, .ref o11, .ref o12, .int 0, .ref o13, .ref o14, .ref o15, .int 0, .ref o16, .ref o17, .ref o18, .int 0, .ref o2])), (o1, .inl (cI, 12, .inl (upd (upd (upd (upd (upd (upd (upd (fun _ => (-9)) (Int32.toNatClampNeg (a2 + 0)) (-9)) (Int32.toNatClampNeg (a2 + 1)) (-9)) (Int32.toNatClampNeg (a2 + 2)) (-9)) (Int32.toNatClampNeg (a2 + 3)) (-9)) (Int32.toNatClampNeg (a2 + 4)) (-9)) (Int32.toNatClampNeg (a2 + 5)) (-9)) (Int32.toNatClampNeg (a2 + 6)) (-9)))), (o2, .inl (cI, 12, .inl (upd (upd (upd (upd (upd (upd (upd (upd (upd (upd (upd (fun _ => 0) (Int32.toNatClampNeg 0) (-9)) (Int32.toNatClampNeg 1) (-9)) (Int32.toNatClampNeg 2) (-9)) (Int32.toNatClampNeg 3) (-9)) (Int32.toNatClampNeg 4) (-9)) (Int32.toNatClampNeg 5) (-9)) (Int32.toNatClampNeg 6) (-9)) (Int32.toNatClampNeg 7) (-9)) (Int32.toNatClampNeg 8) (-9)) (Int32.toNatClampNeg 9) (-9)) (Int32.toNatClampNeg 10) (-9))))] := hD
  refine lv_iinc (v := 7) (lv' := [(4, .int 7), (0, .ref o0), (1, .int a1), (2, .int a2), (3, .int 11)]) hx hb dX12_copy_98 hl (k := 0) rfl (by decide +kernel) (by decide) rfl (fun ls hl => ?_)
  refine lv_goto (tgt := 76) hx hb dX12_copy_101 (by decide) ?_
  refine lv_iload hx hb dX12_copy_76 (lv_at hl 0 rfl) ?_
  refine lv_iload_n hx hb dX12_copy_78 rfl (lv_at hl 4 rfl) ?_
  refine lv_icmp_ge (tgt := 104) hx hb dX12_copy_79 (by decide) (fun h9 => absurd h9 (by decide +kernel)) (fun _ => ?_)
  refine lv_aload_n hx hb dX12_copy_82 rfl (lv_at hl 1 rfl) ?_
  refine va_get (D := (dC, dI)) (ci := 12) (v := .ref o1) (C := RX12) (T := TX12) (N := 29) hx hb hts iw_X12_copy_X12 hown hK hP 0 rfl rfl 5 (by decide) (hts (.fieldLink RX12 16 "HolelessHouseModel" "rows" "[I") (by decide +kernel)) (fun _ h9 => h9) rfl dX12_copy_83 ?_
  refine lv_iload_n hx hb dX12_copy_86 rfl (lv_at hl 3 rfl) ?_
  refine lv_iload hx hb dX12_copy_87 (lv_at hl 0 rfl) ?_
  refine lv_iadd hx hb dX12_copy_89 ?_
  refine lv_aload_n hx hb dX12_copy_90 rfl (lv_at hl 1 rfl) ?_
  refine va_get (D := (dC, dI)) (ci := 12) (v := .ref o2) (C := RX12) (T := TX12) (N := 29) hx hb hts iw_X12_copy_X12 hown hK hP 0 rfl rfl 28 (by decide) (hts (.fieldLink RX12 67 "HolelessHouseModel" "moving" "[I") (by decide +kernel)) (fun _ h9 => h9) rfl dX12_copy_91 ?_
  refine lv_iload hx hb dX12_copy_94 (lv_at hl 0 rfl) ?_
  refine va_iald hx hb hK hP 2 0 rfl rfl (vin (by decide +kernel)) dX12_copy_96 (tk_i (v := (-9)) (by decide +kernel) ?_)
  refine va_iast hx hb hK hP hD hS 1 0 rfl rfl (vp_in_iff.mpr (by rw [ti_add (C := 7) (by decide +kernel) (by omega) (by omega)]; exact ⟨by omega, by omega⟩)) dX12_copy_97 (fun H locs hP hD hS => ?_)
  have hP : va_P (dC, dI) vwCl [(o0, .inr (12, [.int 0, .ref o3, .int 0, .ref o4, .int 0, .ref o1, .ref o5, .int 0, .ref o6, .int 0, .ref o7, .int (-9), .int 0, .int 0, .ref o8, .ref o9, .ref o10, .ref o11, .ref o12, .int 0, .ref o13, .ref o14, .ref o15, .int 0, .ref o16, .ref o17, .ref o18, .int 0, .ref o2])), (o1, .inl (cI, 12, .inl (upd (upd (upd (upd (upd (upd (upd (upd (fun _ => (-9)) (Int32.toNatClampNeg (a2 + 0)) (-9)) (Int32.toNatClampNeg (a2 + 1)) (-9)) (Int32.toNatClampNeg (a2 + 2)) (-9)) (Int32.toNatClampNeg (a2 + 3)) (-9)) (Int32.toNatClampNeg (a2 + 4)) (-9)) (Int32.toNatClampNeg (a2 + 5)) (-9)) (Int32.toNatClampNeg (a2 + 6)) (-9)) (Int32.toNatClampNeg (a2 + 7)) (-9)))), (o2, .inl (cI, 12, .inl (upd (upd (upd (upd (upd (upd (upd (upd (upd (upd (upd (fun _ => 0) (Int32.toNatClampNeg 0) (-9)) (Int32.toNatClampNeg 1) (-9)) (Int32.toNatClampNeg 2) (-9)) (Int32.toNatClampNeg 3) (-9)) (Int32.toNatClampNeg 4) (-9)) (Int32.toNatClampNeg 5) (-9)) (Int32.toNatClampNeg 6) (-9)) (Int32.toNatClampNeg 7) (-9)) (Int32.toNatClampNeg 8) (-9)) (Int32.toNatClampNeg 9) (-9)) (Int32.toNatClampNeg 10) (-9))))] H := hP
  have hD : va_D A [(o0, .inr (12, [.int 0, .ref o3, .int 0, .ref o4, .int 0, .ref o1, .ref o5, .int 0, .ref o6, .int 0, .ref o7, .int (-9), .int 0, .int 0, .ref o8, .ref o9, .ref o10, .ref o11, .ref o12, .int 0, .ref o13, .ref o14, .ref o15, .int 0, .ref o16, .ref o17, .ref o18, .int 0, .ref o2])), (o1, .inl (cI, 12, .inl (upd (upd (upd (upd (upd (upd (upd (upd (fun _ => (-9)) (Int32.toNatClampNeg (a2 + 0)) (-9)) (Int32.toNatClampNeg (a2 + 1)) (-9)) (Int32.toNatClampNeg (a2 + 2)) (-9)) (Int32.toNatClampNeg (a2 + 3)) (-9)) (Int32.toNatClampNeg (a2 + 4)) (-9)) (Int32.toNatClampNeg (a2 + 5)) (-9)) (Int32.toNatClampNeg (a2 + 6)) (-9)) (Int32.toNatClampNeg (a2 + 7)) (-9)))), (o2, .inl (cI, 12, .inl (upd (upd (upd (upd (upd (upd (upd (upd (upd (upd (upd (fun _ => 0) (Int32.toNatClampNeg 0) (-9)) (Int32.toNatClampNeg 1) (-9)) (Int32.toNatClampNeg 2) (-9)) (Int32.toNatClampNeg 3) (-9)) (Int32.toNatClampNeg 4) (-9)) (Int32.toNatClampNeg 5) (-9)) (Int32.toNatClampNeg 6) (-9)) (Int32.toNatClampNeg 7) (-9)) (Int32.toNatClampNeg 8) (-9)) (Int32.toNatClampNeg 9) (-9)) (Int32.toNatClampNeg 10) (-9))))] := hD
  refine lv_iinc (v := 8) (lv' := [(4, .int 8), (0, .ref o0), (1, .int a1), (2, .int a2), (3, .int 11)]) hx hb dX12_copy_98 hl (k := 0) rfl (by decide +kernel) (by decide) rfl (fun ls hl => ?_)
  refine lv_goto (tgt := 76) hx hb dX12_copy_101 (by decide) ?_
  refine lv_iload hx hb dX12_copy_76 (lv_at hl 0 rfl) ?_
  refine lv_iload_n hx hb dX12_copy_78 rfl (lv_at hl 4 rfl) ?_
  refine lv_icmp_ge (tgt := 104) hx hb dX12_copy_79 (by decide) (fun h9 => absurd h9 (by decide +kernel)) (fun _ => ?_)
  refine lv_aload_n hx hb dX12_copy_82 rfl (lv_at hl 1 rfl) ?_
  refine va_get (D := (dC, dI)) (ci := 12) (v := .ref o1) (C := RX12) (T := TX12) (N := 29) hx hb hts iw_X12_copy_X12 hown hK hP 0 rfl rfl 5 (by decide) (hts (.fieldLink RX12 16 "HolelessHouseModel" "rows" "[I") (by decide +kernel)) (fun _ h9 => h9) rfl dX12_copy_83 ?_
  refine lv_iload_n hx hb dX12_copy_86 rfl (lv_at hl 3 rfl) ?_
  refine lv_iload hx hb dX12_copy_87 (lv_at hl 0 rfl) ?_
  refine lv_iadd hx hb dX12_copy_89 ?_
  refine lv_aload_n hx hb dX12_copy_90 rfl (lv_at hl 1 rfl) ?_
  refine va_get (D := (dC, dI)) (ci := 12) (v := .ref o2) (C := RX12) (T := TX12) (N := 29) hx hb hts iw_X12_copy_X12 hown hK hP 0 rfl rfl 28 (by decide) (hts (.fieldLink RX12 67 "HolelessHouseModel" "moving" "[I") (by decide +kernel)) (fun _ h9 => h9) rfl dX12_copy_91 ?_
  refine lv_iload hx hb dX12_copy_94 (lv_at hl 0 rfl) ?_
  refine va_iald hx hb hK hP 2 0 rfl rfl (vin (by decide +kernel)) dX12_copy_96 (tk_i (v := (-9)) (by decide +kernel) ?_)
  refine va_iast hx hb hK hP hD hS 1 0 rfl rfl (vp_in_iff.mpr (by rw [ti_add (C := 8) (by decide +kernel) (by omega) (by omega)]; exact ⟨by omega, by omega⟩)) dX12_copy_97 (fun H locs hP hD hS => ?_)
  have hP : va_P (dC, dI) vwCl [(o0, .inr (12, [.int 0, .ref o3, .int 0, .ref o4, .int 0, .ref o1, .ref o5, .int 0, .ref o6, .int 0, .ref o7, .int (-9), .int 0, .int 0, .ref o8, .ref o9, .ref o10, .ref o11, .ref o12, .int 0, .ref o13, .ref o14, .ref o15, .int 0, .ref o16, .ref o17, .ref o18, .int 0, .ref o2])), (o1, .inl (cI, 12, .inl (upd (upd (upd (upd (upd (upd (upd (upd (upd (fun _ => (-9)) (Int32.toNatClampNeg (a2 + 0)) (-9)) (Int32.toNatClampNeg (a2 + 1)) (-9)) (Int32.toNatClampNeg (a2 + 2)) (-9)) (Int32.toNatClampNeg (a2 + 3)) (-9)) (Int32.toNatClampNeg (a2 + 4)) (-9)) (Int32.toNatClampNeg (a2 + 5)) (-9)) (Int32.toNatClampNeg (a2 + 6)) (-9)) (Int32.toNatClampNeg (a2 + 7)) (-9)) (Int32.toNatClampNeg (a2 + 8)) (-9)))), (o2, .inl (cI, 12, .inl (upd (upd (upd (upd (upd (upd (upd (upd (upd (upd (upd (fun _ => 0) (Int32.toNatClampNeg 0) (-9)) (Int32.toNatClampNeg 1) (-9)) (Int32.toNatClampNeg 2) (-9)) (Int32.toNatClampNeg 3) (-9)) (Int32.toNatClampNeg 4) (-9)) (Int32.toNatClampNeg 5) (-9)) (Int32.toNatClampNeg 6) (-9)) (Int32.toNatClampNeg 7) (-9)) (Int32.toNatClampNeg 8) (-9)) (Int32.toNatClampNeg 9) (-9)) (Int32.toNatClampNeg 10) (-9))))] H := hP
  have hD : va_D A [(o0, .inr (12, [.int 0, .ref o3, .int 0, .ref o4, .int 0, .ref o1, .ref o5, .int 0, .ref o6, .int 0, .ref o7, .int (-9), .int 0, .int 0, .ref o8, .ref o9, .ref o10, .ref o11, .ref o12, .int 0, .ref o13, .ref o14, .ref o15, .int 0, .ref o16, .ref o17, .ref o18, .int 0, .ref o2])), (o1, .inl (cI, 12, .inl (upd (upd (upd (upd (upd (upd (upd (upd (upd (fun _ => (-9)) (Int32.toNatClampNeg (a2 + 0)) (-9)) (Int32.toNatClampNeg (a2 + 1)) (-9)) (Int32.toNatClampNeg (a2 + 2)) (-9)) (Int32.toNatClampNeg (a2 + 3)) (-9)) (Int32.toNatClampNeg (a2 + 4)) (-9)) (Int32.toNatClampNeg (a2 + 5)) (-9)) (Int32.toNatClampNeg (a2 + 6)) (-9)) (Int32.toNatClampNeg (a2 + 7)) (-9)) (Int32.toNatClampNeg (a2 + 8)) (-9)))), (o2, .inl (cI, 12, .inl (upd (upd (upd (upd (upd (upd (upd (upd (upd (upd (upd (fun _ => 0) (Int32.toNatClampNeg 0) (-9)) (Int32.toNatClampNeg 1) (-9)) (Int32.toNatClampNeg 2) (-9)) (Int32.toNatClampNeg 3) (-9)) (Int32.toNatClampNeg 4) (-9)) (Int32.toNatClampNeg 5) (-9)) (Int32.toNatClampNeg 6) (-9)) (Int32.toNatClampNeg 7) (-9)) (Int32.toNatClampNeg 8) (-9)) (Int32.toNatClampNeg 9) (-9)) (Int32.toNatClampNeg 10) (-9))))] := hD
  refine lv_iinc (v := 9) (lv' := [(4, .int 9), (0, .ref o0), (1, .int a1), (2, .int a2), (3, .int 11)]) hx hb dX12_copy_98 hl (k := 0) rfl (by decide +kernel) (by decide) rfl (fun ls hl => ?_)
  refine lv_goto (tgt := 76) hx hb dX12_copy_101 (by decide) ?_
  refine lv_iload hx hb dX12_copy_76 (lv_at hl 0 rfl) ?_
  refine lv_iload_n hx hb dX12_copy_78 rfl (lv_at hl 4 rfl) ?_
  refine lv_icmp_ge (tgt := 104) hx hb dX12_copy_79 (by decide) (fun h9 => absurd h9 (by decide +kernel)) (fun _ => ?_)
  refine lv_aload_n hx hb dX12_copy_82 rfl (lv_at hl 1 rfl) ?_
  refine va_get (D := (dC, dI)) (ci := 12) (v := .ref o1) (C := RX12) (T := TX12) (N := 29) hx hb hts iw_X12_copy_X12 hown hK hP 0 rfl rfl 5 (by decide) (hts (.fieldLink RX12 16 "HolelessHouseModel" "rows" "[I") (by decide +kernel)) (fun _ h9 => h9) rfl dX12_copy_83 ?_
  refine lv_iload_n hx hb dX12_copy_86 rfl (lv_at hl 3 rfl) ?_
  refine lv_iload hx hb dX12_copy_87 (lv_at hl 0 rfl) ?_
  refine lv_iadd hx hb dX12_copy_89 ?_
  refine lv_aload_n hx hb dX12_copy_90 rfl (lv_at hl 1 rfl) ?_
  refine va_get (D := (dC, dI)) (ci := 12) (v := .ref o2) (C := RX12) (T := TX12) (N := 29) hx hb hts iw_X12_copy_X12 hown hK hP 0 rfl rfl 28 (by decide) (hts (.fieldLink RX12 67 "HolelessHouseModel" "moving" "[I") (by decide +kernel)) (fun _ h9 => h9) rfl dX12_copy_91 ?_
  refine lv_iload hx hb dX12_copy_94 (lv_at hl 0 rfl) ?_
  refine va_iald hx hb hK hP 2 0 rfl rfl (vin (by decide +kernel)) dX12_copy_96 (tk_i (v := (-9)) (by decide +kernel) ?_)
  refine va_iast hx hb hK hP hD hS 1 0 rfl rfl (vp_in_iff.mpr (by rw [ti_add (C := 9) (by decide +kernel) (by omega) (by omega)]; exact ⟨by omega, by omega⟩)) dX12_copy_97 (fun H locs hP hD hS => ?_)
  have hP : va_P (dC, dI) vwCl [(o0, .inr (12, [.int 0, .ref o3, .int 0, .ref o4, .int 0, .ref o1, .ref o5, .int 0, .ref o6, .int 0, .ref o7, .int (-9), .int 0, .int 0, .ref o8, .ref o9, .ref o10, .ref o11, .ref o12, .int 0, .ref o13, .ref o14, .ref o15, .int 0, .ref o16, .ref o17, .ref o18, .int 0, .ref o2])), (o1, .inl (cI, 12, .inl (upd (upd (upd (upd (upd (upd (upd (upd (upd (upd (fun _ => (-9)) (Int32.toNatClampNeg (a2 + 0)) (-9)) (Int32.toNatClampNeg (a2 + 1)) (-9)) (Int32.toNatClampNeg (a2 + 2)) (-9)) (Int32.toNatClampNeg (a2 + 3)) (-9)) (Int32.toNatClampNeg (a2 + 4)) (-9)) (Int32.toNatClampNeg (a2 + 5)) (-9)) (Int32.toNatClampNeg (a2 + 6)) (-9)) (Int32.toNatClampNeg (a2 + 7)) (-9)) (Int32.toNatClampNeg (a2 + 8)) (-9)) (Int32.toNatClampNeg (a2 + 9)) (-9)))), (o2, .inl (cI, 12, .inl (upd (upd (upd (upd (upd (upd (upd (upd (upd (upd (upd (fun _ => 0) (Int32.toNatClampNeg 0) (-9)) (Int32.toNatClampNeg 1) (-9)) (Int32.toNatClampNeg 2) (-9)) (Int32.toNatClampNeg 3) (-9)) (Int32.toNatClampNeg 4) (-9)) (Int32.toNatClampNeg 5) (-9)) (Int32.toNatClampNeg 6) (-9)) (Int32.toNatClampNeg 7) (-9)) (Int32.toNatClampNeg 8) (-9)) (Int32.toNatClampNeg 9) (-9)) (Int32.toNatClampNeg 10) (-9))))] H := hP
  have hD : va_D A [(o0, .inr (12, [.int 0, .ref o3, .int 0, .ref o4, .int 0, .ref o1, .ref o5, .int 0, .ref o6, .int 0, .ref o7, .int (-9), .int 0, .int 0, .ref o8, .ref o9, .ref o10, .ref o11, .ref o12, .int 0, .ref o13, .ref o14, .ref o15, .int 0, .ref o16, .ref o17, .ref o18, .int 0, .ref o2])), (o1, .inl (cI, 12, .inl (upd (upd (upd (upd (upd (upd (upd (upd (upd (upd (fun _ => (-9)) (Int32.toNatClampNeg (a2 + 0)) (-9)) (Int32.toNatClampNeg (a2 + 1)) (-9)) (Int32.toNatClampNeg (a2 + 2)) (-9)) (Int32.toNatClampNeg (a2 + 3)) (-9)) (Int32.toNatClampNeg (a2 + 4)) (-9)) (Int32.toNatClampNeg (a2 + 5)) (-9)) (Int32.toNatClampNeg (a2 + 6)) (-9)) (Int32.toNatClampNeg (a2 + 7)) (-9)) (Int32.toNatClampNeg (a2 + 8)) (-9)) (Int32.toNatClampNeg (a2 + 9)) (-9)))), (o2, .inl (cI, 12, .inl (upd (upd (upd (upd (upd (upd (upd (upd (upd (upd (upd (fun _ => 0) (Int32.toNatClampNeg 0) (-9)) (Int32.toNatClampNeg 1) (-9)) (Int32.toNatClampNeg 2) (-9)) (Int32.toNatClampNeg 3) (-9)) (Int32.toNatClampNeg 4) (-9)) (Int32.toNatClampNeg 5) (-9)) (Int32.toNatClampNeg 6) (-9)) (Int32.toNatClampNeg 7) (-9)) (Int32.toNatClampNeg 8) (-9)) (Int32.toNatClampNeg 9) (-9)) (Int32.toNatClampNeg 10) (-9))))] := hD
  refine lv_iinc (v := 10) (lv' := [(4, .int 10), (0, .ref o0), (1, .int a1), (2, .int a2), (3, .int 11)]) hx hb dX12_copy_98 hl (k := 0) rfl (by decide +kernel) (by decide) rfl (fun ls hl => ?_)
  refine lv_goto (tgt := 76) hx hb dX12_copy_101 (by decide) ?_
  refine lv_iload hx hb dX12_copy_76 (lv_at hl 0 rfl) ?_
  refine lv_iload_n hx hb dX12_copy_78 rfl (lv_at hl 4 rfl) ?_
  refine lv_icmp_ge (tgt := 104) hx hb dX12_copy_79 (by decide) (fun h9 => absurd h9 (by decide +kernel)) (fun _ => ?_)
  refine lv_aload_n hx hb dX12_copy_82 rfl (lv_at hl 1 rfl) ?_
  refine va_get (D := (dC, dI)) (ci := 12) (v := .ref o1) (C := RX12) (T := TX12) (N := 29) hx hb hts iw_X12_copy_X12 hown hK hP 0 rfl rfl 5 (by decide) (hts (.fieldLink RX12 16 "HolelessHouseModel" "rows" "[I") (by decide +kernel)) (fun _ h9 => h9) rfl dX12_copy_83 ?_
  refine lv_iload_n hx hb dX12_copy_86 rfl (lv_at hl 3 rfl) ?_
  refine lv_iload hx hb dX12_copy_87 (lv_at hl 0 rfl) ?_
  refine lv_iadd hx hb dX12_copy_89 ?_
  refine lv_aload_n hx hb dX12_copy_90 rfl (lv_at hl 1 rfl) ?_
  refine va_get (D := (dC, dI)) (ci := 12) (v := .ref o2) (C := RX12) (T := TX12) (N := 29) hx hb hts iw_X12_copy_X12 hown hK hP 0 rfl rfl 28 (by decide) (hts (.fieldLink RX12 67 "HolelessHouseModel" "moving" "[I") (by decide +kernel)) (fun _ h9 => h9) rfl dX12_copy_91 ?_
  refine lv_iload hx hb dX12_copy_94 (lv_at hl 0 rfl) ?_
  refine va_iald hx hb hK hP 2 0 rfl rfl (vin (by decide +kernel)) dX12_copy_96 (tk_i (v := (-9)) (by decide +kernel) ?_)
  refine va_iast hx hb hK hP hD hS 1 0 rfl rfl (vp_in_iff.mpr (by rw [ti_add (C := 10) (by decide +kernel) (by omega) (by omega)]; exact ⟨by omega, by omega⟩)) dX12_copy_97 (fun H locs hP hD hS => ?_)
  have hP : va_P (dC, dI) vwCl [(o0, .inr (12, [.int 0, .ref o3, .int 0, .ref o4, .int 0, .ref o1, .ref o5, .int 0, .ref o6, .int 0, .ref o7, .int (-9), .int 0, .int 0, .ref o8, .ref o9, .ref o10, .ref o11, .ref o12, .int 0, .ref o13, .ref o14, .ref o15, .int 0, .ref o16, .ref o17, .ref o18, .int 0, .ref o2])), (o1, .inl (cI, 12, .inl (upd (upd (upd (upd (upd (upd (upd (upd (upd (upd (upd (fun _ => (-9)) (Int32.toNatClampNeg (a2 + 0)) (-9)) (Int32.toNatClampNeg (a2 + 1)) (-9)) (Int32.toNatClampNeg (a2 + 2)) (-9)) (Int32.toNatClampNeg (a2 + 3)) (-9)) (Int32.toNatClampNeg (a2 + 4)) (-9)) (Int32.toNatClampNeg (a2 + 5)) (-9)) (Int32.toNatClampNeg (a2 + 6)) (-9)) (Int32.toNatClampNeg (a2 + 7)) (-9)) (Int32.toNatClampNeg (a2 + 8)) (-9)) (Int32.toNatClampNeg (a2 + 9)) (-9)) (Int32.toNatClampNeg (a2 + 10)) (-9)))), (o2, .inl (cI, 12, .inl (upd (upd (upd (upd (upd (upd (upd (upd (upd (upd (upd (fun _ => 0) (Int32.toNatClampNeg 0) (-9)) (Int32.toNatClampNeg 1) (-9)) (Int32.toNatClampNeg 2) (-9)) (Int32.toNatClampNeg 3) (-9)) (Int32.toNatClampNeg 4) (-9)) (Int32.toNatClampNeg 5) (-9)) (Int32.toNatClampNeg 6) (-9)) (Int32.toNatClampNeg 7) (-9)) (Int32.toNatClampNeg 8) (-9)) (Int32.toNatClampNeg 9) (-9)) (Int32.toNatClampNeg 10) (-9))))] H := hP
  have hD : va_D A [(o0, .inr (12, [.int 0, .ref o3, .int 0, .ref o4, .int 0, .ref o1, .ref o5, .int 0, .ref o6, .int 0, .ref o7, .int (-9), .int 0, .int 0, .ref o8, .ref o9, .ref o10, .ref o11, .ref o12, .int 0, .ref o13, .ref o14, .ref o15, .int 0, .ref o16, .ref o17, .ref o18, .int 0, .ref o2])), (o1, .inl (cI, 12, .inl (upd (upd (upd (upd (upd (upd (upd (upd (upd (upd (upd (fun _ => (-9)) (Int32.toNatClampNeg (a2 + 0)) (-9)) (Int32.toNatClampNeg (a2 + 1)) (-9)) (Int32.toNatClampNeg (a2 + 2)) (-9)) (Int32.toNatClampNeg (a2 + 3)) (-9)) (Int32.toNatClampNeg (a2 + 4)) (-9)) (Int32.toNatClampNeg (a2 + 5)) (-9)) (Int32.toNatClampNeg (a2 + 6)) (-9)) (Int32.toNatClampNeg (a2 + 7)) (-9)) (Int32.toNatClampNeg (a2 + 8)) (-9)) (Int32.toNatClampNeg (a2 + 9)) (-9)) (Int32.toNatClampNeg (a2 + 10)) (-9)))), (o2, .inl (cI, 12, .inl (upd (upd (upd (upd (upd (upd (upd (upd (upd (upd (upd (fun _ => 0) (Int32.toNatClampNeg 0) (-9)) (Int32.toNatClampNeg 1) (-9)) (Int32.toNatClampNeg 2) (-9)) (Int32.toNatClampNeg 3) (-9)) (Int32.toNatClampNeg 4) (-9)) (Int32.toNatClampNeg 5) (-9)) (Int32.toNatClampNeg 6) (-9)) (Int32.toNatClampNeg 7) (-9)) (Int32.toNatClampNeg 8) (-9)) (Int32.toNatClampNeg 9) (-9)) (Int32.toNatClampNeg 10) (-9))))] := hD
  refine lv_iinc (v := 11) (lv' := [(4, .int 11), (0, .ref o0), (1, .int a1), (2, .int a2), (3, .int 11)]) hx hb dX12_copy_98 hl (k := 0) rfl (by decide +kernel) (by decide) rfl (fun ls hl => ?_)
  refine lv_goto (tgt := 76) hx hb dX12_copy_101 (by decide) ?_
  refine lv_iload hx hb dX12_copy_76 (lv_at hl 0 rfl) ?_
  refine lv_iload_n hx hb dX12_copy_78 rfl (lv_at hl 4 rfl) ?_
  refine lv_icmp_ge (tgt := 104) hx hb dX12_copy_79 (by decide) (fun _ => ?_) (fun h9 => absurd (by decide +kernel) h9)
  refine lv_iconst (v := 1) hx hb dX12_copy_104 (by decide) ?_
  have hP9 := hP.sub (ws' := []) [] rfl
  have hD9 := hD.sub (ws' := []) [] (by decide) rfl
  exact W.iret (v := 1) hx hb hr (fun t ht hW => ⟨⟨1, (), rfl, rfl, by rw [ht]; exact hP9, va_K.moved hW.alike hK, hD9⟩, hS.F ht⟩) hS.2.2 dX12_copy_105
