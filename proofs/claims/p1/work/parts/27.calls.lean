theorem iw_X1_widest_X1 : ∀ w ∈ wsX10, w ∈ wsX1_widest := by decide +kernel
set_option maxHeartbeats 1000000 in
set_option maxRecDepth 100000 in
theorem kX1_widest_1 (l : Launch) (dC : Nat → ClassId) (dI : Nat → Nat → Nat) (cI c2 : ClassId) (o0 : Nat) (o1 : Nat) (o2 : Nat) (o3 : Nat) (o4 : Nat) (sz : Nat) : Met l yX1_widest wsX1_widest ({ frames := 0, cells := 0, slots := 0, locals := 0 }) (va_Pc [.ref o0] (wPre (dC, dI) [(cI, .int), (c2, .array .int)] [(o0, .inr (1, [.int 0, .ref o1, .ref o2, .ref o3, .ref o4, .int 0, .int 0, .int (-1)]))] sz)) (va_Qi (fun (r : Int32) (_ : Unit) => r = 0) (fun _ t => wPost (dC, dI) [(cI, .int), (c2, .array .int)] (va_A [(o0, .inr (1, [.int 0, .ref o1, .ref o2, .ref o3, .ref o4, .int 0, .int 0, .int (-1)]))] sz) [(o0, .inr (1, [.int 0, .ref o1, .ref o2, .ref o3, .ref o4, .int 0, .int 0, .int (-1)]))] t) (va_A [(o0, .inr (1, [.int 0, .ref o1, .ref o2, .ref o3, .ref o4, .int 0, .int 0, .int (-1)]))] sz)) 0 0 (va_A [(o0, .inr (1, [.int 0, .ref o1, .ref o2, .ref o3, .ref o4, .int 0, .int 0, .int (-1)]))] sz) := by
  refine Met.ofW (cc := cX1_widest) (maxL := 3) (ret := (some .int)) (by decide) rfl ?_
  intro p e s m args below meth c s₁ B hml hv
  obtain ⟨rfl, hsz, hP, hK, hD0, hN⟩ := hv
  have hx := B.exec
  have hb := B.bytes
  have hr := B.returns
  have hts := atoms_spec (ws := wsX1_widest) B.pre
  have hown : s.vm.findClass RX1 = some m.cls := findClass_of_methodNamed B.named
  have hlocks := B.notSynchronized
  subst hsz
  have hD := hD0.self (sz := s.heap.size)
  generalize hAe : va_A [(o0, .inr (1, [.int 0, .ref o1, .ref o2, .ref o3, .ref o4, .int 0, .int 0, .int (-1)]))] s.heap.size = A at hD ⊢
  have hA : ∀ q : Nat, s.heap.size ≤ q → A q := fun q h => by rw [← hAe]; exact Or.inr h
  have hS : va_S A s.heap s.heap [] := va_S.rf
  have hP : va_P (dC, dI) vwCl [(o0, .inr (1, [.int 0, .ref o1, .ref o2, .ref o3, .ref o4, .int 0, .int 0, .int (-1)]))] s.heap := hP
  have hl := lv_entry ([.ref o0]) (n := 3) (Nat.le_of_ble_eq_true rfl)
  rw [lg_entry_eq]
  generalize (lg_sl ([.ref o0]) ++ List.replicate (3 - (lg_sl ([.ref o0])).length) Slot.unset).toArray = ls at hl ⊢
  have hl : lv_has ls 3 [(0, .ref o0)] := hl
  refine lv_iconst (v := 0) hx hb dX1_widest_0 (by decide) ?_
  refine lv_istore_n (lv' := [(1, .int 0), (0, .ref o0)]) hx hb dX1_widest_1 rfl hl (by decide) rfl (fun ls hl => ?_)
  refine lv_iconst (v := 0) hx hb dX1_widest_2 (by decide) ?_
  refine lv_istore_n (lv' := [(2, .int 0), (1, .int 0), (0, .ref o0)]) hx hb dX1_widest_3 rfl hl (by decide) rfl (fun ls hl => ?_)
  refine lv_iload_n hx hb dX1_widest_4 rfl (lv_at hl 0 rfl) ?_
  refine lv_aload_n hx hb dX1_widest_5 rfl (lv_at hl 2 rfl) ?_
  refine va_get (D := (dC, dI)) (ci := 1) (v := .int 0) (C := RX1) (T := TX1) (N := 8) hx hb hts iw_X1_widest_X1 hown hK hP 0 rfl rfl 5 (by decide) (hts (.fieldLink RX1 24 "HolelessHouse$Cliques" "size" "I") (by decide +kernel)) (fun _ h9 => h9) rfl dX1_widest_6 ?_
  refine lv_icmp_ge (tgt := 41) hx hb dX1_widest_9 (by decide) (fun _ => ?_) (fun h9 => absurd (by decide +kernel) h9)
  refine lv_iload_n hx hb dX1_widest_41 rfl (lv_at hl 1 rfl) ?_
  have hP9 := hP.sub (ws' := [(o0, .inr (1, [.int 0, .ref o1, .ref o2, .ref o3, .ref o4, .int 0, .int 0, .int (-1)]))]) [0] rfl
  have hD9 := hD.sub (ws' := [(o0, .inr (1, [.int 0, .ref o1, .ref o2, .ref o3, .ref o4, .int 0, .int 0, .int (-1)]))]) [0] (by decide) rfl
  exact W.iret (v := 0) hx hb hr (fun t ht hW => ⟨⟨0, (), rfl, rfl, by rw [ht]; exact hP9, va_K.moved hW.alike hK, hD9⟩, hS.F ht⟩) hS.2.2 dX1_widest_42
set_option maxHeartbeats 1000000 in
set_option maxRecDepth 100000 in
theorem kJ6_bitCount_0f7a4_1 (l : Launch) (dC : Nat → ClassId) (dI : Nat → Nat → Nat) (cI c2 : ClassId) (sz : Nat) : Met l yJ6_bitCount_0f7a4 wsJ6_bitCount_0f7a4 ({ frames := 0, cells := 0, slots := 0, locals := 0 }) (va_Pc [.int 0] (wPre (dC, dI) [(cI, .int), (c2, .array .int)] [] sz)) (va_Qi (fun (r : Int32) (_ : Unit) => r = 0) (fun _ t => wPost (dC, dI) [(cI, .int), (c2, .array .int)] (va_A [] sz) [] t) (va_A [] sz)) 0 0 (va_A [] sz) := by
  refine Met.ofW (cc := cJ6_bitCount_0f7a4) (maxL := 1) (ret := (some .int)) (by decide) rfl ?_
  intro p e s m args below meth c s₁ B hml hv
  obtain ⟨rfl, hsz, hP, hK, hD0, hN⟩ := hv
  have hx := B.exec
  have hb := B.bytes
  have hr := B.returns
  have hts := atoms_spec (ws := wsJ6_bitCount_0f7a4) B.pre
  have hown : s.vm.findClass RJ6 = some m.cls := findClass_of_methodNamed B.named
  have hlocks := B.notSynchronized
  subst hsz
  have hD := hD0.self (sz := s.heap.size)
  generalize hAe : va_A [] s.heap.size = A at hD ⊢
  have hA : ∀ q : Nat, s.heap.size ≤ q → A q := fun q h => by rw [← hAe]; exact Or.inr h
  have hS : va_S A s.heap s.heap [] := va_S.rf
  have hP : va_P (dC, dI) vwCl [] s.heap := hP
  have hl := lv_entry ([.int 0]) (n := 1) (Nat.le_of_ble_eq_true rfl)
  rw [lg_entry_eq]
  generalize (lg_sl ([.int 0]) ++ List.replicate (1 - (lg_sl ([.int 0])).length) Slot.unset).toArray = ls at hl ⊢
  have hl : lv_has ls 1 [(0, .int 0)] := hl
  refine lv_iload_n hx hb dJ6_bitCount_0f7a4_0 rfl (lv_at hl 0 rfl) ?_
  refine lv_iload_n hx hb dJ6_bitCount_0f7a4_1 rfl (lv_at hl 0 rfl) ?_
  refine lv_iconst (v := 1) hx hb dJ6_bitCount_0f7a4_2 (by decide) ?_
  refine lv_iushr (v := 0) hx hb dJ6_bitCount_0f7a4_3 (by decide +kernel) ?_
  refine lv_ldcw (v := 1431655765) hx hb hown (hts (.constant RJ6 265 (1431655765)) (by decide +kernel)) dJ6_bitCount_0f7a4_4 ?_
  refine lv_iand hx hb dJ6_bitCount_0f7a4_7 (tk_i (v := 0) (by decide +kernel) ?_)
  refine lv_isub hx hb dJ6_bitCount_0f7a4_8 (tk_i (v := 0) (by decide +kernel) ?_)
  refine lv_istore_n (lv' := [(0, .int 0)]) hx hb dJ6_bitCount_0f7a4_9 rfl hl (by decide) rfl (fun ls hl => ?_)
  refine lv_iload_n hx hb dJ6_bitCount_0f7a4_10 rfl (lv_at hl 0 rfl) ?_
  refine lv_ldcw (v := 858993459) hx hb hown (hts (.constant RJ6 266 (858993459)) (by decide +kernel)) dJ6_bitCount_0f7a4_11 ?_
  refine lv_iand hx hb dJ6_bitCount_0f7a4_14 (tk_i (v := 0) (by decide +kernel) ?_)
  refine lv_iload_n hx hb dJ6_bitCount_0f7a4_15 rfl (lv_at hl 0 rfl) ?_
  refine lv_iconst (v := 2) hx hb dJ6_bitCount_0f7a4_16 (by decide) ?_
  refine lv_iushr (v := 0) hx hb dJ6_bitCount_0f7a4_17 (by decide +kernel) ?_
  refine lv_ldcw (v := 858993459) hx hb hown (hts (.constant RJ6 266 (858993459)) (by decide +kernel)) dJ6_bitCount_0f7a4_18 ?_
  refine lv_iand hx hb dJ6_bitCount_0f7a4_21 (tk_i (v := 0) (by decide +kernel) ?_)
  refine lv_iadd hx hb dJ6_bitCount_0f7a4_22 (tk_i (v := 0) (by decide +kernel) ?_)
  refine lv_istore_n (lv' := [(0, .int 0)]) hx hb dJ6_bitCount_0f7a4_23 rfl hl (by decide) rfl (fun ls hl => ?_)
  refine lv_iload_n hx hb dJ6_bitCount_0f7a4_24 rfl (lv_at hl 0 rfl) ?_
  refine lv_iload_n hx hb dJ6_bitCount_0f7a4_25 rfl (lv_at hl 0 rfl) ?_
  refine lv_iconst (v := 4) hx hb dJ6_bitCount_0f7a4_26 (by decide) ?_
  refine lv_iushr (v := 0) hx hb dJ6_bitCount_0f7a4_27 (by decide +kernel) ?_
  refine lv_iadd hx hb dJ6_bitCount_0f7a4_28 (tk_i (v := 0) (by decide +kernel) ?_)
  refine lv_ldcw (v := 252645135) hx hb hown (hts (.constant RJ6 267 (252645135)) (by decide +kernel)) dJ6_bitCount_0f7a4_29 ?_
  refine lv_iand hx hb dJ6_bitCount_0f7a4_32 (tk_i (v := 0) (by decide +kernel) ?_)
  refine lv_istore_n (lv' := [(0, .int 0)]) hx hb dJ6_bitCount_0f7a4_33 rfl hl (by decide) rfl (fun ls hl => ?_)
  refine lv_iload_n hx hb dJ6_bitCount_0f7a4_34 rfl (lv_at hl 0 rfl) ?_
  refine lv_iload_n hx hb dJ6_bitCount_0f7a4_35 rfl (lv_at hl 0 rfl) ?_
  refine lv_bipush (v := 8) hx hb dJ6_bitCount_0f7a4_36 (by decide) ?_
  refine lv_iushr (v := 0) hx hb dJ6_bitCount_0f7a4_38 (by decide +kernel) ?_
  refine lv_iadd hx hb dJ6_bitCount_0f7a4_39 (tk_i (v := 0) (by decide +kernel) ?_)
  refine lv_istore_n (lv' := [(0, .int 0)]) hx hb dJ6_bitCount_0f7a4_40 rfl hl (by decide) rfl (fun ls hl => ?_)
  refine lv_iload_n hx hb dJ6_bitCount_0f7a4_41 rfl (lv_at hl 0 rfl) ?_
  refine lv_iload_n hx hb dJ6_bitCount_0f7a4_42 rfl (lv_at hl 0 rfl) ?_
  refine lv_bipush (v := 16) hx hb dJ6_bitCount_0f7a4_43 (by decide) ?_
  refine lv_iushr (v := 0) hx hb dJ6_bitCount_0f7a4_45 (by decide +kernel) ?_
  refine lv_iadd hx hb dJ6_bitCount_0f7a4_46 (tk_i (v := 0) (by decide +kernel) ?_)
  refine lv_istore_n (lv' := [(0, .int 0)]) hx hb dJ6_bitCount_0f7a4_47 rfl hl (by decide) rfl (fun ls hl => ?_)
  refine lv_iload_n hx hb dJ6_bitCount_0f7a4_48 rfl (lv_at hl 0 rfl) ?_
  refine lv_bipush (v := 63) hx hb dJ6_bitCount_0f7a4_49 (by decide) ?_
  refine lv_iand hx hb dJ6_bitCount_0f7a4_51 (tk_i (v := 0) (by decide +kernel) ?_)
  have hP9 := hP.sub (ws' := []) [] rfl
  have hD9 := hD.sub (ws' := []) [] (by decide) rfl
  exact W.iret (v := 0) hx hb hr (fun t ht hW => ⟨⟨0, (), rfl, rfl, by rw [ht]; exact hP9, va_K.moved hW.alike hK, hD9⟩, hS.F ht⟩) hS.2.2 dJ6_bitCount_0f7a4_52
theorem iw_X11_greatest_X11 : ∀ w ∈ wsX110, w ∈ wsX11_greatest := by decide +kernel
set_option maxHeartbeats 1000000 in
set_option maxRecDepth 100000 in
theorem kX11_greatest_1 (l : Launch) (dC : Nat → ClassId) (dI : Nat → Nat → Nat) (cI c2 : ClassId) (o0 : Nat) (o1 : Nat) (o2 : Nat) (o3 : Nat) (o4 : Nat) (o5 : Nat) (o6 : Nat) (o7 : Nat) (o8 : Nat) (o9 : Nat) (o10 : Nat) (o11 : Nat) (o12 : Nat) (o13 : Nat) (o14 : Nat) (o15 : Nat) (o16 : Nat) (o17 : Nat) (sz : Nat) : Met l yX11_greatest wsX11_greatest ({ frames := 4, cells := 0, slots := 0, locals := 92 }) (va_Pc [.ref o0] (wPre (dC, dI) [(cI, .int), (c2, .array .int)] [(o0, .inr (11, [.ref o2, .ref o3, .ref o4, .ref o5, .ref o1, .ref o6, .ref o7, .ref o8, .ref o9, .ref o10, .ref o11, .ref o12, .int 0])), (o1, .inr (1, [.int 0, .ref o13, .ref o14, .ref o15, .ref o16, .int 0, .int (-1), .int (-1)])), (o2, .inr (4, [.ref o17, .int 0, .int 0]))] sz)) (va_Qi (fun (r : Int32) (_ : Unit) => r = 0) (fun _ t => wPost (dC, dI) [(cI, .int), (c2, .array .int)] (va_A [(o0, .inr (11, [.ref o2, .ref o3, .ref o4, .ref o5, .ref o1, .ref o6, .ref o7, .ref o8, .ref o9, .ref o10, .ref o11, .ref o12, .int 0])), (o1, .inr (1, [.int 0, .ref o13, .ref o14, .ref o15, .ref o16, .int 0, .int (-1), .int (-1)])), (o2, .inr (4, [.ref o17, .int 0, .int 0]))] sz) [] t) (va_A [(o0, .inr (11, [.ref o2, .ref o3, .ref o4, .ref o5, .ref o1, .ref o6, .ref o7, .ref o8, .ref o9, .ref o10, .ref o11, .ref o12, .int 0])), (o1, .inr (1, [.int 0, .ref o13, .ref o14, .ref o15, .ref o16, .int 0, .int (-1), .int (-1)])), (o2, .inr (4, [.ref o17, .int 0, .int 0]))] sz)) 0 0 (va_A [(o0, .inr (11, [.ref o2, .ref o3, .ref o4, .ref o5, .ref o1, .ref o6, .ref o7, .ref o8, .ref o9, .ref o10, .ref o11, .ref o12, .int 0])), (o1, .inr (1, [.int 0, .ref o13, .ref o14, .ref o15, .ref o16, .int 0, .int (-1), .int (-1)])), (o2, .inr (4, [.ref o17, .int 0, .int 0]))] sz) := by
  refine Met.ofW (cc := cX11_greatest) (maxL := 1) (ret := (some .int)) (by decide) rfl ?_
  intro p e s m args below meth c s₁ B hml hv
  obtain ⟨rfl, hsz, hP, hK, hD0, hN⟩ := hv
  have hx := B.exec
  have hb := B.bytes
  have hr := B.returns
  have hts := atoms_spec (ws := wsX11_greatest) B.pre
  have hown : s.vm.findClass RX11 = some m.cls := findClass_of_methodNamed B.named
  have hlocks := B.notSynchronized
  subst hsz
  have hD := hD0.self (sz := s.heap.size)
  generalize hAe : va_A [(o0, .inr (11, [.ref o2, .ref o3, .ref o4, .ref o5, .ref o1, .ref o6, .ref o7, .ref o8, .ref o9, .ref o10, .ref o11, .ref o12, .int 0])), (o1, .inr (1, [.int 0, .ref o13, .ref o14, .ref o15, .ref o16, .int 0, .int (-1), .int (-1)])), (o2, .inr (4, [.ref o17, .int 0, .int 0]))] s.heap.size = A at hD ⊢
  have hA : ∀ q : Nat, s.heap.size ≤ q → A q := fun q h => by rw [← hAe]; exact Or.inr h
  have hS : va_S A s.heap s.heap [] := va_S.rf
  have hP : va_P (dC, dI) vwCl [(o0, .inr (11, [.ref o2, .ref o3, .ref o4, .ref o5, .ref o1, .ref o6, .ref o7, .ref o8, .ref o9, .ref o10, .ref o11, .ref o12, .int 0])), (o1, .inr (1, [.int 0, .ref o13, .ref o14, .ref o15, .ref o16, .int 0, .int (-1), .int (-1)])), (o2, .inr (4, [.ref o17, .int 0, .int 0]))] s.heap := hP
  have hl := lv_entry ([.ref o0]) (n := 1) (Nat.le_of_ble_eq_true rfl)
  rw [lg_entry_eq]
  generalize (lg_sl ([.ref o0]) ++ List.replicate (1 - (lg_sl ([.ref o0])).length) Slot.unset).toArray = ls at hl ⊢
  have hl : lv_has ls 1 [(0, .ref o0)] := hl
  refine lv_aload_n hx hb dX11_greatest_0 rfl (lv_at hl 0 rfl) ?_
  refine va_get (D := (dC, dI)) (ci := 11) (v := .ref o1) (C := RX11) (T := TX11) (N := 13) hx hb hts iw_X11_greatest_X11 hown hK hP 0 rfl rfl 4 (by decide) (hts (.fieldLink RX11 42 "HolelessHouse" "cliques" "LHolelessHouse$Cliques;") (by decide +kernel)) (fun _ h9 => h9) rfl dX11_greatest_1 ?_
  refine lv_aload_n hx hb dX11_greatest_4 rfl (lv_at hl 0 rfl) ?_
  refine va_get (D := (dC, dI)) (ci := 11) (v := .ref o2) (C := RX11) (T := TX11) (N := 13) hx hb hts iw_X11_greatest_X11 hown hK hP 0 rfl rfl 0 (by decide) (hts (.fieldLink RX11 10 "HolelessHouse" "graph" "LHolelessHouse$Graph;") (by decide +kernel)) (fun _ h9 => h9) rfl dX11_greatest_5 ?_
  refine kcall_v (D := (dC, dI)) (S := Unit) (wc := [(o1, .inr (1, [.int 0, .ref o13, .ref o14, .ref o15, .ref o16, .int 0, .int (-1), .int (-1)])), (o2, .inr (4, [.ref o17, .int 0, .int 0]))]) (wr := [(o0, .inr (11, [.ref o2, .ref o3, .ref o4, .ref o5, .ref o1, .ref o6, .ref o7, .ref o8, .ref o9, .ref o10, .ref o11, .ref o12, .int 0]))]) (w1 := fun _ => [(o2, .inr (4, [.ref o17, .int 0, .int 0])), (o1, .inr (1, [.int 0, .ref o13, .ref o14, .ref o15, .ref o16, .int 0, .int 0, .int (-1)]))]) (fun hPc hDc => va_runVN (As := [.ref o2]) (rest := []) ⟨hx, hb, hml, hown, hts⟩ (kX1_bring_1 l dC dI cI c2 o1 o2 o13 o14 o15 o16 o17 s.heap.size) ⟨va_cnB 1 hts gX11_greatest_X1_bring_n193 rfl rfl rfl (hN.1 _ ns_105) (hts (.initialized RX1) (by decide +kernel)) (by decide +kernel) ⟨Nat.le_of_ble_eq_true rfl, Nat.le_of_ble_eq_true rfl⟩, (hts (.instanceMethod yX1_bring) (by decide +kernel)), (hts (.selects RX1 yX1_bring yX1_bring) (by decide +kernel))⟩ (pre_V hPc hK hDc hN (ci := 1) (q0 := 0) rfl rfl) rfl rfl hl.1 rfl (lv_room (Nat.le_of_ble_eq_true rfl)) dX11_greatest_8 ⟨Nat.le_of_ble_eq_true rfl, Nat.le_of_ble_eq_true rfl⟩) hP hD hS hA [1, 2] [0] rfl rfl (by decide) (by decide) (by decide) (fun u H locs hP hD hS => ?_)
  have hP : va_P (dC, dI) vwCl [(o0, .inr (11, [.ref o2, .ref o3, .ref o4, .ref o5, .ref o1, .ref o6, .ref o7, .ref o8, .ref o9, .ref o10, .ref o11, .ref o12, .int 0])), (o2, .inr (4, [.ref o17, .int 0, .int 0])), (o1, .inr (1, [.int 0, .ref o13, .ref o14, .ref o15, .ref o16, .int 0, .int 0, .int (-1)]))] H := hP
  have hD : va_D A [(o0, .inr (11, [.ref o2, .ref o3, .ref o4, .ref o5, .ref o1, .ref o6, .ref o7, .ref o8, .ref o9, .ref o10, .ref o11, .ref o12, .int 0])), (o2, .inr (4, [.ref o17, .int 0, .int 0])), (o1, .inr (1, [.int 0, .ref o13, .ref o14, .ref o15, .ref o16, .int 0, .int 0, .int (-1)]))] := hD
  refine lv_aload_n hx hb dX11_greatest_11 rfl (lv_at hl 0 rfl) ?_
  refine va_get (D := (dC, dI)) (ci := 11) (v := .ref o1) (C := RX11) (T := TX11) (N := 13) hx hb hts iw_X11_greatest_X11 hown hK hP 0 rfl rfl 4 (by decide) (hts (.fieldLink RX11 42 "HolelessHouse" "cliques" "LHolelessHouse$Cliques;") (by decide +kernel)) (fun _ h9 => h9) rfl dX11_greatest_12 ?_
  refine kcall_i (D := (dC, dI)) (S := Unit) (v := 0) (wc := [(o1, .inr (1, [.int 0, .ref o13, .ref o14, .ref o15, .ref o16, .int 0, .int 0, .int (-1)]))]) (wr := [(o0, .inr (11, [.ref o2, .ref o3, .ref o4, .ref o5, .ref o1, .ref o6, .ref o7, .ref o8, .ref o9, .ref o10, .ref o11, .ref o12, .int 0])), (o2, .inr (4, [.ref o17, .int 0, .int 0]))]) (w1 := fun _ => [(o1, .inr (1, [.int 0, .ref o13, .ref o14, .ref o15, .ref o16, .int 0, .int 0, .int (-1)]))]) (fun hPc hDc => va_runVN (As := []) (rest := []) ⟨hx, hb, hml, hown, hts⟩ (kX1_widest_1 l dC dI cI c2 o1 o13 o14 o15 o16 H.size) ⟨va_cnB 0 hts gX11_greatest_X1_widest_n199 rfl rfl rfl (hN.1 _ ns_109) (hts (.initialized RX1) (by decide +kernel)) (by decide +kernel) ⟨Nat.le_of_ble_eq_true rfl, Nat.le_of_ble_eq_true rfl⟩, (hts (.instanceMethod yX1_widest) (by decide +kernel)), (hts (.selects RX1 yX1_widest yX1_widest) (by decide +kernel))⟩ (pre_V hPc hK hDc hN (ci := 1) (q0 := 0) rfl rfl) rfl rfl hl.1 rfl (lv_room (Nat.le_of_ble_eq_true rfl)) dX11_greatest_15 ⟨Nat.le_of_ble_eq_true rfl, Nat.le_of_ble_eq_true rfl⟩) hP hD hS hA [2] [0, 1] rfl rfl (by decide) (by decide) (by decide) (fun u H locs hP hD hS => ?_)
  have hP : va_P (dC, dI) vwCl [(o0, .inr (11, [.ref o2, .ref o3, .ref o4, .ref o5, .ref o1, .ref o6, .ref o7, .ref o8, .ref o9, .ref o10, .ref o11, .ref o12, .int 0])), (o2, .inr (4, [.ref o17, .int 0, .int 0])), (o1, .inr (1, [.int 0, .ref o13, .ref o14, .ref o15, .ref o16, .int 0, .int 0, .int (-1)]))] H := hP
  have hD : va_D A [(o0, .inr (11, [.ref o2, .ref o3, .ref o4, .ref o5, .ref o1, .ref o6, .ref o7, .ref o8, .ref o9, .ref o10, .ref o11, .ref o12, .int 0])), (o2, .inr (4, [.ref o17, .int 0, .int 0])), (o1, .inr (1, [.int 0, .ref o13, .ref o14, .ref o15, .ref o16, .int 0, .int 0, .int (-1)]))] := hD
  refine kcall_i (D := (dC, dI)) (S := Unit) (v := 0) (wc := []) (wr := [(o0, .inr (11, [.ref o2, .ref o3, .ref o4, .ref o5, .ref o1, .ref o6, .ref o7, .ref o8, .ref o9, .ref o10, .ref o11, .ref o12, .int 0])), (o2, .inr (4, [.ref o17, .int 0, .int 0])), (o1, .inr (1, [.int 0, .ref o13, .ref o14, .ref o15, .ref o16, .int 0, .int 0, .int (-1)]))]) (w1 := fun _ => []) (fun hPc hDc => va_runS (As := [.int 0]) (rest := []) ⟨hx, hb, hml, hown, hts⟩ (kJ6_bitCount_0f7a4_1 l dC dI cI c2 H.size) (va_cwS 1 hts gX11_greatest_J6_bitCount_0f7a4 rfl rfl rfl (by decide +kernel) ⟨Nat.le_of_ble_eq_true rfl, Nat.le_of_ble_eq_true rfl⟩) (pre_S hPc hK hDc hN) rfl rfl hl.1 rfl (lv_room (Nat.le_of_ble_eq_true rfl)) dX11_greatest_18 ⟨Nat.le_of_ble_eq_true rfl, Nat.le_of_ble_eq_true rfl⟩) hP hD hS hA [] [0, 1, 2] rfl rfl (by decide) (by decide) (by decide) (fun u H locs hP hD hS => ?_)
  have hP : va_P (dC, dI) vwCl [(o0, .inr (11, [.ref o2, .ref o3, .ref o4, .ref o5, .ref o1, .ref o6, .ref o7, .ref o8, .ref o9, .ref o10, .ref o11, .ref o12, .int 0])), (o2, .inr (4, [.ref o17, .int 0, .int 0])), (o1, .inr (1, [.int 0, .ref o13, .ref o14, .ref o15, .ref o16, .int 0, .int 0, .int (-1)]))] H := hP
  have hD : va_D A [(o0, .inr (11, [.ref o2, .ref o3, .ref o4, .ref o5, .ref o1, .ref o6, .ref o7, .ref o8, .ref o9, .ref o10, .ref o11, .ref o12, .int 0])), (o2, .inr (4, [.ref o17, .int 0, .int 0])), (o1, .inr (1, [.int 0, .ref o13, .ref o14, .ref o15, .ref o16, .int 0, .int 0, .int (-1)]))] := hD
  have hP9 := hP.sub (ws' := []) [] rfl
  have hD9 := hD.sub (ws' := []) [] (by decide) rfl
  exact W.iret (v := 0) hx hb hr (fun t ht hW => ⟨⟨0, (), rfl, rfl, by rw [ht]; exact hP9, va_K.moved hW.alike hK, hD9⟩, hS.F ht⟩) hS.2.2 dX11_greatest_21
theorem iw_X12_greatest_X12 : ∀ w ∈ wsX120, w ∈ wsX12_greatest := by decide +kernel
set_option maxHeartbeats 1000000 in
set_option maxRecDepth 100000 in
theorem kX12_greatest_1 (l : Launch) (dC : Nat → ClassId) (dI : Nat → Nat → Nat) (cI c2 : ClassId) (o0 : Nat) (o1 : Nat) (o2 : Nat) (o3 : Nat) (o4 : Nat) (o5 : Nat) (o6 : Nat) (o7 : Nat) (o8 : Nat) (o9 : Nat) (o10 : Nat) (o11 : Nat) (o12 : Nat) (o13 : Nat) (o14 : Nat) (o15 : Nat) (o16 : Nat) (o17 : Nat) (o18 : Nat) (sz : Nat) : Met l yX12_greatest wsX12_greatest ({ frames := 2, cells := 0, slots := 0, locals := 41 }) (va_Pc [.ref o0] (wPre (dC, dI) [(cI, .int), (c2, .array .int)] [(o0, .inr (12, [.int 0, .ref o1, .int 0, .ref o2, .int 0, .ref o3, .ref o4, .int 0, .ref o5, .int 0, .ref o6, .int (-9), .int 0, .int 0, .ref o7, .ref o8, .ref o9, .ref o10, .ref o11, .int 0, .ref o12, .ref o13, .ref o14, .int 0, .ref o15, .ref o16, .ref o17, .int 0, .ref o18]))] sz)) (va_Qi (fun (r : Int32) (_ : Unit) => r = 0) (fun _ t => wPost (dC, dI) [(cI, .int), (c2, .array .int)] (va_A [(o0, .inr (12, [.int 0, .ref o1, .int 0, .ref o2, .int 0, .ref o3, .ref o4, .int 0, .ref o5, .int 0, .ref o6, .int (-9), .int 0, .int 0, .ref o7, .ref o8, .ref o9, .ref o10, .ref o11, .int 0, .ref o12, .ref o13, .ref o14, .int 0, .ref o15, .ref o16, .ref o17, .int 0, .ref o18]))] sz) [] t) (va_A [(o0, .inr (12, [.int 0, .ref o1, .int 0, .ref o2, .int 0, .ref o3, .ref o4, .int 0, .ref o5, .int 0, .ref o6, .int (-9), .int 0, .int 0, .ref o7, .ref o8, .ref o9, .ref o10, .ref o11, .int 0, .ref o12, .ref o13, .ref o14, .int 0, .ref o15, .ref o16, .ref o17, .int 0, .ref o18]))] sz)) 0 0 (va_A [(o0, .inr (12, [.int 0, .ref o1, .int 0, .ref o2, .int 0, .ref o3, .ref o4, .int 0, .ref o5, .int 0, .ref o6, .int (-9), .int 0, .int 0, .ref o7, .ref o8, .ref o9, .ref o10, .ref o11, .int 0, .ref o12, .ref o13, .ref o14, .int 0, .ref o15, .ref o16, .ref o17, .int 0, .ref o18]))] sz) := by
  refine Met.ofW (cc := cX12_greatest) (maxL := 3) (ret := (some .int)) (by decide) rfl ?_
  intro p e s m args below meth c s₁ B hml hv
  obtain ⟨rfl, hsz, hP, hK, hD0, hN⟩ := hv
  have hx := B.exec
  have hb := B.bytes
  have hr := B.returns
  have hts := atoms_spec (ws := wsX12_greatest) B.pre
  have hown : s.vm.findClass RX12 = some m.cls := findClass_of_methodNamed B.named
  have hlocks := B.notSynchronized
  subst hsz
  have hD := hD0.self (sz := s.heap.size)
  generalize hAe : va_A [(o0, .inr (12, [.int 0, .ref o1, .int 0, .ref o2, .int 0, .ref o3, .ref o4, .int 0, .ref o5, .int 0, .ref o6, .int (-9), .int 0, .int 0, .ref o7, .ref o8, .ref o9, .ref o10, .ref o11, .int 0, .ref o12, .ref o13, .ref o14, .int 0, .ref o15, .ref o16, .ref o17, .int 0, .ref o18]))] s.heap.size = A at hD ⊢
  have hA : ∀ q : Nat, s.heap.size ≤ q → A q := fun q h => by rw [← hAe]; exact Or.inr h
  have hS : va_S A s.heap s.heap [] := va_S.rf
  have hP : va_P (dC, dI) vwCl [(o0, .inr (12, [.int 0, .ref o1, .int 0, .ref o2, .int 0, .ref o3, .ref o4, .int 0, .ref o5, .int 0, .ref o6, .int (-9), .int 0, .int 0, .ref o7, .ref o8, .ref o9, .ref o10, .ref o11, .int 0, .ref o12, .ref o13, .ref o14, .int 0, .ref o15, .ref o16, .ref o17, .int 0, .ref o18]))] s.heap := hP
  have hl := lv_entry ([.ref o0]) (n := 3) (Nat.le_of_ble_eq_true rfl)
  rw [lg_entry_eq]
  generalize (lg_sl ([.ref o0]) ++ List.replicate (3 - (lg_sl ([.ref o0])).length) Slot.unset).toArray = ls at hl ⊢
  have hl : lv_has ls 3 [(0, .ref o0)] := hl
  refine lv_aload_n hx hb dX12_greatest_0 rfl (lv_at hl 0 rfl) ?_
  refine kcall_v (D := (dC, dI)) (S := Unit) (wc := [(o0, .inr (12, [.int 0, .ref o1, .int 0, .ref o2, .int 0, .ref o3, .ref o4, .int 0, .ref o5, .int 0, .ref o6, .int (-9), .int 0, .int 0, .ref o7, .ref o8, .ref o9, .ref o10, .ref o11, .int 0, .ref o12, .ref o13, .ref o14, .int 0, .ref o15, .ref o16, .ref o17, .int 0, .ref o18]))]) (wr := []) (w1 := fun _ => [(o0, .inr (12, [.int 0, .ref o1, .int 0, .ref o2, .int 0, .ref o3, .ref o4, .int 0, .ref o5, .int 0, .ref o6, .int (-9), .int 0, .int 0, .ref o7, .ref o8, .ref o9, .ref o10, .ref o11, .int 0, .ref o12, .ref o13, .ref o14, .int 0, .ref o15, .ref o16, .ref o17, .int 0, .ref o18]))]) (fun hPc hDc => va_runV (As := []) (rest := []) ⟨hx, hb, hml, hown, hts⟩ (kX12_setCliques_1 l dC dI cI c2 o0 o1 o2 o3 o4 o5 o6 o7 o8 o9 o10 o11 o12 o13 o14 o15 o16 o17 o18 s.heap.size) (cwV 0 hts gX12_greatest_X12_setCliques rfl rfl rfl (by decide +kernel) ⟨Nat.le_of_ble_eq_true rfl, Nat.le_of_ble_eq_true rfl⟩) (pre_V hPc hK hDc hN (ci := 12) (q0 := 0) rfl rfl) rfl rfl hl.1 rfl (lv_room (Nat.le_of_ble_eq_true rfl)) dX12_greatest_1 ⟨Nat.le_of_ble_eq_true rfl, Nat.le_of_ble_eq_true rfl⟩) hP hD hS hA [0] [] rfl rfl (by decide) (by decide) (by decide) (fun u H locs hP hD hS => ?_)
  have hP : va_P (dC, dI) vwCl [(o0, .inr (12, [.int 0, .ref o1, .int 0, .ref o2, .int 0, .ref o3, .ref o4, .int 0, .ref o5, .int 0, .ref o6, .int (-9), .int 0, .int 0, .ref o7, .ref o8, .ref o9, .ref o10, .ref o11, .int 0, .ref o12, .ref o13, .ref o14, .int 0, .ref o15, .ref o16, .ref o17, .int 0, .ref o18]))] H := hP
  have hD : va_D A [(o0, .inr (12, [.int 0, .ref o1, .int 0, .ref o2, .int 0, .ref o3, .ref o4, .int 0, .ref o5, .int 0, .ref o6, .int (-9), .int 0, .int 0, .ref o7, .ref o8, .ref o9, .ref o10, .ref o11, .int 0, .ref o12, .ref o13, .ref o14, .int 0, .ref o15, .ref o16, .ref o17, .int 0, .ref o18]))] := hD
  refine lv_iconst (v := 0) hx hb dX12_greatest_4 (by decide) ?_
  refine lv_istore_n (lv' := [(1, .int 0), (0, .ref o0)]) hx hb dX12_greatest_5 rfl hl (by decide) rfl (fun ls hl => ?_)
  refine lv_iconst (v := 0) hx hb dX12_greatest_6 (by decide) ?_
  refine lv_istore_n (lv' := [(2, .int 0), (1, .int 0), (0, .ref o0)]) hx hb dX12_greatest_7 rfl hl (by decide) rfl (fun ls hl => ?_)
  refine lv_iload_n hx hb dX12_greatest_8 rfl (lv_at hl 0 rfl) ?_
  refine lv_aload_n hx hb dX12_greatest_9 rfl (lv_at hl 2 rfl) ?_
  refine va_get (D := (dC, dI)) (ci := 12) (v := .int 0) (C := RX12) (T := TX12) (N := 29) hx hb hts iw_X12_greatest_X12 hown hK hP 0 rfl rfl 19 (by decide) (hts (.fieldLink RX12 164 "HolelessHouseModel" "cliqueMany" "I") (by decide +kernel)) (fun _ h9 => h9) rfl dX12_greatest_10 ?_
  refine lv_icmp_ge (tgt := 49) hx hb dX12_greatest_13 (by decide) (fun _ => ?_) (fun h9 => absurd (by decide +kernel) h9)
  refine lv_iload_n hx hb dX12_greatest_49 rfl (lv_at hl 1 rfl) ?_
  have hP9 := hP.sub (ws' := []) [] rfl
  have hD9 := hD.sub (ws' := []) [] (by decide) rfl
  exact W.iret (v := 0) hx hb hr (fun t ht hW => ⟨⟨0, (), rfl, rfl, by rw [ht]; exact hP9, va_K.moved hW.alike hK, hD9⟩, hS.F ht⟩) hS.2.2 dX12_greatest_50
set_option maxHeartbeats 1000000 in
set_option maxRecDepth 100000 in
theorem kX11_sort_1 (l : Launch) (dC : Nat → ClassId) (dI : Nat → Nat → Nat) (cI c2 : ClassId) (o0 : Nat) (o1 : Nat) (o2 : Nat) (o3 : Nat) (o4 : Nat) (o5 : Nat) (o6 : Nat) (o7 : Nat) (o8 : Nat) (o9 : Nat) (o10 : Nat) (o11 : Nat) (o12 : Nat) (sz : Nat) (a1 : Int32) (a1_lo : (-2147483648) ≤ a1.toInt) (a1_hi : a1.toInt ≤ 0) : Met l yX11_sort wsX11_sort ({ frames := 0, cells := 0, slots := 0, locals := 0 }) (va_Pc [.ref o0, .int a1] (wPre (dC, dI) [(cI, .int), (c2, .array .int)] [(o0, .inr (11, [.ref o1, .ref o2, .ref o3, .ref o4, .ref o5, .ref o6, .ref o7, .ref o8, .ref o9, .ref o10, .ref o11, .ref o12, .int 0]))] sz)) (va_Qi (fun (r : Int32) (_ : Unit) => r = (-1)) (fun _ t => wPost (dC, dI) [(cI, .int), (c2, .array .int)] (va_A [(o0, .inr (11, [.ref o1, .ref o2, .ref o3, .ref o4, .ref o5, .ref o6, .ref o7, .ref o8, .ref o9, .ref o10, .ref o11, .ref o12, .int 0]))] sz) [] t) (va_A [(o0, .inr (11, [.ref o1, .ref o2, .ref o3, .ref o4, .ref o5, .ref o6, .ref o7, .ref o8, .ref o9, .ref o10, .ref o11, .ref o12, .int 0]))] sz)) 0 0 (va_A [(o0, .inr (11, [.ref o1, .ref o2, .ref o3, .ref o4, .ref o5, .ref o6, .ref o7, .ref o8, .ref o9, .ref o10, .ref o11, .ref o12, .int 0]))] sz) := by
  refine Met.ofW (cc := cX11_sort) (maxL := 4) (ret := (some .int)) (by decide) rfl ?_
  intro p e s m args below meth c s₁ B hml hv
  obtain ⟨rfl, hsz, hP, hK, hD0, hN⟩ := hv
  have hx := B.exec
  have hb := B.bytes
  have hr := B.returns
  have hts := atoms_spec (ws := wsX11_sort) B.pre
  have hown : s.vm.findClass RX11 = some m.cls := findClass_of_methodNamed B.named
  have hlocks := B.notSynchronized
  subst hsz
  have hD := hD0.self (sz := s.heap.size)
  generalize hAe : va_A [(o0, .inr (11, [.ref o1, .ref o2, .ref o3, .ref o4, .ref o5, .ref o6, .ref o7, .ref o8, .ref o9, .ref o10, .ref o11, .ref o12, .int 0]))] s.heap.size = A at hD ⊢
  have hA : ∀ q : Nat, s.heap.size ≤ q → A q := fun q h => by rw [← hAe]; exact Or.inr h
  have hS : va_S A s.heap s.heap [] := va_S.rf
  have hP : va_P (dC, dI) vwCl [(o0, .inr (11, [.ref o1, .ref o2, .ref o3, .ref o4, .ref o5, .ref o6, .ref o7, .ref o8, .ref o9, .ref o10, .ref o11, .ref o12, .int 0]))] s.heap := hP
  have hl := lv_entry ([.ref o0, .int a1]) (n := 4) (Nat.le_of_ble_eq_true rfl)
  rw [lg_entry_eq]
  generalize (lg_sl ([.ref o0, .int a1]) ++ List.replicate (4 - (lg_sl ([.ref o0, .int a1])).length) Slot.unset).toArray = ls at hl ⊢
  have hl : lv_has ls 4 [(0, .ref o0), (1, .int a1)] := hl
  refine lv_iload_n hx hb dX11_sort_0 rfl (lv_at hl 1 rfl) ?_
  refine lv_if_le (tgt := 15) hx hb dX11_sort_1 (by decide) (fun _ => ?_) (fun h9 => absurd (ib_le (X := a1.toInt) (Y := 0) rfl (by decide +kernel) (by omega)) h9)
  refine lv_iconst (v := (-1)) hx hb dX11_sort_15 (by decide) ?_
  have hP9 := hP.sub (ws' := []) [] rfl
  have hD9 := hD.sub (ws' := []) [] (by decide) rfl
  exact W.iret (v := (-1)) hx hb hr (fun t ht hW => ⟨⟨(-1), (), rfl, rfl, by rw [ht]; exact hP9, va_K.moved hW.alike hK, hD9⟩, hS.F ht⟩) hS.2.2 dX11_sort_16
set_option maxHeartbeats 1000000 in
set_option maxRecDepth 100000 in
theorem kX12_sort_1 (l : Launch) (dC : Nat → ClassId) (dI : Nat → Nat → Nat) (cI c2 : ClassId) (o0 : Nat) (o1 : Nat) (o2 : Nat) (o3 : Nat) (o4 : Nat) (o5 : Nat) (o6 : Nat) (o7 : Nat) (o8 : Nat) (o9 : Nat) (o10 : Nat) (o11 : Nat) (o12 : Nat) (o13 : Nat) (o14 : Nat) (o15 : Nat) (o16 : Nat) (o17 : Nat) (o18 : Nat) (sz : Nat) (a1 : Int32) (a1_lo : (-2147483648) ≤ a1.toInt) (a1_hi : a1.toInt ≤ 0) : Met l yX12_sort wsX12_sort ({ frames := 0, cells := 0, slots := 0, locals := 0 }) (va_Pc [.ref o0, .int a1] (wPre (dC, dI) [(cI, .int), (c2, .array .int)] [(o0, .inr (12, [.int 0, .ref o1, .int 0, .ref o2, .int 0, .ref o3, .ref o4, .int 0, .ref o5, .int 0, .ref o6, .int (-9), .int 0, .int 0, .ref o7, .ref o8, .ref o9, .ref o10, .ref o11, .int 0, .ref o12, .ref o13, .ref o14, .int 0, .ref o15, .ref o16, .ref o17, .int 0, .ref o18]))] sz)) (va_Qi (fun (r : Int32) (_ : Unit) => r = (-1)) (fun _ t => wPost (dC, dI) [(cI, .int), (c2, .array .int)] (va_A [(o0, .inr (12, [.int 0, .ref o1, .int 0, .ref o2, .int 0, .ref o3, .ref o4, .int 0, .ref o5, .int 0, .ref o6, .int (-9), .int 0, .int 0, .ref o7, .ref o8, .ref o9, .ref o10, .ref o11, .int 0, .ref o12, .ref o13, .ref o14, .int 0, .ref o15, .ref o16, .ref o17, .int 0, .ref o18]))] sz) [] t) (va_A [(o0, .inr (12, [.int 0, .ref o1, .int 0, .ref o2, .int 0, .ref o3, .ref o4, .int 0, .ref o5, .int 0, .ref o6, .int (-9), .int 0, .int 0, .ref o7, .ref o8, .ref o9, .ref o10, .ref o11, .int 0, .ref o12, .ref o13, .ref o14, .int 0, .ref o15, .ref o16, .ref o17, .int 0, .ref o18]))] sz)) 0 0 (va_A [(o0, .inr (12, [.int 0, .ref o1, .int 0, .ref o2, .int 0, .ref o3, .ref o4, .int 0, .ref o5, .int 0, .ref o6, .int (-9), .int 0, .int 0, .ref o7, .ref o8, .ref o9, .ref o10, .ref o11, .int 0, .ref o12, .ref o13, .ref o14, .int 0, .ref o15, .ref o16, .ref o17, .int 0, .ref o18]))] sz) := by
  refine Met.ofW (cc := cX12_sort) (maxL := 2) (ret := (some .int)) (by decide) rfl ?_
  intro p e s m args below meth c s₁ B hml hv
  obtain ⟨rfl, hsz, hP, hK, hD0, hN⟩ := hv
  have hx := B.exec
  have hb := B.bytes
  have hr := B.returns
  have hts := atoms_spec (ws := wsX12_sort) B.pre
  have hown : s.vm.findClass RX12 = some m.cls := findClass_of_methodNamed B.named
  have hlocks := B.notSynchronized
  subst hsz
  have hD := hD0.self (sz := s.heap.size)
  generalize hAe : va_A [(o0, .inr (12, [.int 0, .ref o1, .int 0, .ref o2, .int 0, .ref o3, .ref o4, .int 0, .ref o5, .int 0, .ref o6, .int (-9), .int 0, .int 0, .ref o7, .ref o8, .ref o9, .ref o10, .ref o11, .int 0, .ref o12, .ref o13, .ref o14, .int 0, .ref o15, .ref o16, .ref o17, .int 0, .ref o18]))] s.heap.size = A at hD ⊢
  have hA : ∀ q : Nat, s.heap.size ≤ q → A q := fun q h => by rw [← hAe]; exact Or.inr h
  have hS : va_S A s.heap s.heap [] := va_S.rf
  have hP : va_P (dC, dI) vwCl [(o0, .inr (12, [.int 0, .ref o1, .int 0, .ref o2, .int 0, .ref o3, .ref o4, .int 0, .ref o5, .int 0, .ref o6, .int (-9), .int 0, .int 0, .ref o7, .ref o8, .ref o9, .ref o10, .ref o11, .int 0, .ref o12, .ref o13, .ref o14, .int 0, .ref o15, .ref o16, .ref o17, .int 0, .ref o18]))] s.heap := hP
  have hl := lv_entry ([.ref o0, .int a1]) (n := 2) (Nat.le_of_ble_eq_true rfl)
  rw [lg_entry_eq]
  generalize (lg_sl ([.ref o0, .int a1]) ++ List.replicate (2 - (lg_sl ([.ref o0, .int a1])).length) Slot.unset).toArray = ls at hl ⊢
  have hl : lv_has ls 2 [(0, .ref o0), (1, .int a1)] := hl
  refine lv_iload_n hx hb dX12_sort_0 rfl (lv_at hl 1 rfl) ?_
  refine lv_if_le (tgt := 15) hx hb dX12_sort_1 (by decide) (fun _ => ?_) (fun h9 => absurd (ib_le (X := a1.toInt) (Y := 0) rfl (by decide +kernel) (by omega)) h9)
  refine lv_iconst (v := (-1)) hx hb dX12_sort_15 (by decide) ?_
  have hP9 := hP.sub (ws' := []) [] rfl
  have hD9 := hD.sub (ws' := []) [] (by decide) rfl
  exact W.iret (v := (-1)) hx hb hr (fun t ht hW => ⟨⟨(-1), (), rfl, rfl, by rw [ht]; exact hP9, va_K.moved hW.alike hK, hD9⟩, hS.F ht⟩) hS.2.2 dX12_sort_16
theorem iw_X11_sort_X11 : ∀ w ∈ wsX110, w ∈ wsX11_sort := by decide +kernel
set_option maxHeartbeats 1000000 in
set_option maxRecDepth 100000 in
theorem kX11_sort_2 (l : Launch) (dC : Nat → ClassId) (dI : Nat → Nat → Nat) (cI c2 : ClassId) (o0 : Nat) (o1 : Nat) (o2 : Nat) (o3 : Nat) (o4 : Nat) (o5 : Nat) (o6 : Nat) (o7 : Nat) (o8 : Nat) (o9 : Nat) (o10 : Nat) (o11 : Nat) (o12 : Nat) (o13 : Nat) (sz : Nat) (a1 : Int32) (a1_lo : 1 ≤ a1.toInt) (a1_hi : a1.toInt ≤ 2147483647) : Met l yX11_sort wsX11_sort ({ frames := 1, cells := 0, slots := 0, locals := 20 }) (va_Pc [.ref o0, .int a1] (wPre (dC, dI) [(cI, .int), (c2, .array .int)] [(o0, .inr (11, [.ref o1, .ref o2, .ref o3, .ref o4, .ref o5, .ref o6, .ref o7, .ref o8, .ref o9, .ref o10, .ref o11, .ref o12, .int 0])), (o1, .inr (4, [.ref o13, .int 0, .int 0]))] sz)) (va_Qi (fun (r : Int32) (_ : Unit) => r = (-1)) (fun _ t => wPost (dC, dI) [(cI, .int), (c2, .array .int)] (va_A [(o0, .inr (11, [.ref o1, .ref o2, .ref o3, .ref o4, .ref o5, .ref o6, .ref o7, .ref o8, .ref o9, .ref o10, .ref o11, .ref o12, .int 0])), (o1, .inr (4, [.ref o13, .int 0, .int 0]))] sz) [] t) (va_A [(o0, .inr (11, [.ref o1, .ref o2, .ref o3, .ref o4, .ref o5, .ref o6, .ref o7, .ref o8, .ref o9, .ref o10, .ref o11, .ref o12, .int 0])), (o1, .inr (4, [.ref o13, .int 0, .int 0]))] sz)) 0 0 (va_A [(o0, .inr (11, [.ref o1, .ref o2, .ref o3, .ref o4, .ref o5, .ref o6, .ref o7, .ref o8, .ref o9, .ref o10, .ref o11, .ref o12, .int 0])), (o1, .inr (4, [.ref o13, .int 0, .int 0]))] sz) := by
  refine Met.ofW (cc := cX11_sort) (maxL := 4) (ret := (some .int)) (by decide) rfl ?_
  intro p e s m args below meth c s₁ B hml hv
  obtain ⟨rfl, hsz, hP, hK, hD0, hN⟩ := hv
  have hx := B.exec
  have hb := B.bytes
  have hr := B.returns
  have hts := atoms_spec (ws := wsX11_sort) B.pre
  have hown : s.vm.findClass RX11 = some m.cls := findClass_of_methodNamed B.named
  have hlocks := B.notSynchronized
  subst hsz
  have hD := hD0.self (sz := s.heap.size)
  generalize hAe : va_A [(o0, .inr (11, [.ref o1, .ref o2, .ref o3, .ref o4, .ref o5, .ref o6, .ref o7, .ref o8, .ref o9, .ref o10, .ref o11, .ref o12, .int 0])), (o1, .inr (4, [.ref o13, .int 0, .int 0]))] s.heap.size = A at hD ⊢
  have hA : ∀ q : Nat, s.heap.size ≤ q → A q := fun q h => by rw [← hAe]; exact Or.inr h
  have hS : va_S A s.heap s.heap [] := va_S.rf
  have hP : va_P (dC, dI) vwCl [(o0, .inr (11, [.ref o1, .ref o2, .ref o3, .ref o4, .ref o5, .ref o6, .ref o7, .ref o8, .ref o9, .ref o10, .ref o11, .ref o12, .int 0])), (o1, .inr (4, [.ref o13, .int 0, .int 0]))] s.heap := hP
  have hl := lv_entry ([.ref o0, .int a1]) (n := 4) (Nat.le_of_ble_eq_true rfl)
  rw [lg_entry_eq]
  generalize (lg_sl ([.ref o0, .int a1]) ++ List.replicate (4 - (lg_sl ([.ref o0, .int a1])).length) Slot.unset).toArray = ls at hl ⊢
  have hl : lv_has ls 4 [(0, .ref o0), (1, .int a1)] := hl
  refine lv_iload_n hx hb dX11_sort_0 rfl (lv_at hl 1 rfl) ?_
  refine lv_if_le (tgt := 15) hx hb dX11_sort_1 (by decide) (fun h9 => absurd h9 (ib_nle (X := a1.toInt) (Y := 0) rfl (by decide +kernel) (by omega))) (fun _ => ?_)
  refine lv_iload_n hx hb dX11_sort_4 rfl (lv_at hl 1 rfl) ?_
  refine lv_aload_n hx hb dX11_sort_5 rfl (lv_at hl 0 rfl) ?_
  refine va_get (D := (dC, dI)) (ci := 11) (v := .ref o1) (C := RX11) (T := TX11) (N := 13) hx hb hts iw_X11_sort_X11 hown hK hP 0 rfl rfl 0 (by decide) (hts (.fieldLink RX11 10 "HolelessHouse" "graph" "LHolelessHouse$Graph;") (by decide +kernel)) (fun _ h9 => h9) rfl dX11_sort_6 ?_
  refine kcall_i (D := (dC, dI)) (S := Unit) (v := 0) (wc := [(o1, .inr (4, [.ref o13, .int 0, .int 0]))]) (wr := [(o0, .inr (11, [.ref o1, .ref o2, .ref o3, .ref o4, .ref o5, .ref o6, .ref o7, .ref o8, .ref o9, .ref o10, .ref o11, .ref o12, .int 0]))]) (w1 := fun _ => [(o1, .inr (4, [.ref o13, .int 0, .int 0]))]) (fun hPc hDc => va_runVN (As := []) (rest := [.int a1]) ⟨hx, hb, hml, hown, hts⟩ (kX4_all_2 l dC dI cI c2 o1 o13 s.heap.size) ⟨va_cnB 0 hts gX11_sort_X4_all_n164 rfl rfl rfl (hN.1 _ ns_63) (hts (.initialized RX4) (by decide +kernel)) (by decide +kernel) ⟨Nat.le_of_ble_eq_true rfl, Nat.le_of_ble_eq_true rfl⟩, (hts (.instanceMethod yX4_all) (by decide +kernel)), (hts (.selects RX4 yX4_all yX4_all) (by decide +kernel))⟩ (pre_V hPc hK hDc hN (ci := 4) (q0 := 0) rfl rfl) rfl rfl hl.1 rfl (lv_room (Nat.le_of_ble_eq_true rfl)) dX11_sort_9 ⟨Nat.le_of_ble_eq_true rfl, Nat.le_of_ble_eq_true rfl⟩) hP hD hS hA [1] [0] rfl rfl (by decide) (by decide) (by decide) (fun u H locs hP hD hS => ?_)
  have hP : va_P (dC, dI) vwCl [(o0, .inr (11, [.ref o1, .ref o2, .ref o3, .ref o4, .ref o5, .ref o6, .ref o7, .ref o8, .ref o9, .ref o10, .ref o11, .ref o12, .int 0])), (o1, .inr (4, [.ref o13, .int 0, .int 0]))] H := hP
  have hD : va_D A [(o0, .inr (11, [.ref o1, .ref o2, .ref o3, .ref o4, .ref o5, .ref o6, .ref o7, .ref o8, .ref o9, .ref o10, .ref o11, .ref o12, .int 0])), (o1, .inr (4, [.ref o13, .int 0, .int 0]))] := hD
  refine lv_icmp_le (tgt := 17) hx hb dX11_sort_12 (by decide) (fun h9 => absurd h9 (ib_nle (X := a1.toInt) (Y := 0) rfl (by decide +kernel) (by omega))) (fun _ => ?_)
  refine lv_iconst (v := (-1)) hx hb dX11_sort_15 (by decide) ?_
  have hP9 := hP.sub (ws' := []) [] rfl
  have hD9 := hD.sub (ws' := []) [] (by decide) rfl
  exact W.iret (v := (-1)) hx hb hr (fun t ht hW => ⟨⟨(-1), (), rfl, rfl, by rw [ht]; exact hP9, va_K.moved hW.alike hK, hD9⟩, hS.F ht⟩) hS.2.2 dX11_sort_16
set_option maxHeartbeats 1000000 in
set_option maxRecDepth 100000 in
theorem kX12_sort_2 (l : Launch) (dC : Nat → ClassId) (dI : Nat → Nat → Nat) (cI c2 : ClassId) (o0 : Nat) (o1 : Nat) (o2 : Nat) (o3 : Nat) (o4 : Nat) (o5 : Nat) (o6 : Nat) (o7 : Nat) (o8 : Nat) (o9 : Nat) (o10 : Nat) (o11 : Nat) (o12 : Nat) (o13 : Nat) (o14 : Nat) (o15 : Nat) (o16 : Nat) (o17 : Nat) (o18 : Nat) (sz : Nat) (a1 : Int32) (a1_lo : 1 ≤ a1.toInt) (a1_hi : a1.toInt ≤ 2147483647) : Met l yX12_sort wsX12_sort ({ frames := 1, cells := 0, slots := 0, locals := 20 }) (va_Pc [.ref o0, .int a1] (wPre (dC, dI) [(cI, .int), (c2, .array .int)] [(o0, .inr (12, [.int 0, .ref o1, .int 0, .ref o2, .int 0, .ref o3, .ref o4, .int 0, .ref o5, .int 0, .ref o6, .int (-9), .int 0, .int 0, .ref o7, .ref o8, .ref o9, .ref o10, .ref o11, .int 0, .ref o12, .ref o13, .ref o14, .int 0, .ref o15, .ref o16, .ref o17, .int 0, .ref o18]))] sz)) (va_Qi (fun (r : Int32) (_ : Unit) => r = (-1)) (fun _ t => wPost (dC, dI) [(cI, .int), (c2, .array .int)] (va_A [(o0, .inr (12, [.int 0, .ref o1, .int 0, .ref o2, .int 0, .ref o3, .ref o4, .int 0, .ref o5, .int 0, .ref o6, .int (-9), .int 0, .int 0, .ref o7, .ref o8, .ref o9, .ref o10, .ref o11, .int 0, .ref o12, .ref o13, .ref o14, .int 0, .ref o15, .ref o16, .ref o17, .int 0, .ref o18]))] sz) [] t) (va_A [(o0, .inr (12, [.int 0, .ref o1, .int 0, .ref o2, .int 0, .ref o3, .ref o4, .int 0, .ref o5, .int 0, .ref o6, .int (-9), .int 0, .int 0, .ref o7, .ref o8, .ref o9, .ref o10, .ref o11, .int 0, .ref o12, .ref o13, .ref o14, .int 0, .ref o15, .ref o16, .ref o17, .int 0, .ref o18]))] sz)) 0 0 (va_A [(o0, .inr (12, [.int 0, .ref o1, .int 0, .ref o2, .int 0, .ref o3, .ref o4, .int 0, .ref o5, .int 0, .ref o6, .int (-9), .int 0, .int 0, .ref o7, .ref o8, .ref o9, .ref o10, .ref o11, .int 0, .ref o12, .ref o13, .ref o14, .int 0, .ref o15, .ref o16, .ref o17, .int 0, .ref o18]))] sz) := by
  refine Met.ofW (cc := cX12_sort) (maxL := 2) (ret := (some .int)) (by decide) rfl ?_
  intro p e s m args below meth c s₁ B hml hv
  obtain ⟨rfl, hsz, hP, hK, hD0, hN⟩ := hv
  have hx := B.exec
  have hb := B.bytes
  have hr := B.returns
  have hts := atoms_spec (ws := wsX12_sort) B.pre
  have hown : s.vm.findClass RX12 = some m.cls := findClass_of_methodNamed B.named
  have hlocks := B.notSynchronized
  subst hsz
  have hD := hD0.self (sz := s.heap.size)
  generalize hAe : va_A [(o0, .inr (12, [.int 0, .ref o1, .int 0, .ref o2, .int 0, .ref o3, .ref o4, .int 0, .ref o5, .int 0, .ref o6, .int (-9), .int 0, .int 0, .ref o7, .ref o8, .ref o9, .ref o10, .ref o11, .int 0, .ref o12, .ref o13, .ref o14, .int 0, .ref o15, .ref o16, .ref o17, .int 0, .ref o18]))] s.heap.size = A at hD ⊢
  have hA : ∀ q : Nat, s.heap.size ≤ q → A q := fun q h => by rw [← hAe]; exact Or.inr h
  have hS : va_S A s.heap s.heap [] := va_S.rf
  have hP : va_P (dC, dI) vwCl [(o0, .inr (12, [.int 0, .ref o1, .int 0, .ref o2, .int 0, .ref o3, .ref o4, .int 0, .ref o5, .int 0, .ref o6, .int (-9), .int 0, .int 0, .ref o7, .ref o8, .ref o9, .ref o10, .ref o11, .int 0, .ref o12, .ref o13, .ref o14, .int 0, .ref o15, .ref o16, .ref o17, .int 0, .ref o18]))] s.heap := hP
  have hl := lv_entry ([.ref o0, .int a1]) (n := 2) (Nat.le_of_ble_eq_true rfl)
  rw [lg_entry_eq]
  generalize (lg_sl ([.ref o0, .int a1]) ++ List.replicate (2 - (lg_sl ([.ref o0, .int a1])).length) Slot.unset).toArray = ls at hl ⊢
  have hl : lv_has ls 2 [(0, .ref o0), (1, .int a1)] := hl
  refine lv_iload_n hx hb dX12_sort_0 rfl (lv_at hl 1 rfl) ?_
  refine lv_if_le (tgt := 15) hx hb dX12_sort_1 (by decide) (fun h9 => absurd h9 (ib_nle (X := a1.toInt) (Y := 0) rfl (by decide +kernel) (by omega))) (fun _ => ?_)
  refine lv_iload_n hx hb dX12_sort_4 rfl (lv_at hl 1 rfl) ?_
  refine lv_aload_n hx hb dX12_sort_5 rfl (lv_at hl 0 rfl) ?_
  refine kcall_i (D := (dC, dI)) (S := Unit) (v := 0) (wc := [(o0, .inr (12, [.int 0, .ref o1, .int 0, .ref o2, .int 0, .ref o3, .ref o4, .int 0, .ref o5, .int 0, .ref o6, .int (-9), .int 0, .int 0, .ref o7, .ref o8, .ref o9, .ref o10, .ref o11, .int 0, .ref o12, .ref o13, .ref o14, .int 0, .ref o15, .ref o16, .ref o17, .int 0, .ref o18]))]) (wr := []) (w1 := fun _ => [(o0, .inr (12, [.int 0, .ref o1, .int 0, .ref o2, .int 0, .ref o3, .ref o4, .int 0, .ref o5, .int 0, .ref o6, .int (-9), .int 0, .int 0, .ref o7, .ref o8, .ref o9, .ref o10, .ref o11, .int 0, .ref o12, .ref o13, .ref o14, .int 0, .ref o15, .ref o16, .ref o17, .int 0, .ref o18]))]) (fun hPc hDc => va_runV (As := []) (rest := [.int a1]) ⟨hx, hb, hml, hown, hts⟩ (kX12_all_1 l dC dI cI c2 o0 o1 o2 o3 o4 o5 o6 o7 o8 o9 o10 o11 o12 o13 o14 o15 o16 o17 o18 s.heap.size) (cwV 0 hts gX12_sort_X12_all rfl rfl rfl (by decide +kernel) ⟨Nat.le_of_ble_eq_true rfl, Nat.le_of_ble_eq_true rfl⟩) (pre_V hPc hK hDc hN (ci := 12) (q0 := 0) rfl rfl) rfl rfl hl.1 rfl (lv_room (Nat.le_of_ble_eq_true rfl)) dX12_sort_6 ⟨Nat.le_of_ble_eq_true rfl, Nat.le_of_ble_eq_true rfl⟩) hP hD hS hA [0] [] rfl rfl (by decide) (by decide) (by decide) (fun u H locs hP hD hS => ?_)
  have hP : va_P (dC, dI) vwCl [(o0, .inr (12, [.int 0, .ref o1, .int 0, .ref o2, .int 0, .ref o3, .ref o4, .int 0, .ref o5, .int 0, .ref o6, .int (-9), .int 0, .int 0, .ref o7, .ref o8, .ref o9, .ref o10, .ref o11, .int 0, .ref o12, .ref o13, .ref o14, .int 0, .ref o15, .ref o16, .ref o17, .int 0, .ref o18]))] H := hP
  have hD : va_D A [(o0, .inr (12, [.int 0, .ref o1, .int 0, .ref o2, .int 0, .ref o3, .ref o4, .int 0, .ref o5, .int 0, .ref o6, .int (-9), .int 0, .int 0, .ref o7, .ref o8, .ref o9, .ref o10, .ref o11, .int 0, .ref o12, .ref o13, .ref o14, .int 0, .ref o15, .ref o16, .ref o17, .int 0, .ref o18]))] := hD
  refine lv_iconst (v := (-1)) hx hb dX12_sort_9 (by decide) ?_
  refine lv_ixor hx hb dX12_sort_10 (tk_i (v := (-1)) (by decide +kernel) ?_)
  refine lv_iand hx hb dX12_sort_11 (tk_i (v := a1) (and_m1 _) ?_)
  refine lv_if_eq (tgt := 17) hx hb dX12_sort_12 (by decide) (fun h9 => absurd h9 (ib_ne (X := a1.toInt) (Y := 0) rfl (by decide +kernel) (by omega))) (fun _ => ?_)
  refine lv_iconst (v := (-1)) hx hb dX12_sort_15 (by decide) ?_
  have hP9 := hP.sub (ws' := []) [] rfl
  have hD9 := hD.sub (ws' := []) [] (by decide) rfl
  exact W.iret (v := (-1)) hx hb hr (fun t ht hW => ⟨⟨(-1), (), rfl, rfl, by rw [ht]; exact hP9, va_K.moved hW.alike hK, hD9⟩, hS.F ht⟩) hS.2.2 dX12_sort_16
set_option maxHeartbeats 1000000 in
set_option maxRecDepth 100000 in
theorem kX4_has_3 (l : Launch) (dC : Nat → ClassId) (dI : Nat → Nat → Nat) (cI c2 : ClassId) (o0 : Nat) (o1 : Nat) (sz : Nat) (a1 : Int32) (a1_lo : (-2147483648) ≤ a1.toInt) (a1_hi : a1.toInt ≤ (-2)) : Met l yX4_has wsX4_has ({ frames := 0, cells := 0, slots := 0, locals := 0 }) (va_Pc [.ref o0, .int a1] (wPre (dC, dI) [(cI, .int), (c2, .array .int)] [(o0, .inr (4, [.ref o1, .int 0, .int 0]))] sz)) (va_Qi (fun (r : Int32) (_ : Unit) => r = 0) (fun _ t => wPost (dC, dI) [(cI, .int), (c2, .array .int)] (va_A [(o0, .inr (4, [.ref o1, .int 0, .int 0]))] sz) [(o0, .inr (4, [.ref o1, .int 0, .int 0]))] t) (va_A [(o0, .inr (4, [.ref o1, .int 0, .int 0]))] sz)) 0 0 (va_A [(o0, .inr (4, [.ref o1, .int 0, .int 0]))] sz) := by
  refine Met.ofW (cc := cX4_has) (maxL := 2) (ret := (some .boolean)) (by decide) rfl ?_
  intro p e s m args below meth c s₁ B hml hv
  obtain ⟨rfl, hsz, hP, hK, hD0, hN⟩ := hv
  have hx := B.exec
  have hb := B.bytes
  have hr := B.returns
  have hts := atoms_spec (ws := wsX4_has) B.pre
  have hown : s.vm.findClass RX4 = some m.cls := findClass_of_methodNamed B.named
  have hlocks := B.notSynchronized
  subst hsz
  have hD := hD0.self (sz := s.heap.size)
  generalize hAe : va_A [(o0, .inr (4, [.ref o1, .int 0, .int 0]))] s.heap.size = A at hD ⊢
  have hA : ∀ q : Nat, s.heap.size ≤ q → A q := fun q h => by rw [← hAe]; exact Or.inr h
  have hS : va_S A s.heap s.heap [] := va_S.rf
  have hP : va_P (dC, dI) vwCl [(o0, .inr (4, [.ref o1, .int 0, .int 0]))] s.heap := hP
  have hl := lv_entry ([.ref o0, .int a1]) (n := 2) (Nat.le_of_ble_eq_true rfl)
  rw [lg_entry_eq]
  generalize (lg_sl ([.ref o0, .int a1]) ++ List.replicate (2 - (lg_sl ([.ref o0, .int a1])).length) Slot.unset).toArray = ls at hl ⊢
  have hl : lv_has ls 2 [(0, .ref o0), (1, .int a1)] := hl
  refine lv_iload_n hx hb dX4_has_0 rfl (lv_at hl 1 rfl) ?_
  refine lv_if_lt (tgt := 16) hx hb dX4_has_1 (by decide) (fun _ => ?_) (fun h9 => absurd (ib_lt (X := a1.toInt) (Y := 0) rfl (by decide +kernel) (by omega)) h9)
  refine lv_iconst (v := 0) hx hb dX4_has_16 (by decide) ?_
  have hP9 := hP.sub (ws' := [(o0, .inr (4, [.ref o1, .int 0, .int 0]))]) [0] rfl
  have hD9 := hD.sub (ws' := [(o0, .inr (4, [.ref o1, .int 0, .int 0]))]) [0] (by decide) rfl
  exact W.zret (v := 0) (ty := .boolean) hx hb hr rfl (fun t ht hW => ⟨⟨0, (), rfl, rfl, by rw [ht]; exact hP9, va_K.moved hW.alike hK, hD9⟩, hS.F ht⟩) hS.2.2 dX4_has_17
theorem iw_X11_colour_X11 : ∀ w ∈ wsX110, w ∈ wsX11_colour := by decide +kernel
set_option maxHeartbeats 1000000 in
set_option maxRecDepth 100000 in
theorem kX11_colour_1 (l : Launch) (dC : Nat → ClassId) (dI : Nat → Nat → Nat) (cI c2 : ClassId) (o0 : Nat) (o1 : Nat) (o2 : Nat) (o3 : Nat) (o4 : Nat) (o5 : Nat) (o6 : Nat) (o7 : Nat) (o8 : Nat) (o9 : Nat) (o10 : Nat) (o11 : Nat) (o12 : Nat) (o13 : Nat) (sz : Nat) (a1 : Int32) (a1_lo : (-2147483648) ≤ a1.toInt) (a1_hi : a1.toInt ≤ (-2)) : Met l yX11_colour wsX11_colour ({ frames := 1, cells := 0, slots := 0, locals := 21 }) (va_Pc [.ref o0, .int a1] (wPre (dC, dI) [(cI, .int), (c2, .array .int)] [(o0, .inr (11, [.ref o1, .ref o2, .ref o3, .ref o4, .ref o5, .ref o6, .ref o7, .ref o8, .ref o9, .ref o10, .ref o11, .ref o12, .int 0])), (o1, .inr (4, [.ref o13, .int 0, .int 0]))] sz)) (va_Qi (fun (r : Int32) (_ : Unit) => r = (-1)) (fun _ t => wPost (dC, dI) [(cI, .int), (c2, .array .int)] (va_A [(o0, .inr (11, [.ref o1, .ref o2, .ref o3, .ref o4, .ref o5, .ref o6, .ref o7, .ref o8, .ref o9, .ref o10, .ref o11, .ref o12, .int 0])), (o1, .inr (4, [.ref o13, .int 0, .int 0]))] sz) [] t) (va_A [(o0, .inr (11, [.ref o1, .ref o2, .ref o3, .ref o4, .ref o5, .ref o6, .ref o7, .ref o8, .ref o9, .ref o10, .ref o11, .ref o12, .int 0])), (o1, .inr (4, [.ref o13, .int 0, .int 0]))] sz)) 0 0 (va_A [(o0, .inr (11, [.ref o1, .ref o2, .ref o3, .ref o4, .ref o5, .ref o6, .ref o7, .ref o8, .ref o9, .ref o10, .ref o11, .ref o12, .int 0])), (o1, .inr (4, [.ref o13, .int 0, .int 0]))] sz) := by
  refine Met.ofW (cc := cX11_colour) (maxL := 2) (ret := (some .int)) (by decide) rfl ?_
  intro p e s m args below meth c s₁ B hml hv
  obtain ⟨rfl, hsz, hP, hK, hD0, hN⟩ := hv
  have hx := B.exec
  have hb := B.bytes
  have hr := B.returns
  have hts := atoms_spec (ws := wsX11_colour) B.pre
  have hown : s.vm.findClass RX11 = some m.cls := findClass_of_methodNamed B.named
  have hlocks := B.notSynchronized
  subst hsz
  have hD := hD0.self (sz := s.heap.size)
  generalize hAe : va_A [(o0, .inr (11, [.ref o1, .ref o2, .ref o3, .ref o4, .ref o5, .ref o6, .ref o7, .ref o8, .ref o9, .ref o10, .ref o11, .ref o12, .int 0])), (o1, .inr (4, [.ref o13, .int 0, .int 0]))] s.heap.size = A at hD ⊢
  have hA : ∀ q : Nat, s.heap.size ≤ q → A q := fun q h => by rw [← hAe]; exact Or.inr h
  have hS : va_S A s.heap s.heap [] := va_S.rf
  have hP : va_P (dC, dI) vwCl [(o0, .inr (11, [.ref o1, .ref o2, .ref o3, .ref o4, .ref o5, .ref o6, .ref o7, .ref o8, .ref o9, .ref o10, .ref o11, .ref o12, .int 0])), (o1, .inr (4, [.ref o13, .int 0, .int 0]))] s.heap := hP
  have hl := lv_entry ([.ref o0, .int a1]) (n := 2) (Nat.le_of_ble_eq_true rfl)
  rw [lg_entry_eq]
  generalize (lg_sl ([.ref o0, .int a1]) ++ List.replicate (2 - (lg_sl ([.ref o0, .int a1])).length) Slot.unset).toArray = ls at hl ⊢
  have hl : lv_has ls 2 [(0, .ref o0), (1, .int a1)] := hl
  refine lv_iload_n hx hb dX11_colour_0 rfl (lv_at hl 1 rfl) ?_
  refine lv_iconst (v := (-1)) hx hb dX11_colour_1 (by decide) ?_
  refine lv_icmp_eq (tgt := 18) hx hb dX11_colour_2 (by decide) (fun h9 => absurd h9 (ib_ne (X := a1.toInt) (Y := (-1)) rfl (by decide +kernel) (by omega))) (fun _ => ?_)
  refine lv_aload_n hx hb dX11_colour_5 rfl (lv_at hl 0 rfl) ?_
  refine va_get (D := (dC, dI)) (ci := 11) (v := .ref o1) (C := RX11) (T := TX11) (N := 13) hx hb hts iw_X11_colour_X11 hown hK hP 0 rfl rfl 0 (by decide) (hts (.fieldLink RX11 10 "HolelessHouse" "graph" "LHolelessHouse$Graph;") (by decide +kernel)) (fun _ h9 => h9) rfl dX11_colour_6 ?_
  refine lv_iload_n hx hb dX11_colour_9 rfl (lv_at hl 1 rfl) ?_
  refine kcall_i (D := (dC, dI)) (S := Unit) (v := 0) (wc := [(o1, .inr (4, [.ref o13, .int 0, .int 0]))]) (wr := [(o0, .inr (11, [.ref o1, .ref o2, .ref o3, .ref o4, .ref o5, .ref o6, .ref o7, .ref o8, .ref o9, .ref o10, .ref o11, .ref o12, .int 0]))]) (w1 := fun _ => [(o1, .inr (4, [.ref o13, .int 0, .int 0]))]) (fun hPc hDc => va_runVN (As := [.int a1]) (rest := []) ⟨hx, hb, hml, hown, hts⟩ (kX4_has_3 l dC dI cI c2 o1 o13 s.heap.size a1 (by omega) (by omega)) ⟨va_cnB 1 hts gX11_colour_X4_has_n93 rfl rfl rfl (hN.1 _ ns_66) (hts (.initialized RX4) (by decide +kernel)) (by decide +kernel) ⟨Nat.le_of_ble_eq_true rfl, Nat.le_of_ble_eq_true rfl⟩, (hts (.instanceMethod yX4_has) (by decide +kernel)), (hts (.selects RX4 yX4_has yX4_has) (by decide +kernel))⟩ (pre_V hPc hK hDc hN (ci := 4) (q0 := 0) rfl rfl) rfl rfl hl.1 rfl (lv_room (Nat.le_of_ble_eq_true rfl)) dX11_colour_10 ⟨Nat.le_of_ble_eq_true rfl, Nat.le_of_ble_eq_true rfl⟩) hP hD hS hA [1] [0] rfl rfl (by decide) (by decide) (by decide) (fun u H locs hP hD hS => ?_)
  have hP : va_P (dC, dI) vwCl [(o0, .inr (11, [.ref o1, .ref o2, .ref o3, .ref o4, .ref o5, .ref o6, .ref o7, .ref o8, .ref o9, .ref o10, .ref o11, .ref o12, .int 0])), (o1, .inr (4, [.ref o13, .int 0, .int 0]))] H := hP
  have hD : va_D A [(o0, .inr (11, [.ref o1, .ref o2, .ref o3, .ref o4, .ref o5, .ref o6, .ref o7, .ref o8, .ref o9, .ref o10, .ref o11, .ref o12, .int 0])), (o1, .inr (4, [.ref o13, .int 0, .int 0]))] := hD
  refine lv_if_ne (tgt := 18) hx hb dX11_colour_13 (by decide) (fun h9 => absurd (by decide +kernel) h9) (fun _ => ?_)
  refine lv_iconst (v := (-1)) hx hb dX11_colour_16 (by decide) ?_
  have hP9 := hP.sub (ws' := []) [] rfl
  have hD9 := hD.sub (ws' := []) [] (by decide) rfl
  exact W.iret (v := (-1)) hx hb hr (fun t ht hW => ⟨⟨(-1), (), rfl, rfl, by rw [ht]; exact hP9, va_K.moved hW.alike hK, hD9⟩, hS.F ht⟩) hS.2.2 dX11_colour_17
set_option maxHeartbeats 1000000 in
set_option maxRecDepth 100000 in
theorem kX12_isNode_3 (l : Launch) (dC : Nat → ClassId) (dI : Nat → Nat → Nat) (cI c2 : ClassId) (o0 : Nat) (o1 : Nat) (o2 : Nat) (o3 : Nat) (o4 : Nat) (o5 : Nat) (o6 : Nat) (o7 : Nat) (o8 : Nat) (o9 : Nat) (o10 : Nat) (o11 : Nat) (o12 : Nat) (o13 : Nat) (o14 : Nat) (o15 : Nat) (o16 : Nat) (o17 : Nat) (o18 : Nat) (sz : Nat) (a1 : Int32) (a1_lo : (-2147483648) ≤ a1.toInt) (a1_hi : a1.toInt ≤ (-2)) : Met l yX12_isNode wsX12_isNode ({ frames := 1, cells := 0, slots := 0, locals := 22 }) (va_Pc [.ref o0, .int a1] (wPre (dC, dI) [(cI, .int), (c2, .array .int)] [(o0, .inr (12, [.int 0, .ref o1, .int 0, .ref o2, .int 0, .ref o3, .ref o4, .int 0, .ref o5, .int 0, .ref o6, .int (-9), .int 0, .int 0, .ref o7, .ref o8, .ref o9, .ref o10, .ref o11, .int 0, .ref o12, .ref o13, .ref o14, .int 0, .ref o15, .ref o16, .ref o17, .int 0, .ref o18]))] sz)) (va_Qi (fun (r : Int32) (_ : Unit) => r = 0) (fun _ t => wPost (dC, dI) [(cI, .int), (c2, .array .int)] (va_A [(o0, .inr (12, [.int 0, .ref o1, .int 0, .ref o2, .int 0, .ref o3, .ref o4, .int 0, .ref o5, .int 0, .ref o6, .int (-9), .int 0, .int 0, .ref o7, .ref o8, .ref o9, .ref o10, .ref o11, .int 0, .ref o12, .ref o13, .ref o14, .int 0, .ref o15, .ref o16, .ref o17, .int 0, .ref o18]))] sz) [(o0, .inr (12, [.int 0, .ref o1, .int 0, .ref o2, .int 0, .ref o3, .ref o4, .int 0, .ref o5, .int 0, .ref o6, .int (-9), .int 0, .int 0, .ref o7, .ref o8, .ref o9, .ref o10, .ref o11, .int 0, .ref o12, .ref o13, .ref o14, .int 0, .ref o15, .ref o16, .ref o17, .int 0, .ref o18]))] t) (va_A [(o0, .inr (12, [.int 0, .ref o1, .int 0, .ref o2, .int 0, .ref o3, .ref o4, .int 0, .ref o5, .int 0, .ref o6, .int (-9), .int 0, .int 0, .ref o7, .ref o8, .ref o9, .ref o10, .ref o11, .int 0, .ref o12, .ref o13, .ref o14, .int 0, .ref o15, .ref o16, .ref o17, .int 0, .ref o18]))] sz)) 0 0 (va_A [(o0, .inr (12, [.int 0, .ref o1, .int 0, .ref o2, .int 0, .ref o3, .ref o4, .int 0, .ref o5, .int 0, .ref o6, .int (-9), .int 0, .int 0, .ref o7, .ref o8, .ref o9, .ref o10, .ref o11, .int 0, .ref o12, .ref o13, .ref o14, .int 0, .ref o15, .ref o16, .ref o17, .int 0, .ref o18]))] sz) := by
  refine Met.ofW (cc := cX12_isNode) (maxL := 2) (ret := (some .boolean)) (by decide) rfl ?_
  intro p e s m args below meth c s₁ B hml hv
  obtain ⟨rfl, hsz, hP, hK, hD0, hN⟩ := hv
  have hx := B.exec
  have hb := B.bytes
  have hr := B.returns
  have hts := atoms_spec (ws := wsX12_isNode) B.pre
  have hown : s.vm.findClass RX12 = some m.cls := findClass_of_methodNamed B.named
  have hlocks := B.notSynchronized
  subst hsz
  have hD := hD0.self (sz := s.heap.size)
  generalize hAe : va_A [(o0, .inr (12, [.int 0, .ref o1, .int 0, .ref o2, .int 0, .ref o3, .ref o4, .int 0, .ref o5, .int 0, .ref o6, .int (-9), .int 0, .int 0, .ref o7, .ref o8, .ref o9, .ref o10, .ref o11, .int 0, .ref o12, .ref o13, .ref o14, .int 0, .ref o15, .ref o16, .ref o17, .int 0, .ref o18]))] s.heap.size = A at hD ⊢
  have hA : ∀ q : Nat, s.heap.size ≤ q → A q := fun q h => by rw [← hAe]; exact Or.inr h
  have hS : va_S A s.heap s.heap [] := va_S.rf
  have hP : va_P (dC, dI) vwCl [(o0, .inr (12, [.int 0, .ref o1, .int 0, .ref o2, .int 0, .ref o3, .ref o4, .int 0, .ref o5, .int 0, .ref o6, .int (-9), .int 0, .int 0, .ref o7, .ref o8, .ref o9, .ref o10, .ref o11, .int 0, .ref o12, .ref o13, .ref o14, .int 0, .ref o15, .ref o16, .ref o17, .int 0, .ref o18]))] s.heap := hP
  have hl := lv_entry ([.ref o0, .int a1]) (n := 2) (Nat.le_of_ble_eq_true rfl)
  rw [lg_entry_eq]
  generalize (lg_sl ([.ref o0, .int a1]) ++ List.replicate (2 - (lg_sl ([.ref o0, .int a1])).length) Slot.unset).toArray = ls at hl ⊢
  have hl : lv_has ls 2 [(0, .ref o0), (1, .int a1)] := hl
  refine lv_iload_n hx hb dX12_isNode_0 rfl (lv_at hl 1 rfl) ?_
  refine lv_iconst (v := 0) hx hb dX12_isNode_1 (by decide) ?_
  refine lv_aload_n hx hb dX12_isNode_2 rfl (lv_at hl 0 rfl) ?_
  refine va_get (D := (dC, dI)) (ci := 12) (v := .int 0) (C := RX12) (T := TX12) (N := 29) hx hb hts iw_X12_isNode_X12 hown hK hP 0 rfl rfl 2 (by decide) (hts (.fieldLink RX12 73 "HolelessHouseModel" "n" "I") (by decide +kernel)) (fun _ h9 => h9) rfl dX12_isNode_3 ?_
  refine lv_iconst (v := 1) hx hb dX12_isNode_6 (by decide) ?_
  refine lv_isub hx hb dX12_isNode_7 (tk_i (v := (-1)) (by decide +kernel) ?_)
  refine kcall_i (D := (dC, dI)) (S := Unit) (v := 0) (wc := []) (wr := [(o0, .inr (12, [.int 0, .ref o1, .int 0, .ref o2, .int 0, .ref o3, .ref o4, .int 0, .ref o5, .int 0, .ref o6, .int (-9), .int 0, .int 0, .ref o7, .ref o8, .ref o9, .ref o10, .ref o11, .int 0, .ref o12, .ref o13, .ref o14, .int 0, .ref o15, .ref o16, .ref o17, .int 0, .ref o18]))]) (w1 := fun _ => []) (fun hPc hDc => va_runS (As := [.int a1, .int 0, .int (-1)]) (rest := []) ⟨hx, hb, hml, hown, hts⟩ (kX12_in_15 l dC dI cI c2 s.heap.size a1 (by omega) (by omega)) (va_cwS 3 hts gX12_isNode_X12_in rfl rfl rfl (by decide +kernel) ⟨Nat.le_of_ble_eq_true rfl, Nat.le_of_ble_eq_true rfl⟩) (pre_S hPc hK hDc hN) rfl rfl hl.1 rfl (lv_room (Nat.le_of_ble_eq_true rfl)) dX12_isNode_8 ⟨Nat.le_of_ble_eq_true rfl, Nat.le_of_ble_eq_true rfl⟩) hP hD hS hA [] [0] rfl rfl (by decide) (by decide) (by decide) (fun u H locs hP hD hS => ?_)
  have hP : va_P (dC, dI) vwCl [(o0, .inr (12, [.int 0, .ref o1, .int 0, .ref o2, .int 0, .ref o3, .ref o4, .int 0, .ref o5, .int 0, .ref o6, .int (-9), .int 0, .int 0, .ref o7, .ref o8, .ref o9, .ref o10, .ref o11, .int 0, .ref o12, .ref o13, .ref o14, .int 0, .ref o15, .ref o16, .ref o17, .int 0, .ref o18]))] H := hP
  have hD : va_D A [(o0, .inr (12, [.int 0, .ref o1, .int 0, .ref o2, .int 0, .ref o3, .ref o4, .int 0, .ref o5, .int 0, .ref o6, .int (-9), .int 0, .int 0, .ref o7, .ref o8, .ref o9, .ref o10, .ref o11, .int 0, .ref o12, .ref o13, .ref o14, .int 0, .ref o15, .ref o16, .ref o17, .int 0, .ref o18]))] := hD
  have hP9 := hP.sub (ws' := [(o0, .inr (12, [.int 0, .ref o1, .int 0, .ref o2, .int 0, .ref o3, .ref o4, .int 0, .ref o5, .int 0, .ref o6, .int (-9), .int 0, .int 0, .ref o7, .ref o8, .ref o9, .ref o10, .ref o11, .int 0, .ref o12, .ref o13, .ref o14, .int 0, .ref o15, .ref o16, .ref o17, .int 0, .ref o18]))]) [0] rfl
  have hD9 := hD.sub (ws' := [(o0, .inr (12, [.int 0, .ref o1, .int 0, .ref o2, .int 0, .ref o3, .ref o4, .int 0, .ref o5, .int 0, .ref o6, .int (-9), .int 0, .int 0, .ref o7, .ref o8, .ref o9, .ref o10, .ref o11, .int 0, .ref o12, .ref o13, .ref o14, .int 0, .ref o15, .ref o16, .ref o17, .int 0, .ref o18]))]) [0] (by decide) rfl
  exact W.zret (v := 0) (ty := .boolean) hx hb hr rfl (fun t ht hW => ⟨⟨0, (), rfl, rfl, by rw [ht]; exact hP9, va_K.moved hW.alike hK, hD9⟩, hS.F ht⟩) hS.2.2 dX12_isNode_11
set_option maxHeartbeats 1000000 in
set_option maxRecDepth 100000 in
theorem kX12_colour_1 (l : Launch) (dC : Nat → ClassId) (dI : Nat → Nat → Nat) (cI c2 : ClassId) (o0 : Nat) (o1 : Nat) (o2 : Nat) (o3 : Nat) (o4 : Nat) (o5 : Nat) (o6 : Nat) (o7 : Nat) (o8 : Nat) (o9 : Nat) (o10 : Nat) (o11 : Nat) (o12 : Nat) (o13 : Nat) (o14 : Nat) (o15 : Nat) (o16 : Nat) (o17 : Nat) (o18 : Nat) (sz : Nat) (a1 : Int32) (a1_lo : (-2147483648) ≤ a1.toInt) (a1_hi : a1.toInt ≤ (-2)) : Met l yX12_colour wsX12_colour ({ frames := 2, cells := 0, slots := 0, locals := 43 }) (va_Pc [.ref o0, .int a1] (wPre (dC, dI) [(cI, .int), (c2, .array .int)] [(o0, .inr (12, [.int 0, .ref o1, .int 0, .ref o2, .int 0, .ref o3, .ref o4, .int 0, .ref o5, .int 0, .ref o6, .int (-9), .int 0, .int 0, .ref o7, .ref o8, .ref o9, .ref o10, .ref o11, .int 0, .ref o12, .ref o13, .ref o14, .int 0, .ref o15, .ref o16, .ref o17, .int 0, .ref o18]))] sz)) (va_Qi (fun (r : Int32) (_ : Unit) => r = (-1)) (fun _ t => wPost (dC, dI) [(cI, .int), (c2, .array .int)] (va_A [(o0, .inr (12, [.int 0, .ref o1, .int 0, .ref o2, .int 0, .ref o3, .ref o4, .int 0, .ref o5, .int 0, .ref o6, .int (-9), .int 0, .int 0, .ref o7, .ref o8, .ref o9, .ref o10, .ref o11, .int 0, .ref o12, .ref o13, .ref o14, .int 0, .ref o15, .ref o16, .ref o17, .int 0, .ref o18]))] sz) [] t) (va_A [(o0, .inr (12, [.int 0, .ref o1, .int 0, .ref o2, .int 0, .ref o3, .ref o4, .int 0, .ref o5, .int 0, .ref o6, .int (-9), .int 0, .int 0, .ref o7, .ref o8, .ref o9, .ref o10, .ref o11, .int 0, .ref o12, .ref o13, .ref o14, .int 0, .ref o15, .ref o16, .ref o17, .int 0, .ref o18]))] sz)) 0 0 (va_A [(o0, .inr (12, [.int 0, .ref o1, .int 0, .ref o2, .int 0, .ref o3, .ref o4, .int 0, .ref o5, .int 0, .ref o6, .int (-9), .int 0, .int 0, .ref o7, .ref o8, .ref o9, .ref o10, .ref o11, .int 0, .ref o12, .ref o13, .ref o14, .int 0, .ref o15, .ref o16, .ref o17, .int 0, .ref o18]))] sz) := by
  refine Met.ofW (cc := cX12_colour) (maxL := 3) (ret := (some .int)) (by decide) rfl ?_
  intro p e s m args below meth c s₁ B hml hv
  obtain ⟨rfl, hsz, hP, hK, hD0, hN⟩ := hv
  have hx := B.exec
  have hb := B.bytes
  have hr := B.returns
  have hts := atoms_spec (ws := wsX12_colour) B.pre
  have hown : s.vm.findClass RX12 = some m.cls := findClass_of_methodNamed B.named
  have hlocks := B.notSynchronized
  subst hsz
  have hD := hD0.self (sz := s.heap.size)
  generalize hAe : va_A [(o0, .inr (12, [.int 0, .ref o1, .int 0, .ref o2, .int 0, .ref o3, .ref o4, .int 0, .ref o5, .int 0, .ref o6, .int (-9), .int 0, .int 0, .ref o7, .ref o8, .ref o9, .ref o10, .ref o11, .int 0, .ref o12, .ref o13, .ref o14, .int 0, .ref o15, .ref o16, .ref o17, .int 0, .ref o18]))] s.heap.size = A at hD ⊢
  have hA : ∀ q : Nat, s.heap.size ≤ q → A q := fun q h => by rw [← hAe]; exact Or.inr h
  have hS : va_S A s.heap s.heap [] := va_S.rf
  have hP : va_P (dC, dI) vwCl [(o0, .inr (12, [.int 0, .ref o1, .int 0, .ref o2, .int 0, .ref o3, .ref o4, .int 0, .ref o5, .int 0, .ref o6, .int (-9), .int 0, .int 0, .ref o7, .ref o8, .ref o9, .ref o10, .ref o11, .int 0, .ref o12, .ref o13, .ref o14, .int 0, .ref o15, .ref o16, .ref o17, .int 0, .ref o18]))] s.heap := hP
  have hl := lv_entry ([.ref o0, .int a1]) (n := 3) (Nat.le_of_ble_eq_true rfl)
  rw [lg_entry_eq]
  generalize (lg_sl ([.ref o0, .int a1]) ++ List.replicate (3 - (lg_sl ([.ref o0, .int a1])).length) Slot.unset).toArray = ls at hl ⊢
  have hl : lv_has ls 3 [(0, .ref o0), (1, .int a1)] := hl
  refine lv_iload_n hx hb dX12_colour_0 rfl (lv_at hl 1 rfl) ?_
  refine lv_iconst (v := (-1)) hx hb dX12_colour_1 (by decide) ?_
  refine lv_icmp_eq (tgt := 15) hx hb dX12_colour_2 (by decide) (fun h9 => absurd h9 (ib_ne (X := a1.toInt) (Y := (-1)) rfl (by decide +kernel) (by omega))) (fun _ => ?_)
  refine lv_aload_n hx hb dX12_colour_5 rfl (lv_at hl 0 rfl) ?_
  refine lv_iload_n hx hb dX12_colour_6 rfl (lv_at hl 1 rfl) ?_
  refine kcall_i (D := (dC, dI)) (S := Unit) (v := 0) (wc := [(o0, .inr (12, [.int 0, .ref o1, .int 0, .ref o2, .int 0, .ref o3, .ref o4, .int 0, .ref o5, .int 0, .ref o6, .int (-9), .int 0, .int 0, .ref o7, .ref o8, .ref o9, .ref o10, .ref o11, .int 0, .ref o12, .ref o13, .ref o14, .int 0, .ref o15, .ref o16, .ref o17, .int 0, .ref o18]))]) (wr := []) (w1 := fun _ => [(o0, .inr (12, [.int 0, .ref o1, .int 0, .ref o2, .int 0, .ref o3, .ref o4, .int 0, .ref o5, .int 0, .ref o6, .int (-9), .int 0, .int 0, .ref o7, .ref o8, .ref o9, .ref o10, .ref o11, .int 0, .ref o12, .ref o13, .ref o14, .int 0, .ref o15, .ref o16, .ref o17, .int 0, .ref o18]))]) (fun hPc hDc => va_runV (As := [.int a1]) (rest := []) ⟨hx, hb, hml, hown, hts⟩ (kX12_isNode_3 l dC dI cI c2 o0 o1 o2 o3 o4 o5 o6 o7 o8 o9 o10 o11 o12 o13 o14 o15 o16 o17 o18 s.heap.size a1 (by omega) (by omega)) (cwV 1 hts gX12_colour_X12_isNode rfl rfl rfl (by decide +kernel) ⟨Nat.le_of_ble_eq_true rfl, Nat.le_of_ble_eq_true rfl⟩) (pre_V hPc hK hDc hN (ci := 12) (q0 := 0) rfl rfl) rfl rfl hl.1 rfl (lv_room (Nat.le_of_ble_eq_true rfl)) dX12_colour_7 ⟨Nat.le_of_ble_eq_true rfl, Nat.le_of_ble_eq_true rfl⟩) hP hD hS hA [0] [] rfl rfl (by decide) (by decide) (by decide) (fun u H locs hP hD hS => ?_)
  have hP : va_P (dC, dI) vwCl [(o0, .inr (12, [.int 0, .ref o1, .int 0, .ref o2, .int 0, .ref o3, .ref o4, .int 0, .ref o5, .int 0, .ref o6, .int (-9), .int 0, .int 0, .ref o7, .ref o8, .ref o9, .ref o10, .ref o11, .int 0, .ref o12, .ref o13, .ref o14, .int 0, .ref o15, .ref o16, .ref o17, .int 0, .ref o18]))] H := hP
  have hD : va_D A [(o0, .inr (12, [.int 0, .ref o1, .int 0, .ref o2, .int 0, .ref o3, .ref o4, .int 0, .ref o5, .int 0, .ref o6, .int (-9), .int 0, .int 0, .ref o7, .ref o8, .ref o9, .ref o10, .ref o11, .int 0, .ref o12, .ref o13, .ref o14, .int 0, .ref o15, .ref o16, .ref o17, .int 0, .ref o18]))] := hD
  refine lv_if_ne (tgt := 15) hx hb dX12_colour_10 (by decide) (fun h9 => absurd (by decide +kernel) h9) (fun _ => ?_)
  refine lv_iconst (v := (-1)) hx hb dX12_colour_13 (by decide) ?_
  have hP9 := hP.sub (ws' := []) [] rfl
  have hD9 := hD.sub (ws' := []) [] (by decide) rfl
  exact W.iret (v := (-1)) hx hb hr (fun t ht hW => ⟨⟨(-1), (), rfl, rfl, by rw [ht]; exact hP9, va_K.moved hW.alike hK, hD9⟩, hS.F ht⟩) hS.2.2 dX12_colour_14
theorem iw_X7_paints_X4 : ∀ w ∈ wsX40, w ∈ wsX7_paints := by decide +kernel
set_option maxHeartbeats 1000000 in
set_option maxRecDepth 100000 in
theorem kX7_paints_1 (l : Launch) (dC : Nat → ClassId) (dI : Nat → Nat → Nat) (cI c2 : ClassId) (o0 : Nat) (o1 : Nat) (o2 : Nat) (sz : Nat) : Met l yX7_paints wsX7_paints ({ frames := 0, cells := 0, slots := 0, locals := 0 }) (va_Pc [.ref o0, .ref o1, .int 0, .int 0] (wPre (dC, dI) [(cI, .int), (c2, .array .int)] [(o1, .inr (4, [.ref o2, .int 0, .int 0]))] sz)) (va_Qi (fun (r : Int32) (_ : Unit) => r = 1) (fun _ t => wPost (dC, dI) [(cI, .int), (c2, .array .int)] (va_A [(o1, .inr (4, [.ref o2, .int 0, .int 0]))] sz) [(o1, .inr (4, [.ref o2, .int 0, .int 0]))] t) (va_A [(o1, .inr (4, [.ref o2, .int 0, .int 0]))] sz)) 0 0 (va_A [(o1, .inr (4, [.ref o2, .int 0, .int 0]))] sz) := by
  refine Met.ofW (cc := cX7_paints) (maxL := 5) (ret := (some .boolean)) (by decide) rfl ?_
  intro p e s m args below meth c s₁ B hml hv
  obtain ⟨rfl, hsz, hP, hK, hD0, hN⟩ := hv
  have hx := B.exec
  have hb := B.bytes
  have hr := B.returns
  have hts := atoms_spec (ws := wsX7_paints) B.pre
  have hown : s.vm.findClass RX7 = some m.cls := findClass_of_methodNamed B.named
  have hlocks := B.notSynchronized
  subst hsz
  have hD := hD0.self (sz := s.heap.size)
  generalize hAe : va_A [(o1, .inr (4, [.ref o2, .int 0, .int 0]))] s.heap.size = A at hD ⊢
  have hA : ∀ q : Nat, s.heap.size ≤ q → A q := fun q h => by rw [← hAe]; exact Or.inr h
  have hS : va_S A s.heap s.heap [] := va_S.rf
  have hP : va_P (dC, dI) vwCl [(o1, .inr (4, [.ref o2, .int 0, .int 0]))] s.heap := hP
  have hl := lv_entry ([.ref o0, .ref o1, .int 0, .int 0]) (n := 5) (Nat.le_of_ble_eq_true rfl)
  rw [lg_entry_eq]
  generalize (lg_sl ([.ref o0, .ref o1, .int 0, .int 0]) ++ List.replicate (5 - (lg_sl ([.ref o0, .ref o1, .int 0, .int 0])).length) Slot.unset).toArray = ls at hl ⊢
  have hl : lv_has ls 5 [(0, .ref o0), (1, .ref o1), (2, .int 0), (3, .int 0)] := hl
  refine lv_iload_n hx hb dX7_paints_0 rfl (lv_at hl 2 rfl) ?_
  refine lv_aload_n hx hb dX7_paints_1 rfl (lv_at hl 1 rfl) ?_
  refine va_getN (D := (dC, dI)) (ci := 4) (v := .int 0) (C := RX4) (T := TX4) (N := 3) hx hb hts iw_X7_paints_X4 hown hK hP 0 rfl rfl 1 (by decide) (hN.use ns_8) (fun _ h9 => h9) rfl dX7_paints_2 ?_
  refine lv_icmp_lt (tgt := 10) hx hb dX7_paints_5 (by decide) (fun h9 => absurd h9 (by decide +kernel)) (fun _ => ?_)
  refine lv_iconst (v := 1) hx hb dX7_paints_8 (by decide) ?_
  have hP9 := hP.sub (ws' := [(o1, .inr (4, [.ref o2, .int 0, .int 0]))]) [0] rfl
  have hD9 := hD.sub (ws' := [(o1, .inr (4, [.ref o2, .int 0, .int 0]))]) [0] (by decide) rfl
  exact W.zret (v := 1) (ty := .boolean) hx hb hr rfl (fun t ht hW => ⟨⟨1, (), rfl, rfl, by rw [ht]; exact hP9, va_K.moved hW.alike hK, hD9⟩, hS.F ht⟩) hS.2.2 dX7_paints_9
theorem iw_X7_bring_X4 : ∀ w ∈ wsX40, w ∈ wsX7_bring := by decide +kernel
theorem iw_X7_bring_X7 : ∀ w ∈ wsX70, w ∈ wsX7_bring := by decide +kernel
set_option maxHeartbeats 1000000 in
set_option maxRecDepth 100000 in
theorem kX7_bring_1 (l : Launch) (dC : Nat → ClassId) (dI : Nat → Nat → Nat) (cI c2 : ClassId) (o0 : Nat) (o1 : Nat) (o2 : Nat) (o3 : Nat) (o4 : Nat) (sz : Nat) : Met l yX7_bring wsX7_bring ({ frames := 1, cells := 0, slots := 0, locals := 24 }) (va_Pc [.ref o0, .ref o1, .int 0] (wPre (dC, dI) [(cI, .int), (c2, .array .int)] [(o0, .inr (7, [.ref o3, .ref o2, .int 0, .int (-1)])), (o1, .inr (4, [.ref o4, .int 0, .int 0])), (o2, .inl (cI, 12, .inl (fun _ => 0)))] sz)) (va_Qv (fun (_ : Unit) => True) (fun _ t => wPost (dC, dI) [(cI, .int), (c2, .array .int)] (va_A [(o0, .inr (7, [.ref o3, .ref o2, .int 0, .int (-1)])), (o1, .inr (4, [.ref o4, .int 0, .int 0])), (o2, .inl (cI, 12, .inl (fun _ => 0)))] sz) [(o0, .inr (7, [.ref o3, .ref o2, .int 0, .int 0])), (o2, .inl (cI, 12, .inl (fun _ => 0))), (o1, .inr (4, [.ref o4, .int 0, .int 0]))] t) (va_A [(o0, .inr (7, [.ref o3, .ref o2, .int 0, .int (-1)])), (o1, .inr (4, [.ref o4, .int 0, .int 0])), (o2, .inl (cI, 12, .inl (fun _ => 0)))] sz)) 0 0 (va_A [(o0, .inr (7, [.ref o3, .ref o2, .int 0, .int (-1)])), (o1, .inr (4, [.ref o4, .int 0, .int 0])), (o2, .inl (cI, 12, .inl (fun _ => 0)))] sz) := by
  refine Met.ofW (cc := cX7_bring) (maxL := 4) (ret := none) (by decide) rfl ?_
  intro p e s m args below meth c s₁ B hml hv
  obtain ⟨rfl, hsz, hP, hK, hD0, hN⟩ := hv
  have hx := B.exec
  have hb := B.bytes
  have hr := B.returns
  have hts := atoms_spec (ws := wsX7_bring) B.pre
  have hown : s.vm.findClass RX7 = some m.cls := findClass_of_methodNamed B.named
  have hlocks := B.notSynchronized
  subst hsz
  have hD := hD0.self (sz := s.heap.size)
  generalize hAe : va_A [(o0, .inr (7, [.ref o3, .ref o2, .int 0, .int (-1)])), (o1, .inr (4, [.ref o4, .int 0, .int 0])), (o2, .inl (cI, 12, .inl (fun _ => 0)))] s.heap.size = A at hD ⊢
  have hA : ∀ q : Nat, s.heap.size ≤ q → A q := fun q h => by rw [← hAe]; exact Or.inr h
  have hS : va_S A s.heap s.heap [] := va_S.rf
  have hP : va_P (dC, dI) vwCl [(o0, .inr (7, [.ref o3, .ref o2, .int 0, .int (-1)])), (o1, .inr (4, [.ref o4, .int 0, .int 0])), (o2, .inl (cI, 12, .inl (fun _ => 0)))] s.heap := hP
  have hl := lv_entry ([.ref o0, .ref o1, .int 0]) (n := 4) (Nat.le_of_ble_eq_true rfl)
  rw [lg_entry_eq]
  generalize (lg_sl ([.ref o0, .ref o1, .int 0]) ++ List.replicate (4 - (lg_sl ([.ref o0, .ref o1, .int 0])).length) Slot.unset).toArray = ls at hl ⊢
  have hl : lv_has ls 4 [(0, .ref o0), (1, .ref o1), (2, .int 0)] := hl
  refine lv_aload_n hx hb dX7_bring_0 rfl (lv_at hl 0 rfl) ?_
  refine va_get (D := (dC, dI)) (ci := 7) (v := .int (-1)) (C := RX7) (T := TX7) (N := 4) hx hb hts iw_X7_bring_X7 hown hK hP 0 rfl rfl 3 (by decide) (hts (.fieldLink RX7 22 "HolelessHouse$Paint" "madeFor" "I") (by decide +kernel)) (fun _ h9 => h9) rfl dX7_bring_1 ?_
  refine lv_aload_n hx hb dX7_bring_4 rfl (lv_at hl 1 rfl) ?_
  refine va_getN (D := (dC, dI)) (ci := 4) (v := .int 0) (C := RX4) (T := TX4) (N := 3) hx hb hts iw_X7_bring_X4 hown hK hP 1 rfl rfl 2 (by decide) (hN.use ns_16) (fun _ h9 => h9) rfl dX7_bring_5 ?_
  refine lv_icmp_ne (tgt := 12) hx hb dX7_bring_8 (by decide) (fun _ => ?_) (fun h9 => absurd h9 (by decide +kernel))
  refine lv_aload_n hx hb dX7_bring_12 rfl (lv_at hl 0 rfl) ?_
  refine lv_aload_n hx hb dX7_bring_13 rfl (lv_at hl 1 rfl) ?_
  refine va_getN (D := (dC, dI)) (ci := 4) (v := .int 0) (C := RX4) (T := TX4) (N := 3) hx hb hts iw_X7_bring_X4 hown hK hP 1 rfl rfl 2 (by decide) (hN.use ns_16) (fun _ h9 => h9) rfl dX7_bring_14 ?_
  refine va_put (D := (dC, dI)) (ci := 7) (v := .int 0) (ty := .int) (C := RX7) (T := TX7) (N := 4) hx hb hts iw_X7_bring_X7 tyX7 tyX7_ok nmX7 hown hK hP hD hS 0 rfl rfl 3 (by decide) (hts (.fieldLink RX7 22 "HolelessHouse$Paint" "madeFor" "I") (by decide +kernel)) (fun _ h9 => h9) rfl (by decide +kernel) rfl rfl (Nat.le_of_ble_eq_true rfl) dX7_bring_17 (fun H locs hP hD hS => ?_)
  have hP : va_P (dC, dI) vwCl [(o0, .inr (7, [.ref o3, .ref o2, .int 0, .int 0])), (o1, .inr (4, [.ref o4, .int 0, .int 0])), (o2, .inl (cI, 12, .inl (fun _ => 0)))] H := hP
  have hD : va_D A [(o0, .inr (7, [.ref o3, .ref o2, .int 0, .int 0])), (o1, .inr (4, [.ref o4, .int 0, .int 0])), (o2, .inl (cI, 12, .inl (fun _ => 0)))] := hD
  refine lv_iload_n hx hb dX7_bring_20 rfl (lv_at hl 2 rfl) ?_
  refine lv_istore_n (lv' := [(3, .int 0), (0, .ref o0), (1, .ref o1), (2, .int 0)]) hx hb dX7_bring_21 rfl hl (by decide) rfl (fun ls hl => ?_)
  refine lv_iload_n hx hb dX7_bring_22 rfl (lv_at hl 0 rfl) ?_
  refine lv_aload_n hx hb dX7_bring_23 rfl (lv_at hl 2 rfl) ?_
  refine va_getN (D := (dC, dI)) (ci := 4) (v := .int 0) (C := RX4) (T := TX4) (N := 3) hx hb hts iw_X7_bring_X4 hown hK hP 1 rfl rfl 1 (by decide) (hN.use ns_8) (fun _ h9 => h9) rfl dX7_bring_24 ?_
  refine lv_icmp_gt (tgt := 60) hx hb dX7_bring_27 (by decide) (fun h9 => absurd h9 (by decide +kernel)) (fun _ => ?_)
  refine lv_aload_n hx hb dX7_bring_30 rfl (lv_at hl 1 rfl) ?_
  refine va_get (D := (dC, dI)) (ci := 7) (v := .ref o2) (C := RX7) (T := TX7) (N := 4) hx hb hts iw_X7_bring_X7 hown hK hP 0 rfl rfl 1 (by decide) (hts (.fieldLink RX7 15 "HolelessHouse$Paint" "worn" "[I") (by decide +kernel)) (fun _ h9 => h9) rfl dX7_bring_31 ?_
  refine lv_iconst (v := 0) hx hb dX7_bring_34 (by decide) ?_
  refine kcall_v (D := (dC, dI)) (S := Unit) (wc := [(o2, .inl (cI, 12, .inl (fun _ => 0)))]) (wr := [(o0, .inr (7, [.ref o3, .ref o2, .int 0, .int 0])), (o1, .inr (4, [.ref o4, .int 0, .int 0]))]) (w1 := fun _ => [(o2, .inl (cI, 12, .inl (fun _ => 0)))]) (fun hPc hDc => va_runS (As := [.ref o2, .int 0]) (rest := []) ⟨hx, hb, hml, hown, hts⟩ (kJ7_fill_53178_2 l dC dI cI c2 o2 H.size) (va_cwS 2 hts gX7_bring_J7_fill_53178 rfl rfl rfl (by decide +kernel) ⟨Nat.le_of_ble_eq_true rfl, Nat.le_of_ble_eq_true rfl⟩) (pre_S hPc hK hDc hN) rfl rfl hl.1 rfl (lv_room (Nat.le_of_ble_eq_true rfl)) dX7_bring_35 ⟨Nat.le_of_ble_eq_true rfl, Nat.le_of_ble_eq_true rfl⟩) hP hD hS hA [2] [0, 1] rfl rfl (by decide) (by decide) (by decide) (fun u H locs hP hD hS => ?_)
  have hP : va_P (dC, dI) vwCl [(o0, .inr (7, [.ref o3, .ref o2, .int 0, .int 0])), (o1, .inr (4, [.ref o4, .int 0, .int 0])), (o2, .inl (cI, 12, .inl (fun _ => 0)))] H := hP
  have hD : va_D A [(o0, .inr (7, [.ref o3, .ref o2, .int 0, .int 0])), (o1, .inr (4, [.ref o4, .int 0, .int 0])), (o2, .inl (cI, 12, .inl (fun _ => 0)))] := hD
  refine lv_aload_n hx hb dX7_bring_38 rfl (lv_at hl 1 rfl) ?_
  refine lv_iload_n hx hb dX7_bring_39 rfl (lv_at hl 0 rfl) ?_
  refine va_put (D := (dC, dI)) (ci := 7) (v := .int 0) (ty := .int) (C := RX7) (T := TX7) (N := 4) hx hb hts iw_X7_bring_X7 tyX7 tyX7_ok nmX7 hown hK hP hD hS 0 rfl rfl 2 (by decide) (hts (.fieldLink RX7 18 "HolelessHouse$Paint" "most" "I") (by decide +kernel)) (fun _ h9 => h9) rfl (by decide +kernel) rfl rfl (Nat.le_of_ble_eq_true rfl) dX7_bring_40 (fun H locs hP hD hS => ?_)
  have hP : va_P (dC, dI) vwCl [(o0, .inr (7, [.ref o3, .ref o2, .int 0, .int 0])), (o1, .inr (4, [.ref o4, .int 0, .int 0])), (o2, .inl (cI, 12, .inl (fun _ => 0)))] H := hP
  have hD : va_D A [(o0, .inr (7, [.ref o3, .ref o2, .int 0, .int 0])), (o1, .inr (4, [.ref o4, .int 0, .int 0])), (o2, .inl (cI, 12, .inl (fun _ => 0)))] := hD
  refine lv_aload_n hx hb dX7_bring_43 rfl (lv_at hl 1 rfl) ?_
  refine lv_aload_n hx hb dX7_bring_44 rfl (lv_at hl 2 rfl) ?_
  refine lv_iconst (v := 0) hx hb dX7_bring_45 (by decide) ?_
  refine lv_iconst (v := 0) hx hb dX7_bring_46 (by decide) ?_
  refine kcall_i (D := (dC, dI)) (S := Unit) (v := 1) (wc := [(o1, .inr (4, [.ref o4, .int 0, .int 0]))]) (wr := [(o0, .inr (7, [.ref o3, .ref o2, .int 0, .int 0])), (o2, .inl (cI, 12, .inl (fun _ => 0)))]) (w1 := fun _ => [(o1, .inr (4, [.ref o4, .int 0, .int 0]))]) (fun hPc hDc => va_runS (As := [.ref o0, .ref o1, .int 0, .int 0]) (rest := []) ⟨hx, hb, hml, hown, hts⟩ (kX7_paints_1 l dC dI cI c2 o0 o1 o4 H.size) (va_cwS 4 hts gX7_bring_X7_paints rfl rfl rfl (by decide +kernel) ⟨Nat.le_of_ble_eq_true rfl, Nat.le_of_ble_eq_true rfl⟩) (pre_S hPc hK hDc hN) rfl rfl hl.1 rfl (lv_room (Nat.le_of_ble_eq_true rfl)) dX7_bring_47 ⟨Nat.le_of_ble_eq_true rfl, Nat.le_of_ble_eq_true rfl⟩) hP hD hS hA [1] [0, 2] rfl rfl (by decide) (by decide) (by decide) (fun u H locs hP hD hS => ?_)
  have hP : va_P (dC, dI) vwCl [(o0, .inr (7, [.ref o3, .ref o2, .int 0, .int 0])), (o2, .inl (cI, 12, .inl (fun _ => 0))), (o1, .inr (4, [.ref o4, .int 0, .int 0]))] H := hP
  have hD : va_D A [(o0, .inr (7, [.ref o3, .ref o2, .int 0, .int 0])), (o2, .inl (cI, 12, .inl (fun _ => 0))), (o1, .inr (4, [.ref o4, .int 0, .int 0]))] := hD
  refine lv_if_eq (tgt := 54) hx hb dX7_bring_50 (by decide) (fun h9 => absurd h9 (by decide +kernel)) (fun _ => ?_)
  have hP9 := hP.sub (ws' := [(o0, .inr (7, [.ref o3, .ref o2, .int 0, .int 0])), (o2, .inl (cI, 12, .inl (fun _ => 0))), (o1, .inr (4, [.ref o4, .int 0, .int 0]))]) [0, 1, 2] rfl
  have hD9 := hD.sub (ws' := [(o0, .inr (7, [.ref o3, .ref o2, .int 0, .int 0])), (o2, .inl (cI, 12, .inl (fun _ => 0))), (o1, .inr (4, [.ref o4, .int 0, .int 0]))]) [0, 1, 2] (by decide) rfl
  exact W.vret hx hb hr (fun t ht hW => ⟨⟨(), rfl, trivial, by rw [ht]; exact hP9, va_K.moved hW.alike hK, hD9⟩, hS.F ht⟩) hS.2.2 dX7_bring_53
theorem iw_X11_colour_X7 : ∀ w ∈ wsX70, w ∈ wsX11_colour := by decide +kernel
set_option maxHeartbeats 1000000 in
set_option maxRecDepth 100000 in
theorem kX11_colour_2 (l : Launch) (dC : Nat → ClassId) (dI : Nat → Nat → Nat) (cI c2 : ClassId) (o0 : Nat) (o1 : Nat) (o2 : Nat) (o3 : Nat) (o4 : Nat) (o5 : Nat) (o6 : Nat) (o7 : Nat) (o8 : Nat) (o9 : Nat) (o10 : Nat) (o11 : Nat) (o12 : Nat) (o13 : Nat) (o14 : Nat) (o15 : Nat) (o16 : Nat) (o17 : Nat) (o18 : Nat) (o19 : Nat) (sz : Nat) : Met l yX11_colour wsX11_colour ({ frames := 4, cells := 0, slots := 0, locals := 92 }) (va_Pc [.ref o0, .int (-1)] (wPre (dC, dI) [(cI, .int), (c2, .array .int)] [(o0, .inr (11, [.ref o2, .ref o5, .ref o6, .ref o7, .ref o1, .ref o8, .ref o3, .ref o9, .ref o10, .ref o11, .ref o12, .ref o13, .int 0])), (o1, .inr (1, [.int 0, .ref o14, .ref o15, .ref o16, .ref o17, .int 0, .int (-1), .int (-1)])), (o2, .inr (4, [.ref o18, .int 0, .int 0])), (o3, .inr (7, [.ref o19, .ref o4, .int 0, .int (-1)])), (o4, .inl (cI, 12, .inl (fun _ => 0)))] sz)) (va_Qi (fun (r : Int32) (_ : Unit) => r = 0) (fun _ t => wPost (dC, dI) [(cI, .int), (c2, .array .int)] (va_A [(o0, .inr (11, [.ref o2, .ref o5, .ref o6, .ref o7, .ref o1, .ref o8, .ref o3, .ref o9, .ref o10, .ref o11, .ref o12, .ref o13, .int 0])), (o1, .inr (1, [.int 0, .ref o14, .ref o15, .ref o16, .ref o17, .int 0, .int (-1), .int (-1)])), (o2, .inr (4, [.ref o18, .int 0, .int 0])), (o3, .inr (7, [.ref o19, .ref o4, .int 0, .int (-1)])), (o4, .inl (cI, 12, .inl (fun _ => 0)))] sz) [] t) (va_A [(o0, .inr (11, [.ref o2, .ref o5, .ref o6, .ref o7, .ref o1, .ref o8, .ref o3, .ref o9, .ref o10, .ref o11, .ref o12, .ref o13, .int 0])), (o1, .inr (1, [.int 0, .ref o14, .ref o15, .ref o16, .ref o17, .int 0, .int (-1), .int (-1)])), (o2, .inr (4, [.ref o18, .int 0, .int 0])), (o3, .inr (7, [.ref o19, .ref o4, .int 0, .int (-1)])), (o4, .inl (cI, 12, .inl (fun _ => 0)))] sz)) 0 0 (va_A [(o0, .inr (11, [.ref o2, .ref o5, .ref o6, .ref o7, .ref o1, .ref o8, .ref o3, .ref o9, .ref o10, .ref o11, .ref o12, .ref o13, .int 0])), (o1, .inr (1, [.int 0, .ref o14, .ref o15, .ref o16, .ref o17, .int 0, .int (-1), .int (-1)])), (o2, .inr (4, [.ref o18, .int 0, .int 0])), (o3, .inr (7, [.ref o19, .ref o4, .int 0, .int (-1)])), (o4, .inl (cI, 12, .inl (fun _ => 0)))] sz) := by
  refine Met.ofW (cc := cX11_colour) (maxL := 2) (ret := (some .int)) (by decide) rfl ?_
  intro p e s m args below meth c s₁ B hml hv
  obtain ⟨rfl, hsz, hP, hK, hD0, hN⟩ := hv
  have hx := B.exec
  have hb := B.bytes
  have hr := B.returns
  have hts := atoms_spec (ws := wsX11_colour) B.pre
  have hown : s.vm.findClass RX11 = some m.cls := findClass_of_methodNamed B.named
  have hlocks := B.notSynchronized
  subst hsz
  have hD := hD0.self (sz := s.heap.size)
  generalize hAe : va_A [(o0, .inr (11, [.ref o2, .ref o5, .ref o6, .ref o7, .ref o1, .ref o8, .ref o3, .ref o9, .ref o10, .ref o11, .ref o12, .ref o13, .int 0])), (o1, .inr (1, [.int 0, .ref o14, .ref o15, .ref o16, .ref o17, .int 0, .int (-1), .int (-1)])), (o2, .inr (4, [.ref o18, .int 0, .int 0])), (o3, .inr (7, [.ref o19, .ref o4, .int 0, .int (-1)])), (o4, .inl (cI, 12, .inl (fun _ => 0)))] s.heap.size = A at hD ⊢
  have hA : ∀ q : Nat, s.heap.size ≤ q → A q := fun q h => by rw [← hAe]; exact Or.inr h
  have hS : va_S A s.heap s.heap [] := va_S.rf
  have hP : va_P (dC, dI) vwCl [(o0, .inr (11, [.ref o2, .ref o5, .ref o6, .ref o7, .ref o1, .ref o8, .ref o3, .ref o9, .ref o10, .ref o11, .ref o12, .ref o13, .int 0])), (o1, .inr (1, [.int 0, .ref o14, .ref o15, .ref o16, .ref o17, .int 0, .int (-1), .int (-1)])), (o2, .inr (4, [.ref o18, .int 0, .int 0])), (o3, .inr (7, [.ref o19, .ref o4, .int 0, .int (-1)])), (o4, .inl (cI, 12, .inl (fun _ => 0)))] s.heap := hP
  have hl := lv_entry ([.ref o0, .int (-1)]) (n := 2) (Nat.le_of_ble_eq_true rfl)
  rw [lg_entry_eq]
  generalize (lg_sl ([.ref o0, .int (-1)]) ++ List.replicate (2 - (lg_sl ([.ref o0, .int (-1)])).length) Slot.unset).toArray = ls at hl ⊢
  have hl : lv_has ls 2 [(0, .ref o0), (1, .int (-1))] := hl
  refine lv_iload_n hx hb dX11_colour_0 rfl (lv_at hl 1 rfl) ?_
  refine lv_iconst (v := (-1)) hx hb dX11_colour_1 (by decide) ?_
  refine lv_icmp_eq (tgt := 18) hx hb dX11_colour_2 (by decide) (fun _ => ?_) (fun h9 => absurd (by decide +kernel) h9)
  refine lv_aload_n hx hb dX11_colour_18 rfl (lv_at hl 0 rfl) ?_
  refine va_get (D := (dC, dI)) (ci := 11) (v := .ref o1) (C := RX11) (T := TX11) (N := 13) hx hb hts iw_X11_colour_X11 hown hK hP 0 rfl rfl 4 (by decide) (hts (.fieldLink RX11 42 "HolelessHouse" "cliques" "LHolelessHouse$Cliques;") (by decide +kernel)) (fun _ h9 => h9) rfl dX11_colour_19 ?_
  refine lv_aload_n hx hb dX11_colour_22 rfl (lv_at hl 0 rfl) ?_
  refine va_get (D := (dC, dI)) (ci := 11) (v := .ref o2) (C := RX11) (T := TX11) (N := 13) hx hb hts iw_X11_colour_X11 hown hK hP 0 rfl rfl 0 (by decide) (hts (.fieldLink RX11 10 "HolelessHouse" "graph" "LHolelessHouse$Graph;") (by decide +kernel)) (fun _ h9 => h9) rfl dX11_colour_23 ?_
  refine kcall_v (D := (dC, dI)) (S := Unit) (wc := [(o1, .inr (1, [.int 0, .ref o14, .ref o15, .ref o16, .ref o17, .int 0, .int (-1), .int (-1)])), (o2, .inr (4, [.ref o18, .int 0, .int 0]))]) (wr := [(o0, .inr (11, [.ref o2, .ref o5, .ref o6, .ref o7, .ref o1, .ref o8, .ref o3, .ref o9, .ref o10, .ref o11, .ref o12, .ref o13, .int 0])), (o3, .inr (7, [.ref o19, .ref o4, .int 0, .int (-1)])), (o4, .inl (cI, 12, .inl (fun _ => 0)))]) (w1 := fun _ => [(o2, .inr (4, [.ref o18, .int 0, .int 0])), (o1, .inr (1, [.int 0, .ref o14, .ref o15, .ref o16, .ref o17, .int 0, .int 0, .int (-1)]))]) (fun hPc hDc => va_runVN (As := [.ref o2]) (rest := []) ⟨hx, hb, hml, hown, hts⟩ (kX1_bring_1 l dC dI cI c2 o1 o2 o14 o15 o16 o17 o18 s.heap.size) ⟨va_cnB 1 hts gX11_colour_X1_bring_n193 rfl rfl rfl (hN.1 _ ns_105) (hts (.initialized RX1) (by decide +kernel)) (by decide +kernel) ⟨Nat.le_of_ble_eq_true rfl, Nat.le_of_ble_eq_true rfl⟩, (hts (.instanceMethod yX1_bring) (by decide +kernel)), (hts (.selects RX1 yX1_bring yX1_bring) (by decide +kernel))⟩ (pre_V hPc hK hDc hN (ci := 1) (q0 := 0) rfl rfl) rfl rfl hl.1 rfl (lv_room (Nat.le_of_ble_eq_true rfl)) dX11_colour_26 ⟨Nat.le_of_ble_eq_true rfl, Nat.le_of_ble_eq_true rfl⟩) hP hD hS hA [1, 2] [0, 3, 4] rfl rfl (by decide) (by decide) (by decide) (fun u H locs hP hD hS => ?_)
  have hP : va_P (dC, dI) vwCl [(o0, .inr (11, [.ref o2, .ref o5, .ref o6, .ref o7, .ref o1, .ref o8, .ref o3, .ref o9, .ref o10, .ref o11, .ref o12, .ref o13, .int 0])), (o3, .inr (7, [.ref o19, .ref o4, .int 0, .int (-1)])), (o4, .inl (cI, 12, .inl (fun _ => 0))), (o2, .inr (4, [.ref o18, .int 0, .int 0])), (o1, .inr (1, [.int 0, .ref o14, .ref o15, .ref o16, .ref o17, .int 0, .int 0, .int (-1)]))] H := hP
  have hD : va_D A [(o0, .inr (11, [.ref o2, .ref o5, .ref o6, .ref o7, .ref o1, .ref o8, .ref o3, .ref o9, .ref o10, .ref o11, .ref o12, .ref o13, .int 0])), (o3, .inr (7, [.ref o19, .ref o4, .int 0, .int (-1)])), (o4, .inl (cI, 12, .inl (fun _ => 0))), (o2, .inr (4, [.ref o18, .int 0, .int 0])), (o1, .inr (1, [.int 0, .ref o14, .ref o15, .ref o16, .ref o17, .int 0, .int 0, .int (-1)]))] := hD
  refine lv_aload_n hx hb dX11_colour_29 rfl (lv_at hl 0 rfl) ?_
  refine va_get (D := (dC, dI)) (ci := 11) (v := .ref o3) (C := RX11) (T := TX11) (N := 13) hx hb hts iw_X11_colour_X11 hown hK hP 0 rfl rfl 6 (by decide) (hts (.fieldLink RX11 52 "HolelessHouse" "paint" "LHolelessHouse$Paint;") (by decide +kernel)) (fun _ h9 => h9) rfl dX11_colour_30 ?_
  refine lv_aload_n hx hb dX11_colour_33 rfl (lv_at hl 0 rfl) ?_
  refine va_get (D := (dC, dI)) (ci := 11) (v := .ref o2) (C := RX11) (T := TX11) (N := 13) hx hb hts iw_X11_colour_X11 hown hK hP 0 rfl rfl 0 (by decide) (hts (.fieldLink RX11 10 "HolelessHouse" "graph" "LHolelessHouse$Graph;") (by decide +kernel)) (fun _ h9 => h9) rfl dX11_colour_34 ?_
  refine lv_aload_n hx hb dX11_colour_37 rfl (lv_at hl 0 rfl) ?_
  refine va_get (D := (dC, dI)) (ci := 11) (v := .ref o1) (C := RX11) (T := TX11) (N := 13) hx hb hts iw_X11_colour_X11 hown hK hP 0 rfl rfl 4 (by decide) (hts (.fieldLink RX11 42 "HolelessHouse" "cliques" "LHolelessHouse$Cliques;") (by decide +kernel)) (fun _ h9 => h9) rfl dX11_colour_38 ?_
  refine kcall_i (D := (dC, dI)) (S := Unit) (v := 0) (wc := [(o1, .inr (1, [.int 0, .ref o14, .ref o15, .ref o16, .ref o17, .int 0, .int 0, .int (-1)]))]) (wr := [(o0, .inr (11, [.ref o2, .ref o5, .ref o6, .ref o7, .ref o1, .ref o8, .ref o3, .ref o9, .ref o10, .ref o11, .ref o12, .ref o13, .int 0])), (o3, .inr (7, [.ref o19, .ref o4, .int 0, .int (-1)])), (o4, .inl (cI, 12, .inl (fun _ => 0))), (o2, .inr (4, [.ref o18, .int 0, .int 0]))]) (w1 := fun _ => [(o1, .inr (1, [.int 0, .ref o14, .ref o15, .ref o16, .ref o17, .int 0, .int 0, .int (-1)]))]) (fun hPc hDc => va_runVN (As := []) (rest := [.ref o2, .ref o3]) ⟨hx, hb, hml, hown, hts⟩ (kX1_widest_1 l dC dI cI c2 o1 o14 o15 o16 o17 H.size) ⟨va_cnB 0 hts gX11_colour_X1_widest_n199 rfl rfl rfl (hN.1 _ ns_109) (hts (.initialized RX1) (by decide +kernel)) (by decide +kernel) ⟨Nat.le_of_ble_eq_true rfl, Nat.le_of_ble_eq_true rfl⟩, (hts (.instanceMethod yX1_widest) (by decide +kernel)), (hts (.selects RX1 yX1_widest yX1_widest) (by decide +kernel))⟩ (pre_V hPc hK hDc hN (ci := 1) (q0 := 0) rfl rfl) rfl rfl hl.1 rfl (lv_room (Nat.le_of_ble_eq_true rfl)) dX11_colour_41 ⟨Nat.le_of_ble_eq_true rfl, Nat.le_of_ble_eq_true rfl⟩) hP hD hS hA [4] [0, 1, 2, 3] rfl rfl (by decide) (by decide) (by decide) (fun u H locs hP hD hS => ?_)
  have hP : va_P (dC, dI) vwCl [(o0, .inr (11, [.ref o2, .ref o5, .ref o6, .ref o7, .ref o1, .ref o8, .ref o3, .ref o9, .ref o10, .ref o11, .ref o12, .ref o13, .int 0])), (o3, .inr (7, [.ref o19, .ref o4, .int 0, .int (-1)])), (o4, .inl (cI, 12, .inl (fun _ => 0))), (o2, .inr (4, [.ref o18, .int 0, .int 0])), (o1, .inr (1, [.int 0, .ref o14, .ref o15, .ref o16, .ref o17, .int 0, .int 0, .int (-1)]))] H := hP
  have hD : va_D A [(o0, .inr (11, [.ref o2, .ref o5, .ref o6, .ref o7, .ref o1, .ref o8, .ref o3, .ref o9, .ref o10, .ref o11, .ref o12, .ref o13, .int 0])), (o3, .inr (7, [.ref o19, .ref o4, .int 0, .int (-1)])), (o4, .inl (cI, 12, .inl (fun _ => 0))), (o2, .inr (4, [.ref o18, .int 0, .int 0])), (o1, .inr (1, [.int 0, .ref o14, .ref o15, .ref o16, .ref o17, .int 0, .int 0, .int (-1)]))] := hD
  refine kcall_i (D := (dC, dI)) (S := Unit) (v := 0) (wc := []) (wr := [(o0, .inr (11, [.ref o2, .ref o5, .ref o6, .ref o7, .ref o1, .ref o8, .ref o3, .ref o9, .ref o10, .ref o11, .ref o12, .ref o13, .int 0])), (o3, .inr (7, [.ref o19, .ref o4, .int 0, .int (-1)])), (o4, .inl (cI, 12, .inl (fun _ => 0))), (o2, .inr (4, [.ref o18, .int 0, .int 0])), (o1, .inr (1, [.int 0, .ref o14, .ref o15, .ref o16, .ref o17, .int 0, .int 0, .int (-1)]))]) (w1 := fun _ => []) (fun hPc hDc => va_runS (As := [.int 0]) (rest := [.ref o2, .ref o3]) ⟨hx, hb, hml, hown, hts⟩ (kJ6_bitCount_0f7a4_1 l dC dI cI c2 H.size) (va_cwS 1 hts gX11_colour_J6_bitCount_0f7a4 rfl rfl rfl (by decide +kernel) ⟨Nat.le_of_ble_eq_true rfl, Nat.le_of_ble_eq_true rfl⟩) (pre_S hPc hK hDc hN) rfl rfl hl.1 rfl (lv_room (Nat.le_of_ble_eq_true rfl)) dX11_colour_44 ⟨Nat.le_of_ble_eq_true rfl, Nat.le_of_ble_eq_true rfl⟩) hP hD hS hA [] [0, 1, 2, 3, 4] rfl rfl (by decide) (by decide) (by decide) (fun u H locs hP hD hS => ?_)
  have hP : va_P (dC, dI) vwCl [(o0, .inr (11, [.ref o2, .ref o5, .ref o6, .ref o7, .ref o1, .ref o8, .ref o3, .ref o9, .ref o10, .ref o11, .ref o12, .ref o13, .int 0])), (o3, .inr (7, [.ref o19, .ref o4, .int 0, .int (-1)])), (o4, .inl (cI, 12, .inl (fun _ => 0))), (o2, .inr (4, [.ref o18, .int 0, .int 0])), (o1, .inr (1, [.int 0, .ref o14, .ref o15, .ref o16, .ref o17, .int 0, .int 0, .int (-1)]))] H := hP
  have hD : va_D A [(o0, .inr (11, [.ref o2, .ref o5, .ref o6, .ref o7, .ref o1, .ref o8, .ref o3, .ref o9, .ref o10, .ref o11, .ref o12, .ref o13, .int 0])), (o3, .inr (7, [.ref o19, .ref o4, .int 0, .int (-1)])), (o4, .inl (cI, 12, .inl (fun _ => 0))), (o2, .inr (4, [.ref o18, .int 0, .int 0])), (o1, .inr (1, [.int 0, .ref o14, .ref o15, .ref o16, .ref o17, .int 0, .int 0, .int (-1)]))] := hD
  refine kcall_v (D := (dC, dI)) (S := Unit) (wc := [(o3, .inr (7, [.ref o19, .ref o4, .int 0, .int (-1)])), (o2, .inr (4, [.ref o18, .int 0, .int 0])), (o4, .inl (cI, 12, .inl (fun _ => 0)))]) (wr := [(o0, .inr (11, [.ref o2, .ref o5, .ref o6, .ref o7, .ref o1, .ref o8, .ref o3, .ref o9, .ref o10, .ref o11, .ref o12, .ref o13, .int 0])), (o1, .inr (1, [.int 0, .ref o14, .ref o15, .ref o16, .ref o17, .int 0, .int 0, .int (-1)]))]) (w1 := fun _ => [(o3, .inr (7, [.ref o19, .ref o4, .int 0, .int 0])), (o4, .inl (cI, 12, .inl (fun _ => 0))), (o2, .inr (4, [.ref o18, .int 0, .int 0]))]) (fun hPc hDc => va_runVN (As := [.ref o2, .int 0]) (rest := []) ⟨hx, hb, hml, hown, hts⟩ (kX7_bring_1 l dC dI cI c2 o3 o2 o4 o19 o18 H.size) ⟨va_cnB 2 hts gX11_colour_X7_bring_n208 rfl rfl rfl (hN.1 _ ns_111) (hts (.initialized RX7) (by decide +kernel)) (by decide +kernel) ⟨Nat.le_of_ble_eq_true rfl, Nat.le_of_ble_eq_true rfl⟩, (hts (.instanceMethod yX7_bring) (by decide +kernel)), (hts (.selects RX7 yX7_bring yX7_bring) (by decide +kernel))⟩ (pre_V hPc hK hDc hN (ci := 7) (q0 := 0) rfl rfl) rfl rfl hl.1 rfl (lv_room (Nat.le_of_ble_eq_true rfl)) dX11_colour_47 ⟨Nat.le_of_ble_eq_true rfl, Nat.le_of_ble_eq_true rfl⟩) hP hD hS hA [1, 3, 2] [0, 4] rfl rfl (by decide) (by decide) (by decide) (fun u H locs hP hD hS => ?_)
  have hP : va_P (dC, dI) vwCl [(o0, .inr (11, [.ref o2, .ref o5, .ref o6, .ref o7, .ref o1, .ref o8, .ref o3, .ref o9, .ref o10, .ref o11, .ref o12, .ref o13, .int 0])), (o1, .inr (1, [.int 0, .ref o14, .ref o15, .ref o16, .ref o17, .int 0, .int 0, .int (-1)])), (o3, .inr (7, [.ref o19, .ref o4, .int 0, .int 0])), (o4, .inl (cI, 12, .inl (fun _ => 0))), (o2, .inr (4, [.ref o18, .int 0, .int 0]))] H := hP
  have hD : va_D A [(o0, .inr (11, [.ref o2, .ref o5, .ref o6, .ref o7, .ref o1, .ref o8, .ref o3, .ref o9, .ref o10, .ref o11, .ref o12, .ref o13, .int 0])), (o1, .inr (1, [.int 0, .ref o14, .ref o15, .ref o16, .ref o17, .int 0, .int 0, .int (-1)])), (o3, .inr (7, [.ref o19, .ref o4, .int 0, .int 0])), (o4, .inl (cI, 12, .inl (fun _ => 0))), (o2, .inr (4, [.ref o18, .int 0, .int 0]))] := hD
  refine lv_iload_n hx hb dX11_colour_50 rfl (lv_at hl 1 rfl) ?_
  refine lv_iconst (v := (-1)) hx hb dX11_colour_51 (by decide) ?_
  refine lv_icmp_ne (tgt := 65) hx hb dX11_colour_52 (by decide) (fun h9 => absurd (by decide +kernel) h9) (fun _ => ?_)
  refine lv_aload_n hx hb dX11_colour_55 rfl (lv_at hl 0 rfl) ?_
  refine va_get (D := (dC, dI)) (ci := 11) (v := .ref o3) (C := RX11) (T := TX11) (N := 13) hx hb hts iw_X11_colour_X11 hown hK hP 0 rfl rfl 6 (by decide) (hts (.fieldLink RX11 52 "HolelessHouse" "paint" "LHolelessHouse$Paint;") (by decide +kernel)) (fun _ h9 => h9) rfl dX11_colour_56 ?_
  refine va_getN (D := (dC, dI)) (ci := 7) (v := .int 0) (C := RX7) (T := TX7) (N := 4) hx hb hts iw_X11_colour_X7 hown hK hP 2 rfl rfl 2 (by decide) (hN.use ns_38) (fun _ h9 => h9) rfl dX11_colour_59 ?_
  refine lv_goto (tgt := 74) hx hb dX11_colour_62 (by decide) ?_
  have hP9 := hP.sub (ws' := []) [] rfl
  have hD9 := hD.sub (ws' := []) [] (by decide) rfl
  exact W.iret (v := 0) hx hb hr (fun t ht hW => ⟨⟨0, (), rfl, rfl, by rw [ht]; exact hP9, va_K.moved hW.alike hK, hD9⟩, hS.F ht⟩) hS.2.2 dX11_colour_74
theorem iw_X12_isColoured_X12 : ∀ w ∈ wsX120, w ∈ wsX12_isColoured := by decide +kernel
set_option maxHeartbeats 1000000 in
set_option maxRecDepth 100000 in
theorem kX12_isColoured_1 (l : Launch) (dC : Nat → ClassId) (dI : Nat → Nat → Nat) (cI c2 : ClassId) (o0 : Nat) (o1 : Nat) (o2 : Nat) (o3 : Nat) (o4 : Nat) (o5 : Nat) (o6 : Nat) (o7 : Nat) (o8 : Nat) (o9 : Nat) (o10 : Nat) (o11 : Nat) (o12 : Nat) (o13 : Nat) (o14 : Nat) (o15 : Nat) (o16 : Nat) (o17 : Nat) (o18 : Nat) (sz : Nat) : Met l yX12_isColoured wsX12_isColoured ({ frames := 0, cells := 0, slots := 0, locals := 0 }) (va_Pc [.ref o0, .int 0, .int 0] (wPre (dC, dI) [(cI, .int), (c2, .array .int)] [(o0, .inr (12, [.int 0, .ref o1, .int 0, .ref o2, .int 0, .ref o3, .ref o4, .int 0, .ref o5, .int 0, .ref o6, .int (-9), .int 0, .int 0, .ref o7, .ref o8, .ref o9, .ref o10, .ref o11, .int 0, .ref o12, .ref o13, .ref o14, .int 0, .ref o15, .ref o16, .ref o17, .int 0, .ref o18]))] sz)) (va_Qi (fun (r : Int32) (_ : Unit) => r = 1) (fun _ t => wPost (dC, dI) [(cI, .int), (c2, .array .int)] (va_A [(o0, .inr (12, [.int 0, .ref o1, .int 0, .ref o2, .int 0, .ref o3, .ref o4, .int 0, .ref o5, .int 0, .ref o6, .int (-9), .int 0, .int 0, .ref o7, .ref o8, .ref o9, .ref o10, .ref o11, .int 0, .ref o12, .ref o13, .ref o14, .int 0, .ref o15, .ref o16, .ref o17, .int 0, .ref o18]))] sz) [(o0, .inr (12, [.int 0, .ref o1, .int 0, .ref o2, .int 0, .ref o3, .ref o4, .int 0, .ref o5, .int 0, .ref o6, .int (-9), .int 0, .int 0, .ref o7, .ref o8, .ref o9, .ref o10, .ref o11, .int 0, .ref o12, .ref o13, .ref o14, .int 0, .ref o15, .ref o16, .ref o17, .int 0, .ref o18]))] t) (va_A [(o0, .inr (12, [.int 0, .ref o1, .int 0, .ref o2, .int 0, .ref o3, .ref o4, .int 0, .ref o5, .int 0, .ref o6, .int (-9), .int 0, .int 0, .ref o7, .ref o8, .ref o9, .ref o10, .ref o11, .int 0, .ref o12, .ref o13, .ref o14, .int 0, .ref o15, .ref o16, .ref o17, .int 0, .ref o18]))] sz)) 0 0 (va_A [(o0, .inr (12, [.int 0, .ref o1, .int 0, .ref o2, .int 0, .ref o3, .ref o4, .int 0, .ref o5, .int 0, .ref o6, .int (-9), .int 0, .int 0, .ref o7, .ref o8, .ref o9, .ref o10, .ref o11, .int 0, .ref o12, .ref o13, .ref o14, .int 0, .ref o15, .ref o16, .ref o17, .int 0, .ref o18]))] sz) := by
  refine Met.ofW (cc := cX12_isColoured) (maxL := 6) (ret := (some .boolean)) (by decide) rfl ?_
  intro p e s m args below meth c s₁ B hml hv
  obtain ⟨rfl, hsz, hP, hK, hD0, hN⟩ := hv
  have hx := B.exec
  have hb := B.bytes
  have hr := B.returns
  have hts := atoms_spec (ws := wsX12_isColoured) B.pre
  have hown : s.vm.findClass RX12 = some m.cls := findClass_of_methodNamed B.named
  have hlocks := B.notSynchronized
  subst hsz
  have hD := hD0.self (sz := s.heap.size)
  generalize hAe : va_A [(o0, .inr (12, [.int 0, .ref o1, .int 0, .ref o2, .int 0, .ref o3, .ref o4, .int 0, .ref o5, .int 0, .ref o6, .int (-9), .int 0, .int 0, .ref o7, .ref o8, .ref o9, .ref o10, .ref o11, .int 0, .ref o12, .ref o13, .ref o14, .int 0, .ref o15, .ref o16, .ref o17, .int 0, .ref o18]))] s.heap.size = A at hD ⊢
  have hA : ∀ q : Nat, s.heap.size ≤ q → A q := fun q h => by rw [← hAe]; exact Or.inr h
  have hS : va_S A s.heap s.heap [] := va_S.rf
  have hP : va_P (dC, dI) vwCl [(o0, .inr (12, [.int 0, .ref o1, .int 0, .ref o2, .int 0, .ref o3, .ref o4, .int 0, .ref o5, .int 0, .ref o6, .int (-9), .int 0, .int 0, .ref o7, .ref o8, .ref o9, .ref o10, .ref o11, .int 0, .ref o12, .ref o13, .ref o14, .int 0, .ref o15, .ref o16, .ref o17, .int 0, .ref o18]))] s.heap := hP
  have hl := lv_entry ([.ref o0, .int 0, .int 0]) (n := 6) (Nat.le_of_ble_eq_true rfl)
  rw [lg_entry_eq]
  generalize (lg_sl ([.ref o0, .int 0, .int 0]) ++ List.replicate (6 - (lg_sl ([.ref o0, .int 0, .int 0])).length) Slot.unset).toArray = ls at hl ⊢
  have hl : lv_has ls 6 [(0, .ref o0), (1, .int 0), (2, .int 0)] := hl
  refine lv_iload_n hx hb dX12_isColoured_0 rfl (lv_at hl 1 rfl) ?_
  refine lv_aload_n hx hb dX12_isColoured_1 rfl (lv_at hl 0 rfl) ?_
  refine va_get (D := (dC, dI)) (ci := 12) (v := .int 0) (C := RX12) (T := TX12) (N := 29) hx hb hts iw_X12_isColoured_X12 hown hK hP 0 rfl rfl 2 (by decide) (hts (.fieldLink RX12 73 "HolelessHouseModel" "n" "I") (by decide +kernel)) (fun _ h9 => h9) rfl dX12_isColoured_2 ?_
  refine lv_icmp_ne (tgt := 10) hx hb dX12_isColoured_5 (by decide) (fun h9 => absurd (by decide +kernel) h9) (fun _ => ?_)
  refine lv_iconst (v := 1) hx hb dX12_isColoured_8 (by decide) ?_
  have hP9 := hP.sub (ws' := [(o0, .inr (12, [.int 0, .ref o1, .int 0, .ref o2, .int 0, .ref o3, .ref o4, .int 0, .ref o5, .int 0, .ref o6, .int (-9), .int 0, .int 0, .ref o7, .ref o8, .ref o9, .ref o10, .ref o11, .int 0, .ref o12, .ref o13, .ref o14, .int 0, .ref o15, .ref o16, .ref o17, .int 0, .ref o18]))]) [0] rfl
  have hD9 := hD.sub (ws' := [(o0, .inr (12, [.int 0, .ref o1, .int 0, .ref o2, .int 0, .ref o3, .ref o4, .int 0, .ref o5, .int 0, .ref o6, .int (-9), .int 0, .int 0, .ref o7, .ref o8, .ref o9, .ref o10, .ref o11, .int 0, .ref o12, .ref o13, .ref o14, .int 0, .ref o15, .ref o16, .ref o17, .int 0, .ref o18]))]) [0] (by decide) rfl
  exact W.zret (v := 1) (ty := .boolean) hx hb hr rfl (fun t ht hW => ⟨⟨1, (), rfl, rfl, by rw [ht]; exact hP9, va_K.moved hW.alike hK, hD9⟩, hS.F ht⟩) hS.2.2 dX12_isColoured_9
set_option maxHeartbeats 1000000 in
set_option maxRecDepth 100000 in
theorem kX12_colour_2 (l : Launch) (dC : Nat → ClassId) (dI : Nat → Nat → Nat) (cI c2 : ClassId) (o0 : Nat) (o1 : Nat) (o2 : Nat) (o3 : Nat) (o4 : Nat) (o5 : Nat) (o6 : Nat) (o7 : Nat) (o8 : Nat) (o9 : Nat) (o10 : Nat) (o11 : Nat) (o12 : Nat) (o13 : Nat) (o14 : Nat) (o15 : Nat) (o16 : Nat) (o17 : Nat) (o18 : Nat) (sz : Nat) : Met l yX12_colour wsX12_colour ({ frames := 1, cells := 0, slots := 0, locals := 25 }) (va_Pc [.ref o0, .int (-1)] (wPre (dC, dI) [(cI, .int), (c2, .array .int)] [(o0, .inr (12, [.int 0, .ref o1, .int 0, .ref o2, .int 0, .ref o3, .ref o4, .int 0, .ref o5, .int 0, .ref o6, .int (-9), .int 0, .int 0, .ref o7, .ref o8, .ref o9, .ref o10, .ref o11, .int 0, .ref o12, .ref o13, .ref o14, .int 0, .ref o15, .ref o16, .ref o17, .int 0, .ref o18]))] sz)) (va_Qi (fun (r : Int32) (_ : Unit) => r = 0) (fun _ t => wPost (dC, dI) [(cI, .int), (c2, .array .int)] (va_A [(o0, .inr (12, [.int 0, .ref o1, .int 0, .ref o2, .int 0, .ref o3, .ref o4, .int 0, .ref o5, .int 0, .ref o6, .int (-9), .int 0, .int 0, .ref o7, .ref o8, .ref o9, .ref o10, .ref o11, .int 0, .ref o12, .ref o13, .ref o14, .int 0, .ref o15, .ref o16, .ref o17, .int 0, .ref o18]))] sz) [] t) (va_A [(o0, .inr (12, [.int 0, .ref o1, .int 0, .ref o2, .int 0, .ref o3, .ref o4, .int 0, .ref o5, .int 0, .ref o6, .int (-9), .int 0, .int 0, .ref o7, .ref o8, .ref o9, .ref o10, .ref o11, .int 0, .ref o12, .ref o13, .ref o14, .int 0, .ref o15, .ref o16, .ref o17, .int 0, .ref o18]))] sz)) 0 0 (va_A [(o0, .inr (12, [.int 0, .ref o1, .int 0, .ref o2, .int 0, .ref o3, .ref o4, .int 0, .ref o5, .int 0, .ref o6, .int (-9), .int 0, .int 0, .ref o7, .ref o8, .ref o9, .ref o10, .ref o11, .int 0, .ref o12, .ref o13, .ref o14, .int 0, .ref o15, .ref o16, .ref o17, .int 0, .ref o18]))] sz) := by
  refine Met.ofW (cc := cX12_colour) (maxL := 3) (ret := (some .int)) (by decide) rfl ?_
  intro p e s m args below meth c s₁ B hml hv
  obtain ⟨rfl, hsz, hP, hK, hD0, hN⟩ := hv
  have hx := B.exec
  have hb := B.bytes
  have hr := B.returns
  have hts := atoms_spec (ws := wsX12_colour) B.pre
  have hown : s.vm.findClass RX12 = some m.cls := findClass_of_methodNamed B.named
  have hlocks := B.notSynchronized
  subst hsz
  have hD := hD0.self (sz := s.heap.size)
  generalize hAe : va_A [(o0, .inr (12, [.int 0, .ref o1, .int 0, .ref o2, .int 0, .ref o3, .ref o4, .int 0, .ref o5, .int 0, .ref o6, .int (-9), .int 0, .int 0, .ref o7, .ref o8, .ref o9, .ref o10, .ref o11, .int 0, .ref o12, .ref o13, .ref o14, .int 0, .ref o15, .ref o16, .ref o17, .int 0, .ref o18]))] s.heap.size = A at hD ⊢
  have hA : ∀ q : Nat, s.heap.size ≤ q → A q := fun q h => by rw [← hAe]; exact Or.inr h
  have hS : va_S A s.heap s.heap [] := va_S.rf
  have hP : va_P (dC, dI) vwCl [(o0, .inr (12, [.int 0, .ref o1, .int 0, .ref o2, .int 0, .ref o3, .ref o4, .int 0, .ref o5, .int 0, .ref o6, .int (-9), .int 0, .int 0, .ref o7, .ref o8, .ref o9, .ref o10, .ref o11, .int 0, .ref o12, .ref o13, .ref o14, .int 0, .ref o15, .ref o16, .ref o17, .int 0, .ref o18]))] s.heap := hP
  have hl := lv_entry ([.ref o0, .int (-1)]) (n := 3) (Nat.le_of_ble_eq_true rfl)
  rw [lg_entry_eq]
  generalize (lg_sl ([.ref o0, .int (-1)]) ++ List.replicate (3 - (lg_sl ([.ref o0, .int (-1)])).length) Slot.unset).toArray = ls at hl ⊢
  have hl : lv_has ls 3 [(0, .ref o0), (1, .int (-1))] := hl
  refine lv_iload_n hx hb dX12_colour_0 rfl (lv_at hl 1 rfl) ?_
  refine lv_iconst (v := (-1)) hx hb dX12_colour_1 (by decide) ?_
  refine lv_icmp_eq (tgt := 15) hx hb dX12_colour_2 (by decide) (fun _ => ?_) (fun h9 => absurd (by decide +kernel) h9)
  refine lv_iconst (v := 0) hx hb dX12_colour_15 (by decide) ?_
  refine lv_istore_n (lv' := [(2, .int 0), (0, .ref o0), (1, .int (-1))]) hx hb dX12_colour_16 rfl hl (by decide) rfl (fun ls hl => ?_)
  refine lv_aload_n hx hb dX12_colour_17 rfl (lv_at hl 1 rfl) ?_
  refine lv_iconst (v := 0) hx hb dX12_colour_18 (by decide) ?_
  refine lv_iload_n hx hb dX12_colour_19 rfl (lv_at hl 0 rfl) ?_
  refine kcall_i (D := (dC, dI)) (S := Unit) (v := 1) (wc := [(o0, .inr (12, [.int 0, .ref o1, .int 0, .ref o2, .int 0, .ref o3, .ref o4, .int 0, .ref o5, .int 0, .ref o6, .int (-9), .int 0, .int 0, .ref o7, .ref o8, .ref o9, .ref o10, .ref o11, .int 0, .ref o12, .ref o13, .ref o14, .int 0, .ref o15, .ref o16, .ref o17, .int 0, .ref o18]))]) (wr := []) (w1 := fun _ => [(o0, .inr (12, [.int 0, .ref o1, .int 0, .ref o2, .int 0, .ref o3, .ref o4, .int 0, .ref o5, .int 0, .ref o6, .int (-9), .int 0, .int 0, .ref o7, .ref o8, .ref o9, .ref o10, .ref o11, .int 0, .ref o12, .ref o13, .ref o14, .int 0, .ref o15, .ref o16, .ref o17, .int 0, .ref o18]))]) (fun hPc hDc => va_runV (As := [.int 0, .int 0]) (rest := []) ⟨hx, hb, hml, hown, hts⟩ (kX12_isColoured_1 l dC dI cI c2 o0 o1 o2 o3 o4 o5 o6 o7 o8 o9 o10 o11 o12 o13 o14 o15 o16 o17 o18 s.heap.size) (cwV 2 hts gX12_colour_X12_isColoured rfl rfl rfl (by decide +kernel) ⟨Nat.le_of_ble_eq_true rfl, Nat.le_of_ble_eq_true rfl⟩) (pre_V hPc hK hDc hN (ci := 12) (q0 := 0) rfl rfl) rfl rfl hl.1 rfl (lv_room (Nat.le_of_ble_eq_true rfl)) dX12_colour_20 ⟨Nat.le_of_ble_eq_true rfl, Nat.le_of_ble_eq_true rfl⟩) hP hD hS hA [0] [] rfl rfl (by decide) (by decide) (by decide) (fun u H locs hP hD hS => ?_)
  have hP : va_P (dC, dI) vwCl [(o0, .inr (12, [.int 0, .ref o1, .int 0, .ref o2, .int 0, .ref o3, .ref o4, .int 0, .ref o5, .int 0, .ref o6, .int (-9), .int 0, .int 0, .ref o7, .ref o8, .ref o9, .ref o10, .ref o11, .int 0, .ref o12, .ref o13, .ref o14, .int 0, .ref o15, .ref o16, .ref o17, .int 0, .ref o18]))] H := hP
  have hD : va_D A [(o0, .inr (12, [.int 0, .ref o1, .int 0, .ref o2, .int 0, .ref o3, .ref o4, .int 0, .ref o5, .int 0, .ref o6, .int (-9), .int 0, .int 0, .ref o7, .ref o8, .ref o9, .ref o10, .ref o11, .int 0, .ref o12, .ref o13, .ref o14, .int 0, .ref o15, .ref o16, .ref o17, .int 0, .ref o18]))] := hD
  refine lv_if_ne (tgt := 32) hx hb dX12_colour_23 (by decide) (fun _ => ?_) (fun h9 => absurd h9 (by decide +kernel))
  refine lv_iload_n hx hb dX12_colour_32 rfl (lv_at hl 2 rfl) ?_
  refine lv_iconst (v := (-1)) hx hb dX12_colour_33 (by decide) ?_
  refine lv_icmp_ne (tgt := 41) hx hb dX12_colour_34 (by decide) (fun h9 => absurd (by decide +kernel) h9) (fun _ => ?_)
  refine lv_iload_n hx hb dX12_colour_37 rfl (lv_at hl 0 rfl) ?_
  refine lv_goto (tgt := 47) hx hb dX12_colour_38 (by decide) ?_
  have hP9 := hP.sub (ws' := []) [] rfl
  have hD9 := hD.sub (ws' := []) [] (by decide) rfl
  exact W.iret (v := 0) hx hb hr (fun t ht hW => ⟨⟨0, (), rfl, rfl, by rw [ht]; exact hP9, va_K.moved hW.alike hK, hD9⟩, hS.F ht⟩) hS.2.2 dX12_colour_47
set_option maxHeartbeats 1000000 in
set_option maxRecDepth 100000 in
theorem kX11_colour_3 (l : Launch) (dC : Nat → ClassId) (dI : Nat → Nat → Nat) (cI c2 : ClassId) (o0 : Nat) (o1 : Nat) (o2 : Nat) (o3 : Nat) (o4 : Nat) (o5 : Nat) (o6 : Nat) (o7 : Nat) (o8 : Nat) (o9 : Nat) (o10 : Nat) (o11 : Nat) (o12 : Nat) (o13 : Nat) (sz : Nat) (a1 : Int32) (a1_lo : 0 ≤ a1.toInt) (a1_hi : a1.toInt ≤ 2147483647) : Met l yX11_colour wsX11_colour ({ frames := 1, cells := 0, slots := 0, locals := 21 }) (va_Pc [.ref o0, .int a1] (wPre (dC, dI) [(cI, .int), (c2, .array .int)] [(o0, .inr (11, [.ref o1, .ref o2, .ref o3, .ref o4, .ref o5, .ref o6, .ref o7, .ref o8, .ref o9, .ref o10, .ref o11, .ref o12, .int 0])), (o1, .inr (4, [.ref o13, .int 0, .int 0]))] sz)) (va_Qi (fun (r : Int32) (_ : Unit) => r = (-1)) (fun _ t => wPost (dC, dI) [(cI, .int), (c2, .array .int)] (va_A [(o0, .inr (11, [.ref o1, .ref o2, .ref o3, .ref o4, .ref o5, .ref o6, .ref o7, .ref o8, .ref o9, .ref o10, .ref o11, .ref o12, .int 0])), (o1, .inr (4, [.ref o13, .int 0, .int 0]))] sz) [] t) (va_A [(o0, .inr (11, [.ref o1, .ref o2, .ref o3, .ref o4, .ref o5, .ref o6, .ref o7, .ref o8, .ref o9, .ref o10, .ref o11, .ref o12, .int 0])), (o1, .inr (4, [.ref o13, .int 0, .int 0]))] sz)) 0 0 (va_A [(o0, .inr (11, [.ref o1, .ref o2, .ref o3, .ref o4, .ref o5, .ref o6, .ref o7, .ref o8, .ref o9, .ref o10, .ref o11, .ref o12, .int 0])), (o1, .inr (4, [.ref o13, .int 0, .int 0]))] sz) := by
  refine Met.ofW (cc := cX11_colour) (maxL := 2) (ret := (some .int)) (by decide) rfl ?_
  intro p e s m args below meth c s₁ B hml hv
  obtain ⟨rfl, hsz, hP, hK, hD0, hN⟩ := hv
  have hx := B.exec
  have hb := B.bytes
  have hr := B.returns
  have hts := atoms_spec (ws := wsX11_colour) B.pre
  have hown : s.vm.findClass RX11 = some m.cls := findClass_of_methodNamed B.named
  have hlocks := B.notSynchronized
  subst hsz
  have hD := hD0.self (sz := s.heap.size)
  generalize hAe : va_A [(o0, .inr (11, [.ref o1, .ref o2, .ref o3, .ref o4, .ref o5, .ref o6, .ref o7, .ref o8, .ref o9, .ref o10, .ref o11, .ref o12, .int 0])), (o1, .inr (4, [.ref o13, .int 0, .int 0]))] s.heap.size = A at hD ⊢
  have hA : ∀ q : Nat, s.heap.size ≤ q → A q := fun q h => by rw [← hAe]; exact Or.inr h
  have hS : va_S A s.heap s.heap [] := va_S.rf
  have hP : va_P (dC, dI) vwCl [(o0, .inr (11, [.ref o1, .ref o2, .ref o3, .ref o4, .ref o5, .ref o6, .ref o7, .ref o8, .ref o9, .ref o10, .ref o11, .ref o12, .int 0])), (o1, .inr (4, [.ref o13, .int 0, .int 0]))] s.heap := hP
  have hl := lv_entry ([.ref o0, .int a1]) (n := 2) (Nat.le_of_ble_eq_true rfl)
  rw [lg_entry_eq]
  generalize (lg_sl ([.ref o0, .int a1]) ++ List.replicate (2 - (lg_sl ([.ref o0, .int a1])).length) Slot.unset).toArray = ls at hl ⊢
  have hl : lv_has ls 2 [(0, .ref o0), (1, .int a1)] := hl
  refine lv_iload_n hx hb dX11_colour_0 rfl (lv_at hl 1 rfl) ?_
  refine lv_iconst (v := (-1)) hx hb dX11_colour_1 (by decide) ?_
  refine lv_icmp_eq (tgt := 18) hx hb dX11_colour_2 (by decide) (fun h9 => absurd h9 (ib_ne (X := a1.toInt) (Y := (-1)) rfl (by decide +kernel) (by omega))) (fun _ => ?_)
  refine lv_aload_n hx hb dX11_colour_5 rfl (lv_at hl 0 rfl) ?_
  refine va_get (D := (dC, dI)) (ci := 11) (v := .ref o1) (C := RX11) (T := TX11) (N := 13) hx hb hts iw_X11_colour_X11 hown hK hP 0 rfl rfl 0 (by decide) (hts (.fieldLink RX11 10 "HolelessHouse" "graph" "LHolelessHouse$Graph;") (by decide +kernel)) (fun _ h9 => h9) rfl dX11_colour_6 ?_
  refine lv_iload_n hx hb dX11_colour_9 rfl (lv_at hl 1 rfl) ?_
  refine kcall_i (D := (dC, dI)) (S := Unit) (v := 0) (wc := [(o1, .inr (4, [.ref o13, .int 0, .int 0]))]) (wr := [(o0, .inr (11, [.ref o1, .ref o2, .ref o3, .ref o4, .ref o5, .ref o6, .ref o7, .ref o8, .ref o9, .ref o10, .ref o11, .ref o12, .int 0]))]) (w1 := fun _ => [(o1, .inr (4, [.ref o13, .int 0, .int 0]))]) (fun hPc hDc => va_runVN (As := [.int a1]) (rest := []) ⟨hx, hb, hml, hown, hts⟩ (kX4_has_2 l dC dI cI c2 o1 o13 s.heap.size a1 (by omega) (by omega)) ⟨va_cnB 1 hts gX11_colour_X4_has_n93 rfl rfl rfl (hN.1 _ ns_66) (hts (.initialized RX4) (by decide +kernel)) (by decide +kernel) ⟨Nat.le_of_ble_eq_true rfl, Nat.le_of_ble_eq_true rfl⟩, (hts (.instanceMethod yX4_has) (by decide +kernel)), (hts (.selects RX4 yX4_has yX4_has) (by decide +kernel))⟩ (pre_V hPc hK hDc hN (ci := 4) (q0 := 0) rfl rfl) rfl rfl hl.1 rfl (lv_room (Nat.le_of_ble_eq_true rfl)) dX11_colour_10 ⟨Nat.le_of_ble_eq_true rfl, Nat.le_of_ble_eq_true rfl⟩) hP hD hS hA [1] [0] rfl rfl (by decide) (by decide) (by decide) (fun u H locs hP hD hS => ?_)
  have hP : va_P (dC, dI) vwCl [(o0, .inr (11, [.ref o1, .ref o2, .ref o3, .ref o4, .ref o5, .ref o6, .ref o7, .ref o8, .ref o9, .ref o10, .ref o11, .ref o12, .int 0])), (o1, .inr (4, [.ref o13, .int 0, .int 0]))] H := hP
  have hD : va_D A [(o0, .inr (11, [.ref o1, .ref o2, .ref o3, .ref o4, .ref o5, .ref o6, .ref o7, .ref o8, .ref o9, .ref o10, .ref o11, .ref o12, .int 0])), (o1, .inr (4, [.ref o13, .int 0, .int 0]))] := hD
  refine lv_if_ne (tgt := 18) hx hb dX11_colour_13 (by decide) (fun h9 => absurd (by decide +kernel) h9) (fun _ => ?_)
  refine lv_iconst (v := (-1)) hx hb dX11_colour_16 (by decide) ?_
  have hP9 := hP.sub (ws' := []) [] rfl
  have hD9 := hD.sub (ws' := []) [] (by decide) rfl
  exact W.iret (v := (-1)) hx hb hr (fun t ht hW => ⟨⟨(-1), (), rfl, rfl, by rw [ht]; exact hP9, va_K.moved hW.alike hK, hD9⟩, hS.F ht⟩) hS.2.2 dX11_colour_17
set_option maxHeartbeats 1000000 in
set_option maxRecDepth 100000 in
theorem kX12_colour_3 (l : Launch) (dC : Nat → ClassId) (dI : Nat → Nat → Nat) (cI c2 : ClassId) (o0 : Nat) (o1 : Nat) (o2 : Nat) (o3 : Nat) (o4 : Nat) (o5 : Nat) (o6 : Nat) (o7 : Nat) (o8 : Nat) (o9 : Nat) (o10 : Nat) (o11 : Nat) (o12 : Nat) (o13 : Nat) (o14 : Nat) (o15 : Nat) (o16 : Nat) (o17 : Nat) (o18 : Nat) (sz : Nat) (a1 : Int32) (a1_lo : 0 ≤ a1.toInt) (a1_hi : a1.toInt ≤ 2147483647) : Met l yX12_colour wsX12_colour ({ frames := 2, cells := 0, slots := 0, locals := 43 }) (va_Pc [.ref o0, .int a1] (wPre (dC, dI) [(cI, .int), (c2, .array .int)] [(o0, .inr (12, [.int 0, .ref o1, .int 0, .ref o2, .int 0, .ref o3, .ref o4, .int 0, .ref o5, .int 0, .ref o6, .int (-9), .int 0, .int 0, .ref o7, .ref o8, .ref o9, .ref o10, .ref o11, .int 0, .ref o12, .ref o13, .ref o14, .int 0, .ref o15, .ref o16, .ref o17, .int 0, .ref o18]))] sz)) (va_Qi (fun (r : Int32) (_ : Unit) => r = (-1)) (fun _ t => wPost (dC, dI) [(cI, .int), (c2, .array .int)] (va_A [(o0, .inr (12, [.int 0, .ref o1, .int 0, .ref o2, .int 0, .ref o3, .ref o4, .int 0, .ref o5, .int 0, .ref o6, .int (-9), .int 0, .int 0, .ref o7, .ref o8, .ref o9, .ref o10, .ref o11, .int 0, .ref o12, .ref o13, .ref o14, .int 0, .ref o15, .ref o16, .ref o17, .int 0, .ref o18]))] sz) [] t) (va_A [(o0, .inr (12, [.int 0, .ref o1, .int 0, .ref o2, .int 0, .ref o3, .ref o4, .int 0, .ref o5, .int 0, .ref o6, .int (-9), .int 0, .int 0, .ref o7, .ref o8, .ref o9, .ref o10, .ref o11, .int 0, .ref o12, .ref o13, .ref o14, .int 0, .ref o15, .ref o16, .ref o17, .int 0, .ref o18]))] sz)) 0 0 (va_A [(o0, .inr (12, [.int 0, .ref o1, .int 0, .ref o2, .int 0, .ref o3, .ref o4, .int 0, .ref o5, .int 0, .ref o6, .int (-9), .int 0, .int 0, .ref o7, .ref o8, .ref o9, .ref o10, .ref o11, .int 0, .ref o12, .ref o13, .ref o14, .int 0, .ref o15, .ref o16, .ref o17, .int 0, .ref o18]))] sz) := by
  refine Met.ofW (cc := cX12_colour) (maxL := 3) (ret := (some .int)) (by decide) rfl ?_
  intro p e s m args below meth c s₁ B hml hv
  obtain ⟨rfl, hsz, hP, hK, hD0, hN⟩ := hv
  have hx := B.exec
  have hb := B.bytes
  have hr := B.returns
  have hts := atoms_spec (ws := wsX12_colour) B.pre
  have hown : s.vm.findClass RX12 = some m.cls := findClass_of_methodNamed B.named
  have hlocks := B.notSynchronized
  subst hsz
  have hD := hD0.self (sz := s.heap.size)
  generalize hAe : va_A [(o0, .inr (12, [.int 0, .ref o1, .int 0, .ref o2, .int 0, .ref o3, .ref o4, .int 0, .ref o5, .int 0, .ref o6, .int (-9), .int 0, .int 0, .ref o7, .ref o8, .ref o9, .ref o10, .ref o11, .int 0, .ref o12, .ref o13, .ref o14, .int 0, .ref o15, .ref o16, .ref o17, .int 0, .ref o18]))] s.heap.size = A at hD ⊢
  have hA : ∀ q : Nat, s.heap.size ≤ q → A q := fun q h => by rw [← hAe]; exact Or.inr h
  have hS : va_S A s.heap s.heap [] := va_S.rf
  have hP : va_P (dC, dI) vwCl [(o0, .inr (12, [.int 0, .ref o1, .int 0, .ref o2, .int 0, .ref o3, .ref o4, .int 0, .ref o5, .int 0, .ref o6, .int (-9), .int 0, .int 0, .ref o7, .ref o8, .ref o9, .ref o10, .ref o11, .int 0, .ref o12, .ref o13, .ref o14, .int 0, .ref o15, .ref o16, .ref o17, .int 0, .ref o18]))] s.heap := hP
  have hl := lv_entry ([.ref o0, .int a1]) (n := 3) (Nat.le_of_ble_eq_true rfl)
  rw [lg_entry_eq]
  generalize (lg_sl ([.ref o0, .int a1]) ++ List.replicate (3 - (lg_sl ([.ref o0, .int a1])).length) Slot.unset).toArray = ls at hl ⊢
  have hl : lv_has ls 3 [(0, .ref o0), (1, .int a1)] := hl
  refine lv_iload_n hx hb dX12_colour_0 rfl (lv_at hl 1 rfl) ?_
  refine lv_iconst (v := (-1)) hx hb dX12_colour_1 (by decide) ?_
  refine lv_icmp_eq (tgt := 15) hx hb dX12_colour_2 (by decide) (fun h9 => absurd h9 (ib_ne (X := a1.toInt) (Y := (-1)) rfl (by decide +kernel) (by omega))) (fun _ => ?_)
  refine lv_aload_n hx hb dX12_colour_5 rfl (lv_at hl 0 rfl) ?_
  refine lv_iload_n hx hb dX12_colour_6 rfl (lv_at hl 1 rfl) ?_
  refine kcall_i (D := (dC, dI)) (S := Unit) (v := 0) (wc := [(o0, .inr (12, [.int 0, .ref o1, .int 0, .ref o2, .int 0, .ref o3, .ref o4, .int 0, .ref o5, .int 0, .ref o6, .int (-9), .int 0, .int 0, .ref o7, .ref o8, .ref o9, .ref o10, .ref o11, .int 0, .ref o12, .ref o13, .ref o14, .int 0, .ref o15, .ref o16, .ref o17, .int 0, .ref o18]))]) (wr := []) (w1 := fun _ => [(o0, .inr (12, [.int 0, .ref o1, .int 0, .ref o2, .int 0, .ref o3, .ref o4, .int 0, .ref o5, .int 0, .ref o6, .int (-9), .int 0, .int 0, .ref o7, .ref o8, .ref o9, .ref o10, .ref o11, .int 0, .ref o12, .ref o13, .ref o14, .int 0, .ref o15, .ref o16, .ref o17, .int 0, .ref o18]))]) (fun hPc hDc => va_runV (As := [.int a1]) (rest := []) ⟨hx, hb, hml, hown, hts⟩ (kX12_isNode_2 l dC dI cI c2 o0 o1 o2 o3 o4 o5 o6 o7 o8 o9 o10 o11 o12 o13 o14 o15 o16 o17 o18 s.heap.size a1 (by omega) (by omega)) (cwV 1 hts gX12_colour_X12_isNode rfl rfl rfl (by decide +kernel) ⟨Nat.le_of_ble_eq_true rfl, Nat.le_of_ble_eq_true rfl⟩) (pre_V hPc hK hDc hN (ci := 12) (q0 := 0) rfl rfl) rfl rfl hl.1 rfl (lv_room (Nat.le_of_ble_eq_true rfl)) dX12_colour_7 ⟨Nat.le_of_ble_eq_true rfl, Nat.le_of_ble_eq_true rfl⟩) hP hD hS hA [0] [] rfl rfl (by decide) (by decide) (by decide) (fun u H locs hP hD hS => ?_)
  have hP : va_P (dC, dI) vwCl [(o0, .inr (12, [.int 0, .ref o1, .int 0, .ref o2, .int 0, .ref o3, .ref o4, .int 0, .ref o5, .int 0, .ref o6, .int (-9), .int 0, .int 0, .ref o7, .ref o8, .ref o9, .ref o10, .ref o11, .int 0, .ref o12, .ref o13, .ref o14, .int 0, .ref o15, .ref o16, .ref o17, .int 0, .ref o18]))] H := hP
  have hD : va_D A [(o0, .inr (12, [.int 0, .ref o1, .int 0, .ref o2, .int 0, .ref o3, .ref o4, .int 0, .ref o5, .int 0, .ref o6, .int (-9), .int 0, .int 0, .ref o7, .ref o8, .ref o9, .ref o10, .ref o11, .int 0, .ref o12, .ref o13, .ref o14, .int 0, .ref o15, .ref o16, .ref o17, .int 0, .ref o18]))] := hD
  refine lv_if_ne (tgt := 15) hx hb dX12_colour_10 (by decide) (fun h9 => absurd (by decide +kernel) h9) (fun _ => ?_)
  refine lv_iconst (v := (-1)) hx hb dX12_colour_13 (by decide) ?_
  have hP9 := hP.sub (ws' := []) [] rfl
  have hD9 := hD.sub (ws' := []) [] (by decide) rfl
  exact W.iret (v := (-1)) hx hb hr (fun t ht hW => ⟨⟨(-1), (), rfl, rfl, by rw [ht]; exact hP9, va_K.moved hW.alike hK, hD9⟩, hS.F ht⟩) hS.2.2 dX12_colour_14
set_option maxHeartbeats 1000000 in
set_option maxRecDepth 100000 in
theorem kX1_canNotBeGreat_2 (l : Launch) (dC : Nat → ClassId) (dI : Nat → Nat → Nat) (cI c2 : ClassId) (o0 : Nat) (o1 : Nat) (o2 : Nat) (o3 : Nat) (o4 : Nat) (sz : Nat) : Met l yX1_canNotBeGreat wsX1_canNotBeGreat ({ frames := 1, cells := 0, slots := 0, locals := 21 }) (va_Pc [.ref o0, .int 0, .int 0] (wPre (dC, dI) [(cI, .int), (c2, .array .int)] [(o0, .inr (1, [.int 1, .ref o1, .ref o2, .ref o3, .ref o4, .int 0, .int 0, .int (-1)]))] sz)) (va_Qi (fun (r : Int32) (_ : Unit) => r = 0) (fun _ t => wPost (dC, dI) [(cI, .int), (c2, .array .int)] (va_A [(o0, .inr (1, [.int 1, .ref o1, .ref o2, .ref o3, .ref o4, .int 0, .int 0, .int (-1)]))] sz) [(o0, .inr (1, [.int 1, .ref o1, .ref o2, .ref o3, .ref o4, .int 0, .int 0, .int (-1)]))] t) (va_A [(o0, .inr (1, [.int 1, .ref o1, .ref o2, .ref o3, .ref o4, .int 0, .int 0, .int (-1)]))] sz)) 0 0 (va_A [(o0, .inr (1, [.int 1, .ref o1, .ref o2, .ref o3, .ref o4, .int 0, .int 0, .int (-1)]))] sz) := by
  refine Met.ofW (cc := cX1_canNotBeGreat) (maxL := 4) (ret := (some .boolean)) (by decide) rfl ?_
  intro p e s m args below meth c s₁ B hml hv
  obtain ⟨rfl, hsz, hP, hK, hD0, hN⟩ := hv
  have hx := B.exec
  have hb := B.bytes
  have hr := B.returns
  have hts := atoms_spec (ws := wsX1_canNotBeGreat) B.pre
  have hown : s.vm.findClass RX1 = some m.cls := findClass_of_methodNamed B.named
  have hlocks := B.notSynchronized
  subst hsz
  have hD := hD0.self (sz := s.heap.size)
  generalize hAe : va_A [(o0, .inr (1, [.int 1, .ref o1, .ref o2, .ref o3, .ref o4, .int 0, .int 0, .int (-1)]))] s.heap.size = A at hD ⊢
  have hA : ∀ q : Nat, s.heap.size ≤ q → A q := fun q h => by rw [← hAe]; exact Or.inr h
  have hS : va_S A s.heap s.heap [] := va_S.rf
  have hP : va_P (dC, dI) vwCl [(o0, .inr (1, [.int 1, .ref o1, .ref o2, .ref o3, .ref o4, .int 0, .int 0, .int (-1)]))] s.heap := hP
  have hl := lv_entry ([.ref o0, .int 0, .int 0]) (n := 4) (Nat.le_of_ble_eq_true rfl)
  rw [lg_entry_eq]
  generalize (lg_sl ([.ref o0, .int 0, .int 0]) ++ List.replicate (4 - (lg_sl ([.ref o0, .int 0, .int 0])).length) Slot.unset).toArray = ls at hl ⊢
  have hl : lv_has ls 4 [(0, .ref o0), (1, .int 0), (2, .int 0)] := hl
  refine lv_iconst (v := 0) hx hb dX1_canNotBeGreat_0 (by decide) ?_
  refine lv_istore_n (lv' := [(3, .int 0), (0, .ref o0), (1, .int 0), (2, .int 0)]) hx hb dX1_canNotBeGreat_1 rfl hl (by decide) rfl (fun ls hl => ?_)
  refine lv_iload_n hx hb dX1_canNotBeGreat_2 rfl (lv_at hl 0 rfl) ?_
  refine lv_bipush (v := 12) hx hb dX1_canNotBeGreat_3 (by decide) ?_
  refine lv_icmp_ge (tgt := 37) hx hb dX1_canNotBeGreat_5 (by decide) (fun h9 => absurd h9 (by decide +kernel)) (fun _ => ?_)
  refine lv_iload_n hx hb dX1_canNotBeGreat_8 rfl (lv_at hl 3 rfl) ?_
  refine lv_iload_n hx hb dX1_canNotBeGreat_9 rfl (lv_at hl 0 rfl) ?_
  refine kcall_i (D := (dC, dI)) (S := Unit) (v := 0) (wc := []) (wr := [(o0, .inr (1, [.int 1, .ref o1, .ref o2, .ref o3, .ref o4, .int 0, .int 0, .int (-1)]))]) (w1 := fun _ => []) (fun hPc hDc => va_runSN (As := [.int 0, .int 0]) (rest := []) ⟨hx, hb, hml, hown, hts⟩ (kX11_in_1 l dC dI cI c2 s.heap.size) ⟨va_cnB 2 hts gX1_canNotBeGreat_X11_in_n67 rfl rfl rfl (hN.1 _ ns_107) (hts (.initialized RX11) (by decide +kernel)) (by decide +kernel) ⟨Nat.le_of_ble_eq_true rfl, Nat.le_of_ble_eq_true rfl⟩, (hts (.static yX11_in) (by decide +kernel)), trivial⟩ (pre_S hPc hK hDc hN) rfl rfl hl.1 rfl (lv_room (Nat.le_of_ble_eq_true rfl)) dX1_canNotBeGreat_10 ⟨Nat.le_of_ble_eq_true rfl, Nat.le_of_ble_eq_true rfl⟩) hP hD hS hA [] [0] rfl rfl (by decide) (by decide) (by decide) (fun u H locs hP hD hS => ?_)
  have hP : va_P (dC, dI) vwCl [(o0, .inr (1, [.int 1, .ref o1, .ref o2, .ref o3, .ref o4, .int 0, .int 0, .int (-1)]))] H := hP
  have hD : va_D A [(o0, .inr (1, [.int 1, .ref o1, .ref o2, .ref o3, .ref o4, .int 0, .int 0, .int (-1)]))] := hD
  refine lv_if_eq (tgt := 31) hx hb dX1_canNotBeGreat_13 (by decide) (fun _ => ?_) (fun h9 => absurd (by decide +kernel) h9)
  refine lv_iinc (v := 1) (lv' := [(3, .int 1), (0, .ref o0), (1, .int 0), (2, .int 0)]) hx hb dX1_canNotBeGreat_31 hl (k := 0) rfl (by decide +kernel) (by decide) rfl (fun ls hl => ?_)
  refine lv_goto (tgt := 2) hx hb dX1_canNotBeGreat_34 (by decide) ?_
  refine lv_iload_n hx hb dX1_canNotBeGreat_2 rfl (lv_at hl 0 rfl) ?_
  refine lv_bipush (v := 12) hx hb dX1_canNotBeGreat_3 (by decide) ?_
  refine lv_icmp_ge (tgt := 37) hx hb dX1_canNotBeGreat_5 (by decide) (fun h9 => absurd h9 (by decide +kernel)) (fun _ => ?_)
  refine lv_iload_n hx hb dX1_canNotBeGreat_8 rfl (lv_at hl 3 rfl) ?_
  refine lv_iload_n hx hb dX1_canNotBeGreat_9 rfl (lv_at hl 0 rfl) ?_
  refine kcall_i (D := (dC, dI)) (S := Unit) (v := 0) (wc := []) (wr := [(o0, .inr (1, [.int 1, .ref o1, .ref o2, .ref o3, .ref o4, .int 0, .int 0, .int (-1)]))]) (w1 := fun _ => []) (fun hPc hDc => va_runSN (As := [.int 0, .int 1]) (rest := []) ⟨hx, hb, hml, hown, hts⟩ (kX11_in_2 l dC dI cI c2 H.size) ⟨va_cnB 2 hts gX1_canNotBeGreat_X11_in_n67 rfl rfl rfl (hN.1 _ ns_107) (hts (.initialized RX11) (by decide +kernel)) (by decide +kernel) ⟨Nat.le_of_ble_eq_true rfl, Nat.le_of_ble_eq_true rfl⟩, (hts (.static yX11_in) (by decide +kernel)), trivial⟩ (pre_S hPc hK hDc hN) rfl rfl hl.1 rfl (lv_room (Nat.le_of_ble_eq_true rfl)) dX1_canNotBeGreat_10 ⟨Nat.le_of_ble_eq_true rfl, Nat.le_of_ble_eq_true rfl⟩) hP hD hS hA [] [0] rfl rfl (by decide) (by decide) (by decide) (fun u H locs hP hD hS => ?_)
  have hP : va_P (dC, dI) vwCl [(o0, .inr (1, [.int 1, .ref o1, .ref o2, .ref o3, .ref o4, .int 0, .int 0, .int (-1)]))] H := hP
  have hD : va_D A [(o0, .inr (1, [.int 1, .ref o1, .ref o2, .ref o3, .ref o4, .int 0, .int 0, .int (-1)]))] := hD
  refine lv_if_eq (tgt := 31) hx hb dX1_canNotBeGreat_13 (by decide) (fun _ => ?_) (fun h9 => absurd (by decide +kernel) h9)
  refine lv_iinc (v := 2) (lv' := [(3, .int 2), (0, .ref o0), (1, .int 0), (2, .int 0)]) hx hb dX1_canNotBeGreat_31 hl (k := 0) rfl (by decide +kernel) (by decide) rfl (fun ls hl => ?_)
  refine lv_goto (tgt := 2) hx hb dX1_canNotBeGreat_34 (by decide) ?_
  refine lv_iload_n hx hb dX1_canNotBeGreat_2 rfl (lv_at hl 0 rfl) ?_
  refine lv_bipush (v := 12) hx hb dX1_canNotBeGreat_3 (by decide) ?_
  refine lv_icmp_ge (tgt := 37) hx hb dX1_canNotBeGreat_5 (by decide) (fun h9 => absurd h9 (by decide +kernel)) (fun _ => ?_)
  refine lv_iload_n hx hb dX1_canNotBeGreat_8 rfl (lv_at hl 3 rfl) ?_
  refine lv_iload_n hx hb dX1_canNotBeGreat_9 rfl (lv_at hl 0 rfl) ?_
  refine kcall_i (D := (dC, dI)) (S := Unit) (v := 0) (wc := []) (wr := [(o0, .inr (1, [.int 1, .ref o1, .ref o2, .ref o3, .ref o4, .int 0, .int 0, .int (-1)]))]) (w1 := fun _ => []) (fun hPc hDc => va_runSN (As := [.int 0, .int 2]) (rest := []) ⟨hx, hb, hml, hown, hts⟩ (kX11_in_3 l dC dI cI c2 H.size) ⟨va_cnB 2 hts gX1_canNotBeGreat_X11_in_n67 rfl rfl rfl (hN.1 _ ns_107) (hts (.initialized RX11) (by decide +kernel)) (by decide +kernel) ⟨Nat.le_of_ble_eq_true rfl, Nat.le_of_ble_eq_true rfl⟩, (hts (.static yX11_in) (by decide +kernel)), trivial⟩ (pre_S hPc hK hDc hN) rfl rfl hl.1 rfl (lv_room (Nat.le_of_ble_eq_true rfl)) dX1_canNotBeGreat_10 ⟨Nat.le_of_ble_eq_true rfl, Nat.le_of_ble_eq_true rfl⟩) hP hD hS hA [] [0] rfl rfl (by decide) (by decide) (by decide) (fun u H locs hP hD hS => ?_)
  have hP : va_P (dC, dI) vwCl [(o0, .inr (1, [.int 1, .ref o1, .ref o2, .ref o3, .ref o4, .int 0, .int 0, .int (-1)]))] H := hP
  have hD : va_D A [(o0, .inr (1, [.int 1, .ref o1, .ref o2, .ref o3, .ref o4, .int 0, .int 0, .int (-1)]))] := hD
  refine lv_if_eq (tgt := 31) hx hb dX1_canNotBeGreat_13 (by decide) (fun _ => ?_) (fun h9 => absurd (by decide +kernel) h9)
  refine lv_iinc (v := 3) (lv' := [(3, .int 3), (0, .ref o0), (1, .int 0), (2, .int 0)]) hx hb dX1_canNotBeGreat_31 hl (k := 0) rfl (by decide +kernel) (by decide) rfl (fun ls hl => ?_)
  refine lv_goto (tgt := 2) hx hb dX1_canNotBeGreat_34 (by decide) ?_
  refine lv_iload_n hx hb dX1_canNotBeGreat_2 rfl (lv_at hl 0 rfl) ?_
  refine lv_bipush (v := 12) hx hb dX1_canNotBeGreat_3 (by decide) ?_
  refine lv_icmp_ge (tgt := 37) hx hb dX1_canNotBeGreat_5 (by decide) (fun h9 => absurd h9 (by decide +kernel)) (fun _ => ?_)
  refine lv_iload_n hx hb dX1_canNotBeGreat_8 rfl (lv_at hl 3 rfl) ?_
  refine lv_iload_n hx hb dX1_canNotBeGreat_9 rfl (lv_at hl 0 rfl) ?_
  refine kcall_i (D := (dC, dI)) (S := Unit) (v := 0) (wc := []) (wr := [(o0, .inr (1, [.int 1, .ref o1, .ref o2, .ref o3, .ref o4, .int 0, .int 0, .int (-1)]))]) (w1 := fun _ => []) (fun hPc hDc => va_runSN (As := [.int 0, .int 3]) (rest := []) ⟨hx, hb, hml, hown, hts⟩ (kX11_in_4 l dC dI cI c2 H.size) ⟨va_cnB 2 hts gX1_canNotBeGreat_X11_in_n67 rfl rfl rfl (hN.1 _ ns_107) (hts (.initialized RX11) (by decide +kernel)) (by decide +kernel) ⟨Nat.le_of_ble_eq_true rfl, Nat.le_of_ble_eq_true rfl⟩, (hts (.static yX11_in) (by decide +kernel)), trivial⟩ (pre_S hPc hK hDc hN) rfl rfl hl.1 rfl (lv_room (Nat.le_of_ble_eq_true rfl)) dX1_canNotBeGreat_10 ⟨Nat.le_of_ble_eq_true rfl, Nat.le_of_ble_eq_true rfl⟩) hP hD hS hA [] [0] rfl rfl (by decide) (by decide) (by decide) (fun u H locs hP hD hS => ?_)
  have hP : va_P (dC, dI) vwCl [(o0, .inr (1, [.int 1, .ref o1, .ref o2, .ref o3, .ref o4, .int 0, .int 0, .int (-1)]))] H := hP
  have hD : va_D A [(o0, .inr (1, [.int 1, .ref o1, .ref o2, .ref o3, .ref o4, .int 0, .int 0, .int (-1)]))] := hD
  refine lv_if_eq (tgt := 31) hx hb dX1_canNotBeGreat_13 (by decide) (fun _ => ?_) (fun h9 => absurd (by decide +kernel) h9)
  refine lv_iinc (v := 4) (lv' := [(3, .int 4), (0, .ref o0), (1, .int 0), (2, .int 0)]) hx hb dX1_canNotBeGreat_31 hl (k := 0) rfl (by decide +kernel) (by decide) rfl (fun ls hl => ?_)
  refine lv_goto (tgt := 2) hx hb dX1_canNotBeGreat_34 (by decide) ?_
  refine lv_iload_n hx hb dX1_canNotBeGreat_2 rfl (lv_at hl 0 rfl) ?_
  refine lv_bipush (v := 12) hx hb dX1_canNotBeGreat_3 (by decide) ?_
  refine lv_icmp_ge (tgt := 37) hx hb dX1_canNotBeGreat_5 (by decide) (fun h9 => absurd h9 (by decide +kernel)) (fun _ => ?_)
  refine lv_iload_n hx hb dX1_canNotBeGreat_8 rfl (lv_at hl 3 rfl) ?_
  refine lv_iload_n hx hb dX1_canNotBeGreat_9 rfl (lv_at hl 0 rfl) ?_
  refine kcall_i (D := (dC, dI)) (S := Unit) (v := 0) (wc := []) (wr := [(o0, .inr (1, [.int 1, .ref o1, .ref o2, .ref o3, .ref o4, .int 0, .int 0, .int (-1)]))]) (w1 := fun _ => []) (fun hPc hDc => va_runSN (As := [.int 0, .int 4]) (rest := []) ⟨hx, hb, hml, hown, hts⟩ (kX11_in_5 l dC dI cI c2 H.size) ⟨va_cnB 2 hts gX1_canNotBeGreat_X11_in_n67 rfl rfl rfl (hN.1 _ ns_107) (hts (.initialized RX11) (by decide +kernel)) (by decide +kernel) ⟨Nat.le_of_ble_eq_true rfl, Nat.le_of_ble_eq_true rfl⟩, (hts (.static yX11_in) (by decide +kernel)), trivial⟩ (pre_S hPc hK hDc hN) rfl rfl hl.1 rfl (lv_room (Nat.le_of_ble_eq_true rfl)) dX1_canNotBeGreat_10 ⟨Nat.le_of_ble_eq_true rfl, Nat.le_of_ble_eq_true rfl⟩) hP hD hS hA [] [0] rfl rfl (by decide) (by decide) (by decide) (fun u H locs hP hD hS => ?_)
  have hP : va_P (dC, dI) vwCl [(o0, .inr (1, [.int 1, .ref o1, .ref o2, .ref o3, .ref o4, .int 0, .int 0, .int (-1)]))] H := hP
  have hD : va_D A [(o0, .inr (1, [.int 1, .ref o1, .ref o2, .ref o3, .ref o4, .int 0, .int 0, .int (-1)]))] := hD
  refine lv_if_eq (tgt := 31) hx hb dX1_canNotBeGreat_13 (by decide) (fun _ => ?_) (fun h9 => absurd (by decide +kernel) h9)
  refine lv_iinc (v := 5) (lv' := [(3, .int 5), (0, .ref o0), (1, .int 0), (2, .int 0)]) hx hb dX1_canNotBeGreat_31 hl (k := 0) rfl (by decide +kernel) (by decide) rfl (fun ls hl => ?_)
  refine lv_goto (tgt := 2) hx hb dX1_canNotBeGreat_34 (by decide) ?_
  refine lv_iload_n hx hb dX1_canNotBeGreat_2 rfl (lv_at hl 0 rfl) ?_
  refine lv_bipush (v := 12) hx hb dX1_canNotBeGreat_3 (by decide) ?_
  refine lv_icmp_ge (tgt := 37) hx hb dX1_canNotBeGreat_5 (by decide) (fun h9 => absurd h9 (by decide +kernel)) (fun _ => ?_)
  refine lv_iload_n hx hb dX1_canNotBeGreat_8 rfl (lv_at hl 3 rfl) ?_
  refine lv_iload_n hx hb dX1_canNotBeGreat_9 rfl (lv_at hl 0 rfl) ?_
  refine kcall_i (D := (dC, dI)) (S := Unit) (v := 0) (wc := []) (wr := [(o0, .inr (1, [.int 1, .ref o1, .ref o2, .ref o3, .ref o4, .int 0, .int 0, .int (-1)]))]) (w1 := fun _ => []) (fun hPc hDc => va_runSN (As := [.int 0, .int 5]) (rest := []) ⟨hx, hb, hml, hown, hts⟩ (kX11_in_6 l dC dI cI c2 H.size) ⟨va_cnB 2 hts gX1_canNotBeGreat_X11_in_n67 rfl rfl rfl (hN.1 _ ns_107) (hts (.initialized RX11) (by decide +kernel)) (by decide +kernel) ⟨Nat.le_of_ble_eq_true rfl, Nat.le_of_ble_eq_true rfl⟩, (hts (.static yX11_in) (by decide +kernel)), trivial⟩ (pre_S hPc hK hDc hN) rfl rfl hl.1 rfl (lv_room (Nat.le_of_ble_eq_true rfl)) dX1_canNotBeGreat_10 ⟨Nat.le_of_ble_eq_true rfl, Nat.le_of_ble_eq_true rfl⟩) hP hD hS hA [] [0] rfl rfl (by decide) (by decide) (by decide) (fun u H locs hP hD hS => ?_)
  have hP : va_P (dC, dI) vwCl [(o0, .inr (1, [.int 1, .ref o1, .ref o2, .ref o3, .ref o4, .int 0, .int 0, .int (-1)]))] H := hP
  have hD : va_D A [(o0, .inr (1, [.int 1, .ref o1, .ref o2, .ref o3, .ref o4, .int 0, .int 0, .int (-1)]))] := hD
  refine lv_if_eq (tgt := 31) hx hb dX1_canNotBeGreat_13 (by decide) (fun _ => ?_) (fun h9 => absurd (by decide +kernel) h9)
  refine lv_iinc (v := 6) (lv' := [(3, .int 6), (0, .ref o0), (1, .int 0), (2, .int 0)]) hx hb dX1_canNotBeGreat_31 hl (k := 0) rfl (by decide +kernel) (by decide) rfl (fun ls hl => ?_)
  refine lv_goto (tgt := 2) hx hb dX1_canNotBeGreat_34 (by decide) ?_
  refine lv_iload_n hx hb dX1_canNotBeGreat_2 rfl (lv_at hl 0 rfl) ?_
  refine lv_bipush (v := 12) hx hb dX1_canNotBeGreat_3 (by decide) ?_
  refine lv_icmp_ge (tgt := 37) hx hb dX1_canNotBeGreat_5 (by decide) (fun h9 => absurd h9 (by decide +kernel)) (fun _ => ?_)
  refine lv_iload_n hx hb dX1_canNotBeGreat_8 rfl (lv_at hl 3 rfl) ?_
  refine lv_iload_n hx hb dX1_canNotBeGreat_9 rfl (lv_at hl 0 rfl) ?_
  refine kcall_i (D := (dC, dI)) (S := Unit) (v := 0) (wc := []) (wr := [(o0, .inr (1, [.int 1, .ref o1, .ref o2, .ref o3, .ref o4, .int 0, .int 0, .int (-1)]))]) (w1 := fun _ => []) (fun hPc hDc => va_runSN (As := [.int 0, .int 6]) (rest := []) ⟨hx, hb, hml, hown, hts⟩ (kX11_in_7 l dC dI cI c2 H.size) ⟨va_cnB 2 hts gX1_canNotBeGreat_X11_in_n67 rfl rfl rfl (hN.1 _ ns_107) (hts (.initialized RX11) (by decide +kernel)) (by decide +kernel) ⟨Nat.le_of_ble_eq_true rfl, Nat.le_of_ble_eq_true rfl⟩, (hts (.static yX11_in) (by decide +kernel)), trivial⟩ (pre_S hPc hK hDc hN) rfl rfl hl.1 rfl (lv_room (Nat.le_of_ble_eq_true rfl)) dX1_canNotBeGreat_10 ⟨Nat.le_of_ble_eq_true rfl, Nat.le_of_ble_eq_true rfl⟩) hP hD hS hA [] [0] rfl rfl (by decide) (by decide) (by decide) (fun u H locs hP hD hS => ?_)
  have hP : va_P (dC, dI) vwCl [(o0, .inr (1, [.int 1, .ref o1, .ref o2, .ref o3, .ref o4, .int 0, .int 0, .int (-1)]))] H := hP
  have hD : va_D A [(o0, .inr (1, [.int 1, .ref o1, .ref o2, .ref o3, .ref o4, .int 0, .int 0, .int (-1)]))] := hD
  refine lv_if_eq (tgt := 31) hx hb dX1_canNotBeGreat_13 (by decide) (fun _ => ?_) (fun h9 => absurd (by decide +kernel) h9)
  refine lv_iinc (v := 7) (lv' := [(3, .int 7), (0, .ref o0), (1, .int 0), (2, .int 0)]) hx hb dX1_canNotBeGreat_31 hl (k := 0) rfl (by decide +kernel) (by decide) rfl (fun ls hl => ?_)
  refine lv_goto (tgt := 2) hx hb dX1_canNotBeGreat_34 (by decide) ?_
  refine lv_iload_n hx hb dX1_canNotBeGreat_2 rfl (lv_at hl 0 rfl) ?_
  refine lv_bipush (v := 12) hx hb dX1_canNotBeGreat_3 (by decide) ?_
  refine lv_icmp_ge (tgt := 37) hx hb dX1_canNotBeGreat_5 (by decide) (fun h9 => absurd h9 (by decide +kernel)) (fun _ => ?_)
  refine lv_iload_n hx hb dX1_canNotBeGreat_8 rfl (lv_at hl 3 rfl) ?_
  refine lv_iload_n hx hb dX1_canNotBeGreat_9 rfl (lv_at hl 0 rfl) ?_
  refine kcall_i (D := (dC, dI)) (S := Unit) (v := 0) (wc := []) (wr := [(o0, .inr (1, [.int 1, .ref o1, .ref o2, .ref o3, .ref o4, .int 0, .int 0, .int (-1)]))]) (w1 := fun _ => []) (fun hPc hDc => va_runSN (As := [.int 0, .int 7]) (rest := []) ⟨hx, hb, hml, hown, hts⟩ (kX11_in_8 l dC dI cI c2 H.size) ⟨va_cnB 2 hts gX1_canNotBeGreat_X11_in_n67 rfl rfl rfl (hN.1 _ ns_107) (hts (.initialized RX11) (by decide +kernel)) (by decide +kernel) ⟨Nat.le_of_ble_eq_true rfl, Nat.le_of_ble_eq_true rfl⟩, (hts (.static yX11_in) (by decide +kernel)), trivial⟩ (pre_S hPc hK hDc hN) rfl rfl hl.1 rfl (lv_room (Nat.le_of_ble_eq_true rfl)) dX1_canNotBeGreat_10 ⟨Nat.le_of_ble_eq_true rfl, Nat.le_of_ble_eq_true rfl⟩) hP hD hS hA [] [0] rfl rfl (by decide) (by decide) (by decide) (fun u H locs hP hD hS => ?_)
  have hP : va_P (dC, dI) vwCl [(o0, .inr (1, [.int 1, .ref o1, .ref o2, .ref o3, .ref o4, .int 0, .int 0, .int (-1)]))] H := hP
  have hD : va_D A [(o0, .inr (1, [.int 1, .ref o1, .ref o2, .ref o3, .ref o4, .int 0, .int 0, .int (-1)]))] := hD
  refine lv_if_eq (tgt := 31) hx hb dX1_canNotBeGreat_13 (by decide) (fun _ => ?_) (fun h9 => absurd (by decide +kernel) h9)
  refine lv_iinc (v := 8) (lv' := [(3, .int 8), (0, .ref o0), (1, .int 0), (2, .int 0)]) hx hb dX1_canNotBeGreat_31 hl (k := 0) rfl (by decide +kernel) (by decide) rfl (fun ls hl => ?_)
  refine lv_goto (tgt := 2) hx hb dX1_canNotBeGreat_34 (by decide) ?_
  refine lv_iload_n hx hb dX1_canNotBeGreat_2 rfl (lv_at hl 0 rfl) ?_
  refine lv_bipush (v := 12) hx hb dX1_canNotBeGreat_3 (by decide) ?_
  refine lv_icmp_ge (tgt := 37) hx hb dX1_canNotBeGreat_5 (by decide) (fun h9 => absurd h9 (by decide +kernel)) (fun _ => ?_)
  refine lv_iload_n hx hb dX1_canNotBeGreat_8 rfl (lv_at hl 3 rfl) ?_
  refine lv_iload_n hx hb dX1_canNotBeGreat_9 rfl (lv_at hl 0 rfl) ?_
  refine kcall_i (D := (dC, dI)) (S := Unit) (v := 0) (wc := []) (wr := [(o0, .inr (1, [.int 1, .ref o1, .ref o2, .ref o3, .ref o4, .int 0, .int 0, .int (-1)]))]) (w1 := fun _ => []) (fun hPc hDc => va_runSN (As := [.int 0, .int 8]) (rest := []) ⟨hx, hb, hml, hown, hts⟩ (kX11_in_9 l dC dI cI c2 H.size) ⟨va_cnB 2 hts gX1_canNotBeGreat_X11_in_n67 rfl rfl rfl (hN.1 _ ns_107) (hts (.initialized RX11) (by decide +kernel)) (by decide +kernel) ⟨Nat.le_of_ble_eq_true rfl, Nat.le_of_ble_eq_true rfl⟩, (hts (.static yX11_in) (by decide +kernel)), trivial⟩ (pre_S hPc hK hDc hN) rfl rfl hl.1 rfl (lv_room (Nat.le_of_ble_eq_true rfl)) dX1_canNotBeGreat_10 ⟨Nat.le_of_ble_eq_true rfl, Nat.le_of_ble_eq_true rfl⟩) hP hD hS hA [] [0] rfl rfl (by decide) (by decide) (by decide) (fun u H locs hP hD hS => ?_)
  have hP : va_P (dC, dI) vwCl [(o0, .inr (1, [.int 1, .ref o1, .ref o2, .ref o3, .ref o4, .int 0, .int 0, .int (-1)]))] H := hP
  have hD : va_D A [(o0, .inr (1, [.int 1, .ref o1, .ref o2, .ref o3, .ref o4, .int 0, .int 0, .int (-1)]))] := hD
  refine lv_if_eq (tgt := 31) hx hb dX1_canNotBeGreat_13 (by decide) (fun _ => ?_) (fun h9 => absurd (by decide +kernel) h9)
  refine lv_iinc (v := 9) (lv' := [(3, .int 9), (0, .ref o0), (1, .int 0), (2, .int 0)]) hx hb dX1_canNotBeGreat_31 hl (k := 0) rfl (by decide +kernel) (by decide) rfl (fun ls hl => ?_)
  refine lv_goto (tgt := 2) hx hb dX1_canNotBeGreat_34 (by decide) ?_
  refine lv_iload_n hx hb dX1_canNotBeGreat_2 rfl (lv_at hl 0 rfl) ?_
  refine lv_bipush (v := 12) hx hb dX1_canNotBeGreat_3 (by decide) ?_
  refine lv_icmp_ge (tgt := 37) hx hb dX1_canNotBeGreat_5 (by decide) (fun h9 => absurd h9 (by decide +kernel)) (fun _ => ?_)
  refine lv_iload_n hx hb dX1_canNotBeGreat_8 rfl (lv_at hl 3 rfl) ?_
  refine lv_iload_n hx hb dX1_canNotBeGreat_9 rfl (lv_at hl 0 rfl) ?_
  refine kcall_i (D := (dC, dI)) (S := Unit) (v := 0) (wc := []) (wr := [(o0, .inr (1, [.int 1, .ref o1, .ref o2, .ref o3, .ref o4, .int 0, .int 0, .int (-1)]))]) (w1 := fun _ => []) (fun hPc hDc => va_runSN (As := [.int 0, .int 9]) (rest := []) ⟨hx, hb, hml, hown, hts⟩ (kX11_in_10 l dC dI cI c2 H.size) ⟨va_cnB 2 hts gX1_canNotBeGreat_X11_in_n67 rfl rfl rfl (hN.1 _ ns_107) (hts (.initialized RX11) (by decide +kernel)) (by decide +kernel) ⟨Nat.le_of_ble_eq_true rfl, Nat.le_of_ble_eq_true rfl⟩, (hts (.static yX11_in) (by decide +kernel)), trivial⟩ (pre_S hPc hK hDc hN) rfl rfl hl.1 rfl (lv_room (Nat.le_of_ble_eq_true rfl)) dX1_canNotBeGreat_10 ⟨Nat.le_of_ble_eq_true rfl, Nat.le_of_ble_eq_true rfl⟩) hP hD hS hA [] [0] rfl rfl (by decide) (by decide) (by decide) (fun u H locs hP hD hS => ?_)
  have hP : va_P (dC, dI) vwCl [(o0, .inr (1, [.int 1, .ref o1, .ref o2, .ref o3, .ref o4, .int 0, .int 0, .int (-1)]))] H := hP
  have hD : va_D A [(o0, .inr (1, [.int 1, .ref o1, .ref o2, .ref o3, .ref o4, .int 0, .int 0, .int (-1)]))] := hD
  refine lv_if_eq (tgt := 31) hx hb dX1_canNotBeGreat_13 (by decide) (fun _ => ?_) (fun h9 => absurd (by decide +kernel) h9)
  refine lv_iinc (v := 10) (lv' := [(3, .int 10), (0, .ref o0), (1, .int 0), (2, .int 0)]) hx hb dX1_canNotBeGreat_31 hl (k := 0) rfl (by decide +kernel) (by decide) rfl (fun ls hl => ?_)
  refine lv_goto (tgt := 2) hx hb dX1_canNotBeGreat_34 (by decide) ?_
  refine lv_iload_n hx hb dX1_canNotBeGreat_2 rfl (lv_at hl 0 rfl) ?_
  refine lv_bipush (v := 12) hx hb dX1_canNotBeGreat_3 (by decide) ?_
  refine lv_icmp_ge (tgt := 37) hx hb dX1_canNotBeGreat_5 (by decide) (fun h9 => absurd h9 (by decide +kernel)) (fun _ => ?_)
  refine lv_iload_n hx hb dX1_canNotBeGreat_8 rfl (lv_at hl 3 rfl) ?_
  refine lv_iload_n hx hb dX1_canNotBeGreat_9 rfl (lv_at hl 0 rfl) ?_
  refine kcall_i (D := (dC, dI)) (S := Unit) (v := 0) (wc := []) (wr := [(o0, .inr (1, [.int 1, .ref o1, .ref o2, .ref o3, .ref o4, .int 0, .int 0, .int (-1)]))]) (w1 := fun _ => []) (fun hPc hDc => va_runSN (As := [.int 0, .int 10]) (rest := []) ⟨hx, hb, hml, hown, hts⟩ (kX11_in_11 l dC dI cI c2 H.size) ⟨va_cnB 2 hts gX1_canNotBeGreat_X11_in_n67 rfl rfl rfl (hN.1 _ ns_107) (hts (.initialized RX11) (by decide +kernel)) (by decide +kernel) ⟨Nat.le_of_ble_eq_true rfl, Nat.le_of_ble_eq_true rfl⟩, (hts (.static yX11_in) (by decide +kernel)), trivial⟩ (pre_S hPc hK hDc hN) rfl rfl hl.1 rfl (lv_room (Nat.le_of_ble_eq_true rfl)) dX1_canNotBeGreat_10 ⟨Nat.le_of_ble_eq_true rfl, Nat.le_of_ble_eq_true rfl⟩) hP hD hS hA [] [0] rfl rfl (by decide) (by decide) (by decide) (fun u H locs hP hD hS => ?_)
  have hP : va_P (dC, dI) vwCl [(o0, .inr (1, [.int 1, .ref o1, .ref o2, .ref o3, .ref o4, .int 0, .int 0, .int (-1)]))] H := hP
  have hD : va_D A [(o0, .inr (1, [.int 1, .ref o1, .ref o2, .ref o3, .ref o4, .int 0, .int 0, .int (-1)]))] := hD
  refine lv_if_eq (tgt := 31) hx hb dX1_canNotBeGreat_13 (by decide) (fun _ => ?_) (fun h9 => absurd (by decide +kernel) h9)
  refine lv_iinc (v := 11) (lv' := [(3, .int 11), (0, .ref o0), (1, .int 0), (2, .int 0)]) hx hb dX1_canNotBeGreat_31 hl (k := 0) rfl (by decide +kernel) (by decide) rfl (fun ls hl => ?_)
  refine lv_goto (tgt := 2) hx hb dX1_canNotBeGreat_34 (by decide) ?_
  refine lv_iload_n hx hb dX1_canNotBeGreat_2 rfl (lv_at hl 0 rfl) ?_
  refine lv_bipush (v := 12) hx hb dX1_canNotBeGreat_3 (by decide) ?_
  refine lv_icmp_ge (tgt := 37) hx hb dX1_canNotBeGreat_5 (by decide) (fun h9 => absurd h9 (by decide +kernel)) (fun _ => ?_)
  refine lv_iload_n hx hb dX1_canNotBeGreat_8 rfl (lv_at hl 3 rfl) ?_
  refine lv_iload_n hx hb dX1_canNotBeGreat_9 rfl (lv_at hl 0 rfl) ?_
  refine kcall_i (D := (dC, dI)) (S := Unit) (v := 0) (wc := []) (wr := [(o0, .inr (1, [.int 1, .ref o1, .ref o2, .ref o3, .ref o4, .int 0, .int 0, .int (-1)]))]) (w1 := fun _ => []) (fun hPc hDc => va_runSN (As := [.int 0, .int 11]) (rest := []) ⟨hx, hb, hml, hown, hts⟩ (kX11_in_12 l dC dI cI c2 H.size) ⟨va_cnB 2 hts gX1_canNotBeGreat_X11_in_n67 rfl rfl rfl (hN.1 _ ns_107) (hts (.initialized RX11) (by decide +kernel)) (by decide +kernel) ⟨Nat.le_of_ble_eq_true rfl, Nat.le_of_ble_eq_true rfl⟩, (hts (.static yX11_in) (by decide +kernel)), trivial⟩ (pre_S hPc hK hDc hN) rfl rfl hl.1 rfl (lv_room (Nat.le_of_ble_eq_true rfl)) dX1_canNotBeGreat_10 ⟨Nat.le_of_ble_eq_true rfl, Nat.le_of_ble_eq_true rfl⟩) hP hD hS hA [] [0] rfl rfl (by decide) (by decide) (by decide) (fun u H locs hP hD hS => ?_)
  have hP : va_P (dC, dI) vwCl [(o0, .inr (1, [.int 1, .ref o1, .ref o2, .ref o3, .ref o4, .int 0, .int 0, .int (-1)]))] H := hP
  have hD : va_D A [(o0, .inr (1, [.int 1, .ref o1, .ref o2, .ref o3, .ref o4, .int 0, .int 0, .int (-1)]))] := hD
  refine lv_if_eq (tgt := 31) hx hb dX1_canNotBeGreat_13 (by decide) (fun _ => ?_) (fun h9 => absurd (by decide +kernel) h9)
  refine lv_iinc (v := 12) (lv' := [(3, .int 12), (0, .ref o0), (1, .int 0), (2, .int 0)]) hx hb dX1_canNotBeGreat_31 hl (k := 0) rfl (by decide +kernel) (by decide) rfl (fun ls hl => ?_)
  refine lv_goto (tgt := 2) hx hb dX1_canNotBeGreat_34 (by decide) ?_
  refine lv_iload_n hx hb dX1_canNotBeGreat_2 rfl (lv_at hl 0 rfl) ?_
  refine lv_bipush (v := 12) hx hb dX1_canNotBeGreat_3 (by decide) ?_
  refine lv_icmp_ge (tgt := 37) hx hb dX1_canNotBeGreat_5 (by decide) (fun _ => ?_) (fun h9 => absurd (by decide +kernel) h9)
  refine lv_iconst (v := 0) hx hb dX1_canNotBeGreat_37 (by decide) ?_
  have hP9 := hP.sub (ws' := [(o0, .inr (1, [.int 1, .ref o1, .ref o2, .ref o3, .ref o4, .int 0, .int 0, .int (-1)]))]) [0] rfl
  have hD9 := hD.sub (ws' := [(o0, .inr (1, [.int 1, .ref o1, .ref o2, .ref o3, .ref o4, .int 0, .int 0, .int (-1)]))]) [0] (by decide) rfl
  exact W.zret (v := 0) (ty := .boolean) hx hb hr rfl (fun t ht hW => ⟨⟨0, (), rfl, rfl, by rw [ht]; exact hP9, va_K.moved hW.alike hK, hD9⟩, hS.F ht⟩) hS.2.2 dX1_canNotBeGreat_38
set_option maxHeartbeats 1000000 in
set_option maxRecDepth 100000 in
theorem kX1_keep_2 (l : Launch) (dC : Nat → ClassId) (dI : Nat → Nat → Nat) (cI c2 : ClassId) (o0 : Nat) (o1 : Nat) (o2 : Nat) (o3 : Nat) (o4 : Nat) (sz : Nat) : Met l yX1_keep wsX1_keep ({ frames := 0, cells := 0, slots := 0, locals := 0 }) (va_Pc [.ref o0, .int 0] (wPre (dC, dI) [(cI, .int), (c2, .array .int)] [(o0, .inr (1, [.int 1, .ref o1, .ref o2, .ref o3, .ref o4, .int 0, .int 0, .int (-1)]))] sz)) (va_Qv (fun (_ : Unit) => True) (fun _ t => wPost (dC, dI) [(cI, .int), (c2, .array .int)] (va_A [(o0, .inr (1, [.int 1, .ref o1, .ref o2, .ref o3, .ref o4, .int 0, .int 0, .int (-1)]))] sz) [(o0, .inr (1, [.int 1, .ref o1, .ref o2, .ref o3, .ref o4, .int 0, .int 0, .int (-1)]))] t) (va_A [(o0, .inr (1, [.int 1, .ref o1, .ref o2, .ref o3, .ref o4, .int 0, .int 0, .int (-1)]))] sz)) 0 0 (va_A [(o0, .inr (1, [.int 1, .ref o1, .ref o2, .ref o3, .ref o4, .int 0, .int 0, .int (-1)]))] sz) := by
  refine Met.ofW (cc := cX1_keep) (maxL := 2) (ret := none) (by decide) rfl ?_
  intro p e s m args below meth c s₁ B hml hv
  obtain ⟨rfl, hsz, hP, hK, hD0, hN⟩ := hv
  have hx := B.exec
  have hb := B.bytes
  have hr := B.returns
  have hts := atoms_spec (ws := wsX1_keep) B.pre
  have hown : s.vm.findClass RX1 = some m.cls := findClass_of_methodNamed B.named
  have hlocks := B.notSynchronized
  subst hsz
  have hD := hD0.self (sz := s.heap.size)
  generalize hAe : va_A [(o0, .inr (1, [.int 1, .ref o1, .ref o2, .ref o3, .ref o4, .int 0, .int 0, .int (-1)]))] s.heap.size = A at hD ⊢
  have hA : ∀ q : Nat, s.heap.size ≤ q → A q := fun q h => by rw [← hAe]; exact Or.inr h
  have hS : va_S A s.heap s.heap [] := va_S.rf
  have hP : va_P (dC, dI) vwCl [(o0, .inr (1, [.int 1, .ref o1, .ref o2, .ref o3, .ref o4, .int 0, .int 0, .int (-1)]))] s.heap := hP
  have hl := lv_entry ([.ref o0, .int 0]) (n := 2) (Nat.le_of_ble_eq_true rfl)
  rw [lg_entry_eq]
  generalize (lg_sl ([.ref o0, .int 0]) ++ List.replicate (2 - (lg_sl ([.ref o0, .int 0])).length) Slot.unset).toArray = ls at hl ⊢
  have hl : lv_has ls 2 [(0, .ref o0), (1, .int 0)] := hl
  refine lv_iload_n hx hb dX1_keep_0 rfl (lv_at hl 1 rfl) ?_
  refine lv_if_eq (tgt := 33) hx hb dX1_keep_1 (by decide) (fun _ => ?_) (fun h9 => absurd (by decide +kernel) h9)
  have hP9 := hP.sub (ws' := [(o0, .inr (1, [.int 1, .ref o1, .ref o2, .ref o3, .ref o4, .int 0, .int 0, .int (-1)]))]) [0] rfl
  have hD9 := hD.sub (ws' := [(o0, .inr (1, [.int 1, .ref o1, .ref o2, .ref o3, .ref o4, .int 0, .int 0, .int (-1)]))]) [0] (by decide) rfl
  exact W.vret hx hb hr (fun t ht hW => ⟨⟨(), rfl, trivial, by rw [ht]; exact hP9, va_K.moved hW.alike hK, hD9⟩, hS.F ht⟩) hS.2.2 dX1_keep_33
set_option maxHeartbeats 1000000 in
set_option maxRecDepth 100000 in
theorem kX1_gather_2 (l : Launch) (dC : Nat → ClassId) (dI : Nat → Nat → Nat) (cI c2 : ClassId) (o0 : Nat) (o1 : Nat) (o2 : Nat) (o3 : Nat) (o4 : Nat) (sz : Nat) : Met l yX1_gather wsX1_gather ({ frames := 2, cells := 0, slots := 0, locals := 44 }) (va_Pc [.ref o0, .int 0, .int 0, .int 0, .int 0] (wPre (dC, dI) [(cI, .int), (c2, .array .int)] [(o0, .inr (1, [.int 1, .ref o1, .ref o2, .ref o3, .ref o4, .int 0, .int 0, .int (-1)]))] sz)) (va_Qv (fun (_ : Unit) => True) (fun _ t => wPost (dC, dI) [(cI, .int), (c2, .array .int)] (va_A [(o0, .inr (1, [.int 1, .ref o1, .ref o2, .ref o3, .ref o4, .int 0, .int 0, .int (-1)]))] sz) [(o0, .inr (1, [.int 1, .ref o1, .ref o2, .ref o3, .ref o4, .int 0, .int 0, .int (-1)]))] t) (va_A [(o0, .inr (1, [.int 1, .ref o1, .ref o2, .ref o3, .ref o4, .int 0, .int 0, .int (-1)]))] sz)) 0 0 (va_A [(o0, .inr (1, [.int 1, .ref o1, .ref o2, .ref o3, .ref o4, .int 0, .int 0, .int (-1)]))] sz) := by
  refine Met.ofW (cc := cX1_gather) (maxL := 7) (ret := none) (by decide) rfl ?_
  intro p e s m args below meth c s₁ B hml hv
  obtain ⟨rfl, hsz, hP, hK, hD0, hN⟩ := hv
  have hx := B.exec
  have hb := B.bytes
  have hr := B.returns
  have hts := atoms_spec (ws := wsX1_gather) B.pre
  have hown : s.vm.findClass RX1 = some m.cls := findClass_of_methodNamed B.named
  have hlocks := B.notSynchronized
  subst hsz
  have hD := hD0.self (sz := s.heap.size)
  generalize hAe : va_A [(o0, .inr (1, [.int 1, .ref o1, .ref o2, .ref o3, .ref o4, .int 0, .int 0, .int (-1)]))] s.heap.size = A at hD ⊢
  have hA : ∀ q : Nat, s.heap.size ≤ q → A q := fun q h => by rw [← hAe]; exact Or.inr h
  have hS : va_S A s.heap s.heap [] := va_S.rf
  have hP : va_P (dC, dI) vwCl [(o0, .inr (1, [.int 1, .ref o1, .ref o2, .ref o3, .ref o4, .int 0, .int 0, .int (-1)]))] s.heap := hP
  have hl := lv_entry ([.ref o0, .int 0, .int 0, .int 0, .int 0]) (n := 7) (Nat.le_of_ble_eq_true rfl)
  rw [lg_entry_eq]
  generalize (lg_sl ([.ref o0, .int 0, .int 0, .int 0, .int 0]) ++ List.replicate (7 - (lg_sl ([.ref o0, .int 0, .int 0, .int 0, .int 0])).length) Slot.unset).toArray = ls at hl ⊢
  have hl : lv_has ls 7 [(0, .ref o0), (1, .int 0), (2, .int 0), (3, .int 0), (4, .int 0)] := hl
  refine lv_iload hx hb dX1_gather_0 (lv_at hl 4 rfl) ?_
  refine lv_bipush (v := 12) hx hb dX1_gather_2 (by decide) ?_
  refine lv_icmp_gt (tgt := 16) hx hb dX1_gather_4 (by decide) (fun h9 => absurd h9 (by decide +kernel)) (fun _ => ?_)
  refine lv_aload_n hx hb dX1_gather_7 rfl (lv_at hl 0 rfl) ?_
  refine lv_iload_n hx hb dX1_gather_8 rfl (lv_at hl 2 rfl) ?_
  refine lv_iload_n hx hb dX1_gather_9 rfl (lv_at hl 3 rfl) ?_
  refine kcall_i (D := (dC, dI)) (S := Unit) (v := 0) (wc := [(o0, .inr (1, [.int 1, .ref o1, .ref o2, .ref o3, .ref o4, .int 0, .int 0, .int (-1)]))]) (wr := []) (w1 := fun _ => [(o0, .inr (1, [.int 1, .ref o1, .ref o2, .ref o3, .ref o4, .int 0, .int 0, .int (-1)]))]) (fun hPc hDc => va_runV (As := [.int 0, .int 0]) (rest := []) ⟨hx, hb, hml, hown, hts⟩ (kX1_canNotBeGreat_2 l dC dI cI c2 o0 o1 o2 o3 o4 s.heap.size) (cwV 2 hts gX1_gather_X1_canNotBeGreat rfl rfl rfl (by decide +kernel) ⟨Nat.le_of_ble_eq_true rfl, Nat.le_of_ble_eq_true rfl⟩) (pre_V hPc hK hDc hN (ci := 1) (q0 := 0) rfl rfl) rfl rfl hl.1 rfl (lv_room (Nat.le_of_ble_eq_true rfl)) dX1_gather_10 ⟨Nat.le_of_ble_eq_true rfl, Nat.le_of_ble_eq_true rfl⟩) hP hD hS hA [0] [] rfl rfl (by decide) (by decide) (by decide) (fun u H locs hP hD hS => ?_)
  have hP : va_P (dC, dI) vwCl [(o0, .inr (1, [.int 1, .ref o1, .ref o2, .ref o3, .ref o4, .int 0, .int 0, .int (-1)]))] H := hP
  have hD : va_D A [(o0, .inr (1, [.int 1, .ref o1, .ref o2, .ref o3, .ref o4, .int 0, .int 0, .int (-1)]))] := hD
  refine lv_if_eq (tgt := 17) hx hb dX1_gather_13 (by decide) (fun _ => ?_) (fun h9 => absurd (by decide +kernel) h9)
  refine lv_iload_n hx hb dX1_gather_17 rfl (lv_at hl 2 rfl) ?_
  refine lv_if_ne (tgt := 27) hx hb dX1_gather_18 (by decide) (fun h9 => absurd (by decide +kernel) h9) (fun _ => ?_)
  refine lv_aload_n hx hb dX1_gather_21 rfl (lv_at hl 0 rfl) ?_
  refine lv_iload_n hx hb dX1_gather_22 rfl (lv_at hl 1 rfl) ?_
  refine kcall_v (D := (dC, dI)) (S := Unit) (wc := [(o0, .inr (1, [.int 1, .ref o1, .ref o2, .ref o3, .ref o4, .int 0, .int 0, .int (-1)]))]) (wr := []) (w1 := fun _ => [(o0, .inr (1, [.int 1, .ref o1, .ref o2, .ref o3, .ref o4, .int 0, .int 0, .int (-1)]))]) (fun hPc hDc => va_runV (As := [.int 0]) (rest := []) ⟨hx, hb, hml, hown, hts⟩ (kX1_keep_2 l dC dI cI c2 o0 o1 o2 o3 o4 H.size) (cwV 1 hts gX1_gather_X1_keep rfl rfl rfl (by decide +kernel) ⟨Nat.le_of_ble_eq_true rfl, Nat.le_of_ble_eq_true rfl⟩) (pre_V hPc hK hDc hN (ci := 1) (q0 := 0) rfl rfl) rfl rfl hl.1 rfl (lv_room (Nat.le_of_ble_eq_true rfl)) dX1_gather_23 ⟨Nat.le_of_ble_eq_true rfl, Nat.le_of_ble_eq_true rfl⟩) hP hD hS hA [0] [] rfl rfl (by decide) (by decide) (by decide) (fun u H locs hP hD hS => ?_)
  have hP : va_P (dC, dI) vwCl [(o0, .inr (1, [.int 1, .ref o1, .ref o2, .ref o3, .ref o4, .int 0, .int 0, .int (-1)]))] H := hP
  have hD : va_D A [(o0, .inr (1, [.int 1, .ref o1, .ref o2, .ref o3, .ref o4, .int 0, .int 0, .int (-1)]))] := hD
  have hP9 := hP.sub (ws' := [(o0, .inr (1, [.int 1, .ref o1, .ref o2, .ref o3, .ref o4, .int 0, .int 0, .int (-1)]))]) [0] rfl
  have hD9 := hD.sub (ws' := [(o0, .inr (1, [.int 1, .ref o1, .ref o2, .ref o3, .ref o4, .int 0, .int 0, .int (-1)]))]) [0] (by decide) rfl
  exact W.vret hx hb hr (fun t ht hW => ⟨⟨(), rfl, trivial, by rw [ht]; exact hP9, va_K.moved hW.alike hK, hD9⟩, hS.F ht⟩) hS.2.2 dX1_gather_26
set_option maxHeartbeats 1000000 in
set_option maxRecDepth 100000 in
theorem kX1_bring_2 (l : Launch) (dC : Nat → ClassId) (dI : Nat → Nat → Nat) (cI c2 : ClassId) (o0 : Nat) (o1 : Nat) (o2 : Nat) (o3 : Nat) (o4 : Nat) (o5 : Nat) (o6 : Nat) (sz : Nat) : Met l yX1_bring wsX1_bring ({ frames := 3, cells := 0, slots := 0, locals := 70 }) (va_Pc [.ref o0, .ref o1] (wPre (dC, dI) [(cI, .int), (c2, .array .int)] [(o0, .inr (1, [.int 1, .ref o2, .ref o3, .ref o4, .ref o5, .int 0, .int (-1), .int (-1)])), (o1, .inr (4, [.ref o6, .int 0, .int 0]))] sz)) (va_Qv (fun (_ : Unit) => True) (fun _ t => wPost (dC, dI) [(cI, .int), (c2, .array .int)] (va_A [(o0, .inr (1, [.int 1, .ref o2, .ref o3, .ref o4, .ref o5, .int 0, .int (-1), .int (-1)])), (o1, .inr (4, [.ref o6, .int 0, .int 0]))] sz) [(o1, .inr (4, [.ref o6, .int 0, .int 0])), (o0, .inr (1, [.int 1, .ref o2, .ref o3, .ref o4, .ref o5, .int 0, .int 0, .int (-1)]))] t) (va_A [(o0, .inr (1, [.int 1, .ref o2, .ref o3, .ref o4, .ref o5, .int 0, .int (-1), .int (-1)])), (o1, .inr (4, [.ref o6, .int 0, .int 0]))] sz)) 0 0 (va_A [(o0, .inr (1, [.int 1, .ref o2, .ref o3, .ref o4, .ref o5, .int 0, .int (-1), .int (-1)])), (o1, .inr (4, [.ref o6, .int 0, .int 0]))] sz) := by
  refine Met.ofW (cc := cX1_bring) (maxL := 3) (ret := none) (by decide) rfl ?_
  intro p e s m args below meth c s₁ B hml hv
  obtain ⟨rfl, hsz, hP, hK, hD0, hN⟩ := hv
  have hx := B.exec
  have hb := B.bytes
  have hr := B.returns
  have hts := atoms_spec (ws := wsX1_bring) B.pre
  have hown : s.vm.findClass RX1 = some m.cls := findClass_of_methodNamed B.named
  have hlocks := B.notSynchronized
  subst hsz
  have hD := hD0.self (sz := s.heap.size)
  generalize hAe : va_A [(o0, .inr (1, [.int 1, .ref o2, .ref o3, .ref o4, .ref o5, .int 0, .int (-1), .int (-1)])), (o1, .inr (4, [.ref o6, .int 0, .int 0]))] s.heap.size = A at hD ⊢
  have hA : ∀ q : Nat, s.heap.size ≤ q → A q := fun q h => by rw [← hAe]; exact Or.inr h
  have hS : va_S A s.heap s.heap [] := va_S.rf
  have hP : va_P (dC, dI) vwCl [(o0, .inr (1, [.int 1, .ref o2, .ref o3, .ref o4, .ref o5, .int 0, .int (-1), .int (-1)])), (o1, .inr (4, [.ref o6, .int 0, .int 0]))] s.heap := hP
  have hl := lv_entry ([.ref o0, .ref o1]) (n := 3) (Nat.le_of_ble_eq_true rfl)
  rw [lg_entry_eq]
  generalize (lg_sl ([.ref o0, .ref o1]) ++ List.replicate (3 - (lg_sl ([.ref o0, .ref o1])).length) Slot.unset).toArray = ls at hl ⊢
  have hl : lv_has ls 3 [(0, .ref o0), (1, .ref o1)] := hl
  refine lv_aload_n hx hb dX1_bring_0 rfl (lv_at hl 0 rfl) ?_
  refine va_get (D := (dC, dI)) (ci := 1) (v := .int (-1)) (C := RX1) (T := TX1) (N := 8) hx hb hts iw_X1_bring_X1 hown hK hP 0 rfl rfl 6 (by decide) (hts (.fieldLink RX1 28 "HolelessHouse$Cliques" "madeFor" "I") (by decide +kernel)) (fun _ h9 => h9) rfl dX1_bring_1 ?_
  refine lv_aload_n hx hb dX1_bring_4 rfl (lv_at hl 1 rfl) ?_
  refine va_getN (D := (dC, dI)) (ci := 4) (v := .int 0) (C := RX4) (T := TX4) (N := 3) hx hb hts iw_X1_bring_X4 hown hK hP 1 rfl rfl 2 (by decide) (hN.use ns_19) (fun _ h9 => h9) rfl dX1_bring_5 ?_
  refine lv_icmp_ne (tgt := 12) hx hb dX1_bring_8 (by decide) (fun _ => ?_) (fun h9 => absurd h9 (by decide +kernel))
  refine lv_aload_n hx hb dX1_bring_12 rfl (lv_at hl 0 rfl) ?_
  refine lv_aload_n hx hb dX1_bring_13 rfl (lv_at hl 1 rfl) ?_
  refine va_getN (D := (dC, dI)) (ci := 4) (v := .int 0) (C := RX4) (T := TX4) (N := 3) hx hb hts iw_X1_bring_X4 hown hK hP 1 rfl rfl 2 (by decide) (hN.use ns_19) (fun _ h9 => h9) rfl dX1_bring_14 ?_
  refine va_put (D := (dC, dI)) (ci := 1) (v := .int 0) (ty := .int) (C := RX1) (T := TX1) (N := 8) hx hb hts iw_X1_bring_X1 tyX1 tyX1_ok nmX1 hown hK hP hD hS 0 rfl rfl 6 (by decide) (hts (.fieldLink RX1 28 "HolelessHouse$Cliques" "madeFor" "I") (by decide +kernel)) (fun _ h9 => h9) rfl (by decide +kernel) rfl rfl (Nat.le_of_ble_eq_true rfl) dX1_bring_17 (fun H locs hP hD hS => ?_)
  have hP : va_P (dC, dI) vwCl [(o0, .inr (1, [.int 1, .ref o2, .ref o3, .ref o4, .ref o5, .int 0, .int 0, .int (-1)])), (o1, .inr (4, [.ref o6, .int 0, .int 0]))] H := hP
  have hD : va_D A [(o0, .inr (1, [.int 1, .ref o2, .ref o3, .ref o4, .ref o5, .int 0, .int 0, .int (-1)])), (o1, .inr (4, [.ref o6, .int 0, .int 0]))] := hD
  refine lv_aload_n hx hb dX1_bring_20 rfl (lv_at hl 0 rfl) ?_
  refine lv_iconst (v := 0) hx hb dX1_bring_21 (by decide) ?_
  refine va_put (D := (dC, dI)) (ci := 1) (v := .int 0) (ty := .int) (C := RX1) (T := TX1) (N := 8) hx hb hts iw_X1_bring_X1 tyX1 tyX1_ok nmX1 hown hK hP hD hS 0 rfl rfl 5 (by decide) (hts (.fieldLink RX1 24 "HolelessHouse$Cliques" "size" "I") (by decide +kernel)) (fun _ h9 => h9) rfl (by decide +kernel) rfl rfl (Nat.le_of_ble_eq_true rfl) dX1_bring_22 (fun H locs hP hD hS => ?_)
  have hP : va_P (dC, dI) vwCl [(o0, .inr (1, [.int 1, .ref o2, .ref o3, .ref o4, .ref o5, .int 0, .int 0, .int (-1)])), (o1, .inr (4, [.ref o6, .int 0, .int 0]))] H := hP
  have hD : va_D A [(o0, .inr (1, [.int 1, .ref o2, .ref o3, .ref o4, .ref o5, .int 0, .int 0, .int (-1)])), (o1, .inr (4, [.ref o6, .int 0, .int 0]))] := hD
  refine lv_iconst (v := 0) hx hb dX1_bring_25 (by decide) ?_
  refine lv_istore_n (lv' := [(2, .int 0), (0, .ref o0), (1, .ref o1)]) hx hb dX1_bring_26 rfl hl (by decide) rfl (fun ls hl => ?_)
  refine lv_iload_n hx hb dX1_bring_27 rfl (lv_at hl 0 rfl) ?_
  refine lv_aload_n hx hb dX1_bring_28 rfl (lv_at hl 2 rfl) ?_
  refine va_getN (D := (dC, dI)) (ci := 4) (v := .int 0) (C := RX4) (T := TX4) (N := 3) hx hb hts iw_X1_bring_X4 hown hK hP 1 rfl rfl 1 (by decide) (hN.use ns_12) (fun _ h9 => h9) rfl dX1_bring_29 ?_
  refine lv_icmp_ge (tgt := 82) hx hb dX1_bring_32 (by decide) (fun _ => ?_) (fun h9 => absurd (by decide +kernel) h9)
  refine lv_aload_n hx hb dX1_bring_82 rfl (lv_at hl 1 rfl) ?_
  refine lv_iconst (v := 0) hx hb dX1_bring_83 (by decide) ?_
  refine lv_aload_n hx hb dX1_bring_84 rfl (lv_at hl 2 rfl) ?_
  refine kcall_i (D := (dC, dI)) (S := Unit) (v := 0) (wc := [(o1, .inr (4, [.ref o6, .int 0, .int 0]))]) (wr := [(o0, .inr (1, [.int 1, .ref o2, .ref o3, .ref o4, .ref o5, .int 0, .int 0, .int (-1)]))]) (w1 := fun _ => [(o1, .inr (4, [.ref o6, .int 0, .int 0]))]) (fun hPc hDc => va_runVN (As := []) (rest := [.int 0, .ref o0]) ⟨hx, hb, hml, hown, hts⟩ (kX4_all_2 l dC dI cI c2 o1 o6 H.size) ⟨va_cnB 0 hts gX1_bring_X4_all_n44 rfl rfl rfl (hN.1 _ ns_106) (hts (.initialized RX4) (by decide +kernel)) (by decide +kernel) ⟨Nat.le_of_ble_eq_true rfl, Nat.le_of_ble_eq_true rfl⟩, (hts (.instanceMethod yX4_all) (by decide +kernel)), (hts (.selects RX4 yX4_all yX4_all) (by decide +kernel))⟩ (pre_V hPc hK hDc hN (ci := 4) (q0 := 0) rfl rfl) rfl rfl hl.1 rfl (lv_room (Nat.le_of_ble_eq_true rfl)) dX1_bring_85 ⟨Nat.le_of_ble_eq_true rfl, Nat.le_of_ble_eq_true rfl⟩) hP hD hS hA [1] [0] rfl rfl (by decide) (by decide) (by decide) (fun u H locs hP hD hS => ?_)
  have hP : va_P (dC, dI) vwCl [(o0, .inr (1, [.int 1, .ref o2, .ref o3, .ref o4, .ref o5, .int 0, .int 0, .int (-1)])), (o1, .inr (4, [.ref o6, .int 0, .int 0]))] H := hP
  have hD : va_D A [(o0, .inr (1, [.int 1, .ref o2, .ref o3, .ref o4, .ref o5, .int 0, .int 0, .int (-1)])), (o1, .inr (4, [.ref o6, .int 0, .int 0]))] := hD
  refine lv_iconst (v := 0) hx hb dX1_bring_88 (by decide) ?_
  refine lv_iconst (v := 0) hx hb dX1_bring_89 (by decide) ?_
  refine kcall_v (D := (dC, dI)) (S := Unit) (wc := [(o0, .inr (1, [.int 1, .ref o2, .ref o3, .ref o4, .ref o5, .int 0, .int 0, .int (-1)]))]) (wr := [(o1, .inr (4, [.ref o6, .int 0, .int 0]))]) (w1 := fun _ => [(o0, .inr (1, [.int 1, .ref o2, .ref o3, .ref o4, .ref o5, .int 0, .int 0, .int (-1)]))]) (fun hPc hDc => va_runS (As := [.ref o0, .int 0, .int 0, .int 0, .int 0]) (rest := []) ⟨hx, hb, hml, hown, hts⟩ (kX1_gather_2 l dC dI cI c2 o0 o2 o3 o4 o5 H.size) (va_cwS 5 hts gX1_bring_X1_gather rfl rfl rfl (by decide +kernel) ⟨Nat.le_of_ble_eq_true rfl, Nat.le_of_ble_eq_true rfl⟩) (pre_S hPc hK hDc hN) rfl rfl hl.1 rfl (lv_room (Nat.le_of_ble_eq_true rfl)) dX1_bring_90 ⟨Nat.le_of_ble_eq_true rfl, Nat.le_of_ble_eq_true rfl⟩) hP hD hS hA [0] [1] rfl rfl (by decide) (by decide) (by decide) (fun u H locs hP hD hS => ?_)
  have hP : va_P (dC, dI) vwCl [(o1, .inr (4, [.ref o6, .int 0, .int 0])), (o0, .inr (1, [.int 1, .ref o2, .ref o3, .ref o4, .ref o5, .int 0, .int 0, .int (-1)]))] H := hP
  have hD : va_D A [(o1, .inr (4, [.ref o6, .int 0, .int 0])), (o0, .inr (1, [.int 1, .ref o2, .ref o3, .ref o4, .ref o5, .int 0, .int 0, .int (-1)]))] := hD
  have hP9 := hP.sub (ws' := [(o1, .inr (4, [.ref o6, .int 0, .int 0])), (o0, .inr (1, [.int 1, .ref o2, .ref o3, .ref o4, .ref o5, .int 0, .int 0, .int (-1)]))]) [0, 1] rfl
  have hD9 := hD.sub (ws' := [(o1, .inr (4, [.ref o6, .int 0, .int 0])), (o0, .inr (1, [.int 1, .ref o2, .ref o3, .ref o4, .ref o5, .int 0, .int 0, .int (-1)]))]) [0, 1] (by decide) rfl
  exact W.vret hx hb hr (fun t ht hW => ⟨⟨(), rfl, trivial, by rw [ht]; exact hP9, va_K.moved hW.alike hK, hD9⟩, hS.F ht⟩) hS.2.2 dX1_bring_93
set_option maxHeartbeats 1000000 in
set_option maxRecDepth 100000 in
theorem kX1_widest_2 (l : Launch) (dC : Nat → ClassId) (dI : Nat → Nat → Nat) (cI c2 : ClassId) (o0 : Nat) (o1 : Nat) (o2 : Nat) (o3 : Nat) (o4 : Nat) (sz : Nat) : Met l yX1_widest wsX1_widest ({ frames := 0, cells := 0, slots := 0, locals := 0 }) (va_Pc [.ref o0] (wPre (dC, dI) [(cI, .int), (c2, .array .int)] [(o0, .inr (1, [.int 1, .ref o1, .ref o2, .ref o3, .ref o4, .int 0, .int 0, .int (-1)]))] sz)) (va_Qi (fun (r : Int32) (_ : Unit) => r = 0) (fun _ t => wPost (dC, dI) [(cI, .int), (c2, .array .int)] (va_A [(o0, .inr (1, [.int 1, .ref o1, .ref o2, .ref o3, .ref o4, .int 0, .int 0, .int (-1)]))] sz) [(o0, .inr (1, [.int 1, .ref o1, .ref o2, .ref o3, .ref o4, .int 0, .int 0, .int (-1)]))] t) (va_A [(o0, .inr (1, [.int 1, .ref o1, .ref o2, .ref o3, .ref o4, .int 0, .int 0, .int (-1)]))] sz)) 0 0 (va_A [(o0, .inr (1, [.int 1, .ref o1, .ref o2, .ref o3, .ref o4, .int 0, .int 0, .int (-1)]))] sz) := by
  refine Met.ofW (cc := cX1_widest) (maxL := 3) (ret := (some .int)) (by decide) rfl ?_
  intro p e s m args below meth c s₁ B hml hv
  obtain ⟨rfl, hsz, hP, hK, hD0, hN⟩ := hv
  have hx := B.exec
  have hb := B.bytes
  have hr := B.returns
  have hts := atoms_spec (ws := wsX1_widest) B.pre
  have hown : s.vm.findClass RX1 = some m.cls := findClass_of_methodNamed B.named
  have hlocks := B.notSynchronized
  subst hsz
  have hD := hD0.self (sz := s.heap.size)
  generalize hAe : va_A [(o0, .inr (1, [.int 1, .ref o1, .ref o2, .ref o3, .ref o4, .int 0, .int 0, .int (-1)]))] s.heap.size = A at hD ⊢
  have hA : ∀ q : Nat, s.heap.size ≤ q → A q := fun q h => by rw [← hAe]; exact Or.inr h
  have hS : va_S A s.heap s.heap [] := va_S.rf
  have hP : va_P (dC, dI) vwCl [(o0, .inr (1, [.int 1, .ref o1, .ref o2, .ref o3, .ref o4, .int 0, .int 0, .int (-1)]))] s.heap := hP
  have hl := lv_entry ([.ref o0]) (n := 3) (Nat.le_of_ble_eq_true rfl)
  rw [lg_entry_eq]
  generalize (lg_sl ([.ref o0]) ++ List.replicate (3 - (lg_sl ([.ref o0])).length) Slot.unset).toArray = ls at hl ⊢
  have hl : lv_has ls 3 [(0, .ref o0)] := hl
  refine lv_iconst (v := 0) hx hb dX1_widest_0 (by decide) ?_
  refine lv_istore_n (lv' := [(1, .int 0), (0, .ref o0)]) hx hb dX1_widest_1 rfl hl (by decide) rfl (fun ls hl => ?_)
  refine lv_iconst (v := 0) hx hb dX1_widest_2 (by decide) ?_
  refine lv_istore_n (lv' := [(2, .int 0), (1, .int 0), (0, .ref o0)]) hx hb dX1_widest_3 rfl hl (by decide) rfl (fun ls hl => ?_)
  refine lv_iload_n hx hb dX1_widest_4 rfl (lv_at hl 0 rfl) ?_
  refine lv_aload_n hx hb dX1_widest_5 rfl (lv_at hl 2 rfl) ?_
  refine va_get (D := (dC, dI)) (ci := 1) (v := .int 0) (C := RX1) (T := TX1) (N := 8) hx hb hts iw_X1_widest_X1 hown hK hP 0 rfl rfl 5 (by decide) (hts (.fieldLink RX1 24 "HolelessHouse$Cliques" "size" "I") (by decide +kernel)) (fun _ h9 => h9) rfl dX1_widest_6 ?_
  refine lv_icmp_ge (tgt := 41) hx hb dX1_widest_9 (by decide) (fun _ => ?_) (fun h9 => absurd (by decide +kernel) h9)
  refine lv_iload_n hx hb dX1_widest_41 rfl (lv_at hl 1 rfl) ?_
  have hP9 := hP.sub (ws' := [(o0, .inr (1, [.int 1, .ref o1, .ref o2, .ref o3, .ref o4, .int 0, .int 0, .int (-1)]))]) [0] rfl
  have hD9 := hD.sub (ws' := [(o0, .inr (1, [.int 1, .ref o1, .ref o2, .ref o3, .ref o4, .int 0, .int 0, .int (-1)]))]) [0] (by decide) rfl
  exact W.iret (v := 0) hx hb hr (fun t ht hW => ⟨⟨0, (), rfl, rfl, by rw [ht]; exact hP9, va_K.moved hW.alike hK, hD9⟩, hS.F ht⟩) hS.2.2 dX1_widest_42
