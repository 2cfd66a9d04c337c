theorem iw_X11_apart_X11 : ∀ w ∈ wsX110, w ∈ wsX11_apart := by decide +kernel
set_option maxHeartbeats 1000000 in
set_option maxRecDepth 100000 in
theorem kX11_apart_1 (l : Launch) (dC : Nat → ClassId) (dI : Nat → Nat → Nat) (cI c2 : ClassId) (o0 : Nat) (o1 : Nat) (o2 : Nat) (o3 : Nat) (o4 : Nat) (o5 : Nat) (o6 : Nat) (o7 : Nat) (o8 : Nat) (o9 : Nat) (o10 : Nat) (o11 : Nat) (o12 : Nat) (o13 : Nat) (o14 : Nat) (o15 : Nat) (o16 : Nat) (o17 : Nat) (sz : Nat) : Met l yX11_apart wsX11_apart ({ frames := 4, cells := 0, slots := 0, locals := 92 }) (va_Pc [.ref o0] (wPre (dC, dI) [(cI, .int), (c2, .array .int)] [(o0, .inr (11, [.ref o2, .ref o3, .ref o4, .ref o5, .ref o6, .ref o1, .ref o7, .ref o8, .ref o9, .ref o10, .ref o11, .ref o12, .int 0])), (o1, .inr (1, [.int 1, .ref o13, .ref o14, .ref o15, .ref o16, .int 0, .int (-1), .int (-1)])), (o2, .inr (4, [.ref o17, .int 0, .int 0]))] sz)) (va_Qi (fun (r : Int32) (_ : Unit) => r = 0) (fun _ t => wPost (dC, dI) [(cI, .int), (c2, .array .int)] (va_A [(o0, .inr (11, [.ref o2, .ref o3, .ref o4, .ref o5, .ref o6, .ref o1, .ref o7, .ref o8, .ref o9, .ref o10, .ref o11, .ref o12, .int 0])), (o1, .inr (1, [.int 1, .ref o13, .ref o14, .ref o15, .ref o16, .int 0, .int (-1), .int (-1)])), (o2, .inr (4, [.ref o17, .int 0, .int 0]))] sz) [] t) (va_A [(o0, .inr (11, [.ref o2, .ref o3, .ref o4, .ref o5, .ref o6, .ref o1, .ref o7, .ref o8, .ref o9, .ref o10, .ref o11, .ref o12, .int 0])), (o1, .inr (1, [.int 1, .ref o13, .ref o14, .ref o15, .ref o16, .int 0, .int (-1), .int (-1)])), (o2, .inr (4, [.ref o17, .int 0, .int 0]))] sz)) 0 0 (va_A [(o0, .inr (11, [.ref o2, .ref o3, .ref o4, .ref o5, .ref o6, .ref o1, .ref o7, .ref o8, .ref o9, .ref o10, .ref o11, .ref o12, .int 0])), (o1, .inr (1, [.int 1, .ref o13, .ref o14, .ref o15, .ref o16, .int 0, .int (-1), .int (-1)])), (o2, .inr (4, [.ref o17, .int 0, .int 0]))] sz) := by
  refine Met.ofW (cc := cX11_apart) (maxL := 1) (ret := (some .int)) (by decide) rfl ?_
  intro p e s m args below meth c s₁ B hml hv
  obtain ⟨rfl, hsz, hP, hK, hD0, hN⟩ := hv
  have hx := B.exec
  have hb := B.bytes
  have hr := B.returns
  have hts := atoms_spec (ws := wsX11_apart) B.pre
  have hown : s.vm.findClass RX11 = some m.cls := findClass_of_methodNamed B.named
  have hlocks := B.notSynchronized
  subst hsz
  have hD := hD0.self (sz := s.heap.size)
  generalize hAe : va_A [(o0, .inr (11, [.ref o2, .ref o3, .ref o4, .ref o5, .ref o6, .ref o1, .ref o7, .ref o8, .ref o9, .ref o10, .ref o11, .ref o12, .int 0])), (o1, .inr (1, [.int 1, .ref o13, .ref o14, .ref o15, .ref o16, .int 0, .int (-1), .int (-1)])), (o2, .inr (4, [.ref o17, .int 0, .int 0]))] s.heap.size = A at hD ⊢
  have hA : ∀ q : Nat, s.heap.size ≤ q → A q := fun q h => by rw [← hAe]; exact Or.inr h
  have hS : va_S A s.heap s.heap [] := va_S.rf
  have hP : va_P (dC, dI) vwCl [(o0, .inr (11, [.ref o2, .ref o3, .ref o4, .ref o5, .ref o6, .ref o1, .ref o7, .ref o8, .ref o9, .ref o10, .ref o11, .ref o12, .int 0])), (o1, .inr (1, [.int 1, .ref o13, .ref o14, .ref o15, .ref o16, .int 0, .int (-1), .int (-1)])), (o2, .inr (4, [.ref o17, .int 0, .int 0]))] s.heap := hP
  have hl := lv_entry ([.ref o0]) (n := 1) (Nat.le_of_ble_eq_true rfl)
  rw [lg_entry_eq]
  generalize (lg_sl ([.ref o0]) ++ List.replicate (1 - (lg_sl ([.ref o0])).length) Slot.unset).toArray = ls at hl ⊢
  have hl : lv_has ls 1 [(0, .ref o0)] := hl
  refine lv_aload_n hx hb dX11_apart_0 rfl (lv_at hl 0 rfl) ?_
  refine va_get (D := (dC, dI)) (ci := 11) (v := .ref o1) (C := RX11) (T := TX11) (N := 13) hx hb hts iw_X11_apart_X11 hown hK hP 0 rfl rfl 5 (by decide) (hts (.fieldLink RX11 46 "HolelessHouse" "looseSets" "LHolelessHouse$Cliques;") (by decide +kernel)) (fun _ h9 => h9) rfl dX11_apart_1 ?_
  refine lv_aload_n hx hb dX11_apart_4 rfl (lv_at hl 0 rfl) ?_
  refine va_get (D := (dC, dI)) (ci := 11) (v := .ref o2) (C := RX11) (T := TX11) (N := 13) hx hb hts iw_X11_apart_X11 hown hK hP 0 rfl rfl 0 (by decide) (hts (.fieldLink RX11 10 "HolelessHouse" "graph" "LHolelessHouse$Graph;") (by decide +kernel)) (fun _ h9 => h9) rfl dX11_apart_5 ?_
  refine kcall_v (D := (dC, dI)) (S := Unit) (wc := [(o1, .inr (1, [.int 1, .ref o13, .ref o14, .ref o15, .ref o16, .int 0, .int (-1), .int (-1)])), (o2, .inr (4, [.ref o17, .int 0, .int 0]))]) (wr := [(o0, .inr (11, [.ref o2, .ref o3, .ref o4, .ref o5, .ref o6, .ref o1, .ref o7, .ref o8, .ref o9, .ref o10, .ref o11, .ref o12, .int 0]))]) (w1 := fun _ => [(o2, .inr (4, [.ref o17, .int 0, .int 0])), (o1, .inr (1, [.int 1, .ref o13, .ref o14, .ref o15, .ref o16, .int 0, .int 0, .int (-1)]))]) (fun hPc hDc => va_runVN (As := [.ref o2]) (rest := []) ⟨hx, hb, hml, hown, hts⟩ (kX1_bring_2 l dC dI cI c2 o1 o2 o13 o14 o15 o16 o17 s.heap.size) ⟨va_cnB 1 hts gX11_apart_X1_bring_n193 rfl rfl rfl (hN.1 _ ns_105) (hts (.initialized RX1) (by decide +kernel)) (by decide +kernel) ⟨Nat.le_of_ble_eq_true rfl, Nat.le_of_ble_eq_true rfl⟩, (hts (.instanceMethod yX1_bring) (by decide +kernel)), (hts (.selects RX1 yX1_bring yX1_bring) (by decide +kernel))⟩ (pre_V hPc hK hDc hN (ci := 1) (q0 := 0) rfl rfl) rfl rfl hl.1 rfl (lv_room (Nat.le_of_ble_eq_true rfl)) dX11_apart_8 ⟨Nat.le_of_ble_eq_true rfl, Nat.le_of_ble_eq_true rfl⟩) hP hD hS hA [1, 2] [0] rfl rfl (by decide) (by decide) (by decide) (fun u H locs hP hD hS => ?_)
  have hP : va_P (dC, dI) vwCl [(o0, .inr (11, [.ref o2, .ref o3, .ref o4, .ref o5, .ref o6, .ref o1, .ref o7, .ref o8, .ref o9, .ref o10, .ref o11, .ref o12, .int 0])), (o2, .inr (4, [.ref o17, .int 0, .int 0])), (o1, .inr (1, [.int 1, .ref o13, .ref o14, .ref o15, .ref o16, .int 0, .int 0, .int (-1)]))] H := hP
  have hD : va_D A [(o0, .inr (11, [.ref o2, .ref o3, .ref o4, .ref o5, .ref o6, .ref o1, .ref o7, .ref o8, .ref o9, .ref o10, .ref o11, .ref o12, .int 0])), (o2, .inr (4, [.ref o17, .int 0, .int 0])), (o1, .inr (1, [.int 1, .ref o13, .ref o14, .ref o15, .ref o16, .int 0, .int 0, .int (-1)]))] := hD
  refine lv_aload_n hx hb dX11_apart_11 rfl (lv_at hl 0 rfl) ?_
  refine va_get (D := (dC, dI)) (ci := 11) (v := .ref o1) (C := RX11) (T := TX11) (N := 13) hx hb hts iw_X11_apart_X11 hown hK hP 0 rfl rfl 5 (by decide) (hts (.fieldLink RX11 46 "HolelessHouse" "looseSets" "LHolelessHouse$Cliques;") (by decide +kernel)) (fun _ h9 => h9) rfl dX11_apart_12 ?_
  refine kcall_i (D := (dC, dI)) (S := Unit) (v := 0) (wc := [(o1, .inr (1, [.int 1, .ref o13, .ref o14, .ref o15, .ref o16, .int 0, .int 0, .int (-1)]))]) (wr := [(o0, .inr (11, [.ref o2, .ref o3, .ref o4, .ref o5, .ref o6, .ref o1, .ref o7, .ref o8, .ref o9, .ref o10, .ref o11, .ref o12, .int 0])), (o2, .inr (4, [.ref o17, .int 0, .int 0]))]) (w1 := fun _ => [(o1, .inr (1, [.int 1, .ref o13, .ref o14, .ref o15, .ref o16, .int 0, .int 0, .int (-1)]))]) (fun hPc hDc => va_runVN (As := []) (rest := []) ⟨hx, hb, hml, hown, hts⟩ (kX1_widest_2 l dC dI cI c2 o1 o13 o14 o15 o16 H.size) ⟨va_cnB 0 hts gX11_apart_X1_widest_n199 rfl rfl rfl (hN.1 _ ns_109) (hts (.initialized RX1) (by decide +kernel)) (by decide +kernel) ⟨Nat.le_of_ble_eq_true rfl, Nat.le_of_ble_eq_true rfl⟩, (hts (.instanceMethod yX1_widest) (by decide +kernel)), (hts (.selects RX1 yX1_widest yX1_widest) (by decide +kernel))⟩ (pre_V hPc hK hDc hN (ci := 1) (q0 := 0) rfl rfl) rfl rfl hl.1 rfl (lv_room (Nat.le_of_ble_eq_true rfl)) dX11_apart_15 ⟨Nat.le_of_ble_eq_true rfl, Nat.le_of_ble_eq_true rfl⟩) hP hD hS hA [2] [0, 1] rfl rfl (by decide) (by decide) (by decide) (fun u H locs hP hD hS => ?_)
  have hP : va_P (dC, dI) vwCl [(o0, .inr (11, [.ref o2, .ref o3, .ref o4, .ref o5, .ref o6, .ref o1, .ref o7, .ref o8, .ref o9, .ref o10, .ref o11, .ref o12, .int 0])), (o2, .inr (4, [.ref o17, .int 0, .int 0])), (o1, .inr (1, [.int 1, .ref o13, .ref o14, .ref o15, .ref o16, .int 0, .int 0, .int (-1)]))] H := hP
  have hD : va_D A [(o0, .inr (11, [.ref o2, .ref o3, .ref o4, .ref o5, .ref o6, .ref o1, .ref o7, .ref o8, .ref o9, .ref o10, .ref o11, .ref o12, .int 0])), (o2, .inr (4, [.ref o17, .int 0, .int 0])), (o1, .inr (1, [.int 1, .ref o13, .ref o14, .ref o15, .ref o16, .int 0, .int 0, .int (-1)]))] := hD
  have hP9 := hP.sub (ws' := []) [] rfl
  have hD9 := hD.sub (ws' := []) [] (by decide) rfl
  exact W.iret (v := 0) hx hb hr (fun t ht hW => ⟨⟨0, (), rfl, rfl, by rw [ht]; exact hP9, va_K.moved hW.alike hK, hD9⟩, hS.F ht⟩) hS.2.2 dX11_apart_18
set_option maxHeartbeats 1000000 in
set_option maxRecDepth 100000 in
theorem kX12_bits_1 (l : Launch) (dC : Nat → ClassId) (dI : Nat → Nat → Nat) (cI c2 : ClassId) (sz : Nat) : Met l yX12_bits wsX12_bits ({ frames := 0, cells := 0, slots := 0, locals := 0 }) (va_Pc [.int 0] (wPre (dC, dI) [(cI, .int), (c2, .array .int)] [] sz)) (va_Qi (fun (r : Int32) (_ : Unit) => r = 0) (fun _ t => wPost (dC, dI) [(cI, .int), (c2, .array .int)] (va_A [] sz) [] t) (va_A [] sz)) 0 0 (va_A [] sz) := by
  refine Met.ofW (cc := cX12_bits) (maxL := 3) (ret := (some .int)) (by decide) rfl ?_
  intro p e s m args below meth c s₁ B hml hv
  obtain ⟨rfl, hsz, hP, hK, hD0, hN⟩ := hv
  have hx := B.exec
  have hb := B.bytes
  have hr := B.returns
  have hts := atoms_spec (ws := wsX12_bits) B.pre
  have hown : s.vm.findClass RX12 = some m.cls := findClass_of_methodNamed B.named
  have hlocks := B.notSynchronized
  subst hsz
  have hD := hD0.self (sz := s.heap.size)
  generalize hAe : va_A [] s.heap.size = A at hD ⊢
  have hA : ∀ q : Nat, s.heap.size ≤ q → A q := fun q h => by rw [← hAe]; exact Or.inr h
  have hS : va_S A s.heap s.heap [] := va_S.rf
  have hP : va_P (dC, dI) vwCl [] s.heap := hP
  have hl := lv_entry ([.int 0]) (n := 3) (Nat.le_of_ble_eq_true rfl)
  rw [lg_entry_eq]
  generalize (lg_sl ([.int 0]) ++ List.replicate (3 - (lg_sl ([.int 0])).length) Slot.unset).toArray = ls at hl ⊢
  have hl : lv_has ls 3 [(0, .int 0)] := hl
  refine lv_iconst (v := 0) hx hb dX12_bits_0 (by decide) ?_
  refine lv_istore_n (lv' := [(1, .int 0), (0, .int 0)]) hx hb dX12_bits_1 rfl hl (by decide) rfl (fun ls hl => ?_)
  refine lv_iconst (v := 0) hx hb dX12_bits_2 (by decide) ?_
  refine lv_istore_n (lv' := [(2, .int 0), (1, .int 0), (0, .int 0)]) hx hb dX12_bits_3 rfl hl (by decide) rfl (fun ls hl => ?_)
  refine lv_iload_n hx hb dX12_bits_4 rfl (lv_at hl 0 rfl) ?_
  refine lv_bipush (v := 13) hx hb dX12_bits_5 (by decide) ?_
  refine lv_icmp_ge (tgt := 24) hx hb dX12_bits_7 (by decide) (fun h9 => absurd h9 (by decide +kernel)) (fun _ => ?_)
  refine lv_iload_n hx hb dX12_bits_10 rfl (lv_at hl 1 rfl) ?_
  refine lv_iload_n hx hb dX12_bits_11 rfl (lv_at hl 2 rfl) ?_
  refine lv_iload_n hx hb dX12_bits_12 rfl (lv_at hl 0 rfl) ?_
  refine lv_ishr hx hb dX12_bits_13 (tk_i (v := 0) (by decide +kernel) ?_)
  refine lv_iconst (v := 1) hx hb dX12_bits_14 (by decide) ?_
  refine lv_iand hx hb dX12_bits_15 (tk_i (v := 0) (by decide +kernel) ?_)
  refine lv_iadd hx hb dX12_bits_16 (tk_i (v := 0) (by decide +kernel) ?_)
  refine lv_istore_n (lv' := [(1, .int 0), (2, .int 0), (0, .int 0)]) hx hb dX12_bits_17 rfl hl (by decide) rfl (fun ls hl => ?_)
  refine lv_iinc (v := 1) (lv' := [(2, .int 1), (1, .int 0), (0, .int 0)]) hx hb dX12_bits_18 hl (k := 1) rfl (by decide +kernel) (by decide) rfl (fun ls hl => ?_)
  refine lv_goto (tgt := 4) hx hb dX12_bits_21 (by decide) ?_
  refine lv_iload_n hx hb dX12_bits_4 rfl (lv_at hl 0 rfl) ?_
  refine lv_bipush (v := 13) hx hb dX12_bits_5 (by decide) ?_
  refine lv_icmp_ge (tgt := 24) hx hb dX12_bits_7 (by decide) (fun h9 => absurd h9 (by decide +kernel)) (fun _ => ?_)
  refine lv_iload_n hx hb dX12_bits_10 rfl (lv_at hl 1 rfl) ?_
  refine lv_iload_n hx hb dX12_bits_11 rfl (lv_at hl 2 rfl) ?_
  refine lv_iload_n hx hb dX12_bits_12 rfl (lv_at hl 0 rfl) ?_
  refine lv_ishr hx hb dX12_bits_13 (tk_i (v := 0) (by decide +kernel) ?_)
  refine lv_iconst (v := 1) hx hb dX12_bits_14 (by decide) ?_
  refine lv_iand hx hb dX12_bits_15 (tk_i (v := 0) (by decide +kernel) ?_)
  refine lv_iadd hx hb dX12_bits_16 (tk_i (v := 0) (by decide +kernel) ?_)
  refine lv_istore_n (lv' := [(1, .int 0), (2, .int 1), (0, .int 0)]) hx hb dX12_bits_17 rfl hl (by decide) rfl (fun ls hl => ?_)
  refine lv_iinc (v := 2) (lv' := [(2, .int 2), (1, .int 0), (0, .int 0)]) hx hb dX12_bits_18 hl (k := 1) rfl (by decide +kernel) (by decide) rfl (fun ls hl => ?_)
  refine lv_goto (tgt := 4) hx hb dX12_bits_21 (by decide) ?_
  refine lv_iload_n hx hb dX12_bits_4 rfl (lv_at hl 0 rfl) ?_
  refine lv_bipush (v := 13) hx hb dX12_bits_5 (by decide) ?_
  refine lv_icmp_ge (tgt := 24) hx hb dX12_bits_7 (by decide) (fun h9 => absurd h9 (by decide +kernel)) (fun _ => ?_)
  refine lv_iload_n hx hb dX12_bits_10 rfl (lv_at hl 1 rfl) ?_
  refine lv_iload_n hx hb dX12_bits_11 rfl (lv_at hl 2 rfl) ?_
  refine lv_iload_n hx hb dX12_bits_12 rfl (lv_at hl 0 rfl) ?_
  refine lv_ishr hx hb dX12_bits_13 (tk_i (v := 0) (by decide +kernel) ?_)
  refine lv_iconst (v := 1) hx hb dX12_bits_14 (by decide) ?_
  refine lv_iand hx hb dX12_bits_15 (tk_i (v := 0) (by decide +kernel) ?_)
  refine lv_iadd hx hb dX12_bits_16 (tk_i (v := 0) (by decide +kernel) ?_)
  refine lv_istore_n (lv' := [(1, .int 0), (2, .int 2), (0, .int 0)]) hx hb dX12_bits_17 rfl hl (by decide) rfl (fun ls hl => ?_)
  refine lv_iinc (v := 3) (lv' := [(2, .int 3), (1, .int 0), (0, .int 0)]) hx hb dX12_bits_18 hl (k := 1) rfl (by decide +kernel) (by decide) rfl (fun ls hl => ?_)
  refine lv_goto (tgt := 4) hx hb dX12_bits_21 (by decide) ?_
  refine lv_iload_n hx hb dX12_bits_4 rfl (lv_at hl 0 rfl) ?_
  refine lv_bipush (v := 13) hx hb dX12_bits_5 (by decide) ?_
  refine lv_icmp_ge (tgt := 24) hx hb dX12_bits_7 (by decide) (fun h9 => absurd h9 (by decide +kernel)) (fun _ => ?_)
  refine lv_iload_n hx hb dX12_bits_10 rfl (lv_at hl 1 rfl) ?_
  refine lv_iload_n hx hb dX12_bits_11 rfl (lv_at hl 2 rfl) ?_
  refine lv_iload_n hx hb dX12_bits_12 rfl (lv_at hl 0 rfl) ?_
  refine lv_ishr hx hb dX12_bits_13 (tk_i (v := 0) (by decide +kernel) ?_)
  refine lv_iconst (v := 1) hx hb dX12_bits_14 (by decide) ?_
  refine lv_iand hx hb dX12_bits_15 (tk_i (v := 0) (by decide +kernel) ?_)
  refine lv_iadd hx hb dX12_bits_16 (tk_i (v := 0) (by decide +kernel) ?_)
  refine lv_istore_n (lv' := [(1, .int 0), (2, .int 3), (0, .int 0)]) hx hb dX12_bits_17 rfl hl (by decide) rfl (fun ls hl => ?_)
  refine lv_iinc (v := 4) (lv' := [(2, .int 4), (1, .int 0), (0, .int 0)]) hx hb dX12_bits_18 hl (k := 1) rfl (by decide +kernel) (by decide) rfl (fun ls hl => ?_)
  refine lv_goto (tgt := 4) hx hb dX12_bits_21 (by decide) ?_
  refine lv_iload_n hx hb dX12_bits_4 rfl (lv_at hl 0 rfl) ?_
  refine lv_bipush (v := 13) hx hb dX12_bits_5 (by decide) ?_
  refine lv_icmp_ge (tgt := 24) hx hb dX12_bits_7 (by decide) (fun h9 => absurd h9 (by decide +kernel)) (fun _ => ?_)
  refine lv_iload_n hx hb dX12_bits_10 rfl (lv_at hl 1 rfl) ?_
  refine lv_iload_n hx hb dX12_bits_11 rfl (lv_at hl 2 rfl) ?_
  refine lv_iload_n hx hb dX12_bits_12 rfl (lv_at hl 0 rfl) ?_
  refine lv_ishr hx hb dX12_bits_13 (tk_i (v := 0) (by decide +kernel) ?_)
  refine lv_iconst (v := 1) hx hb dX12_bits_14 (by decide) ?_
  refine lv_iand hx hb dX12_bits_15 (tk_i (v := 0) (by decide +kernel) ?_)
  refine lv_iadd hx hb dX12_bits_16 (tk_i (v := 0) (by decide +kernel) ?_)
  refine lv_istore_n (lv' := [(1, .int 0), (2, .int 4), (0, .int 0)]) hx hb dX12_bits_17 rfl hl (by decide) rfl (fun ls hl => ?_)
  refine lv_iinc (v := 5) (lv' := [(2, .int 5), (1, .int 0), (0, .int 0)]) hx hb dX12_bits_18 hl (k := 1) rfl (by decide +kernel) (by decide) rfl (fun ls hl => ?_)
  refine lv_goto (tgt := 4) hx hb dX12_bits_21 (by decide) ?_
  refine lv_iload_n hx hb dX12_bits_4 rfl (lv_at hl 0 rfl) ?_
  refine lv_bipush (v := 13) hx hb dX12_bits_5 (by decide) ?_
  refine lv_icmp_ge (tgt := 24) hx hb dX12_bits_7 (by decide) (fun h9 => absurd h9 (by decide +kernel)) (fun _ => ?_)
  refine lv_iload_n hx hb dX12_bits_10 rfl (lv_at hl 1 rfl) ?_
  refine lv_iload_n hx hb dX12_bits_11 rfl (lv_at hl 2 rfl) ?_
  refine lv_iload_n hx hb dX12_bits_12 rfl (lv_at hl 0 rfl) ?_
  refine lv_ishr hx hb dX12_bits_13 (tk_i (v := 0) (by decide +kernel) ?_)
  refine lv_iconst (v := 1) hx hb dX12_bits_14 (by decide) ?_
  refine lv_iand hx hb dX12_bits_15 (tk_i (v := 0) (by decide +kernel) ?_)
  refine lv_iadd hx hb dX12_bits_16 (tk_i (v := 0) (by decide +kernel) ?_)
  refine lv_istore_n (lv' := [(1, .int 0), (2, .int 5), (0, .int 0)]) hx hb dX12_bits_17 rfl hl (by decide) rfl (fun ls hl => ?_)
  refine lv_iinc (v := 6) (lv' := [(2, .int 6), (1, .int 0), (0, .int 0)]) hx hb dX12_bits_18 hl (k := 1) rfl (by decide +kernel) (by decide) rfl (fun ls hl => ?_)
  refine lv_goto (tgt := 4) hx hb dX12_bits_21 (by decide) ?_
  refine lv_iload_n hx hb dX12_bits_4 rfl (lv_at hl 0 rfl) ?_
  refine lv_bipush (v := 13) hx hb dX12_bits_5 (by decide) ?_
  refine lv_icmp_ge (tgt := 24) hx hb dX12_bits_7 (by decide) (fun h9 => absurd h9 (by decide +kernel)) (fun _ => ?_)
  refine lv_iload_n hx hb dX12_bits_10 rfl (lv_at hl 1 rfl) ?_
  refine lv_iload_n hx hb dX12_bits_11 rfl (lv_at hl 2 rfl) ?_
  refine lv_iload_n hx hb dX12_bits_12 rfl (lv_at hl 0 rfl) ?_
  refine lv_ishr hx hb dX12_bits_13 (tk_i (v := 0) (by decide +kernel) ?_)
  refine lv_iconst (v := 1) hx hb dX12_bits_14 (by decide) ?_
  refine lv_iand hx hb dX12_bits_15 (tk_i (v := 0) (by decide +kernel) ?_)
  refine lv_iadd hx hb dX12_bits_16 (tk_i (v := 0) (by decide +kernel) ?_)
  refine lv_istore_n (lv' := [(1, .int 0), (2, .int 6), (0, .int 0)]) hx hb dX12_bits_17 rfl hl (by decide) rfl (fun ls hl => ?_)
  refine lv_iinc (v := 7) (lv' := [(2, .int 7), (1, .int 0), (0, .int 0)]) hx hb dX12_bits_18 hl (k := 1) rfl (by decide +kernel) (by decide) rfl (fun ls hl => ?_)
  refine lv_goto (tgt := 4) hx hb dX12_bits_21 (by decide) ?_
  refine lv_iload_n hx hb dX12_bits_4 rfl (lv_at hl 0 rfl) ?_
  refine lv_bipush (v := 13) hx hb dX12_bits_5 (by decide) ?_
  refine lv_icmp_ge (tgt := 24) hx hb dX12_bits_7 (by decide) (fun h9 => absurd h9 (by decide +kernel)) (fun _ => ?_)
  refine lv_iload_n hx hb dX12_bits_10 rfl (lv_at hl 1 rfl) ?_
  refine lv_iload_n hx hb dX12_bits_11 rfl (lv_at hl 2 rfl) ?_
  refine lv_iload_n hx hb dX12_bits_12 rfl (lv_at hl 0 rfl) ?_
  refine lv_ishr hx hb dX12_bits_13 (tk_i (v := 0) (by decide +kernel) ?_)
  refine lv_iconst (v := 1) hx hb dX12_bits_14 (by decide) ?_
  refine lv_iand hx hb dX12_bits_15 (tk_i (v := 0) (by decide +kernel) ?_)
  refine lv_iadd hx hb dX12_bits_16 (tk_i (v := 0) (by decide +kernel) ?_)
  refine lv_istore_n (lv' := [(1, .int 0), (2, .int 7), (0, .int 0)]) hx hb dX12_bits_17 rfl hl (by decide) rfl (fun ls hl => ?_)
  refine lv_iinc (v := 8) (lv' := [(2, .int 8), (1, .int 0), (0, .int 0)]) hx hb dX12_bits_18 hl (k := 1) rfl (by decide +kernel) (by decide) rfl (fun ls hl => ?_)
  refine lv_goto (tgt := 4) hx hb dX12_bits_21 (by decide) ?_
  refine lv_iload_n hx hb dX12_bits_4 rfl (lv_at hl 0 rfl) ?_
  refine lv_bipush (v := 13) hx hb dX12_bits_5 (by decide) ?_
  refine lv_icmp_ge (tgt := 24) hx hb dX12_bits_7 (by decide) (fun h9 => absurd h9 (by decide +kernel)) (fun _ => ?_)
  refine lv_iload_n hx hb dX12_bits_10 rfl (lv_at hl 1 rfl) ?_
  refine lv_iload_n hx hb dX12_bits_11 rfl (lv_at hl 2 rfl) ?_
  refine lv_iload_n hx hb dX12_bits_12 rfl (lv_at hl 0 rfl) ?_
  refine lv_ishr hx hb dX12_bits_13 (tk_i (v := 0) (by decide +kernel) ?_)
  refine lv_iconst (v := 1) hx hb dX12_bits_14 (by decide) ?_
  refine lv_iand hx hb dX12_bits_15 (tk_i (v := 0) (by decide +kernel) ?_)
  refine lv_iadd hx hb dX12_bits_16 (tk_i (v := 0) (by decide +kernel) ?_)
  refine lv_istore_n (lv' := [(1, .int 0), (2, .int 8), (0, .int 0)]) hx hb dX12_bits_17 rfl hl (by decide) rfl (fun ls hl => ?_)
  refine lv_iinc (v := 9) (lv' := [(2, .int 9), (1, .int 0), (0, .int 0)]) hx hb dX12_bits_18 hl (k := 1) rfl (by decide +kernel) (by decide) rfl (fun ls hl => ?_)
  refine lv_goto (tgt := 4) hx hb dX12_bits_21 (by decide) ?_
  refine lv_iload_n hx hb dX12_bits_4 rfl (lv_at hl 0 rfl) ?_
  refine lv_bipush (v := 13) hx hb dX12_bits_5 (by decide) ?_
  refine lv_icmp_ge (tgt := 24) hx hb dX12_bits_7 (by decide) (fun h9 => absurd h9 (by decide +kernel)) (fun _ => ?_)
  refine lv_iload_n hx hb dX12_bits_10 rfl (lv_at hl 1 rfl) ?_
  refine lv_iload_n hx hb dX12_bits_11 rfl (lv_at hl 2 rfl) ?_
  refine lv_iload_n hx hb dX12_bits_12 rfl (lv_at hl 0 rfl) ?_
  refine lv_ishr hx hb dX12_bits_13 (tk_i (v := 0) (by decide +kernel) ?_)
  refine lv_iconst (v := 1) hx hb dX12_bits_14 (by decide) ?_
  refine lv_iand hx hb dX12_bits_15 (tk_i (v := 0) (by decide +kernel) ?_)
  refine lv_iadd hx hb dX12_bits_16 (tk_i (v := 0) (by decide +kernel) ?_)
  refine lv_istore_n (lv' := [(1, .int 0), (2, .int 9), (0, .int 0)]) hx hb dX12_bits_17 rfl hl (by decide) rfl (fun ls hl => ?_)
  refine lv_iinc (v := 10) (lv' := [(2, .int 10), (1, .int 0), (0, .int 0)]) hx hb dX12_bits_18 hl (k := 1) rfl (by decide +kernel) (by decide) rfl (fun ls hl => ?_)
  refine lv_goto (tgt := 4) hx hb dX12_bits_21 (by decide) ?_
  refine lv_iload_n hx hb dX12_bits_4 rfl (lv_at hl 0 rfl) ?_
  refine lv_bipush (v := 13) hx hb dX12_bits_5 (by decide) ?_
  refine lv_icmp_ge (tgt := 24) hx hb dX12_bits_7 (by decide) (fun h9 => absurd h9 (by decide +kernel)) (fun _ => ?_)
  refine lv_iload_n hx hb dX12_bits_10 rfl (lv_at hl 1 rfl) ?_
  refine lv_iload_n hx hb dX12_bits_11 rfl (lv_at hl 2 rfl) ?_
  refine lv_iload_n hx hb dX12_bits_12 rfl (lv_at hl 0 rfl) ?_
  refine lv_ishr hx hb dX12_bits_13 (tk_i (v := 0) (by decide +kernel) ?_)
  refine lv_iconst (v := 1) hx hb dX12_bits_14 (by decide) ?_
  refine lv_iand hx hb dX12_bits_15 (tk_i (v := 0) (by decide +kernel) ?_)
  refine lv_iadd hx hb dX12_bits_16 (tk_i (v := 0) (by decide +kernel) ?_)
  refine lv_istore_n (lv' := [(1, .int 0), (2, .int 10), (0, .int 0)]) hx hb dX12_bits_17 rfl hl (by decide) rfl (fun ls hl => ?_)
  refine lv_iinc (v := 11) (lv' := [(2, .int 11), (1, .int 0), (0, .int 0)]) hx hb dX12_bits_18 hl (k := 1) rfl (by decide +kernel) (by decide) rfl (fun ls hl => ?_)
  refine lv_goto (tgt := 4) hx hb dX12_bits_21 (by decide) ?_
  refine lv_iload_n hx hb dX12_bits_4 rfl (lv_at hl 0 rfl) ?_
  refine lv_bipush (v := 13) hx hb dX12_bits_5 (by decide) ?_
  refine lv_icmp_ge (tgt := 24) hx hb dX12_bits_7 (by decide) (fun h9 => absurd h9 (by decide +kernel)) (fun _ => ?_)
  refine lv_iload_n hx hb dX12_bits_10 rfl (lv_at hl 1 rfl) ?_
  refine lv_iload_n hx hb dX12_bits_11 rfl (lv_at hl 2 rfl) ?_
  refine lv_iload_n hx hb dX12_bits_12 rfl (lv_at hl 0 rfl) ?_
  refine lv_ishr hx hb dX12_bits_13 (tk_i (v := 0) (by decide +kernel) ?_)
  refine lv_iconst (v := 1) hx hb dX12_bits_14 (by decide) ?_
  refine lv_iand hx hb dX12_bits_15 (tk_i (v := 0) (by decide +kernel) ?_)
  refine lv_iadd hx hb dX12_bits_16 (tk_i (v := 0) (by decide +kernel) ?_)
  refine lv_istore_n (lv' := [(1, .int 0), (2, .int 11), (0, .int 0)]) hx hb dX12_bits_17 rfl hl (by decide) rfl (fun ls hl => ?_)
  refine lv_iinc (v := 12) (lv' := [(2, .int 12), (1, .int 0), (0, .int 0)]) hx hb dX12_bits_18 hl (k := 1) rfl (by decide +kernel) (by decide) rfl (fun ls hl => ?_)
  refine lv_goto (tgt := 4) hx hb dX12_bits_21 (by decide) ?_
  refine lv_iload_n hx hb dX12_bits_4 rfl (lv_at hl 0 rfl) ?_
  refine lv_bipush (v := 13) hx hb dX12_bits_5 (by decide) ?_
  refine lv_icmp_ge (tgt := 24) hx hb dX12_bits_7 (by decide) (fun h9 => absurd h9 (by decide +kernel)) (fun _ => ?_)
  refine lv_iload_n hx hb dX12_bits_10 rfl (lv_at hl 1 rfl) ?_
  refine lv_iload_n hx hb dX12_bits_11 rfl (lv_at hl 2 rfl) ?_
  refine lv_iload_n hx hb dX12_bits_12 rfl (lv_at hl 0 rfl) ?_
  refine lv_ishr hx hb dX12_bits_13 (tk_i (v := 0) (by decide +kernel) ?_)
  refine lv_iconst (v := 1) hx hb dX12_bits_14 (by decide) ?_
  refine lv_iand hx hb dX12_bits_15 (tk_i (v := 0) (by decide +kernel) ?_)
  refine lv_iadd hx hb dX12_bits_16 (tk_i (v := 0) (by decide +kernel) ?_)
  refine lv_istore_n (lv' := [(1, .int 0), (2, .int 12), (0, .int 0)]) hx hb dX12_bits_17 rfl hl (by decide) rfl (fun ls hl => ?_)
  refine lv_iinc (v := 13) (lv' := [(2, .int 13), (1, .int 0), (0, .int 0)]) hx hb dX12_bits_18 hl (k := 1) rfl (by decide +kernel) (by decide) rfl (fun ls hl => ?_)
  refine lv_goto (tgt := 4) hx hb dX12_bits_21 (by decide) ?_
  refine lv_iload_n hx hb dX12_bits_4 rfl (lv_at hl 0 rfl) ?_
  refine lv_bipush (v := 13) hx hb dX12_bits_5 (by decide) ?_
  refine lv_icmp_ge (tgt := 24) hx hb dX12_bits_7 (by decide) (fun _ => ?_) (fun h9 => absurd (by decide +kernel) h9)
  refine lv_iload_n hx hb dX12_bits_24 rfl (lv_at hl 1 rfl) ?_
  have hP9 := hP.sub (ws' := []) [] rfl
  have hD9 := hD.sub (ws' := []) [] (by decide) rfl
  exact W.iret (v := 0) hx hb hr (fun t ht hW => ⟨⟨0, (), rfl, rfl, by rw [ht]; exact hP9, va_K.moved hW.alike hK, hD9⟩, hS.F ht⟩) hS.2.2 dX12_bits_25
set_option maxHeartbeats 1000000 in
set_option maxRecDepth 100000 in
theorem kX12_apart_1 (l : Launch) (dC : Nat → ClassId) (dI : Nat → Nat → Nat) (cI c2 : ClassId) (o0 : Nat) (o1 : Nat) (o2 : Nat) (o3 : Nat) (o4 : Nat) (o5 : Nat) (o6 : Nat) (o7 : Nat) (o8 : Nat) (o9 : Nat) (o10 : Nat) (o11 : Nat) (o12 : Nat) (o13 : Nat) (o14 : Nat) (o15 : Nat) (o16 : Nat) (o17 : Nat) (o18 : Nat) (sz : Nat) : Met l yX12_apart wsX12_apart ({ frames := 1, cells := 0, slots := 0, locals := 22 }) (va_Pc [.ref o0] (wPre (dC, dI) [(cI, .int), (c2, .array .int)] [(o0, .inr (12, [.int 0, .ref o1, .int 0, .ref o2, .int 0, .ref o3, .ref o4, .int 0, .ref o5, .int 0, .ref o6, .int (-9), .int 0, .int 0, .ref o7, .ref o8, .ref o9, .ref o10, .ref o11, .int 0, .ref o12, .ref o13, .ref o14, .int 0, .ref o15, .ref o16, .ref o17, .int 0, .ref o18]))] sz)) (va_Qi (fun (r : Int32) (_ : Unit) => r = 0) (fun _ t => wPost (dC, dI) [(cI, .int), (c2, .array .int)] (va_A [(o0, .inr (12, [.int 0, .ref o1, .int 0, .ref o2, .int 0, .ref o3, .ref o4, .int 0, .ref o5, .int 0, .ref o6, .int (-9), .int 0, .int 0, .ref o7, .ref o8, .ref o9, .ref o10, .ref o11, .int 0, .ref o12, .ref o13, .ref o14, .int 0, .ref o15, .ref o16, .ref o17, .int 0, .ref o18]))] sz) [] t) (va_A [(o0, .inr (12, [.int 0, .ref o1, .int 0, .ref o2, .int 0, .ref o3, .ref o4, .int 0, .ref o5, .int 0, .ref o6, .int (-9), .int 0, .int 0, .ref o7, .ref o8, .ref o9, .ref o10, .ref o11, .int 0, .ref o12, .ref o13, .ref o14, .int 0, .ref o15, .ref o16, .ref o17, .int 0, .ref o18]))] sz)) 0 0 (va_A [(o0, .inr (12, [.int 0, .ref o1, .int 0, .ref o2, .int 0, .ref o3, .ref o4, .int 0, .ref o5, .int 0, .ref o6, .int (-9), .int 0, .int 0, .ref o7, .ref o8, .ref o9, .ref o10, .ref o11, .int 0, .ref o12, .ref o13, .ref o14, .int 0, .ref o15, .ref o16, .ref o17, .int 0, .ref o18]))] sz) := by
  refine Met.ofW (cc := cX12_apart) (maxL := 3) (ret := (some .int)) (by decide) rfl ?_
  intro p e s m args below meth c s₁ B hml hv
  obtain ⟨rfl, hsz, hP, hK, hD0, hN⟩ := hv
  have hx := B.exec
  have hb := B.bytes
  have hr := B.returns
  have hts := atoms_spec (ws := wsX12_apart) B.pre
  have hown : s.vm.findClass RX12 = some m.cls := findClass_of_methodNamed B.named
  have hlocks := B.notSynchronized
  subst hsz
  have hD := hD0.self (sz := s.heap.size)
  generalize hAe : va_A [(o0, .inr (12, [.int 0, .ref o1, .int 0, .ref o2, .int 0, .ref o3, .ref o4, .int 0, .ref o5, .int 0, .ref o6, .int (-9), .int 0, .int 0, .ref o7, .ref o8, .ref o9, .ref o10, .ref o11, .int 0, .ref o12, .ref o13, .ref o14, .int 0, .ref o15, .ref o16, .ref o17, .int 0, .ref o18]))] s.heap.size = A at hD ⊢
  have hA : ∀ q : Nat, s.heap.size ≤ q → A q := fun q h => by rw [← hAe]; exact Or.inr h
  have hS : va_S A s.heap s.heap [] := va_S.rf
  have hP : va_P (dC, dI) vwCl [(o0, .inr (12, [.int 0, .ref o1, .int 0, .ref o2, .int 0, .ref o3, .ref o4, .int 0, .ref o5, .int 0, .ref o6, .int (-9), .int 0, .int 0, .ref o7, .ref o8, .ref o9, .ref o10, .ref o11, .int 0, .ref o12, .ref o13, .ref o14, .int 0, .ref o15, .ref o16, .ref o17, .int 0, .ref o18]))] s.heap := hP
  have hl := lv_entry ([.ref o0]) (n := 3) (Nat.le_of_ble_eq_true rfl)
  rw [lg_entry_eq]
  generalize (lg_sl ([.ref o0]) ++ List.replicate (3 - (lg_sl ([.ref o0])).length) Slot.unset).toArray = ls at hl ⊢
  have hl : lv_has ls 3 [(0, .ref o0)] := hl
  refine lv_iconst (v := 0) hx hb dX12_apart_0 (by decide) ?_
  refine lv_istore_n (lv' := [(1, .int 0), (0, .ref o0)]) hx hb dX12_apart_1 rfl hl (by decide) rfl (fun ls hl => ?_)
  refine lv_iconst (v := 0) hx hb dX12_apart_2 (by decide) ?_
  refine lv_istore_n (lv' := [(2, .int 0), (1, .int 0), (0, .ref o0)]) hx hb dX12_apart_3 rfl hl (by decide) rfl (fun ls hl => ?_)
  refine lv_iload_n hx hb dX12_apart_4 rfl (lv_at hl 0 rfl) ?_
  refine lv_aload_n hx hb dX12_apart_5 rfl (lv_at hl 2 rfl) ?_
  refine kcall_i (D := (dC, dI)) (S := Unit) (v := 0) (wc := [(o0, .inr (12, [.int 0, .ref o1, .int 0, .ref o2, .int 0, .ref o3, .ref o4, .int 0, .ref o5, .int 0, .ref o6, .int (-9), .int 0, .int 0, .ref o7, .ref o8, .ref o9, .ref o10, .ref o11, .int 0, .ref o12, .ref o13, .ref o14, .int 0, .ref o15, .ref o16, .ref o17, .int 0, .ref o18]))]) (wr := []) (w1 := fun _ => [(o0, .inr (12, [.int 0, .ref o1, .int 0, .ref o2, .int 0, .ref o3, .ref o4, .int 0, .ref o5, .int 0, .ref o6, .int (-9), .int 0, .int 0, .ref o7, .ref o8, .ref o9, .ref o10, .ref o11, .int 0, .ref o12, .ref o13, .ref o14, .int 0, .ref o15, .ref o16, .ref o17, .int 0, .ref o18]))]) (fun hPc hDc => va_runV (As := []) (rest := [.int 0]) ⟨hx, hb, hml, hown, hts⟩ (kX12_all_1 l dC dI cI c2 o0 o1 o2 o3 o4 o5 o6 o7 o8 o9 o10 o11 o12 o13 o14 o15 o16 o17 o18 s.heap.size) (cwV 0 hts gX12_apart_X12_all rfl rfl rfl (by decide +kernel) ⟨Nat.le_of_ble_eq_true rfl, Nat.le_of_ble_eq_true rfl⟩) (pre_V hPc hK hDc hN (ci := 12) (q0 := 0) rfl rfl) rfl rfl hl.1 rfl (lv_room (Nat.le_of_ble_eq_true rfl)) dX12_apart_6 ⟨Nat.le_of_ble_eq_true rfl, Nat.le_of_ble_eq_true rfl⟩) hP hD hS hA [0] [] rfl rfl (by decide) (by decide) (by decide) (fun u H locs hP hD hS => ?_)
  have hP : va_P (dC, dI) vwCl [(o0, .inr (12, [.int 0, .ref o1, .int 0, .ref o2, .int 0, .ref o3, .ref o4, .int 0, .ref o5, .int 0, .ref o6, .int (-9), .int 0, .int 0, .ref o7, .ref o8, .ref o9, .ref o10, .ref o11, .int 0, .ref o12, .ref o13, .ref o14, .int 0, .ref o15, .ref o16, .ref o17, .int 0, .ref o18]))] H := hP
  have hD : va_D A [(o0, .inr (12, [.int 0, .ref o1, .int 0, .ref o2, .int 0, .ref o3, .ref o4, .int 0, .ref o5, .int 0, .ref o6, .int (-9), .int 0, .int 0, .ref o7, .ref o8, .ref o9, .ref o10, .ref o11, .int 0, .ref o12, .ref o13, .ref o14, .int 0, .ref o15, .ref o16, .ref o17, .int 0, .ref o18]))] := hD
  refine lv_icmp_gt (tgt := 43) hx hb dX12_apart_9 (by decide) (fun h9 => absurd h9 (by decide +kernel)) (fun _ => ?_)
  refine lv_iload_n hx hb dX12_apart_12 rfl (lv_at hl 0 rfl) ?_
  refine kcall_i (D := (dC, dI)) (S := Unit) (v := 0) (wc := []) (wr := [(o0, .inr (12, [.int 0, .ref o1, .int 0, .ref o2, .int 0, .ref o3, .ref o4, .int 0, .ref o5, .int 0, .ref o6, .int (-9), .int 0, .int 0, .ref o7, .ref o8, .ref o9, .ref o10, .ref o11, .int 0, .ref o12, .ref o13, .ref o14, .int 0, .ref o15, .ref o16, .ref o17, .int 0, .ref o18]))]) (w1 := fun _ => []) (fun hPc hDc => va_runS (As := [.int 0]) (rest := []) ⟨hx, hb, hml, hown, hts⟩ (kX12_bits_1 l dC dI cI c2 H.size) (va_cwS 1 hts gX12_apart_X12_bits rfl rfl rfl (by decide +kernel) ⟨Nat.le_of_ble_eq_true rfl, Nat.le_of_ble_eq_true rfl⟩) (pre_S hPc hK hDc hN) rfl rfl hl.1 rfl (lv_room (Nat.le_of_ble_eq_true rfl)) dX12_apart_13 ⟨Nat.le_of_ble_eq_true rfl, Nat.le_of_ble_eq_true rfl⟩) hP hD hS hA [] [0] rfl rfl (by decide) (by decide) (by decide) (fun u H locs hP hD hS => ?_)
  have hP : va_P (dC, dI) vwCl [(o0, .inr (12, [.int 0, .ref o1, .int 0, .ref o2, .int 0, .ref o3, .ref o4, .int 0, .ref o5, .int 0, .ref o6, .int (-9), .int 0, .int 0, .ref o7, .ref o8, .ref o9, .ref o10, .ref o11, .int 0, .ref o12, .ref o13, .ref o14, .int 0, .ref o15, .ref o16, .ref o17, .int 0, .ref o18]))] H := hP
  have hD : va_D A [(o0, .inr (12, [.int 0, .ref o1, .int 0, .ref o2, .int 0, .ref o3, .ref o4, .int 0, .ref o5, .int 0, .ref o6, .int (-9), .int 0, .int 0, .ref o7, .ref o8, .ref o9, .ref o10, .ref o11, .int 0, .ref o12, .ref o13, .ref o14, .int 0, .ref o15, .ref o16, .ref o17, .int 0, .ref o18]))] := hD
  refine lv_iload_n hx hb dX12_apart_16 rfl (lv_at hl 1 rfl) ?_
  refine kcall_i (D := (dC, dI)) (S := Unit) (v := 0) (wc := []) (wr := [(o0, .inr (12, [.int 0, .ref o1, .int 0, .ref o2, .int 0, .ref o3, .ref o4, .int 0, .ref o5, .int 0, .ref o6, .int (-9), .int 0, .int 0, .ref o7, .ref o8, .ref o9, .ref o10, .ref o11, .int 0, .ref o12, .ref o13, .ref o14, .int 0, .ref o15, .ref o16, .ref o17, .int 0, .ref o18]))]) (w1 := fun _ => []) (fun hPc hDc => va_runS (As := [.int 0]) (rest := [.int 0]) ⟨hx, hb, hml, hown, hts⟩ (kX12_bits_1 l dC dI cI c2 H.size) (va_cwS 1 hts gX12_apart_X12_bits rfl rfl rfl (by decide +kernel) ⟨Nat.le_of_ble_eq_true rfl, Nat.le_of_ble_eq_true rfl⟩) (pre_S hPc hK hDc hN) rfl rfl hl.1 rfl (lv_room (Nat.le_of_ble_eq_true rfl)) dX12_apart_17 ⟨Nat.le_of_ble_eq_true rfl, Nat.le_of_ble_eq_true rfl⟩) hP hD hS hA [] [0] rfl rfl (by decide) (by decide) (by decide) (fun u H locs hP hD hS => ?_)
  have hP : va_P (dC, dI) vwCl [(o0, .inr (12, [.int 0, .ref o1, .int 0, .ref o2, .int 0, .ref o3, .ref o4, .int 0, .ref o5, .int 0, .ref o6, .int (-9), .int 0, .int 0, .ref o7, .ref o8, .ref o9, .ref o10, .ref o11, .int 0, .ref o12, .ref o13, .ref o14, .int 0, .ref o15, .ref o16, .ref o17, .int 0, .ref o18]))] H := hP
  have hD : va_D A [(o0, .inr (12, [.int 0, .ref o1, .int 0, .ref o2, .int 0, .ref o3, .ref o4, .int 0, .ref o5, .int 0, .ref o6, .int (-9), .int 0, .int 0, .ref o7, .ref o8, .ref o9, .ref o10, .ref o11, .int 0, .ref o12, .ref o13, .ref o14, .int 0, .ref o15, .ref o16, .ref o17, .int 0, .ref o18]))] := hD
  refine lv_icmp_le (tgt := 35) hx hb dX12_apart_20 (by decide) (fun _ => ?_) (fun h9 => absurd (by decide +kernel) h9)
  refine lv_iload_n hx hb dX12_apart_35 rfl (lv_at hl 1 rfl) ?_
  refine lv_istore_n (lv' := [(1, .int 0), (2, .int 0), (0, .ref o0)]) hx hb dX12_apart_36 rfl hl (by decide) rfl (fun ls hl => ?_)
  refine lv_iinc (v := 1) (lv' := [(2, .int 1), (1, .int 0), (0, .ref o0)]) hx hb dX12_apart_37 hl (k := 1) rfl (by decide +kernel) (by decide) rfl (fun ls hl => ?_)
  refine lv_goto (tgt := 4) hx hb dX12_apart_40 (by decide) ?_
  refine lv_iload_n hx hb dX12_apart_4 rfl (lv_at hl 0 rfl) ?_
  refine lv_aload_n hx hb dX12_apart_5 rfl (lv_at hl 2 rfl) ?_
  refine kcall_i (D := (dC, dI)) (S := Unit) (v := 0) (wc := [(o0, .inr (12, [.int 0, .ref o1, .int 0, .ref o2, .int 0, .ref o3, .ref o4, .int 0, .ref o5, .int 0, .ref o6, .int (-9), .int 0, .int 0, .ref o7, .ref o8, .ref o9, .ref o10, .ref o11, .int 0, .ref o12, .ref o13, .ref o14, .int 0, .ref o15, .ref o16, .ref o17, .int 0, .ref o18]))]) (wr := []) (w1 := fun _ => [(o0, .inr (12, [.int 0, .ref o1, .int 0, .ref o2, .int 0, .ref o3, .ref o4, .int 0, .ref o5, .int 0, .ref o6, .int (-9), .int 0, .int 0, .ref o7, .ref o8, .ref o9, .ref o10, .ref o11, .int 0, .ref o12, .ref o13, .ref o14, .int 0, .ref o15, .ref o16, .ref o17, .int 0, .ref o18]))]) (fun hPc hDc => va_runV (As := []) (rest := [.int 1]) ⟨hx, hb, hml, hown, hts⟩ (kX12_all_1 l dC dI cI c2 o0 o1 o2 o3 o4 o5 o6 o7 o8 o9 o10 o11 o12 o13 o14 o15 o16 o17 o18 H.size) (cwV 0 hts gX12_apart_X12_all rfl rfl rfl (by decide +kernel) ⟨Nat.le_of_ble_eq_true rfl, Nat.le_of_ble_eq_true rfl⟩) (pre_V hPc hK hDc hN (ci := 12) (q0 := 0) rfl rfl) rfl rfl hl.1 rfl (lv_room (Nat.le_of_ble_eq_true rfl)) dX12_apart_6 ⟨Nat.le_of_ble_eq_true rfl, Nat.le_of_ble_eq_true rfl⟩) hP hD hS hA [0] [] rfl rfl (by decide) (by decide) (by decide) (fun u H locs hP hD hS => ?_)
  have hP : va_P (dC, dI) vwCl [(o0, .inr (12, [.int 0, .ref o1, .int 0, .ref o2, .int 0, .ref o3, .ref o4, .int 0, .ref o5, .int 0, .ref o6, .int (-9), .int 0, .int 0, .ref o7, .ref o8, .ref o9, .ref o10, .ref o11, .int 0, .ref o12, .ref o13, .ref o14, .int 0, .ref o15, .ref o16, .ref o17, .int 0, .ref o18]))] H := hP
  have hD : va_D A [(o0, .inr (12, [.int 0, .ref o1, .int 0, .ref o2, .int 0, .ref o3, .ref o4, .int 0, .ref o5, .int 0, .ref o6, .int (-9), .int 0, .int 0, .ref o7, .ref o8, .ref o9, .ref o10, .ref o11, .int 0, .ref o12, .ref o13, .ref o14, .int 0, .ref o15, .ref o16, .ref o17, .int 0, .ref o18]))] := hD
  refine lv_icmp_gt (tgt := 43) hx hb dX12_apart_9 (by decide) (fun _ => ?_) (fun h9 => absurd (by decide +kernel) h9)
  refine lv_iload_n hx hb dX12_apart_43 rfl (lv_at hl 1 rfl) ?_
  have hP9 := hP.sub (ws' := []) [] rfl
  have hD9 := hD.sub (ws' := []) [] (by decide) rfl
  exact W.iret (v := 0) hx hb hr (fun t ht hW => ⟨⟨0, (), rfl, rfl, by rw [ht]; exact hP9, va_K.moved hW.alike hK, hD9⟩, hS.F ht⟩) hS.2.2 dX12_apart_44
set_option maxHeartbeats 1000000 in
set_option maxRecDepth 100000 in
theorem kX1_has_3 (l : Launch) (dC : Nat → ClassId) (dI : Nat → Nat → Nat) (cI c2 : ClassId) (o0 : Nat) (o1 : Nat) (o2 : Nat) (o3 : Nat) (o4 : Nat) (sz : Nat) (a1 : Int32) (a1_lo : (-2147483648) ≤ a1.toInt) (a1_hi : a1.toInt ≤ (-1)) : Met l yX1_has wsX1_has ({ frames := 0, cells := 0, slots := 0, locals := 0 }) (va_Pc [.ref o0, .int a1] (wPre (dC, dI) [(cI, .int), (c2, .array .int)] [(o0, .inr (1, [.int 0, .ref o1, .ref o2, .ref o3, .ref o4, .int 0, .int 0, .int (-1)]))] sz)) (va_Qi (fun (r : Int32) (_ : Unit) => r = 0) (fun _ t => wPost (dC, dI) [(cI, .int), (c2, .array .int)] (va_A [(o0, .inr (1, [.int 0, .ref o1, .ref o2, .ref o3, .ref o4, .int 0, .int 0, .int (-1)]))] sz) [(o0, .inr (1, [.int 0, .ref o1, .ref o2, .ref o3, .ref o4, .int 0, .int 0, .int (-1)]))] t) (va_A [(o0, .inr (1, [.int 0, .ref o1, .ref o2, .ref o3, .ref o4, .int 0, .int 0, .int (-1)]))] sz)) 0 0 (va_A [(o0, .inr (1, [.int 0, .ref o1, .ref o2, .ref o3, .ref o4, .int 0, .int 0, .int (-1)]))] sz) := by
  refine Met.ofW (cc := cX1_has) (maxL := 2) (ret := (some .boolean)) (by decide) rfl ?_
  intro p e s m args below meth c s₁ B hml hv
  obtain ⟨rfl, hsz, hP, hK, hD0, hN⟩ := hv
  have hx := B.exec
  have hb := B.bytes
  have hr := B.returns
  have hts := atoms_spec (ws := wsX1_has) B.pre
  have hown : s.vm.findClass RX1 = some m.cls := findClass_of_methodNamed B.named
  have hlocks := B.notSynchronized
  subst hsz
  have hD := hD0.self (sz := s.heap.size)
  generalize hAe : va_A [(o0, .inr (1, [.int 0, .ref o1, .ref o2, .ref o3, .ref o4, .int 0, .int 0, .int (-1)]))] s.heap.size = A at hD ⊢
  have hA : ∀ q : Nat, s.heap.size ≤ q → A q := fun q h => by rw [← hAe]; exact Or.inr h
  have hS : va_S A s.heap s.heap [] := va_S.rf
  have hP : va_P (dC, dI) vwCl [(o0, .inr (1, [.int 0, .ref o1, .ref o2, .ref o3, .ref o4, .int 0, .int 0, .int (-1)]))] s.heap := hP
  have hl := lv_entry ([.ref o0, .int a1]) (n := 2) (Nat.le_of_ble_eq_true rfl)
  rw [lg_entry_eq]
  generalize (lg_sl ([.ref o0, .int a1]) ++ List.replicate (2 - (lg_sl ([.ref o0, .int a1])).length) Slot.unset).toArray = ls at hl ⊢
  have hl : lv_has ls 2 [(0, .ref o0), (1, .int a1)] := hl
  refine lv_iload_n hx hb dX1_has_0 rfl (lv_at hl 1 rfl) ?_
  refine lv_if_lt (tgt := 16) hx hb dX1_has_1 (by decide) (fun _ => ?_) (fun h9 => absurd (ib_lt (X := a1.toInt) (Y := 0) rfl (by decide +kernel) (by omega)) h9)
  refine lv_iconst (v := 0) hx hb dX1_has_16 (by decide) ?_
  have hP9 := hP.sub (ws' := [(o0, .inr (1, [.int 0, .ref o1, .ref o2, .ref o3, .ref o4, .int 0, .int 0, .int (-1)]))]) [0] rfl
  have hD9 := hD.sub (ws' := [(o0, .inr (1, [.int 0, .ref o1, .ref o2, .ref o3, .ref o4, .int 0, .int 0, .int (-1)]))]) [0] (by decide) rfl
  exact W.zret (v := 0) (ty := .boolean) hx hb hr rfl (fun t ht hW => ⟨⟨0, (), rfl, rfl, by rw [ht]; exact hP9, va_K.moved hW.alike hK, hD9⟩, hS.F ht⟩) hS.2.2 dX1_has_17
theorem iw_X11_tree_X11 : ∀ w ∈ wsX110, w ∈ wsX11_tree := by decide +kernel
set_option maxHeartbeats 1000000 in
set_option maxRecDepth 100000 in
theorem kX11_tree_1 (l : Launch) (dC : Nat → ClassId) (dI : Nat → Nat → Nat) (cI c2 : ClassId) (o0 : Nat) (o1 : Nat) (o2 : Nat) (o3 : Nat) (o4 : Nat) (o5 : Nat) (o6 : Nat) (o7 : Nat) (o8 : Nat) (o9 : Nat) (o10 : Nat) (o11 : Nat) (o12 : Nat) (o13 : Nat) (o14 : Nat) (o15 : Nat) (o16 : Nat) (o17 : Nat) (sz : Nat) (a1 : Int32) (a2 : Int32) (a1_lo : (-2147483648) ≤ a1.toInt) (a1_hi : a1.toInt ≤ (-1)) (a2_lo : (-2147483648) ≤ a2.toInt) (a2_hi : a2.toInt ≤ 2147483647) : Met l yX11_tree wsX11_tree ({ frames := 4, cells := 0, slots := 0, locals := 92 }) (va_Pc [.ref o0, .int a1, .int a2] (wPre (dC, dI) [(cI, .int), (c2, .array .int)] [(o0, .inr (11, [.ref o2, .ref o3, .ref o4, .ref o5, .ref o1, .ref o6, .ref o7, .ref o8, .ref o9, .ref o10, .ref o11, .ref o12, .int 0])), (o1, .inr (1, [.int 0, .ref o13, .ref o14, .ref o15, .ref o16, .int 0, .int (-1), .int (-1)])), (o2, .inr (4, [.ref o17, .int 0, .int 0]))] sz)) (va_Qi (fun (r : Int32) (_ : Unit) => r = (-1)) (fun _ t => wPost (dC, dI) [(cI, .int), (c2, .array .int)] (va_A [(o0, .inr (11, [.ref o2, .ref o3, .ref o4, .ref o5, .ref o1, .ref o6, .ref o7, .ref o8, .ref o9, .ref o10, .ref o11, .ref o12, .int 0])), (o1, .inr (1, [.int 0, .ref o13, .ref o14, .ref o15, .ref o16, .int 0, .int (-1), .int (-1)])), (o2, .inr (4, [.ref o17, .int 0, .int 0]))] sz) [] t) (va_A [(o0, .inr (11, [.ref o2, .ref o3, .ref o4, .ref o5, .ref o1, .ref o6, .ref o7, .ref o8, .ref o9, .ref o10, .ref o11, .ref o12, .int 0])), (o1, .inr (1, [.int 0, .ref o13, .ref o14, .ref o15, .ref o16, .int 0, .int (-1), .int (-1)])), (o2, .inr (4, [.ref o17, .int 0, .int 0]))] sz)) 0 0 (va_A [(o0, .inr (11, [.ref o2, .ref o3, .ref o4, .ref o5, .ref o1, .ref o6, .ref o7, .ref o8, .ref o9, .ref o10, .ref o11, .ref o12, .int 0])), (o1, .inr (1, [.int 0, .ref o13, .ref o14, .ref o15, .ref o16, .int 0, .int (-1), .int (-1)])), (o2, .inr (4, [.ref o17, .int 0, .int 0]))] sz) := by
  refine Met.ofW (cc := cX11_tree) (maxL := 3) (ret := (some .int)) (by decide) rfl ?_
  intro p e s m args below meth c s₁ B hml hv
  obtain ⟨rfl, hsz, hP, hK, hD0, hN⟩ := hv
  have hx := B.exec
  have hb := B.bytes
  have hr := B.returns
  have hts := atoms_spec (ws := wsX11_tree) B.pre
  have hown : s.vm.findClass RX11 = some m.cls := findClass_of_methodNamed B.named
  have hlocks := B.notSynchronized
  subst hsz
  have hD := hD0.self (sz := s.heap.size)
  generalize hAe : va_A [(o0, .inr (11, [.ref o2, .ref o3, .ref o4, .ref o5, .ref o1, .ref o6, .ref o7, .ref o8, .ref o9, .ref o10, .ref o11, .ref o12, .int 0])), (o1, .inr (1, [.int 0, .ref o13, .ref o14, .ref o15, .ref o16, .int 0, .int (-1), .int (-1)])), (o2, .inr (4, [.ref o17, .int 0, .int 0]))] s.heap.size = A at hD ⊢
  have hA : ∀ q : Nat, s.heap.size ≤ q → A q := fun q h => by rw [← hAe]; exact Or.inr h
  have hS : va_S A s.heap s.heap [] := va_S.rf
  have hP : va_P (dC, dI) vwCl [(o0, .inr (11, [.ref o2, .ref o3, .ref o4, .ref o5, .ref o1, .ref o6, .ref o7, .ref o8, .ref o9, .ref o10, .ref o11, .ref o12, .int 0])), (o1, .inr (1, [.int 0, .ref o13, .ref o14, .ref o15, .ref o16, .int 0, .int (-1), .int (-1)])), (o2, .inr (4, [.ref o17, .int 0, .int 0]))] s.heap := hP
  have hl := lv_entry ([.ref o0, .int a1, .int a2]) (n := 3) (Nat.le_of_ble_eq_true rfl)
  rw [lg_entry_eq]
  generalize (lg_sl ([.ref o0, .int a1, .int a2]) ++ List.replicate (3 - (lg_sl ([.ref o0, .int a1, .int a2])).length) Slot.unset).toArray = ls at hl ⊢
  have hl : lv_has ls 3 [(0, .ref o0), (1, .int a1), (2, .int a2)] := hl
  refine lv_aload_n hx hb dX11_tree_0 rfl (lv_at hl 0 rfl) ?_
  refine va_get (D := (dC, dI)) (ci := 11) (v := .ref o1) (C := RX11) (T := TX11) (N := 13) hx hb hts iw_X11_tree_X11 hown hK hP 0 rfl rfl 4 (by decide) (hts (.fieldLink RX11 42 "HolelessHouse" "cliques" "LHolelessHouse$Cliques;") (by decide +kernel)) (fun _ h9 => h9) rfl dX11_tree_1 ?_
  refine lv_aload_n hx hb dX11_tree_4 rfl (lv_at hl 0 rfl) ?_
  refine va_get (D := (dC, dI)) (ci := 11) (v := .ref o2) (C := RX11) (T := TX11) (N := 13) hx hb hts iw_X11_tree_X11 hown hK hP 0 rfl rfl 0 (by decide) (hts (.fieldLink RX11 10 "HolelessHouse" "graph" "LHolelessHouse$Graph;") (by decide +kernel)) (fun _ h9 => h9) rfl dX11_tree_5 ?_
  refine kcall_v (D := (dC, dI)) (S := Unit) (wc := [(o1, .inr (1, [.int 0, .ref o13, .ref o14, .ref o15, .ref o16, .int 0, .int (-1), .int (-1)])), (o2, .inr (4, [.ref o17, .int 0, .int 0]))]) (wr := [(o0, .inr (11, [.ref o2, .ref o3, .ref o4, .ref o5, .ref o1, .ref o6, .ref o7, .ref o8, .ref o9, .ref o10, .ref o11, .ref o12, .int 0]))]) (w1 := fun _ => [(o2, .inr (4, [.ref o17, .int 0, .int 0])), (o1, .inr (1, [.int 0, .ref o13, .ref o14, .ref o15, .ref o16, .int 0, .int 0, .int (-1)]))]) (fun hPc hDc => va_runVN (As := [.ref o2]) (rest := []) ⟨hx, hb, hml, hown, hts⟩ (kX1_bring_1 l dC dI cI c2 o1 o2 o13 o14 o15 o16 o17 s.heap.size) ⟨va_cnB 1 hts gX11_tree_X1_bring_n193 rfl rfl rfl (hN.1 _ ns_105) (hts (.initialized RX1) (by decide +kernel)) (by decide +kernel) ⟨Nat.le_of_ble_eq_true rfl, Nat.le_of_ble_eq_true rfl⟩, (hts (.instanceMethod yX1_bring) (by decide +kernel)), (hts (.selects RX1 yX1_bring yX1_bring) (by decide +kernel))⟩ (pre_V hPc hK hDc hN (ci := 1) (q0 := 0) rfl rfl) rfl rfl hl.1 rfl (lv_room (Nat.le_of_ble_eq_true rfl)) dX11_tree_8 ⟨Nat.le_of_ble_eq_true rfl, Nat.le_of_ble_eq_true rfl⟩) hP hD hS hA [1, 2] [0] rfl rfl (by decide) (by decide) (by decide) (fun u H locs hP hD hS => ?_)
  have hP : va_P (dC, dI) vwCl [(o0, .inr (11, [.ref o2, .ref o3, .ref o4, .ref o5, .ref o1, .ref o6, .ref o7, .ref o8, .ref o9, .ref o10, .ref o11, .ref o12, .int 0])), (o2, .inr (4, [.ref o17, .int 0, .int 0])), (o1, .inr (1, [.int 0, .ref o13, .ref o14, .ref o15, .ref o16, .int 0, .int 0, .int (-1)]))] H := hP
  have hD : va_D A [(o0, .inr (11, [.ref o2, .ref o3, .ref o4, .ref o5, .ref o1, .ref o6, .ref o7, .ref o8, .ref o9, .ref o10, .ref o11, .ref o12, .int 0])), (o2, .inr (4, [.ref o17, .int 0, .int 0])), (o1, .inr (1, [.int 0, .ref o13, .ref o14, .ref o15, .ref o16, .int 0, .int 0, .int (-1)]))] := hD
  refine lv_aload_n hx hb dX11_tree_11 rfl (lv_at hl 0 rfl) ?_
  refine va_get (D := (dC, dI)) (ci := 11) (v := .ref o1) (C := RX11) (T := TX11) (N := 13) hx hb hts iw_X11_tree_X11 hown hK hP 0 rfl rfl 4 (by decide) (hts (.fieldLink RX11 42 "HolelessHouse" "cliques" "LHolelessHouse$Cliques;") (by decide +kernel)) (fun _ h9 => h9) rfl dX11_tree_12 ?_
  refine lv_iload_n hx hb dX11_tree_15 rfl (lv_at hl 1 rfl) ?_
  refine kcall_i (D := (dC, dI)) (S := Unit) (v := 0) (wc := [(o1, .inr (1, [.int 0, .ref o13, .ref o14, .ref o15, .ref o16, .int 0, .int 0, .int (-1)]))]) (wr := [(o0, .inr (11, [.ref o2, .ref o3, .ref o4, .ref o5, .ref o1, .ref o6, .ref o7, .ref o8, .ref o9, .ref o10, .ref o11, .ref o12, .int 0])), (o2, .inr (4, [.ref o17, .int 0, .int 0]))]) (w1 := fun _ => [(o1, .inr (1, [.int 0, .ref o13, .ref o14, .ref o15, .ref o16, .int 0, .int 0, .int (-1)]))]) (fun hPc hDc => va_runVN (As := [.int a1]) (rest := []) ⟨hx, hb, hml, hown, hts⟩ (kX1_has_3 l dC dI cI c2 o1 o13 o14 o15 o16 H.size a1 (by omega) (by omega)) ⟨va_cnB 1 hts gX11_tree_X1_has_n195 rfl rfl rfl (hN.1 _ ns_108) (hts (.initialized RX1) (by decide +kernel)) (by decide +kernel) ⟨Nat.le_of_ble_eq_true rfl, Nat.le_of_ble_eq_true rfl⟩, (hts (.instanceMethod yX1_has) (by decide +kernel)), (hts (.selects RX1 yX1_has yX1_has) (by decide +kernel))⟩ (pre_V hPc hK hDc hN (ci := 1) (q0 := 0) rfl rfl) rfl rfl hl.1 rfl (lv_room (Nat.le_of_ble_eq_true rfl)) dX11_tree_16 ⟨Nat.le_of_ble_eq_true rfl, Nat.le_of_ble_eq_true rfl⟩) hP hD hS hA [2] [0, 1] rfl rfl (by decide) (by decide) (by decide) (fun u H locs hP hD hS => ?_)
  have hP : va_P (dC, dI) vwCl [(o0, .inr (11, [.ref o2, .ref o3, .ref o4, .ref o5, .ref o1, .ref o6, .ref o7, .ref o8, .ref o9, .ref o10, .ref o11, .ref o12, .int 0])), (o2, .inr (4, [.ref o17, .int 0, .int 0])), (o1, .inr (1, [.int 0, .ref o13, .ref o14, .ref o15, .ref o16, .int 0, .int 0, .int (-1)]))] H := hP
  have hD : va_D A [(o0, .inr (11, [.ref o2, .ref o3, .ref o4, .ref o5, .ref o1, .ref o6, .ref o7, .ref o8, .ref o9, .ref o10, .ref o11, .ref o12, .int 0])), (o2, .inr (4, [.ref o17, .int 0, .int 0])), (o1, .inr (1, [.int 0, .ref o13, .ref o14, .ref o15, .ref o16, .int 0, .int 0, .int (-1)]))] := hD
  refine lv_if_eq (tgt := 31) hx hb dX11_tree_19 (by decide) (fun _ => ?_) (fun h9 => absurd (by decide +kernel) h9)
  refine lv_iconst (v := (-1)) hx hb dX11_tree_31 (by decide) ?_
  have hP9 := hP.sub (ws' := []) [] rfl
  have hD9 := hD.sub (ws' := []) [] (by decide) rfl
  exact W.iret (v := (-1)) hx hb hr (fun t ht hW => ⟨⟨(-1), (), rfl, rfl, by rw [ht]; exact hP9, va_K.moved hW.alike hK, hD9⟩, hS.F ht⟩) hS.2.2 dX11_tree_32
theorem iw_X12_tree_X12 : ∀ w ∈ wsX120, w ∈ wsX12_tree := by decide +kernel
set_option maxHeartbeats 1000000 in
set_option maxRecDepth 100000 in
theorem kX12_tree_1 (l : Launch) (dC : Nat → ClassId) (dI : Nat → Nat → Nat) (cI c2 : ClassId) (o0 : Nat) (o1 : Nat) (o2 : Nat) (o3 : Nat) (o4 : Nat) (o5 : Nat) (o6 : Nat) (o7 : Nat) (o8 : Nat) (o9 : Nat) (o10 : Nat) (o11 : Nat) (o12 : Nat) (o13 : Nat) (o14 : Nat) (o15 : Nat) (o16 : Nat) (o17 : Nat) (o18 : Nat) (sz : Nat) (a1 : Int32) (a2 : Int32) (a1_lo : (-2147483648) ≤ a1.toInt) (a1_hi : a1.toInt ≤ (-1)) (a2_lo : (-2147483648) ≤ a2.toInt) (a2_hi : a2.toInt ≤ 2147483647) : Met l yX12_tree wsX12_tree ({ frames := 2, cells := 0, slots := 0, locals := 41 }) (va_Pc [.ref o0, .int a1, .int a2] (wPre (dC, dI) [(cI, .int), (c2, .array .int)] [(o0, .inr (12, [.int 0, .ref o1, .int 0, .ref o2, .int 0, .ref o3, .ref o4, .int 0, .ref o5, .int 0, .ref o6, .int (-9), .int 0, .int 0, .ref o7, .ref o8, .ref o9, .ref o10, .ref o11, .int 0, .ref o12, .ref o13, .ref o14, .int 0, .ref o15, .ref o16, .ref o17, .int 0, .ref o18]))] sz)) (va_Qi (fun (r : Int32) (_ : Unit) => r = (-1)) (fun _ t => wPost (dC, dI) [(cI, .int), (c2, .array .int)] (va_A [(o0, .inr (12, [.int 0, .ref o1, .int 0, .ref o2, .int 0, .ref o3, .ref o4, .int 0, .ref o5, .int 0, .ref o6, .int (-9), .int 0, .int 0, .ref o7, .ref o8, .ref o9, .ref o10, .ref o11, .int 0, .ref o12, .ref o13, .ref o14, .int 0, .ref o15, .ref o16, .ref o17, .int 0, .ref o18]))] sz) [] t) (va_A [(o0, .inr (12, [.int 0, .ref o1, .int 0, .ref o2, .int 0, .ref o3, .ref o4, .int 0, .ref o5, .int 0, .ref o6, .int (-9), .int 0, .int 0, .ref o7, .ref o8, .ref o9, .ref o10, .ref o11, .int 0, .ref o12, .ref o13, .ref o14, .int 0, .ref o15, .ref o16, .ref o17, .int 0, .ref o18]))] sz)) 0 0 (va_A [(o0, .inr (12, [.int 0, .ref o1, .int 0, .ref o2, .int 0, .ref o3, .ref o4, .int 0, .ref o5, .int 0, .ref o6, .int (-9), .int 0, .int 0, .ref o7, .ref o8, .ref o9, .ref o10, .ref o11, .int 0, .ref o12, .ref o13, .ref o14, .int 0, .ref o15, .ref o16, .ref o17, .int 0, .ref o18]))] sz) := by
  refine Met.ofW (cc := cX12_tree) (maxL := 3) (ret := (some .int)) (by decide) rfl ?_
  intro p e s m args below meth c s₁ B hml hv
  obtain ⟨rfl, hsz, hP, hK, hD0, hN⟩ := hv
  have hx := B.exec
  have hb := B.bytes
  have hr := B.returns
  have hts := atoms_spec (ws := wsX12_tree) B.pre
  have hown : s.vm.findClass RX12 = some m.cls := findClass_of_methodNamed B.named
  have hlocks := B.notSynchronized
  subst hsz
  have hD := hD0.self (sz := s.heap.size)
  generalize hAe : va_A [(o0, .inr (12, [.int 0, .ref o1, .int 0, .ref o2, .int 0, .ref o3, .ref o4, .int 0, .ref o5, .int 0, .ref o6, .int (-9), .int 0, .int 0, .ref o7, .ref o8, .ref o9, .ref o10, .ref o11, .int 0, .ref o12, .ref o13, .ref o14, .int 0, .ref o15, .ref o16, .ref o17, .int 0, .ref o18]))] s.heap.size = A at hD ⊢
  have hA : ∀ q : Nat, s.heap.size ≤ q → A q := fun q h => by rw [← hAe]; exact Or.inr h
  have hS : va_S A s.heap s.heap [] := va_S.rf
  have hP : va_P (dC, dI) vwCl [(o0, .inr (12, [.int 0, .ref o1, .int 0, .ref o2, .int 0, .ref o3, .ref o4, .int 0, .ref o5, .int 0, .ref o6, .int (-9), .int 0, .int 0, .ref o7, .ref o8, .ref o9, .ref o10, .ref o11, .int 0, .ref o12, .ref o13, .ref o14, .int 0, .ref o15, .ref o16, .ref o17, .int 0, .ref o18]))] s.heap := hP
  have hl := lv_entry ([.ref o0, .int a1, .int a2]) (n := 3) (Nat.le_of_ble_eq_true rfl)
  rw [lg_entry_eq]
  generalize (lg_sl ([.ref o0, .int a1, .int a2]) ++ List.replicate (3 - (lg_sl ([.ref o0, .int a1, .int a2])).length) Slot.unset).toArray = ls at hl ⊢
  have hl : lv_has ls 3 [(0, .ref o0), (1, .int a1), (2, .int a2)] := hl
  refine lv_aload_n hx hb dX12_tree_0 rfl (lv_at hl 0 rfl) ?_
  refine kcall_v (D := (dC, dI)) (S := Unit) (wc := [(o0, .inr (12, [.int 0, .ref o1, .int 0, .ref o2, .int 0, .ref o3, .ref o4, .int 0, .ref o5, .int 0, .ref o6, .int (-9), .int 0, .int 0, .ref o7, .ref o8, .ref o9, .ref o10, .ref o11, .int 0, .ref o12, .ref o13, .ref o14, .int 0, .ref o15, .ref o16, .ref o17, .int 0, .ref o18]))]) (wr := []) (w1 := fun _ => [(o0, .inr (12, [.int 0, .ref o1, .int 0, .ref o2, .int 0, .ref o3, .ref o4, .int 0, .ref o5, .int 0, .ref o6, .int (-9), .int 0, .int 0, .ref o7, .ref o8, .ref o9, .ref o10, .ref o11, .int 0, .ref o12, .ref o13, .ref o14, .int 0, .ref o15, .ref o16, .ref o17, .int 0, .ref o18]))]) (fun hPc hDc => va_runV (As := []) (rest := []) ⟨hx, hb, hml, hown, hts⟩ (kX12_setCliques_1 l dC dI cI c2 o0 o1 o2 o3 o4 o5 o6 o7 o8 o9 o10 o11 o12 o13 o14 o15 o16 o17 o18 s.heap.size) (cwV 0 hts gX12_tree_X12_setCliques rfl rfl rfl (by decide +kernel) ⟨Nat.le_of_ble_eq_true rfl, Nat.le_of_ble_eq_true rfl⟩) (pre_V hPc hK hDc hN (ci := 12) (q0 := 0) rfl rfl) rfl rfl hl.1 rfl (lv_room (Nat.le_of_ble_eq_true rfl)) dX12_tree_1 ⟨Nat.le_of_ble_eq_true rfl, Nat.le_of_ble_eq_true rfl⟩) hP hD hS hA [0] [] rfl rfl (by decide) (by decide) (by decide) (fun u H locs hP hD hS => ?_)
  have hP : va_P (dC, dI) vwCl [(o0, .inr (12, [.int 0, .ref o1, .int 0, .ref o2, .int 0, .ref o3, .ref o4, .int 0, .ref o5, .int 0, .ref o6, .int (-9), .int 0, .int 0, .ref o7, .ref o8, .ref o9, .ref o10, .ref o11, .int 0, .ref o12, .ref o13, .ref o14, .int 0, .ref o15, .ref o16, .ref o17, .int 0, .ref o18]))] H := hP
  have hD : va_D A [(o0, .inr (12, [.int 0, .ref o1, .int 0, .ref o2, .int 0, .ref o3, .ref o4, .int 0, .ref o5, .int 0, .ref o6, .int (-9), .int 0, .int 0, .ref o7, .ref o8, .ref o9, .ref o10, .ref o11, .int 0, .ref o12, .ref o13, .ref o14, .int 0, .ref o15, .ref o16, .ref o17, .int 0, .ref o18]))] := hD
  refine lv_iload_n hx hb dX12_tree_4 rfl (lv_at hl 1 rfl) ?_
  refine lv_iconst (v := 0) hx hb dX12_tree_5 (by decide) ?_
  refine lv_aload_n hx hb dX12_tree_6 rfl (lv_at hl 0 rfl) ?_
  refine va_get (D := (dC, dI)) (ci := 12) (v := .int 0) (C := RX12) (T := TX12) (N := 29) hx hb hts iw_X12_tree_X12 hown hK hP 0 rfl rfl 19 (by decide) (hts (.fieldLink RX12 164 "HolelessHouseModel" "cliqueMany" "I") (by decide +kernel)) (fun _ h9 => h9) rfl dX12_tree_7 ?_
  refine lv_iconst (v := 1) hx hb dX12_tree_10 (by decide) ?_
  refine lv_isub hx hb dX12_tree_11 (tk_i (v := (-1)) (by decide +kernel) ?_)
  refine kcall_i (D := (dC, dI)) (S := Unit) (v := 0) (wc := []) (wr := [(o0, .inr (12, [.int 0, .ref o1, .int 0, .ref o2, .int 0, .ref o3, .ref o4, .int 0, .ref o5, .int 0, .ref o6, .int (-9), .int 0, .int 0, .ref o7, .ref o8, .ref o9, .ref o10, .ref o11, .int 0, .ref o12, .ref o13, .ref o14, .int 0, .ref o15, .ref o16, .ref o17, .int 0, .ref o18]))]) (w1 := fun _ => []) (fun hPc hDc => va_runS (As := [.int a1, .int 0, .int (-1)]) (rest := []) ⟨hx, hb, hml, hown, hts⟩ (kX12_in_4 l dC dI cI c2 H.size a1 (by omega) (by omega)) (va_cwS 3 hts gX12_tree_X12_in rfl rfl rfl (by decide +kernel) ⟨Nat.le_of_ble_eq_true rfl, Nat.le_of_ble_eq_true rfl⟩) (pre_S hPc hK hDc hN) rfl rfl hl.1 rfl (lv_room (Nat.le_of_ble_eq_true rfl)) dX12_tree_12 ⟨Nat.le_of_ble_eq_true rfl, Nat.le_of_ble_eq_true rfl⟩) hP hD hS hA [] [0] rfl rfl (by decide) (by decide) (by decide) (fun u H locs hP hD hS => ?_)
  have hP : va_P (dC, dI) vwCl [(o0, .inr (12, [.int 0, .ref o1, .int 0, .ref o2, .int 0, .ref o3, .ref o4, .int 0, .ref o5, .int 0, .ref o6, .int (-9), .int 0, .int 0, .ref o7, .ref o8, .ref o9, .ref o10, .ref o11, .int 0, .ref o12, .ref o13, .ref o14, .int 0, .ref o15, .ref o16, .ref o17, .int 0, .ref o18]))] H := hP
  have hD : va_D A [(o0, .inr (12, [.int 0, .ref o1, .int 0, .ref o2, .int 0, .ref o3, .ref o4, .int 0, .ref o5, .int 0, .ref o6, .int (-9), .int 0, .int 0, .ref o7, .ref o8, .ref o9, .ref o10, .ref o11, .int 0, .ref o12, .ref o13, .ref o14, .int 0, .ref o15, .ref o16, .ref o17, .int 0, .ref o18]))] := hD
  refine lv_if_eq (tgt := 27) hx hb dX12_tree_15 (by decide) (fun _ => ?_) (fun h9 => absurd (by decide +kernel) h9)
  refine lv_iconst (v := (-1)) hx hb dX12_tree_27 (by decide) ?_
  have hP9 := hP.sub (ws' := []) [] rfl
  have hD9 := hD.sub (ws' := []) [] (by decide) rfl
  exact W.iret (v := (-1)) hx hb hr (fun t ht hW => ⟨⟨(-1), (), rfl, rfl, by rw [ht]; exact hP9, va_K.moved hW.alike hK, hD9⟩, hS.F ht⟩) hS.2.2 dX12_tree_28
set_option maxHeartbeats 1000000 in
set_option maxRecDepth 100000 in
theorem kX11_tree_2 (l : Launch) (dC : Nat → ClassId) (dI : Nat → Nat → Nat) (cI c2 : ClassId) (o0 : Nat) (o1 : Nat) (o2 : Nat) (o3 : Nat) (o4 : Nat) (o5 : Nat) (o6 : Nat) (o7 : Nat) (o8 : Nat) (o9 : Nat) (o10 : Nat) (o11 : Nat) (o12 : Nat) (o13 : Nat) (o14 : Nat) (o15 : Nat) (o16 : Nat) (o17 : Nat) (sz : Nat) (a1 : Int32) (a2 : Int32) (a1_lo : 0 ≤ a1.toInt) (a1_hi : a1.toInt ≤ 2147483647) (a2_lo : (-2147483648) ≤ a2.toInt) (a2_hi : a2.toInt ≤ 2147483647) : Met l yX11_tree wsX11_tree ({ frames := 4, cells := 0, slots := 0, locals := 92 }) (va_Pc [.ref o0, .int a1, .int a2] (wPre (dC, dI) [(cI, .int), (c2, .array .int)] [(o0, .inr (11, [.ref o2, .ref o3, .ref o4, .ref o5, .ref o1, .ref o6, .ref o7, .ref o8, .ref o9, .ref o10, .ref o11, .ref o12, .int 0])), (o1, .inr (1, [.int 0, .ref o13, .ref o14, .ref o15, .ref o16, .int 0, .int (-1), .int (-1)])), (o2, .inr (4, [.ref o17, .int 0, .int 0]))] sz)) (va_Qi (fun (r : Int32) (_ : Unit) => r = (-1)) (fun _ t => wPost (dC, dI) [(cI, .int), (c2, .array .int)] (va_A [(o0, .inr (11, [.ref o2, .ref o3, .ref o4, .ref o5, .ref o1, .ref o6, .ref o7, .ref o8, .ref o9, .ref o10, .ref o11, .ref o12, .int 0])), (o1, .inr (1, [.int 0, .ref o13, .ref o14, .ref o15, .ref o16, .int 0, .int (-1), .int (-1)])), (o2, .inr (4, [.ref o17, .int 0, .int 0]))] sz) [] t) (va_A [(o0, .inr (11, [.ref o2, .ref o3, .ref o4, .ref o5, .ref o1, .ref o6, .ref o7, .ref o8, .ref o9, .ref o10, .ref o11, .ref o12, .int 0])), (o1, .inr (1, [.int 0, .ref o13, .ref o14, .ref o15, .ref o16, .int 0, .int (-1), .int (-1)])), (o2, .inr (4, [.ref o17, .int 0, .int 0]))] sz)) 0 0 (va_A [(o0, .inr (11, [.ref o2, .ref o3, .ref o4, .ref o5, .ref o1, .ref o6, .ref o7, .ref o8, .ref o9, .ref o10, .ref o11, .ref o12, .int 0])), (o1, .inr (1, [.int 0, .ref o13, .ref o14, .ref o15, .ref o16, .int 0, .int (-1), .int (-1)])), (o2, .inr (4, [.ref o17, .int 0, .int 0]))] sz) := by
  refine Met.ofW (cc := cX11_tree) (maxL := 3) (ret := (some .int)) (by decide) rfl ?_
  intro p e s m args below meth c s₁ B hml hv
  obtain ⟨rfl, hsz, hP, hK, hD0, hN⟩ := hv
  have hx := B.exec
  have hb := B.bytes
  have hr := B.returns
  have hts := atoms_spec (ws := wsX11_tree) B.pre
  have hown : s.vm.findClass RX11 = some m.cls := findClass_of_methodNamed B.named
  have hlocks := B.notSynchronized
  subst hsz
  have hD := hD0.self (sz := s.heap.size)
  generalize hAe : va_A [(o0, .inr (11, [.ref o2, .ref o3, .ref o4, .ref o5, .ref o1, .ref o6, .ref o7, .ref o8, .ref o9, .ref o10, .ref o11, .ref o12, .int 0])), (o1, .inr (1, [.int 0, .ref o13, .ref o14, .ref o15, .ref o16, .int 0, .int (-1), .int (-1)])), (o2, .inr (4, [.ref o17, .int 0, .int 0]))] s.heap.size = A at hD ⊢
  have hA : ∀ q : Nat, s.heap.size ≤ q → A q := fun q h => by rw [← hAe]; exact Or.inr h
  have hS : va_S A s.heap s.heap [] := va_S.rf
  have hP : va_P (dC, dI) vwCl [(o0, .inr (11, [.ref o2, .ref o3, .ref o4, .ref o5, .ref o1, .ref o6, .ref o7, .ref o8, .ref o9, .ref o10, .ref o11, .ref o12, .int 0])), (o1, .inr (1, [.int 0, .ref o13, .ref o14, .ref o15, .ref o16, .int 0, .int (-1), .int (-1)])), (o2, .inr (4, [.ref o17, .int 0, .int 0]))] s.heap := hP
  have hl := lv_entry ([.ref o0, .int a1, .int a2]) (n := 3) (Nat.le_of_ble_eq_true rfl)
  rw [lg_entry_eq]
  generalize (lg_sl ([.ref o0, .int a1, .int a2]) ++ List.replicate (3 - (lg_sl ([.ref o0, .int a1, .int a2])).length) Slot.unset).toArray = ls at hl ⊢
  have hl : lv_has ls 3 [(0, .ref o0), (1, .int a1), (2, .int a2)] := hl
  refine lv_aload_n hx hb dX11_tree_0 rfl (lv_at hl 0 rfl) ?_
  refine va_get (D := (dC, dI)) (ci := 11) (v := .ref o1) (C := RX11) (T := TX11) (N := 13) hx hb hts iw_X11_tree_X11 hown hK hP 0 rfl rfl 4 (by decide) (hts (.fieldLink RX11 42 "HolelessHouse" "cliques" "LHolelessHouse$Cliques;") (by decide +kernel)) (fun _ h9 => h9) rfl dX11_tree_1 ?_
  refine lv_aload_n hx hb dX11_tree_4 rfl (lv_at hl 0 rfl) ?_
  refine va_get (D := (dC, dI)) (ci := 11) (v := .ref o2) (C := RX11) (T := TX11) (N := 13) hx hb hts iw_X11_tree_X11 hown hK hP 0 rfl rfl 0 (by decide) (hts (.fieldLink RX11 10 "HolelessHouse" "graph" "LHolelessHouse$Graph;") (by decide +kernel)) (fun _ h9 => h9) rfl dX11_tree_5 ?_
  refine kcall_v (D := (dC, dI)) (S := Unit) (wc := [(o1, .inr (1, [.int 0, .ref o13, .ref o14, .ref o15, .ref o16, .int 0, .int (-1), .int (-1)])), (o2, .inr (4, [.ref o17, .int 0, .int 0]))]) (wr := [(o0, .inr (11, [.ref o2, .ref o3, .ref o4, .ref o5, .ref o1, .ref o6, .ref o7, .ref o8, .ref o9, .ref o10, .ref o11, .ref o12, .int 0]))]) (w1 := fun _ => [(o2, .inr (4, [.ref o17, .int 0, .int 0])), (o1, .inr (1, [.int 0, .ref o13, .ref o14, .ref o15, .ref o16, .int 0, .int 0, .int (-1)]))]) (fun hPc hDc => va_runVN (As := [.ref o2]) (rest := []) ⟨hx, hb, hml, hown, hts⟩ (kX1_bring_1 l dC dI cI c2 o1 o2 o13 o14 o15 o16 o17 s.heap.size) ⟨va_cnB 1 hts gX11_tree_X1_bring_n193 rfl rfl rfl (hN.1 _ ns_105) (hts (.initialized RX1) (by decide +kernel)) (by decide +kernel) ⟨Nat.le_of_ble_eq_true rfl, Nat.le_of_ble_eq_true rfl⟩, (hts (.instanceMethod yX1_bring) (by decide +kernel)), (hts (.selects RX1 yX1_bring yX1_bring) (by decide +kernel))⟩ (pre_V hPc hK hDc hN (ci := 1) (q0 := 0) rfl rfl) rfl rfl hl.1 rfl (lv_room (Nat.le_of_ble_eq_true rfl)) dX11_tree_8 ⟨Nat.le_of_ble_eq_true rfl, Nat.le_of_ble_eq_true rfl⟩) hP hD hS hA [1, 2] [0] rfl rfl (by decide) (by decide) (by decide) (fun u H locs hP hD hS => ?_)
  have hP : va_P (dC, dI) vwCl [(o0, .inr (11, [.ref o2, .ref o3, .ref o4, .ref o5, .ref o1, .ref o6, .ref o7, .ref o8, .ref o9, .ref o10, .ref o11, .ref o12, .int 0])), (o2, .inr (4, [.ref o17, .int 0, .int 0])), (o1, .inr (1, [.int 0, .ref o13, .ref o14, .ref o15, .ref o16, .int 0, .int 0, .int (-1)]))] H := hP
  have hD : va_D A [(o0, .inr (11, [.ref o2, .ref o3, .ref o4, .ref o5, .ref o1, .ref o6, .ref o7, .ref o8, .ref o9, .ref o10, .ref o11, .ref o12, .int 0])), (o2, .inr (4, [.ref o17, .int 0, .int 0])), (o1, .inr (1, [.int 0, .ref o13, .ref o14, .ref o15, .ref o16, .int 0, .int 0, .int (-1)]))] := hD
  refine lv_aload_n hx hb dX11_tree_11 rfl (lv_at hl 0 rfl) ?_
  refine va_get (D := (dC, dI)) (ci := 11) (v := .ref o1) (C := RX11) (T := TX11) (N := 13) hx hb hts iw_X11_tree_X11 hown hK hP 0 rfl rfl 4 (by decide) (hts (.fieldLink RX11 42 "HolelessHouse" "cliques" "LHolelessHouse$Cliques;") (by decide +kernel)) (fun _ h9 => h9) rfl dX11_tree_12 ?_
  refine lv_iload_n hx hb dX11_tree_15 rfl (lv_at hl 1 rfl) ?_
  refine kcall_i (D := (dC, dI)) (S := Unit) (v := 0) (wc := [(o1, .inr (1, [.int 0, .ref o13, .ref o14, .ref o15, .ref o16, .int 0, .int 0, .int (-1)]))]) (wr := [(o0, .inr (11, [.ref o2, .ref o3, .ref o4, .ref o5, .ref o1, .ref o6, .ref o7, .ref o8, .ref o9, .ref o10, .ref o11, .ref o12, .int 0])), (o2, .inr (4, [.ref o17, .int 0, .int 0]))]) (w1 := fun _ => [(o1, .inr (1, [.int 0, .ref o13, .ref o14, .ref o15, .ref o16, .int 0, .int 0, .int (-1)]))]) (fun hPc hDc => va_runVN (As := [.int a1]) (rest := []) ⟨hx, hb, hml, hown, hts⟩ (kX1_has_2 l dC dI cI c2 o1 o13 o14 o15 o16 H.size a1 (by omega) (by omega)) ⟨va_cnB 1 hts gX11_tree_X1_has_n195 rfl rfl rfl (hN.1 _ ns_108) (hts (.initialized RX1) (by decide +kernel)) (by decide +kernel) ⟨Nat.le_of_ble_eq_true rfl, Nat.le_of_ble_eq_true rfl⟩, (hts (.instanceMethod yX1_has) (by decide +kernel)), (hts (.selects RX1 yX1_has yX1_has) (by decide +kernel))⟩ (pre_V hPc hK hDc hN (ci := 1) (q0 := 0) rfl rfl) rfl rfl hl.1 rfl (lv_room (Nat.le_of_ble_eq_true rfl)) dX11_tree_16 ⟨Nat.le_of_ble_eq_true rfl, Nat.le_of_ble_eq_true rfl⟩) hP hD hS hA [2] [0, 1] rfl rfl (by decide) (by decide) (by decide) (fun u H locs hP hD hS => ?_)
  have hP : va_P (dC, dI) vwCl [(o0, .inr (11, [.ref o2, .ref o3, .ref o4, .ref o5, .ref o1, .ref o6, .ref o7, .ref o8, .ref o9, .ref o10, .ref o11, .ref o12, .int 0])), (o2, .inr (4, [.ref o17, .int 0, .int 0])), (o1, .inr (1, [.int 0, .ref o13, .ref o14, .ref o15, .ref o16, .int 0, .int 0, .int (-1)]))] H := hP
  have hD : va_D A [(o0, .inr (11, [.ref o2, .ref o3, .ref o4, .ref o5, .ref o1, .ref o6, .ref o7, .ref o8, .ref o9, .ref o10, .ref o11, .ref o12, .int 0])), (o2, .inr (4, [.ref o17, .int 0, .int 0])), (o1, .inr (1, [.int 0, .ref o13, .ref o14, .ref o15, .ref o16, .int 0, .int 0, .int (-1)]))] := hD
  refine lv_if_eq (tgt := 31) hx hb dX11_tree_19 (by decide) (fun _ => ?_) (fun h9 => absurd (by decide +kernel) h9)
  refine lv_iconst (v := (-1)) hx hb dX11_tree_31 (by decide) ?_
  have hP9 := hP.sub (ws' := []) [] rfl
  have hD9 := hD.sub (ws' := []) [] (by decide) rfl
  exact W.iret (v := (-1)) hx hb hr (fun t ht hW => ⟨⟨(-1), (), rfl, rfl, by rw [ht]; exact hP9, va_K.moved hW.alike hK, hD9⟩, hS.F ht⟩) hS.2.2 dX11_tree_32
set_option maxHeartbeats 1000000 in
set_option maxRecDepth 100000 in
theorem kX12_tree_2 (l : Launch) (dC : Nat → ClassId) (dI : Nat → Nat → Nat) (cI c2 : ClassId) (o0 : Nat) (o1 : Nat) (o2 : Nat) (o3 : Nat) (o4 : Nat) (o5 : Nat) (o6 : Nat) (o7 : Nat) (o8 : Nat) (o9 : Nat) (o10 : Nat) (o11 : Nat) (o12 : Nat) (o13 : Nat) (o14 : Nat) (o15 : Nat) (o16 : Nat) (o17 : Nat) (o18 : Nat) (sz : Nat) (a1 : Int32) (a2 : Int32) (a1_lo : 0 ≤ a1.toInt) (a1_hi : a1.toInt ≤ 2147483647) (a2_lo : (-2147483648) ≤ a2.toInt) (a2_hi : a2.toInt ≤ 2147483647) : Met l yX12_tree wsX12_tree ({ frames := 2, cells := 0, slots := 0, locals := 41 }) (va_Pc [.ref o0, .int a1, .int a2] (wPre (dC, dI) [(cI, .int), (c2, .array .int)] [(o0, .inr (12, [.int 0, .ref o1, .int 0, .ref o2, .int 0, .ref o3, .ref o4, .int 0, .ref o5, .int 0, .ref o6, .int (-9), .int 0, .int 0, .ref o7, .ref o8, .ref o9, .ref o10, .ref o11, .int 0, .ref o12, .ref o13, .ref o14, .int 0, .ref o15, .ref o16, .ref o17, .int 0, .ref o18]))] sz)) (va_Qi (fun (r : Int32) (_ : Unit) => r = (-1)) (fun _ t => wPost (dC, dI) [(cI, .int), (c2, .array .int)] (va_A [(o0, .inr (12, [.int 0, .ref o1, .int 0, .ref o2, .int 0, .ref o3, .ref o4, .int 0, .ref o5, .int 0, .ref o6, .int (-9), .int 0, .int 0, .ref o7, .ref o8, .ref o9, .ref o10, .ref o11, .int 0, .ref o12, .ref o13, .ref o14, .int 0, .ref o15, .ref o16, .ref o17, .int 0, .ref o18]))] sz) [] t) (va_A [(o0, .inr (12, [.int 0, .ref o1, .int 0, .ref o2, .int 0, .ref o3, .ref o4, .int 0, .ref o5, .int 0, .ref o6, .int (-9), .int 0, .int 0, .ref o7, .ref o8, .ref o9, .ref o10, .ref o11, .int 0, .ref o12, .ref o13, .ref o14, .int 0, .ref o15, .ref o16, .ref o17, .int 0, .ref o18]))] sz)) 0 0 (va_A [(o0, .inr (12, [.int 0, .ref o1, .int 0, .ref o2, .int 0, .ref o3, .ref o4, .int 0, .ref o5, .int 0, .ref o6, .int (-9), .int 0, .int 0, .ref o7, .ref o8, .ref o9, .ref o10, .ref o11, .int 0, .ref o12, .ref o13, .ref o14, .int 0, .ref o15, .ref o16, .ref o17, .int 0, .ref o18]))] sz) := by
  refine Met.ofW (cc := cX12_tree) (maxL := 3) (ret := (some .int)) (by decide) rfl ?_
  intro p e s m args below meth c s₁ B hml hv
  obtain ⟨rfl, hsz, hP, hK, hD0, hN⟩ := hv
  have hx := B.exec
  have hb := B.bytes
  have hr := B.returns
  have hts := atoms_spec (ws := wsX12_tree) B.pre
  have hown : s.vm.findClass RX12 = some m.cls := findClass_of_methodNamed B.named
  have hlocks := B.notSynchronized
  subst hsz
  have hD := hD0.self (sz := s.heap.size)
  generalize hAe : va_A [(o0, .inr (12, [.int 0, .ref o1, .int 0, .ref o2, .int 0, .ref o3, .ref o4, .int 0, .ref o5, .int 0, .ref o6, .int (-9), .int 0, .int 0, .ref o7, .ref o8, .ref o9, .ref o10, .ref o11, .int 0, .ref o12, .ref o13, .ref o14, .int 0, .ref o15, .ref o16, .ref o17, .int 0, .ref o18]))] s.heap.size = A at hD ⊢
  have hA : ∀ q : Nat, s.heap.size ≤ q → A q := fun q h => by rw [← hAe]; exact Or.inr h
  have hS : va_S A s.heap s.heap [] := va_S.rf
  have hP : va_P (dC, dI) vwCl [(o0, .inr (12, [.int 0, .ref o1, .int 0, .ref o2, .int 0, .ref o3, .ref o4, .int 0, .ref o5, .int 0, .ref o6, .int (-9), .int 0, .int 0, .ref o7, .ref o8, .ref o9, .ref o10, .ref o11, .int 0, .ref o12, .ref o13, .ref o14, .int 0, .ref o15, .ref o16, .ref o17, .int 0, .ref o18]))] s.heap := hP
  have hl := lv_entry ([.ref o0, .int a1, .int a2]) (n := 3) (Nat.le_of_ble_eq_true rfl)
  rw [lg_entry_eq]
  generalize (lg_sl ([.ref o0, .int a1, .int a2]) ++ List.replicate (3 - (lg_sl ([.ref o0, .int a1, .int a2])).length) Slot.unset).toArray = ls at hl ⊢
  have hl : lv_has ls 3 [(0, .ref o0), (1, .int a1), (2, .int a2)] := hl
  refine lv_aload_n hx hb dX12_tree_0 rfl (lv_at hl 0 rfl) ?_
  refine kcall_v (D := (dC, dI)) (S := Unit) (wc := [(o0, .inr (12, [.int 0, .ref o1, .int 0, .ref o2, .int 0, .ref o3, .ref o4, .int 0, .ref o5, .int 0, .ref o6, .int (-9), .int 0, .int 0, .ref o7, .ref o8, .ref o9, .ref o10, .ref o11, .int 0, .ref o12, .ref o13, .ref o14, .int 0, .ref o15, .ref o16, .ref o17, .int 0, .ref o18]))]) (wr := []) (w1 := fun _ => [(o0, .inr (12, [.int 0, .ref o1, .int 0, .ref o2, .int 0, .ref o3, .ref o4, .int 0, .ref o5, .int 0, .ref o6, .int (-9), .int 0, .int 0, .ref o7, .ref o8, .ref o9, .ref o10, .ref o11, .int 0, .ref o12, .ref o13, .ref o14, .int 0, .ref o15, .ref o16, .ref o17, .int 0, .ref o18]))]) (fun hPc hDc => va_runV (As := []) (rest := []) ⟨hx, hb, hml, hown, hts⟩ (kX12_setCliques_1 l dC dI cI c2 o0 o1 o2 o3 o4 o5 o6 o7 o8 o9 o10 o11 o12 o13 o14 o15 o16 o17 o18 s.heap.size) (cwV 0 hts gX12_tree_X12_setCliques rfl rfl rfl (by decide +kernel) ⟨Nat.le_of_ble_eq_true rfl, Nat.le_of_ble_eq_true rfl⟩) (pre_V hPc hK hDc hN (ci := 12) (q0 := 0) rfl rfl) rfl rfl hl.1 rfl (lv_room (Nat.le_of_ble_eq_true rfl)) dX12_tree_1 ⟨Nat.le_of_ble_eq_true rfl, Nat.le_of_ble_eq_true rfl⟩) hP hD hS hA [0] [] rfl rfl (by decide) (by decide) (by decide) (fun u H locs hP hD hS => ?_)
  have hP : va_P (dC, dI) vwCl [(o0, .inr (12, [.int 0, .ref o1, .int 0, .ref o2, .int 0, .ref o3, .ref o4, .int 0, .ref o5, .int 0, .ref o6, .int (-9), .int 0, .int 0, .ref o7, .ref o8, .ref o9, .ref o10, .ref o11, .int 0, .ref o12, .ref o13, .ref o14, .int 0, .ref o15, .ref o16, .ref o17, .int 0, .ref o18]))] H := hP
  have hD : va_D A [(o0, .inr (12, [.int 0, .ref o1, .int 0, .ref o2, .int 0, .ref o3, .ref o4, .int 0, .ref o5, .int 0, .ref o6, .int (-9), .int 0, .int 0, .ref o7, .ref o8, .ref o9, .ref o10, .ref o11, .int 0, .ref o12, .ref o13, .ref o14, .int 0, .ref o15, .ref o16, .ref o17, .int 0, .ref o18]))] := hD
  refine lv_iload_n hx hb dX12_tree_4 rfl (lv_at hl 1 rfl) ?_
  refine lv_iconst (v := 0) hx hb dX12_tree_5 (by decide) ?_
  refine lv_aload_n hx hb dX12_tree_6 rfl (lv_at hl 0 rfl) ?_
  refine va_get (D := (dC, dI)) (ci := 12) (v := .int 0) (C := RX12) (T := TX12) (N := 29) hx hb hts iw_X12_tree_X12 hown hK hP 0 rfl rfl 19 (by decide) (hts (.fieldLink RX12 164 "HolelessHouseModel" "cliqueMany" "I") (by decide +kernel)) (fun _ h9 => h9) rfl dX12_tree_7 ?_
  refine lv_iconst (v := 1) hx hb dX12_tree_10 (by decide) ?_
  refine lv_isub hx hb dX12_tree_11 (tk_i (v := (-1)) (by decide +kernel) ?_)
  refine kcall_i (D := (dC, dI)) (S := Unit) (v := 0) (wc := []) (wr := [(o0, .inr (12, [.int 0, .ref o1, .int 0, .ref o2, .int 0, .ref o3, .ref o4, .int 0, .ref o5, .int 0, .ref o6, .int (-9), .int 0, .int 0, .ref o7, .ref o8, .ref o9, .ref o10, .ref o11, .int 0, .ref o12, .ref o13, .ref o14, .int 0, .ref o15, .ref o16, .ref o17, .int 0, .ref o18]))]) (w1 := fun _ => []) (fun hPc hDc => va_runS (As := [.int a1, .int 0, .int (-1)]) (rest := []) ⟨hx, hb, hml, hown, hts⟩ (kX12_in_5 l dC dI cI c2 H.size a1 (by omega) (by omega)) (va_cwS 3 hts gX12_tree_X12_in rfl rfl rfl (by decide +kernel) ⟨Nat.le_of_ble_eq_true rfl, Nat.le_of_ble_eq_true rfl⟩) (pre_S hPc hK hDc hN) rfl rfl hl.1 rfl (lv_room (Nat.le_of_ble_eq_true rfl)) dX12_tree_12 ⟨Nat.le_of_ble_eq_true rfl, Nat.le_of_ble_eq_true rfl⟩) hP hD hS hA [] [0] rfl rfl (by decide) (by decide) (by decide) (fun u H locs hP hD hS => ?_)
  have hP : va_P (dC, dI) vwCl [(o0, .inr (12, [.int 0, .ref o1, .int 0, .ref o2, .int 0, .ref o3, .ref o4, .int 0, .ref o5, .int 0, .ref o6, .int (-9), .int 0, .int 0, .ref o7, .ref o8, .ref o9, .ref o10, .ref o11, .int 0, .ref o12, .ref o13, .ref o14, .int 0, .ref o15, .ref o16, .ref o17, .int 0, .ref o18]))] H := hP
  have hD : va_D A [(o0, .inr (12, [.int 0, .ref o1, .int 0, .ref o2, .int 0, .ref o3, .ref o4, .int 0, .ref o5, .int 0, .ref o6, .int (-9), .int 0, .int 0, .ref o7, .ref o8, .ref o9, .ref o10, .ref o11, .int 0, .ref o12, .ref o13, .ref o14, .int 0, .ref o15, .ref o16, .ref o17, .int 0, .ref o18]))] := hD
  refine lv_if_eq (tgt := 27) hx hb dX12_tree_15 (by decide) (fun _ => ?_) (fun h9 => absurd (by decide +kernel) h9)
  refine lv_iconst (v := (-1)) hx hb dX12_tree_27 (by decide) ?_
  have hP9 := hP.sub (ws' := []) [] rfl
  have hD9 := hD.sub (ws' := []) [] (by decide) rfl
  exact W.iret (v := (-1)) hx hb hr (fun t ht hW => ⟨⟨(-1), (), rfl, rfl, by rw [ht]; exact hP9, va_K.moved hW.alike hK, hD9⟩, hS.F ht⟩) hS.2.2 dX12_tree_28
theorem iw_X11_part_X11 : ∀ w ∈ wsX110, w ∈ wsX11_part := by decide +kernel
set_option maxHeartbeats 1000000 in
set_option maxRecDepth 100000 in
theorem kX11_part_1 (l : Launch) (dC : Nat → ClassId) (dI : Nat → Nat → Nat) (cI c2 : ClassId) (o0 : Nat) (o1 : Nat) (o2 : Nat) (o3 : Nat) (o4 : Nat) (o5 : Nat) (o6 : Nat) (o7 : Nat) (o8 : Nat) (o9 : Nat) (o10 : Nat) (o11 : Nat) (o12 : Nat) (o13 : Nat) (sz : Nat) (a1 : Int32) (a2 : Int32) (a3 : Int32) (a1_lo : (-2147483648) ≤ a1.toInt) (a1_hi : a1.toInt ≤ (-1)) (a2_lo : (-2147483648) ≤ a2.toInt) (a2_hi : a2.toInt ≤ 2147483647) (a3_lo : (-2147483648) ≤ a3.toInt) (a3_hi : a3.toInt ≤ 2147483647) : Met l yX11_part wsX11_part ({ frames := 1, cells := 0, slots := 0, locals := 21 }) (va_Pc [.ref o0, .int a1, .int a2, .int a3] (wPre (dC, dI) [(cI, .int), (c2, .array .int)] [(o0, .inr (11, [.ref o1, .ref o2, .ref o3, .ref o4, .ref o5, .ref o6, .ref o7, .ref o8, .ref o9, .ref o10, .ref o11, .ref o12, .int 0])), (o1, .inr (4, [.ref o13, .int 0, .int 0]))] sz)) (va_Qi (fun (r : Int32) (_ : Unit) => r = (-1)) (fun _ t => wPost (dC, dI) [(cI, .int), (c2, .array .int)] (va_A [(o0, .inr (11, [.ref o1, .ref o2, .ref o3, .ref o4, .ref o5, .ref o6, .ref o7, .ref o8, .ref o9, .ref o10, .ref o11, .ref o12, .int 0])), (o1, .inr (4, [.ref o13, .int 0, .int 0]))] sz) [] t) (va_A [(o0, .inr (11, [.ref o1, .ref o2, .ref o3, .ref o4, .ref o5, .ref o6, .ref o7, .ref o8, .ref o9, .ref o10, .ref o11, .ref o12, .int 0])), (o1, .inr (4, [.ref o13, .int 0, .int 0]))] sz)) 0 0 (va_A [(o0, .inr (11, [.ref o1, .ref o2, .ref o3, .ref o4, .ref o5, .ref o6, .ref o7, .ref o8, .ref o9, .ref o10, .ref o11, .ref o12, .int 0])), (o1, .inr (4, [.ref o13, .int 0, .int 0]))] sz) := by
  refine Met.ofW (cc := cX11_part) (maxL := 4) (ret := (some .int)) (by decide) rfl ?_
  intro p e s m args below meth c s₁ B hml hv
  obtain ⟨rfl, hsz, hP, hK, hD0, hN⟩ := hv
  have hx := B.exec
  have hb := B.bytes
  have hr := B.returns
  have hts := atoms_spec (ws := wsX11_part) B.pre
  have hown : s.vm.findClass RX11 = some m.cls := findClass_of_methodNamed B.named
  have hlocks := B.notSynchronized
  subst hsz
  have hD := hD0.self (sz := s.heap.size)
  generalize hAe : va_A [(o0, .inr (11, [.ref o1, .ref o2, .ref o3, .ref o4, .ref o5, .ref o6, .ref o7, .ref o8, .ref o9, .ref o10, .ref o11, .ref o12, .int 0])), (o1, .inr (4, [.ref o13, .int 0, .int 0]))] s.heap.size = A at hD ⊢
  have hA : ∀ q : Nat, s.heap.size ≤ q → A q := fun q h => by rw [← hAe]; exact Or.inr h
  have hS : va_S A s.heap s.heap [] := va_S.rf
  have hP : va_P (dC, dI) vwCl [(o0, .inr (11, [.ref o1, .ref o2, .ref o3, .ref o4, .ref o5, .ref o6, .ref o7, .ref o8, .ref o9, .ref o10, .ref o11, .ref o12, .int 0])), (o1, .inr (4, [.ref o13, .int 0, .int 0]))] s.heap := hP
  have hl := lv_entry ([.ref o0, .int a1, .int a2, .int a3]) (n := 4) (Nat.le_of_ble_eq_true rfl)
  rw [lg_entry_eq]
  generalize (lg_sl ([.ref o0, .int a1, .int a2, .int a3]) ++ List.replicate (4 - (lg_sl ([.ref o0, .int a1, .int a2, .int a3])).length) Slot.unset).toArray = ls at hl ⊢
  have hl : lv_has ls 4 [(0, .ref o0), (1, .int a1), (2, .int a2), (3, .int a3)] := hl
  refine lv_aload_n hx hb dX11_part_0 rfl (lv_at hl 0 rfl) ?_
  refine va_get (D := (dC, dI)) (ci := 11) (v := .ref o1) (C := RX11) (T := TX11) (N := 13) hx hb hts iw_X11_part_X11 hown hK hP 0 rfl rfl 0 (by decide) (hts (.fieldLink RX11 10 "HolelessHouse" "graph" "LHolelessHouse$Graph;") (by decide +kernel)) (fun _ h9 => h9) rfl dX11_part_1 ?_
  refine lv_iload_n hx hb dX11_part_4 rfl (lv_at hl 1 rfl) ?_
  refine kcall_i (D := (dC, dI)) (S := Unit) (v := 0) (wc := [(o1, .inr (4, [.ref o13, .int 0, .int 0]))]) (wr := [(o0, .inr (11, [.ref o1, .ref o2, .ref o3, .ref o4, .ref o5, .ref o6, .ref o7, .ref o8, .ref o9, .ref o10, .ref o11, .ref o12, .int 0]))]) (w1 := fun _ => [(o1, .inr (4, [.ref o13, .int 0, .int 0]))]) (fun hPc hDc => va_runVN (As := [.int a1]) (rest := []) ⟨hx, hb, hml, hown, hts⟩ (kX4_has_1 l dC dI cI c2 o1 o13 s.heap.size a1 (by omega) (by omega)) ⟨va_cnB 1 hts gX11_part_X4_has_n93 rfl rfl rfl (hN.1 _ ns_66) (hts (.initialized RX4) (by decide +kernel)) (by decide +kernel) ⟨Nat.le_of_ble_eq_true rfl, Nat.le_of_ble_eq_true rfl⟩, (hts (.instanceMethod yX4_has) (by decide +kernel)), (hts (.selects RX4 yX4_has yX4_has) (by decide +kernel))⟩ (pre_V hPc hK hDc hN (ci := 4) (q0 := 0) rfl rfl) rfl rfl hl.1 rfl (lv_room (Nat.le_of_ble_eq_true rfl)) dX11_part_5 ⟨Nat.le_of_ble_eq_true rfl, Nat.le_of_ble_eq_true rfl⟩) hP hD hS hA [1] [0] rfl rfl (by decide) (by decide) (by decide) (fun u H locs hP hD hS => ?_)
  have hP : va_P (dC, dI) vwCl [(o0, .inr (11, [.ref o1, .ref o2, .ref o3, .ref o4, .ref o5, .ref o6, .ref o7, .ref o8, .ref o9, .ref o10, .ref o11, .ref o12, .int 0])), (o1, .inr (4, [.ref o13, .int 0, .int 0]))] H := hP
  have hD : va_D A [(o0, .inr (11, [.ref o1, .ref o2, .ref o3, .ref o4, .ref o5, .ref o6, .ref o7, .ref o8, .ref o9, .ref o10, .ref o11, .ref o12, .int 0])), (o1, .inr (4, [.ref o13, .int 0, .int 0]))] := hD
  refine lv_if_eq (tgt := 27) hx hb dX11_part_8 (by decide) (fun _ => ?_) (fun h9 => absurd (by decide +kernel) h9)
  refine lv_iconst (v := (-1)) hx hb dX11_part_27 (by decide) ?_
  have hP9 := hP.sub (ws' := []) [] rfl
  have hD9 := hD.sub (ws' := []) [] (by decide) rfl
  exact W.iret (v := (-1)) hx hb hr (fun t ht hW => ⟨⟨(-1), (), rfl, rfl, by rw [ht]; exact hP9, va_K.moved hW.alike hK, hD9⟩, hS.F ht⟩) hS.2.2 dX11_part_28
set_option maxHeartbeats 1000000 in
set_option maxRecDepth 100000 in
theorem kX12_part_1 (l : Launch) (dC : Nat → ClassId) (dI : Nat → Nat → Nat) (cI c2 : ClassId) (o0 : Nat) (o1 : Nat) (o2 : Nat) (o3 : Nat) (o4 : Nat) (o5 : Nat) (o6 : Nat) (o7 : Nat) (o8 : Nat) (o9 : Nat) (o10 : Nat) (o11 : Nat) (o12 : Nat) (o13 : Nat) (o14 : Nat) (o15 : Nat) (o16 : Nat) (o17 : Nat) (o18 : Nat) (sz : Nat) (a1 : Int32) (a2 : Int32) (a3 : Int32) (a1_lo : (-2147483648) ≤ a1.toInt) (a1_hi : a1.toInt ≤ (-1)) (a2_lo : (-2147483648) ≤ a2.toInt) (a2_hi : a2.toInt ≤ 2147483647) (a3_lo : (-2147483648) ≤ a3.toInt) (a3_hi : a3.toInt ≤ 2147483647) : Met l yX12_part wsX12_part ({ frames := 2, cells := 0, slots := 0, locals := 43 }) (va_Pc [.ref o0, .int a1, .int a2, .int a3] (wPre (dC, dI) [(cI, .int), (c2, .array .int)] [(o0, .inr (12, [.int 0, .ref o1, .int 0, .ref o2, .int 0, .ref o3, .ref o4, .int 0, .ref o5, .int 0, .ref o6, .int (-9), .int 0, .int 0, .ref o7, .ref o8, .ref o9, .ref o10, .ref o11, .int 0, .ref o12, .ref o13, .ref o14, .int 0, .ref o15, .ref o16, .ref o17, .int 0, .ref o18]))] sz)) (va_Qi (fun (r : Int32) (_ : Unit) => r = (-1)) (fun _ t => wPost (dC, dI) [(cI, .int), (c2, .array .int)] (va_A [(o0, .inr (12, [.int 0, .ref o1, .int 0, .ref o2, .int 0, .ref o3, .ref o4, .int 0, .ref o5, .int 0, .ref o6, .int (-9), .int 0, .int 0, .ref o7, .ref o8, .ref o9, .ref o10, .ref o11, .int 0, .ref o12, .ref o13, .ref o14, .int 0, .ref o15, .ref o16, .ref o17, .int 0, .ref o18]))] sz) [] t) (va_A [(o0, .inr (12, [.int 0, .ref o1, .int 0, .ref o2, .int 0, .ref o3, .ref o4, .int 0, .ref o5, .int 0, .ref o6, .int (-9), .int 0, .int 0, .ref o7, .ref o8, .ref o9, .ref o10, .ref o11, .int 0, .ref o12, .ref o13, .ref o14, .int 0, .ref o15, .ref o16, .ref o17, .int 0, .ref o18]))] sz)) 0 0 (va_A [(o0, .inr (12, [.int 0, .ref o1, .int 0, .ref o2, .int 0, .ref o3, .ref o4, .int 0, .ref o5, .int 0, .ref o6, .int (-9), .int 0, .int 0, .ref o7, .ref o8, .ref o9, .ref o10, .ref o11, .int 0, .ref o12, .ref o13, .ref o14, .int 0, .ref o15, .ref o16, .ref o17, .int 0, .ref o18]))] sz) := by
  refine Met.ofW (cc := cX12_part) (maxL := 6) (ret := (some .int)) (by decide) rfl ?_
  intro p e s m args below meth c s₁ B hml hv
  obtain ⟨rfl, hsz, hP, hK, hD0, hN⟩ := hv
  have hx := B.exec
  have hb := B.bytes
  have hr := B.returns
  have hts := atoms_spec (ws := wsX12_part) B.pre
  have hown : s.vm.findClass RX12 = some m.cls := findClass_of_methodNamed B.named
  have hlocks := B.notSynchronized
  subst hsz
  have hD := hD0.self (sz := s.heap.size)
  generalize hAe : va_A [(o0, .inr (12, [.int 0, .ref o1, .int 0, .ref o2, .int 0, .ref o3, .ref o4, .int 0, .ref o5, .int 0, .ref o6, .int (-9), .int 0, .int 0, .ref o7, .ref o8, .ref o9, .ref o10, .ref o11, .int 0, .ref o12, .ref o13, .ref o14, .int 0, .ref o15, .ref o16, .ref o17, .int 0, .ref o18]))] s.heap.size = A at hD ⊢
  have hA : ∀ q : Nat, s.heap.size ≤ q → A q := fun q h => by rw [← hAe]; exact Or.inr h
  have hS : va_S A s.heap s.heap [] := va_S.rf
  have hP : va_P (dC, dI) vwCl [(o0, .inr (12, [.int 0, .ref o1, .int 0, .ref o2, .int 0, .ref o3, .ref o4, .int 0, .ref o5, .int 0, .ref o6, .int (-9), .int 0, .int 0, .ref o7, .ref o8, .ref o9, .ref o10, .ref o11, .int 0, .ref o12, .ref o13, .ref o14, .int 0, .ref o15, .ref o16, .ref o17, .int 0, .ref o18]))] s.heap := hP
  have hl := lv_entry ([.ref o0, .int a1, .int a2, .int a3]) (n := 6) (Nat.le_of_ble_eq_true rfl)
  rw [lg_entry_eq]
  generalize (lg_sl ([.ref o0, .int a1, .int a2, .int a3]) ++ List.replicate (6 - (lg_sl ([.ref o0, .int a1, .int a2, .int a3])).length) Slot.unset).toArray = ls at hl ⊢
  have hl : lv_has ls 6 [(0, .ref o0), (1, .int a1), (2, .int a2), (3, .int a3)] := hl
  refine lv_aload_n hx hb dX12_part_0 rfl (lv_at hl 0 rfl) ?_
  refine lv_iload_n hx hb dX12_part_1 rfl (lv_at hl 1 rfl) ?_
  refine kcall_i (D := (dC, dI)) (S := Unit) (v := 0) (wc := [(o0, .inr (12, [.int 0, .ref o1, .int 0, .ref o2, .int 0, .ref o3, .ref o4, .int 0, .ref o5, .int 0, .ref o6, .int (-9), .int 0, .int 0, .ref o7, .ref o8, .ref o9, .ref o10, .ref o11, .int 0, .ref o12, .ref o13, .ref o14, .int 0, .ref o15, .ref o16, .ref o17, .int 0, .ref o18]))]) (wr := []) (w1 := fun _ => [(o0, .inr (12, [.int 0, .ref o1, .int 0, .ref o2, .int 0, .ref o3, .ref o4, .int 0, .ref o5, .int 0, .ref o6, .int (-9), .int 0, .int 0, .ref o7, .ref o8, .ref o9, .ref o10, .ref o11, .int 0, .ref o12, .ref o13, .ref o14, .int 0, .ref o15, .ref o16, .ref o17, .int 0, .ref o18]))]) (fun hPc hDc => va_runV (As := [.int a1]) (rest := []) ⟨hx, hb, hml, hown, hts⟩ (kX12_isNode_1 l dC dI cI c2 o0 o1 o2 o3 o4 o5 o6 o7 o8 o9 o10 o11 o12 o13 o14 o15 o16 o17 o18 s.heap.size a1 (by omega) (by omega)) (cwV 1 hts gX12_part_X12_isNode rfl rfl rfl (by decide +kernel) ⟨Nat.le_of_ble_eq_true rfl, Nat.le_of_ble_eq_true rfl⟩) (pre_V hPc hK hDc hN (ci := 12) (q0 := 0) rfl rfl) rfl rfl hl.1 rfl (lv_room (Nat.le_of_ble_eq_true rfl)) dX12_part_2 ⟨Nat.le_of_ble_eq_true rfl, Nat.le_of_ble_eq_true rfl⟩) hP hD hS hA [0] [] rfl rfl (by decide) (by decide) (by decide) (fun u H locs hP hD hS => ?_)
  have hP : va_P (dC, dI) vwCl [(o0, .inr (12, [.int 0, .ref o1, .int 0, .ref o2, .int 0, .ref o3, .ref o4, .int 0, .ref o5, .int 0, .ref o6, .int (-9), .int 0, .int 0, .ref o7, .ref o8, .ref o9, .ref o10, .ref o11, .int 0, .ref o12, .ref o13, .ref o14, .int 0, .ref o15, .ref o16, .ref o17, .int 0, .ref o18]))] H := hP
  have hD : va_D A [(o0, .inr (12, [.int 0, .ref o1, .int 0, .ref o2, .int 0, .ref o3, .ref o4, .int 0, .ref o5, .int 0, .ref o6, .int (-9), .int 0, .int 0, .ref o7, .ref o8, .ref o9, .ref o10, .ref o11, .int 0, .ref o12, .ref o13, .ref o14, .int 0, .ref o15, .ref o16, .ref o17, .int 0, .ref o18]))] := hD
  refine lv_if_eq (tgt := 21) hx hb dX12_part_5 (by decide) (fun _ => ?_) (fun h9 => absurd (by decide +kernel) h9)
  refine lv_iconst (v := (-1)) hx hb dX12_part_21 (by decide) ?_
  have hP9 := hP.sub (ws' := []) [] rfl
  have hD9 := hD.sub (ws' := []) [] (by decide) rfl
  exact W.iret (v := (-1)) hx hb hr (fun t ht hW => ⟨⟨(-1), (), rfl, rfl, by rw [ht]; exact hP9, va_K.moved hW.alike hK, hD9⟩, hS.F ht⟩) hS.2.2 dX12_part_22
set_option maxHeartbeats 1000000 in
set_option maxRecDepth 100000 in
theorem kX11_part_2 (l : Launch) (dC : Nat → ClassId) (dI : Nat → Nat → Nat) (cI c2 : ClassId) (o0 : Nat) (o1 : Nat) (o2 : Nat) (o3 : Nat) (o4 : Nat) (o5 : Nat) (o6 : Nat) (o7 : Nat) (o8 : Nat) (o9 : Nat) (o10 : Nat) (o11 : Nat) (o12 : Nat) (o13 : Nat) (sz : Nat) (a1 : Int32) (a2 : Int32) (a3 : Int32) (a1_lo : 0 ≤ a1.toInt) (a1_hi : a1.toInt ≤ 2147483647) (a2_lo : (-2147483648) ≤ a2.toInt) (a2_hi : a2.toInt ≤ 2147483647) (a3_lo : (-2147483648) ≤ a3.toInt) (a3_hi : a3.toInt ≤ 2147483647) : Met l yX11_part wsX11_part ({ frames := 1, cells := 0, slots := 0, locals := 21 }) (va_Pc [.ref o0, .int a1, .int a2, .int a3] (wPre (dC, dI) [(cI, .int), (c2, .array .int)] [(o0, .inr (11, [.ref o1, .ref o2, .ref o3, .ref o4, .ref o5, .ref o6, .ref o7, .ref o8, .ref o9, .ref o10, .ref o11, .ref o12, .int 0])), (o1, .inr (4, [.ref o13, .int 0, .int 0]))] sz)) (va_Qi (fun (r : Int32) (_ : Unit) => r = (-1)) (fun _ t => wPost (dC, dI) [(cI, .int), (c2, .array .int)] (va_A [(o0, .inr (11, [.ref o1, .ref o2, .ref o3, .ref o4, .ref o5, .ref o6, .ref o7, .ref o8, .ref o9, .ref o10, .ref o11, .ref o12, .int 0])), (o1, .inr (4, [.ref o13, .int 0, .int 0]))] sz) [] t) (va_A [(o0, .inr (11, [.ref o1, .ref o2, .ref o3, .ref o4, .ref o5, .ref o6, .ref o7, .ref o8, .ref o9, .ref o10, .ref o11, .ref o12, .int 0])), (o1, .inr (4, [.ref o13, .int 0, .int 0]))] sz)) 0 0 (va_A [(o0, .inr (11, [.ref o1, .ref o2, .ref o3, .ref o4, .ref o5, .ref o6, .ref o7, .ref o8, .ref o9, .ref o10, .ref o11, .ref o12, .int 0])), (o1, .inr (4, [.ref o13, .int 0, .int 0]))] sz) := by
  refine Met.ofW (cc := cX11_part) (maxL := 4) (ret := (some .int)) (by decide) rfl ?_
  intro p e s m args below meth c s₁ B hml hv
  obtain ⟨rfl, hsz, hP, hK, hD0, hN⟩ := hv
  have hx := B.exec
  have hb := B.bytes
  have hr := B.returns
  have hts := atoms_spec (ws := wsX11_part) B.pre
  have hown : s.vm.findClass RX11 = some m.cls := findClass_of_methodNamed B.named
  have hlocks := B.notSynchronized
  subst hsz
  have hD := hD0.self (sz := s.heap.size)
  generalize hAe : va_A [(o0, .inr (11, [.ref o1, .ref o2, .ref o3, .ref o4, .ref o5, .ref o6, .ref o7, .ref o8, .ref o9, .ref o10, .ref o11, .ref o12, .int 0])), (o1, .inr (4, [.ref o13, .int 0, .int 0]))] s.heap.size = A at hD ⊢
  have hA : ∀ q : Nat, s.heap.size ≤ q → A q := fun q h => by rw [← hAe]; exact Or.inr h
  have hS : va_S A s.heap s.heap [] := va_S.rf
  have hP : va_P (dC, dI) vwCl [(o0, .inr (11, [.ref o1, .ref o2, .ref o3, .ref o4, .ref o5, .ref o6, .ref o7, .ref o8, .ref o9, .ref o10, .ref o11, .ref o12, .int 0])), (o1, .inr (4, [.ref o13, .int 0, .int 0]))] s.heap := hP
  have hl := lv_entry ([.ref o0, .int a1, .int a2, .int a3]) (n := 4) (Nat.le_of_ble_eq_true rfl)
  rw [lg_entry_eq]
  generalize (lg_sl ([.ref o0, .int a1, .int a2, .int a3]) ++ List.replicate (4 - (lg_sl ([.ref o0, .int a1, .int a2, .int a3])).length) Slot.unset).toArray = ls at hl ⊢
  have hl : lv_has ls 4 [(0, .ref o0), (1, .int a1), (2, .int a2), (3, .int a3)] := hl
  refine lv_aload_n hx hb dX11_part_0 rfl (lv_at hl 0 rfl) ?_
  refine va_get (D := (dC, dI)) (ci := 11) (v := .ref o1) (C := RX11) (T := TX11) (N := 13) hx hb hts iw_X11_part_X11 hown hK hP 0 rfl rfl 0 (by decide) (hts (.fieldLink RX11 10 "HolelessHouse" "graph" "LHolelessHouse$Graph;") (by decide +kernel)) (fun _ h9 => h9) rfl dX11_part_1 ?_
  refine lv_iload_n hx hb dX11_part_4 rfl (lv_at hl 1 rfl) ?_
  refine kcall_i (D := (dC, dI)) (S := Unit) (v := 0) (wc := [(o1, .inr (4, [.ref o13, .int 0, .int 0]))]) (wr := [(o0, .inr (11, [.ref o1, .ref o2, .ref o3, .ref o4, .ref o5, .ref o6, .ref o7, .ref o8, .ref o9, .ref o10, .ref o11, .ref o12, .int 0]))]) (w1 := fun _ => [(o1, .inr (4, [.ref o13, .int 0, .int 0]))]) (fun hPc hDc => va_runVN (As := [.int a1]) (rest := []) ⟨hx, hb, hml, hown, hts⟩ (kX4_has_2 l dC dI cI c2 o1 o13 s.heap.size a1 (by omega) (by omega)) ⟨va_cnB 1 hts gX11_part_X4_has_n93 rfl rfl rfl (hN.1 _ ns_66) (hts (.initialized RX4) (by decide +kernel)) (by decide +kernel) ⟨Nat.le_of_ble_eq_true rfl, Nat.le_of_ble_eq_true rfl⟩, (hts (.instanceMethod yX4_has) (by decide +kernel)), (hts (.selects RX4 yX4_has yX4_has) (by decide +kernel))⟩ (pre_V hPc hK hDc hN (ci := 4) (q0 := 0) rfl rfl) rfl rfl hl.1 rfl (lv_room (Nat.le_of_ble_eq_true rfl)) dX11_part_5 ⟨Nat.le_of_ble_eq_true rfl, Nat.le_of_ble_eq_true rfl⟩) hP hD hS hA [1] [0] rfl rfl (by decide) (by decide) (by decide) (fun u H locs hP hD hS => ?_)
  have hP : va_P (dC, dI) vwCl [(o0, .inr (11, [.ref o1, .ref o2, .ref o3, .ref o4, .ref o5, .ref o6, .ref o7, .ref o8, .ref o9, .ref o10, .ref o11, .ref o12, .int 0])), (o1, .inr (4, [.ref o13, .int 0, .int 0]))] H := hP
  have hD : va_D A [(o0, .inr (11, [.ref o1, .ref o2, .ref o3, .ref o4, .ref o5, .ref o6, .ref o7, .ref o8, .ref o9, .ref o10, .ref o11, .ref o12, .int 0])), (o1, .inr (4, [.ref o13, .int 0, .int 0]))] := hD
  refine lv_if_eq (tgt := 27) hx hb dX11_part_8 (by decide) (fun _ => ?_) (fun h9 => absurd (by decide +kernel) h9)
  refine lv_iconst (v := (-1)) hx hb dX11_part_27 (by decide) ?_
  have hP9 := hP.sub (ws' := []) [] rfl
  have hD9 := hD.sub (ws' := []) [] (by decide) rfl
  exact W.iret (v := (-1)) hx hb hr (fun t ht hW => ⟨⟨(-1), (), rfl, rfl, by rw [ht]; exact hP9, va_K.moved hW.alike hK, hD9⟩, hS.F ht⟩) hS.2.2 dX11_part_28
set_option maxHeartbeats 1000000 in
set_option maxRecDepth 100000 in
theorem kX12_part_2 (l : Launch) (dC : Nat → ClassId) (dI : Nat → Nat → Nat) (cI c2 : ClassId) (o0 : Nat) (o1 : Nat) (o2 : Nat) (o3 : Nat) (o4 : Nat) (o5 : Nat) (o6 : Nat) (o7 : Nat) (o8 : Nat) (o9 : Nat) (o10 : Nat) (o11 : Nat) (o12 : Nat) (o13 : Nat) (o14 : Nat) (o15 : Nat) (o16 : Nat) (o17 : Nat) (o18 : Nat) (sz : Nat) (a1 : Int32) (a2 : Int32) (a3 : Int32) (a1_lo : 0 ≤ a1.toInt) (a1_hi : a1.toInt ≤ 2147483647) (a2_lo : (-2147483648) ≤ a2.toInt) (a2_hi : a2.toInt ≤ 2147483647) (a3_lo : (-2147483648) ≤ a3.toInt) (a3_hi : a3.toInt ≤ 2147483647) : Met l yX12_part wsX12_part ({ frames := 2, cells := 0, slots := 0, locals := 43 }) (va_Pc [.ref o0, .int a1, .int a2, .int a3] (wPre (dC, dI) [(cI, .int), (c2, .array .int)] [(o0, .inr (12, [.int 0, .ref o1, .int 0, .ref o2, .int 0, .ref o3, .ref o4, .int 0, .ref o5, .int 0, .ref o6, .int (-9), .int 0, .int 0, .ref o7, .ref o8, .ref o9, .ref o10, .ref o11, .int 0, .ref o12, .ref o13, .ref o14, .int 0, .ref o15, .ref o16, .ref o17, .int 0, .ref o18]))] sz)) (va_Qi (fun (r : Int32) (_ : Unit) => r = (-1)) (fun _ t => wPost (dC, dI) [(cI, .int), (c2, .array .int)] (va_A [(o0, .inr (12, [.int 0, .ref o1, .int 0, .ref o2, .int 0, .ref o3, .ref o4, .int 0, .ref o5, .int 0, .ref o6, .int (-9), .int 0, .int 0, .ref o7, .ref o8, .ref o9, .ref o10, .ref o11, .int 0, .ref o12, .ref o13, .ref o14, .int 0, .ref o15, .ref o16, .ref o17, .int 0, .ref o18]))] sz) [] t) (va_A [(o0, .inr (12, [.int 0, .ref o1, .int 0, .ref o2, .int 0, .ref o3, .ref o4, .int 0, .ref o5, .int 0, .ref o6, .int (-9), .int 0, .int 0, .ref o7, .ref o8, .ref o9, .ref o10, .ref o11, .int 0, .ref o12, .ref o13, .ref o14, .int 0, .ref o15, .ref o16, .ref o17, .int 0, .ref o18]))] sz)) 0 0 (va_A [(o0, .inr (12, [.int 0, .ref o1, .int 0, .ref o2, .int 0, .ref o3, .ref o4, .int 0, .ref o5, .int 0, .ref o6, .int (-9), .int 0, .int 0, .ref o7, .ref o8, .ref o9, .ref o10, .ref o11, .int 0, .ref o12, .ref o13, .ref o14, .int 0, .ref o15, .ref o16, .ref o17, .int 0, .ref o18]))] sz) := by
  refine Met.ofW (cc := cX12_part) (maxL := 6) (ret := (some .int)) (by decide) rfl ?_
  intro p e s m args below meth c s₁ B hml hv
  obtain ⟨rfl, hsz, hP, hK, hD0, hN⟩ := hv
  have hx := B.exec
  have hb := B.bytes
  have hr := B.returns
  have hts := atoms_spec (ws := wsX12_part) B.pre
  have hown : s.vm.findClass RX12 = some m.cls := findClass_of_methodNamed B.named
  have hlocks := B.notSynchronized
  subst hsz
  have hD := hD0.self (sz := s.heap.size)
  generalize hAe : va_A [(o0, .inr (12, [.int 0, .ref o1, .int 0, .ref o2, .int 0, .ref o3, .ref o4, .int 0, .ref o5, .int 0, .ref o6, .int (-9), .int 0, .int 0, .ref o7, .ref o8, .ref o9, .ref o10, .ref o11, .int 0, .ref o12, .ref o13, .ref o14, .int 0, .ref o15, .ref o16, .ref o17, .int 0, .ref o18]))] s.heap.size = A at hD ⊢
  have hA : ∀ q : Nat, s.heap.size ≤ q → A q := fun q h => by rw [← hAe]; exact Or.inr h
  have hS : va_S A s.heap s.heap [] := va_S.rf
  have hP : va_P (dC, dI) vwCl [(o0, .inr (12, [.int 0, .ref o1, .int 0, .ref o2, .int 0, .ref o3, .ref o4, .int 0, .ref o5, .int 0, .ref o6, .int (-9), .int 0, .int 0, .ref o7, .ref o8, .ref o9, .ref o10, .ref o11, .int 0, .ref o12, .ref o13, .ref o14, .int 0, .ref o15, .ref o16, .ref o17, .int 0, .ref o18]))] s.heap := hP
  have hl := lv_entry ([.ref o0, .int a1, .int a2, .int a3]) (n := 6) (Nat.le_of_ble_eq_true rfl)
  rw [lg_entry_eq]
  generalize (lg_sl ([.ref o0, .int a1, .int a2, .int a3]) ++ List.replicate (6 - (lg_sl ([.ref o0, .int a1, .int a2, .int a3])).length) Slot.unset).toArray = ls at hl ⊢
  have hl : lv_has ls 6 [(0, .ref o0), (1, .int a1), (2, .int a2), (3, .int a3)] := hl
  refine lv_aload_n hx hb dX12_part_0 rfl (lv_at hl 0 rfl) ?_
  refine lv_iload_n hx hb dX12_part_1 rfl (lv_at hl 1 rfl) ?_
  refine kcall_i (D := (dC, dI)) (S := Unit) (v := 0) (wc := [(o0, .inr (12, [.int 0, .ref o1, .int 0, .ref o2, .int 0, .ref o3, .ref o4, .int 0, .ref o5, .int 0, .ref o6, .int (-9), .int 0, .int 0, .ref o7, .ref o8, .ref o9, .ref o10, .ref o11, .int 0, .ref o12, .ref o13, .ref o14, .int 0, .ref o15, .ref o16, .ref o17, .int 0, .ref o18]))]) (wr := []) (w1 := fun _ => [(o0, .inr (12, [.int 0, .ref o1, .int 0, .ref o2, .int 0, .ref o3, .ref o4, .int 0, .ref o5, .int 0, .ref o6, .int (-9), .int 0, .int 0, .ref o7, .ref o8, .ref o9, .ref o10, .ref o11, .int 0, .ref o12, .ref o13, .ref o14, .int 0, .ref o15, .ref o16, .ref o17, .int 0, .ref o18]))]) (fun hPc hDc => va_runV (As := [.int a1]) (rest := []) ⟨hx, hb, hml, hown, hts⟩ (kX12_isNode_2 l dC dI cI c2 o0 o1 o2 o3 o4 o5 o6 o7 o8 o9 o10 o11 o12 o13 o14 o15 o16 o17 o18 s.heap.size a1 (by omega) (by omega)) (cwV 1 hts gX12_part_X12_isNode rfl rfl rfl (by decide +kernel) ⟨Nat.le_of_ble_eq_true rfl, Nat.le_of_ble_eq_true rfl⟩) (pre_V hPc hK hDc hN (ci := 12) (q0 := 0) rfl rfl) rfl rfl hl.1 rfl (lv_room (Nat.le_of_ble_eq_true rfl)) dX12_part_2 ⟨Nat.le_of_ble_eq_true rfl, Nat.le_of_ble_eq_true rfl⟩) hP hD hS hA [0] [] rfl rfl (by decide) (by decide) (by decide) (fun u H locs hP hD hS => ?_)
  have hP : va_P (dC, dI) vwCl [(o0, .inr (12, [.int 0, .ref o1, .int 0, .ref o2, .int 0, .ref o3, .ref o4, .int 0, .ref o5, .int 0, .ref o6, .int (-9), .int 0, .int 0, .ref o7, .ref o8, .ref o9, .ref o10, .ref o11, .int 0, .ref o12, .ref o13, .ref o14, .int 0, .ref o15, .ref o16, .ref o17, .int 0, .ref o18]))] H := hP
  have hD : va_D A [(o0, .inr (12, [.int 0, .ref o1, .int 0, .ref o2, .int 0, .ref o3, .ref o4, .int 0, .ref o5, .int 0, .ref o6, .int (-9), .int 0, .int 0, .ref o7, .ref o8, .ref o9, .ref o10, .ref o11, .int 0, .ref o12, .ref o13, .ref o14, .int 0, .ref o15, .ref o16, .ref o17, .int 0, .ref o18]))] := hD
  refine lv_if_eq (tgt := 21) hx hb dX12_part_5 (by decide) (fun _ => ?_) (fun h9 => absurd (by decide +kernel) h9)
  refine lv_iconst (v := (-1)) hx hb dX12_part_21 (by decide) ?_
  have hP9 := hP.sub (ws' := []) [] rfl
  have hD9 := hD.sub (ws' := []) [] (by decide) rfl
  exact W.iret (v := (-1)) hx hb hr (fun t ht hW => ⟨⟨(-1), (), rfl, rfl, by rw [ht]; exact hP9, va_K.moved hW.alike hK, hD9⟩, hS.F ht⟩) hS.2.2 dX12_part_22
theorem iw_X0_restart_X0 : ∀ w ∈ wsX00, w ∈ wsX0_restart := by decide +kernel
set_option maxHeartbeats 1000000 in
set_option maxRecDepth 100000 in
theorem kX0_restart_1 (l : Launch) (dC : Nat → ClassId) (dI : Nat → Nat → Nat) (cI c2 : ClassId) (o0 : Nat) (o1 : Nat) (o2 : Nat) (o3 : Nat) (sz : Nat) : Met l yX0_restart wsX0_restart ({ frames := 0, cells := 0, slots := 0, locals := 0 }) (va_Pc [.ref o0, .int 0] (wPre (dC, dI) [(cI, .int), (c2, .array .int)] [(o0, .inr (0, [.ref o1, .ref o2, .ref o3, .int 0, .int 0, .int 0, .int 0, .int 0]))] sz)) (va_Qv (fun (_ : Unit) => True) (fun _ t => wPost (dC, dI) [(cI, .int), (c2, .array .int)] (va_A [(o0, .inr (0, [.ref o1, .ref o2, .ref o3, .int 0, .int 0, .int 0, .int 0, .int 0]))] sz) [(o0, .inr (0, [.ref o1, .ref o2, .ref o3, .int 0, .int 0, .int 0, .int 0, .int 0]))] t) (va_A [(o0, .inr (0, [.ref o1, .ref o2, .ref o3, .int 0, .int 0, .int 0, .int 0, .int 0]))] sz)) 0 0 (va_A [(o0, .inr (0, [.ref o1, .ref o2, .ref o3, .int 0, .int 0, .int 0, .int 0, .int 0]))] sz) := by
  refine Met.ofW (cc := cX0_restart) (maxL := 2) (ret := none) (by decide) rfl ?_
  intro p e s m args below meth c s₁ B hml hv
  obtain ⟨rfl, hsz, hP, hK, hD0, hN⟩ := hv
  have hx := B.exec
  have hb := B.bytes
  have hr := B.returns
  have hts := atoms_spec (ws := wsX0_restart) B.pre
  have hown : s.vm.findClass RX0 = some m.cls := findClass_of_methodNamed B.named
  have hlocks := B.notSynchronized
  subst hsz
  have hD := hD0.self (sz := s.heap.size)
  generalize hAe : va_A [(o0, .inr (0, [.ref o1, .ref o2, .ref o3, .int 0, .int 0, .int 0, .int 0, .int 0]))] s.heap.size = A at hD ⊢
  have hA : ∀ q : Nat, s.heap.size ≤ q → A q := fun q h => by rw [← hAe]; exact Or.inr h
  have hS : va_S A s.heap s.heap [] := va_S.rf
  have hP : va_P (dC, dI) vwCl [(o0, .inr (0, [.ref o1, .ref o2, .ref o3, .int 0, .int 0, .int 0, .int 0, .int 0]))] s.heap := hP
  have hl := lv_entry ([.ref o0, .int 0]) (n := 2) (Nat.le_of_ble_eq_true rfl)
  rw [lg_entry_eq]
  generalize (lg_sl ([.ref o0, .int 0]) ++ List.replicate (2 - (lg_sl ([.ref o0, .int 0])).length) Slot.unset).toArray = ls at hl ⊢
  have hl : lv_has ls 2 [(0, .ref o0), (1, .int 0)] := hl
  refine lv_aload_n hx hb dX0_restart_0 rfl (lv_at hl 0 rfl) ?_
  refine lv_iload_n hx hb dX0_restart_1 rfl (lv_at hl 1 rfl) ?_
  refine va_put (D := (dC, dI)) (ci := 0) (v := .int 0) (ty := .int) (C := RX0) (T := TX0) (N := 8) hx hb hts iw_X0_restart_X0 tyX0 tyX0_ok nmX0 hown hK hP hD hS 0 rfl rfl 4 (by decide) (hts (.fieldLink RX0 25 "HolelessHouse$Benches" "width" "I") (by decide +kernel)) (fun _ h9 => h9) rfl (by decide +kernel) rfl rfl (Nat.le_of_ble_eq_true rfl) dX0_restart_2 (fun H locs hP hD hS => ?_)
  have hP : va_P (dC, dI) vwCl [(o0, .inr (0, [.ref o1, .ref o2, .ref o3, .int 0, .int 0, .int 0, .int 0, .int 0]))] H := hP
  have hD : va_D A [(o0, .inr (0, [.ref o1, .ref o2, .ref o3, .int 0, .int 0, .int 0, .int 0, .int 0]))] := hD
  refine lv_aload_n hx hb dX0_restart_5 rfl (lv_at hl 0 rfl) ?_
  refine lv_iconst (v := 0) hx hb dX0_restart_6 (by decide) ?_
  refine va_put (D := (dC, dI)) (ci := 0) (v := .int 0) (ty := .int) (C := RX0) (T := TX0) (N := 8) hx hb hts iw_X0_restart_X0 tyX0 tyX0_ok nmX0 hown hK hP hD hS 0 rfl rfl 3 (by decide) (hts (.fieldLink RX0 21 "HolelessHouse$Benches" "rowCount" "I") (by decide +kernel)) (fun _ h9 => h9) rfl (by decide +kernel) rfl rfl (Nat.le_of_ble_eq_true rfl) dX0_restart_7 (fun H locs hP hD hS => ?_)
  have hP : va_P (dC, dI) vwCl [(o0, .inr (0, [.ref o1, .ref o2, .ref o3, .int 0, .int 0, .int 0, .int 0, .int 0]))] H := hP
  have hD : va_D A [(o0, .inr (0, [.ref o1, .ref o2, .ref o3, .int 0, .int 0, .int 0, .int 0, .int 0]))] := hD
  have hP9 := hP.sub (ws' := [(o0, .inr (0, [.ref o1, .ref o2, .ref o3, .int 0, .int 0, .int 0, .int 0, .int 0]))]) [0] rfl
  have hD9 := hD.sub (ws' := [(o0, .inr (0, [.ref o1, .ref o2, .ref o3, .int 0, .int 0, .int 0, .int 0, .int 0]))]) [0] (by decide) rfl
  exact W.vret hx hb hr (fun t ht hW => ⟨⟨(), rfl, trivial, by rw [ht]; exact hP9, va_K.moved hW.alike hK, hD9⟩, hS.F ht⟩) hS.2.2 dX0_restart_10
set_option maxHeartbeats 1000000 in
set_option maxRecDepth 100000 in
theorem kJ7_fill_fda19_2 (l : Launch) (dC : Nat → ClassId) (dI : Nat → Nat → Nat) (cI c2 : ClassId) (o0 : Nat) (sz : Nat) : Met l yJ7_fill_fda19 wsJ7_fill_fda19 ({ frames := 1, cells := 0, slots := 0, locals := 22 }) (va_Pc [.ref o0, .int 0, .int 1, .int 0] (wPre (dC, dI) [(cI, .int), (c2, .array .int)] [(o0, .inl (cI, 4096, .inl (fun _ => 0)))] sz)) (va_Qv (fun (_ : Unit) => True) (fun _ t => wPost (dC, dI) [(cI, .int), (c2, .array .int)] (va_A [(o0, .inl (cI, 4096, .inl (fun _ => 0)))] sz) [(o0, .inl (cI, 4096, .inl (upd (fun _ => 0) (Int32.toNatClampNeg 0) 0)))] t) (va_A [(o0, .inl (cI, 4096, .inl (fun _ => 0)))] sz)) 0 0 (va_A [(o0, .inl (cI, 4096, .inl (fun _ => 0)))] sz) := by
  refine Met.ofW (cc := cJ7_fill_fda19) (maxL := 5) (ret := none) (by decide) rfl ?_
  intro p e s m args below meth c s₁ B hml hv
  obtain ⟨rfl, hsz, hP, hK, hD0, hN⟩ := hv
  have hx := B.exec
  have hb := B.bytes
  have hr := B.returns
  have hts := atoms_spec (ws := wsJ7_fill_fda19) B.pre
  have hown : s.vm.findClass RJ7 = some m.cls := findClass_of_methodNamed B.named
  have hlocks := B.notSynchronized
  subst hsz
  have hD := hD0.self (sz := s.heap.size)
  generalize hAe : va_A [(o0, .inl (cI, 4096, .inl (fun _ => 0)))] s.heap.size = A at hD ⊢
  have hA : ∀ q : Nat, s.heap.size ≤ q → A q := fun q h => by rw [← hAe]; exact Or.inr h
  have hS : va_S A s.heap s.heap [] := va_S.rf
  have hP : va_P (dC, dI) vwCl [(o0, .inl (cI, 4096, .inl (fun _ => 0)))] s.heap := hP
  have hl := lv_entry ([.ref o0, .int 0, .int 1, .int 0]) (n := 5) (Nat.le_of_ble_eq_true rfl)
  rw [lg_entry_eq]
  generalize (lg_sl ([.ref o0, .int 0, .int 1, .int 0]) ++ List.replicate (5 - (lg_sl ([.ref o0, .int 0, .int 1, .int 0])).length) Slot.unset).toArray = ls at hl ⊢
  have hl : lv_has ls 5 [(0, .ref o0), (1, .int 0), (2, .int 1), (3, .int 0)] := hl
  refine lv_aload_n hx hb dJ7_fill_fda19_0 rfl (lv_at hl 0 rfl) ?_
  refine va_alen (v := 4096) hx hb hK hP 0 0 rfl rfl (by decide +kernel) dJ7_fill_fda19_1 ?_
  refine lv_iload_n hx hb dJ7_fill_fda19_2 rfl (lv_at hl 1 rfl) ?_
  refine lv_iload_n hx hb dJ7_fill_fda19_3 rfl (lv_at hl 2 rfl) ?_
  refine kcall_v (D := (dC, dI)) (S := Unit) (wc := []) (wr := [(o0, .inl (cI, 4096, .inl (fun _ => 0)))]) (w1 := fun _ => []) (fun hPc hDc => va_runS (As := [.int 4096, .int 0, .int 1]) (rest := []) ⟨hx, hb, hml, hown, hts⟩ (kJ7_rangeCheck_23922_1 l dC dI cI c2 s.heap.size) (va_cwS 3 hts gJ7_fill_fda19_J7_rangeCheck_23922 rfl rfl rfl (by decide +kernel) ⟨Nat.le_of_ble_eq_true rfl, Nat.le_of_ble_eq_true rfl⟩) (pre_S hPc hK hDc hN) rfl rfl hl.1 rfl (lv_room (Nat.le_of_ble_eq_true rfl)) dJ7_fill_fda19_4 ⟨Nat.le_of_ble_eq_true rfl, Nat.le_of_ble_eq_true rfl⟩) hP hD hS hA [] [0] rfl rfl (by decide) (by decide) (by decide) (fun u H locs hP hD hS => ?_)
  have hP : va_P (dC, dI) vwCl [(o0, .inl (cI, 4096, .inl (fun _ => 0)))] H := hP
  have hD : va_D A [(o0, .inl (cI, 4096, .inl (fun _ => 0)))] := hD
  refine lv_iload_n hx hb dJ7_fill_fda19_7 rfl (lv_at hl 1 rfl) ?_
  refine lv_istore (lv' := [(4, .int 0), (0, .ref o0), (1, .int 0), (2, .int 1), (3, .int 0)]) hx hb dJ7_fill_fda19_8 hl (by decide) rfl (fun ls hl => ?_)
  refine lv_iload hx hb dJ7_fill_fda19_10 (lv_at hl 0 rfl) ?_
  refine lv_iload_n hx hb dJ7_fill_fda19_12 rfl (lv_at hl 3 rfl) ?_
  refine lv_icmp_ge (tgt := 27) hx hb dJ7_fill_fda19_13 (by decide) (fun h9 => absurd h9 (by decide +kernel)) (fun _ => ?_)
  refine lv_aload_n hx hb dJ7_fill_fda19_16 rfl (lv_at hl 1 rfl) ?_
  refine lv_iload hx hb dJ7_fill_fda19_17 (lv_at hl 0 rfl) ?_
  refine lv_iload_n hx hb dJ7_fill_fda19_19 rfl (lv_at hl 4 rfl) ?_
  refine va_iast hx hb hK hP hD hS 0 0 rfl rfl (vin (by decide +kernel)) dJ7_fill_fda19_20 (fun H locs hP hD hS => ?_)
  have hP : va_P (dC, dI) vwCl [(o0, .inl (cI, 4096, .inl (upd (fun _ => 0) (Int32.toNatClampNeg 0) 0)))] H := hP
  have hD : va_D A [(o0, .inl (cI, 4096, .inl (upd (fun _ => 0) (Int32.toNatClampNeg 0) 0)))] := hD
  refine lv_iinc (v := 1) (lv' := [(4, .int 1), (0, .ref o0), (1, .int 0), (2, .int 1), (3, .int 0)]) hx hb dJ7_fill_fda19_21 hl (k := 0) rfl (by decide +kernel) (by decide) rfl (fun ls hl => ?_)
  refine lv_goto (tgt := 10) hx hb dJ7_fill_fda19_24 (by decide) ?_
  refine lv_iload hx hb dJ7_fill_fda19_10 (lv_at hl 0 rfl) ?_
  refine lv_iload_n hx hb dJ7_fill_fda19_12 rfl (lv_at hl 3 rfl) ?_
  refine lv_icmp_ge (tgt := 27) hx hb dJ7_fill_fda19_13 (by decide) (fun _ => ?_) (fun h9 => absurd (by decide +kernel) h9)
  have hP9 := hP.sub (ws' := [(o0, .inl (cI, 4096, .inl (upd (fun _ => 0) (Int32.toNatClampNeg 0) 0)))]) [0] rfl
  have hD9 := hD.sub (ws' := [(o0, .inl (cI, 4096, .inl (upd (fun _ => 0) (Int32.toNatClampNeg 0) 0)))]) [0] (by decide) rfl
  exact W.vret hx hb hr (fun t ht hW => ⟨⟨(), rfl, trivial, by rw [ht]; exact hP9, va_K.moved hW.alike hK, hD9⟩, hS.F ht⟩) hS.2.2 dJ7_fill_fda19_27
theorem iw_X0_seatsRest_X0 : ∀ w ∈ wsX00, w ∈ wsX0_seatsRest := by decide +kernel
set_option maxHeartbeats 1000000 in
set_option maxRecDepth 100000 in
theorem kX0_seatsRest_1 (l : Launch) (dC : Nat → ClassId) (dI : Nat → Nat → Nat) (cI c2 : ClassId) (o0 : Nat) (o1 : Nat) (o2 : Nat) (o3 : Nat) (sz : Nat) : Met l yX0_seatsRest wsX0_seatsRest ({ frames := 0, cells := 0, slots := 0, locals := 0 }) (va_Pc [.ref o0, .int 0, .int 0] (wPre (dC, dI) [(cI, .int), (c2, .array .int)] [(o0, .inr (0, [.ref o1, .ref o2, .ref o3, .int 0, .int 0, .int 0, .int 0, .int 0]))] sz)) (va_Qi (fun (r : Int32) (_ : Unit) => r = 1) (fun _ t => wPost (dC, dI) [(cI, .int), (c2, .array .int)] (va_A [(o0, .inr (0, [.ref o1, .ref o2, .ref o3, .int 0, .int 0, .int 0, .int 0, .int 0]))] sz) [(o0, .inr (0, [.ref o1, .ref o2, .ref o3, .int 0, .int 0, .int 0, .int 0, .int 0]))] t) (va_A [(o0, .inr (0, [.ref o1, .ref o2, .ref o3, .int 0, .int 0, .int 0, .int 0, .int 0]))] sz)) 0 0 (va_A [(o0, .inr (0, [.ref o1, .ref o2, .ref o3, .int 0, .int 0, .int 0, .int 0, .int 0]))] sz) := by
  refine Met.ofW (cc := cX0_seatsRest) (maxL := 5) (ret := (some .boolean)) (by decide) rfl ?_
  intro p e s m args below meth c s₁ B hml hv
  obtain ⟨rfl, hsz, hP, hK, hD0, hN⟩ := hv
  have hx := B.exec
  have hb := B.bytes
  have hr := B.returns
  have hts := atoms_spec (ws := wsX0_seatsRest) B.pre
  have hown : s.vm.findClass RX0 = some m.cls := findClass_of_methodNamed B.named
  have hlocks := B.notSynchronized
  subst hsz
  have hD := hD0.self (sz := s.heap.size)
  generalize hAe : va_A [(o0, .inr (0, [.ref o1, .ref o2, .ref o3, .int 0, .int 0, .int 0, .int 0, .int 0]))] s.heap.size = A at hD ⊢
  have hA : ∀ q : Nat, s.heap.size ≤ q → A q := fun q h => by rw [← hAe]; exact Or.inr h
  have hS : va_S A s.heap s.heap [] := va_S.rf
  have hP : va_P (dC, dI) vwCl [(o0, .inr (0, [.ref o1, .ref o2, .ref o3, .int 0, .int 0, .int 0, .int 0, .int 0]))] s.heap := hP
  have hl := lv_entry ([.ref o0, .int 0, .int 0]) (n := 5) (Nat.le_of_ble_eq_true rfl)
  rw [lg_entry_eq]
  generalize (lg_sl ([.ref o0, .int 0, .int 0]) ++ List.replicate (5 - (lg_sl ([.ref o0, .int 0, .int 0])).length) Slot.unset).toArray = ls at hl ⊢
  have hl : lv_has ls 5 [(0, .ref o0), (1, .int 0), (2, .int 0)] := hl
  refine lv_iload_n hx hb dX0_seatsRest_0 rfl (lv_at hl 2 rfl) ?_
  refine lv_aload_n hx hb dX0_seatsRest_1 rfl (lv_at hl 0 rfl) ?_
  refine va_get (D := (dC, dI)) (ci := 0) (v := .int 0) (C := RX0) (T := TX0) (N := 8) hx hb hts iw_X0_seatsRest_X0 hown hK hP 0 rfl rfl 4 (by decide) (hts (.fieldLink RX0 25 "HolelessHouse$Benches" "width" "I") (by decide +kernel)) (fun _ h9 => h9) rfl dX0_seatsRest_2 ?_
  refine lv_icmp_lt (tgt := 10) hx hb dX0_seatsRest_5 (by decide) (fun h9 => absurd h9 (by decide +kernel)) (fun _ => ?_)
  refine lv_iconst (v := 1) hx hb dX0_seatsRest_8 (by decide) ?_
  have hP9 := hP.sub (ws' := [(o0, .inr (0, [.ref o1, .ref o2, .ref o3, .int 0, .int 0, .int 0, .int 0, .int 0]))]) [0] rfl
  have hD9 := hD.sub (ws' := [(o0, .inr (0, [.ref o1, .ref o2, .ref o3, .int 0, .int 0, .int 0, .int 0, .int 0]))]) [0] (by decide) rfl
  exact W.zret (v := 1) (ty := .boolean) hx hb hr rfl (fun t ht hW => ⟨⟨1, (), rfl, rfl, by rw [ht]; exact hP9, va_K.moved hW.alike hK, hD9⟩, hS.F ht⟩) hS.2.2 dX0_seatsRest_9
theorem iw_X0_findFirst_X0 : ∀ w ∈ wsX00, w ∈ wsX0_findFirst := by decide +kernel
set_option maxHeartbeats 1000000 in
set_option maxRecDepth 100000 in
theorem kX0_findFirst_1 (l : Launch) (dC : Nat → ClassId) (dI : Nat → Nat → Nat) (cI c2 : ClassId) (o0 : Nat) (o1 : Nat) (o2 : Nat) (o3 : Nat) (sz : Nat) : Met l yX0_findFirst wsX0_findFirst ({ frames := 2, cells := 0, slots := 0, locals := 46 }) (va_Pc [.ref o0] (wPre (dC, dI) [(cI, .int), (c2, .array .int)] [(o0, .inr (0, [.ref o1, .ref o2, .ref o3, .int 0, .int 0, .int 0, .int 0, .int 0])), (o1, .inl (cI, 4096, .inl (fun _ => 0)))] sz)) (va_Qv (fun (_ : Unit) => True) (fun _ t => wPost (dC, dI) [(cI, .int), (c2, .array .int)] (va_A [(o0, .inr (0, [.ref o1, .ref o2, .ref o3, .int 0, .int 0, .int 0, .int 0, .int 0])), (o1, .inl (cI, 4096, .inl (fun _ => 0)))] sz) [(o1, .inl (cI, 4096, .inl (upd (fun _ => 0) (Int32.toNatClampNeg 0) 0))), (o0, .inr (0, [.ref o1, .ref o2, .ref o3, .int 0, .int 0, .int 0, .int 1, .int 0]))] t) (va_A [(o0, .inr (0, [.ref o1, .ref o2, .ref o3, .int 0, .int 0, .int 0, .int 0, .int 0])), (o1, .inl (cI, 4096, .inl (fun _ => 0)))] sz)) 0 0 (va_A [(o0, .inr (0, [.ref o1, .ref o2, .ref o3, .int 0, .int 0, .int 0, .int 0, .int 0])), (o1, .inl (cI, 4096, .inl (fun _ => 0)))] sz) := by
  refine Met.ofW (cc := cX0_findFirst) (maxL := 1) (ret := none) (by decide) rfl ?_
  intro p e s m args below meth c s₁ B hml hv
  obtain ⟨rfl, hsz, hP, hK, hD0, hN⟩ := hv
  have hx := B.exec
  have hb := B.bytes
  have hr := B.returns
  have hts := atoms_spec (ws := wsX0_findFirst) B.pre
  have hown : s.vm.findClass RX0 = some m.cls := findClass_of_methodNamed B.named
  have hlocks := B.notSynchronized
  subst hsz
  have hD := hD0.self (sz := s.heap.size)
  generalize hAe : va_A [(o0, .inr (0, [.ref o1, .ref o2, .ref o3, .int 0, .int 0, .int 0, .int 0, .int 0])), (o1, .inl (cI, 4096, .inl (fun _ => 0)))] s.heap.size = A at hD ⊢
  have hA : ∀ q : Nat, s.heap.size ≤ q → A q := fun q h => by rw [← hAe]; exact Or.inr h
  have hS : va_S A s.heap s.heap [] := va_S.rf
  have hP : va_P (dC, dI) vwCl [(o0, .inr (0, [.ref o1, .ref o2, .ref o3, .int 0, .int 0, .int 0, .int 0, .int 0])), (o1, .inl (cI, 4096, .inl (fun _ => 0)))] s.heap := hP
  have hl := lv_entry ([.ref o0]) (n := 1) (Nat.le_of_ble_eq_true rfl)
  rw [lg_entry_eq]
  generalize (lg_sl ([.ref o0]) ++ List.replicate (1 - (lg_sl ([.ref o0])).length) Slot.unset).toArray = ls at hl ⊢
  have hl : lv_has ls 1 [(0, .ref o0)] := hl
  refine lv_aload_n hx hb dX0_findFirst_0 rfl (lv_at hl 0 rfl) ?_
  refine va_get (D := (dC, dI)) (ci := 0) (v := .ref o1) (C := RX0) (T := TX0) (N := 8) hx hb hts iw_X0_findFirst_X0 hown hK hP 0 rfl rfl 0 (by decide) (hts (.fieldLink RX0 38 "HolelessHouse$Benches" "notes" "[I") (by decide +kernel)) (fun _ h9 => h9) rfl dX0_findFirst_1 ?_
  refine lv_iconst (v := 0) hx hb dX0_findFirst_4 (by decide) ?_
  refine lv_iconst (v := 1) hx hb dX0_findFirst_5 (by decide) ?_
  refine lv_aload_n hx hb dX0_findFirst_6 rfl (lv_at hl 0 rfl) ?_
  refine va_get (D := (dC, dI)) (ci := 0) (v := .int 0) (C := RX0) (T := TX0) (N := 8) hx hb hts iw_X0_findFirst_X0 hown hK hP 0 rfl rfl 4 (by decide) (hts (.fieldLink RX0 25 "HolelessHouse$Benches" "width" "I") (by decide +kernel)) (fun _ h9 => h9) rfl dX0_findFirst_7 ?_
  refine lv_ishl hx hb dX0_findFirst_10 (tk_i (v := 1) (by decide +kernel) ?_)
  refine lv_iconst (v := 0) hx hb dX0_findFirst_11 (by decide) ?_
  refine kcall_v (D := (dC, dI)) (S := Unit) (wc := [(o1, .inl (cI, 4096, .inl (fun _ => 0)))]) (wr := [(o0, .inr (0, [.ref o1, .ref o2, .ref o3, .int 0, .int 0, .int 0, .int 0, .int 0]))]) (w1 := fun _ => [(o1, .inl (cI, 4096, .inl (upd (fun _ => 0) (Int32.toNatClampNeg 0) 0)))]) (fun hPc hDc => va_runS (As := [.ref o1, .int 0, .int 1, .int 0]) (rest := []) ⟨hx, hb, hml, hown, hts⟩ (kJ7_fill_fda19_2 l dC dI cI c2 o1 s.heap.size) (va_cwS 4 hts gX0_findFirst_J7_fill_fda19 rfl rfl rfl (by decide +kernel) ⟨Nat.le_of_ble_eq_true rfl, Nat.le_of_ble_eq_true rfl⟩) (pre_S hPc hK hDc hN) rfl rfl hl.1 rfl (lv_room (Nat.le_of_ble_eq_true rfl)) dX0_findFirst_12 ⟨Nat.le_of_ble_eq_true rfl, Nat.le_of_ble_eq_true rfl⟩) hP hD hS hA [1] [0] rfl rfl (by decide) (by decide) (by decide) (fun u H locs hP hD hS => ?_)
  have hP : va_P (dC, dI) vwCl [(o0, .inr (0, [.ref o1, .ref o2, .ref o3, .int 0, .int 0, .int 0, .int 0, .int 0])), (o1, .inl (cI, 4096, .inl (upd (fun _ => 0) (Int32.toNatClampNeg 0) 0)))] H := hP
  have hD : va_D A [(o0, .inr (0, [.ref o1, .ref o2, .ref o3, .int 0, .int 0, .int 0, .int 0, .int 0])), (o1, .inl (cI, 4096, .inl (upd (fun _ => 0) (Int32.toNatClampNeg 0) 0)))] := hD
  refine lv_aload_n hx hb dX0_findFirst_15 rfl (lv_at hl 0 rfl) ?_
  refine lv_aload_n hx hb dX0_findFirst_16 rfl (lv_at hl 0 rfl) ?_
  refine lv_iconst (v := 0) hx hb dX0_findFirst_17 (by decide) ?_
  refine lv_iconst (v := 0) hx hb dX0_findFirst_18 (by decide) ?_
  refine kcall_i (D := (dC, dI)) (S := Unit) (v := 1) (wc := [(o0, .inr (0, [.ref o1, .ref o2, .ref o3, .int 0, .int 0, .int 0, .int 0, .int 0]))]) (wr := [(o1, .inl (cI, 4096, .inl (upd (fun _ => 0) (Int32.toNatClampNeg 0) 0)))]) (w1 := fun _ => [(o0, .inr (0, [.ref o1, .ref o2, .ref o3, .int 0, .int 0, .int 0, .int 0, .int 0]))]) (fun hPc hDc => va_runS (As := [.ref o0, .int 0, .int 0]) (rest := [.ref o0]) ⟨hx, hb, hml, hown, hts⟩ (kX0_seatsRest_1 l dC dI cI c2 o0 o1 o2 o3 H.size) (va_cwS 3 hts gX0_findFirst_X0_seatsRest rfl rfl rfl (by decide +kernel) ⟨Nat.le_of_ble_eq_true rfl, Nat.le_of_ble_eq_true rfl⟩) (pre_S hPc hK hDc hN) rfl rfl hl.1 rfl (lv_room (Nat.le_of_ble_eq_true rfl)) dX0_findFirst_19 ⟨Nat.le_of_ble_eq_true rfl, Nat.le_of_ble_eq_true rfl⟩) hP hD hS hA [0] [1] rfl rfl (by decide) (by decide) (by decide) (fun u H locs hP hD hS => ?_)
  have hP : va_P (dC, dI) vwCl [(o1, .inl (cI, 4096, .inl (upd (fun _ => 0) (Int32.toNatClampNeg 0) 0))), (o0, .inr (0, [.ref o1, .ref o2, .ref o3, .int 0, .int 0, .int 0, .int 0, .int 0]))] H := hP
  have hD : va_D A [(o1, .inl (cI, 4096, .inl (upd (fun _ => 0) (Int32.toNatClampNeg 0) 0))), (o0, .inr (0, [.ref o1, .ref o2, .ref o3, .int 0, .int 0, .int 0, .int 0, .int 0]))] := hD
  refine va_put (D := (dC, dI)) (ci := 0) (v := .int 1) (ty := .boolean) (C := RX0) (T := TX0) (N := 8) hx hb hts iw_X0_findFirst_X0 tyX0 tyX0_ok nmX0 hown hK hP hD hS 1 rfl rfl 6 (by decide) (hts (.fieldLink RX0 31 "HolelessHouse$Benches" "seated" "Z") (by decide +kernel)) (fun _ h9 => h9) rfl (by decide +kernel) rfl rfl (Nat.le_of_ble_eq_true rfl) dX0_findFirst_22 (fun H locs hP hD hS => ?_)
  have hP : va_P (dC, dI) vwCl [(o1, .inl (cI, 4096, .inl (upd (fun _ => 0) (Int32.toNatClampNeg 0) 0))), (o0, .inr (0, [.ref o1, .ref o2, .ref o3, .int 0, .int 0, .int 0, .int 1, .int 0]))] H := hP
  have hD : va_D A [(o1, .inl (cI, 4096, .inl (upd (fun _ => 0) (Int32.toNatClampNeg 0) 0))), (o0, .inr (0, [.ref o1, .ref o2, .ref o3, .int 0, .int 0, .int 0, .int 1, .int 0]))] := hD
  have hP9 := hP.sub (ws' := [(o1, .inl (cI, 4096, .inl (upd (fun _ => 0) (Int32.toNatClampNeg 0) 0))), (o0, .inr (0, [.ref o1, .ref o2, .ref o3, .int 0, .int 0, .int 0, .int 1, .int 0]))]) [0, 1] rfl
  have hD9 := hD.sub (ws' := [(o1, .inl (cI, 4096, .inl (upd (fun _ => 0) (Int32.toNatClampNeg 0) 0))), (o0, .inr (0, [.ref o1, .ref o2, .ref o3, .int 0, .int 0, .int 0, .int 1, .int 0]))]) [0, 1] (by decide) rfl
  exact W.vret hx hb hr (fun t ht hW => ⟨⟨(), rfl, trivial, by rw [ht]; exact hP9, va_K.moved hW.alike hK, hD9⟩, hS.F ht⟩) hS.2.2 dX0_findFirst_25
theorem iw_X11_bringSpans_X0 : ∀ w ∈ wsX00, w ∈ wsX11_bringSpans := by decide +kernel
theorem iw_X11_bringSpans_X1 : ∀ w ∈ wsX10, w ∈ wsX11_bringSpans := by decide +kernel
theorem iw_X11_bringSpans_X11 : ∀ w ∈ wsX110, w ∈ wsX11_bringSpans := by decide +kernel
theorem iw_X11_bringSpans_X4 : ∀ w ∈ wsX40, w ∈ wsX11_bringSpans := by decide +kernel
set_option maxHeartbeats 1000000 in
set_option maxRecDepth 100000 in
theorem kX11_bringSpans_1 (l : Launch) (dC : Nat → ClassId) (dI : Nat → Nat → Nat) (cI c2 : ClassId) (o0 : Nat) (o1 : Nat) (o2 : Nat) (o3 : Nat) (o4 : Nat) (o5 : Nat) (o6 : Nat) (o7 : Nat) (o8 : Nat) (o9 : Nat) (o10 : Nat) (o11 : Nat) (o12 : Nat) (o13 : Nat) (o14 : Nat) (o15 : Nat) (o16 : Nat) (o17 : Nat) (o18 : Nat) (o19 : Nat) (o20 : Nat) (sz : Nat) : Met l yX11_bringSpans wsX11_bringSpans ({ frames := 4, cells := 0, slots := 0, locals := 92 }) (va_Pc [.ref o0] (wPre (dC, dI) [(cI, .int), (c2, .array .int)] [(o0, .inr (11, [.ref o2, .ref o5, .ref o6, .ref o7, .ref o3, .ref o8, .ref o9, .ref o10, .ref o11, .ref o1, .ref o12, .ref o13, .int 0])), (o1, .inr (0, [.ref o4, .ref o14, .ref o15, .int 0, .int 0, .int 0, .int 0, .int (-1)])), (o2, .inr (4, [.ref o16, .int 0, .int 0])), (o3, .inr (1, [.int 0, .ref o17, .ref o18, .ref o19, .ref o20, .int 0, .int (-1), .int (-1)])), (o4, .inl (cI, 4096, .inl (fun _ => 0)))] sz)) (va_Qv (fun (_ : Unit) => True) (fun _ t => wPost (dC, dI) [(cI, .int), (c2, .array .int)] (va_A [(o0, .inr (11, [.ref o2, .ref o5, .ref o6, .ref o7, .ref o3, .ref o8, .ref o9, .ref o10, .ref o11, .ref o1, .ref o12, .ref o13, .int 0])), (o1, .inr (0, [.ref o4, .ref o14, .ref o15, .int 0, .int 0, .int 0, .int 0, .int (-1)])), (o2, .inr (4, [.ref o16, .int 0, .int 0])), (o3, .inr (1, [.int 0, .ref o17, .ref o18, .ref o19, .ref o20, .int 0, .int (-1), .int (-1)])), (o4, .inl (cI, 4096, .inl (fun _ => 0)))] sz) [(o0, .inr (11, [.ref o2, .ref o5, .ref o6, .ref o7, .ref o3, .ref o8, .ref o9, .ref o10, .ref o11, .ref o1, .ref o12, .ref o13, .int 0])), (o2, .inr (4, [.ref o16, .int 0, .int 0])), (o3, .inr (1, [.int 0, .ref o17, .ref o18, .ref o19, .ref o20, .int 0, .int 0, .int (-1)])), (o4, .inl (cI, 4096, .inl (upd (fun _ => 0) (Int32.toNatClampNeg 0) 0))), (o1, .inr (0, [.ref o4, .ref o14, .ref o15, .int 0, .int 0, .int 0, .int 1, .int 0]))] t) (va_A [(o0, .inr (11, [.ref o2, .ref o5, .ref o6, .ref o7, .ref o3, .ref o8, .ref o9, .ref o10, .ref o11, .ref o1, .ref o12, .ref o13, .int 0])), (o1, .inr (0, [.ref o4, .ref o14, .ref o15, .int 0, .int 0, .int 0, .int 0, .int (-1)])), (o2, .inr (4, [.ref o16, .int 0, .int 0])), (o3, .inr (1, [.int 0, .ref o17, .ref o18, .ref o19, .ref o20, .int 0, .int (-1), .int (-1)])), (o4, .inl (cI, 4096, .inl (fun _ => 0)))] sz)) 0 0 (va_A [(o0, .inr (11, [.ref o2, .ref o5, .ref o6, .ref o7, .ref o3, .ref o8, .ref o9, .ref o10, .ref o11, .ref o1, .ref o12, .ref o13, .int 0])), (o1, .inr (0, [.ref o4, .ref o14, .ref o15, .int 0, .int 0, .int 0, .int 0, .int (-1)])), (o2, .inr (4, [.ref o16, .int 0, .int 0])), (o3, .inr (1, [.int 0, .ref o17, .ref o18, .ref o19, .ref o20, .int 0, .int (-1), .int (-1)])), (o4, .inl (cI, 4096, .inl (fun _ => 0)))] sz) := by
  refine Met.ofW (cc := cX11_bringSpans) (maxL := 2) (ret := none) (by decide) rfl ?_
  intro p e s m args below meth c s₁ B hml hv
  obtain ⟨rfl, hsz, hP, hK, hD0, hN⟩ := hv
  have hx := B.exec
  have hb := B.bytes
  have hr := B.returns
  have hts := atoms_spec (ws := wsX11_bringSpans) B.pre
  have hown : s.vm.findClass RX11 = some m.cls := findClass_of_methodNamed B.named
  have hlocks := B.notSynchronized
  subst hsz
  have hD := hD0.self (sz := s.heap.size)
  generalize hAe : va_A [(o0, .inr (11, [.ref o2, .ref o5, .ref o6, .ref o7, .ref o3, .ref o8, .ref o9, .ref o10, .ref o11, .ref o1, .ref o12, .ref o13, .int 0])), (o1, .inr (0, [.ref o4, .ref o14, .ref o15, .int 0, .int 0, .int 0, .int 0, .int (-1)])), (o2, .inr (4, [.ref o16, .int 0, .int 0])), (o3, .inr (1, [.int 0, .ref o17, .ref o18, .ref o19, .ref o20, .int 0, .int (-1), .int (-1)])), (o4, .inl (cI, 4096, .inl (fun _ => 0)))] s.heap.size = A at hD ⊢
  have hA : ∀ q : Nat, s.heap.size ≤ q → A q := fun q h => by rw [← hAe]; exact Or.inr h
  have hS : va_S A s.heap s.heap [] := va_S.rf
  have hP : va_P (dC, dI) vwCl [(o0, .inr (11, [.ref o2, .ref o5, .ref o6, .ref o7, .ref o3, .ref o8, .ref o9, .ref o10, .ref o11, .ref o1, .ref o12, .ref o13, .int 0])), (o1, .inr (0, [.ref o4, .ref o14, .ref o15, .int 0, .int 0, .int 0, .int 0, .int (-1)])), (o2, .inr (4, [.ref o16, .int 0, .int 0])), (o3, .inr (1, [.int 0, .ref o17, .ref o18, .ref o19, .ref o20, .int 0, .int (-1), .int (-1)])), (o4, .inl (cI, 4096, .inl (fun _ => 0)))] s.heap := hP
  have hl := lv_entry ([.ref o0]) (n := 2) (Nat.le_of_ble_eq_true rfl)
  rw [lg_entry_eq]
  generalize (lg_sl ([.ref o0]) ++ List.replicate (2 - (lg_sl ([.ref o0])).length) Slot.unset).toArray = ls at hl ⊢
  have hl : lv_has ls 2 [(0, .ref o0)] := hl
  refine lv_aload_n hx hb dX11_bringSpans_0 rfl (lv_at hl 0 rfl) ?_
  refine va_get (D := (dC, dI)) (ci := 11) (v := .ref o1) (C := RX11) (T := TX11) (N := 13) hx hb hts iw_X11_bringSpans_X11 hown hK hP 0 rfl rfl 9 (by decide) (hts (.fieldLink RX11 75 "HolelessHouse" "spans" "LHolelessHouse$Benches;") (by decide +kernel)) (fun _ h9 => h9) rfl dX11_bringSpans_1 ?_
  refine va_getN (D := (dC, dI)) (ci := 0) (v := .int (-1)) (C := RX0) (T := TX0) (N := 8) hx hb hts iw_X11_bringSpans_X0 hown hK hP 1 rfl rfl 7 (by decide) (hN.use ns_47) (fun _ h9 => h9) rfl dX11_bringSpans_4 ?_
  refine lv_aload_n hx hb dX11_bringSpans_7 rfl (lv_at hl 0 rfl) ?_
  refine va_get (D := (dC, dI)) (ci := 11) (v := .ref o2) (C := RX11) (T := TX11) (N := 13) hx hb hts iw_X11_bringSpans_X11 hown hK hP 0 rfl rfl 0 (by decide) (hts (.fieldLink RX11 10 "HolelessHouse" "graph" "LHolelessHouse$Graph;") (by decide +kernel)) (fun _ h9 => h9) rfl dX11_bringSpans_8 ?_
  refine va_getN (D := (dC, dI)) (ci := 4) (v := .int 0) (C := RX4) (T := TX4) (N := 3) hx hb hts iw_X11_bringSpans_X4 hown hK hP 2 rfl rfl 2 (by decide) (hN.use ns_20) (fun _ h9 => h9) rfl dX11_bringSpans_11 ?_
  refine lv_icmp_ne (tgt := 18) hx hb dX11_bringSpans_14 (by decide) (fun _ => ?_) (fun h9 => absurd h9 (by decide +kernel))
  refine lv_aload_n hx hb dX11_bringSpans_18 rfl (lv_at hl 0 rfl) ?_
  refine va_get (D := (dC, dI)) (ci := 11) (v := .ref o1) (C := RX11) (T := TX11) (N := 13) hx hb hts iw_X11_bringSpans_X11 hown hK hP 0 rfl rfl 9 (by decide) (hts (.fieldLink RX11 75 "HolelessHouse" "spans" "LHolelessHouse$Benches;") (by decide +kernel)) (fun _ h9 => h9) rfl dX11_bringSpans_19 ?_
  refine lv_aload_n hx hb dX11_bringSpans_22 rfl (lv_at hl 0 rfl) ?_
  refine va_get (D := (dC, dI)) (ci := 11) (v := .ref o2) (C := RX11) (T := TX11) (N := 13) hx hb hts iw_X11_bringSpans_X11 hown hK hP 0 rfl rfl 0 (by decide) (hts (.fieldLink RX11 10 "HolelessHouse" "graph" "LHolelessHouse$Graph;") (by decide +kernel)) (fun _ h9 => h9) rfl dX11_bringSpans_23 ?_
  refine va_getN (D := (dC, dI)) (ci := 4) (v := .int 0) (C := RX4) (T := TX4) (N := 3) hx hb hts iw_X11_bringSpans_X4 hown hK hP 2 rfl rfl 2 (by decide) (hN.use ns_20) (fun _ h9 => h9) rfl dX11_bringSpans_26 ?_
  refine va_putN (D := (dC, dI)) (ci := 0) (v := .int 0) (ty := .int) (C := RX0) (T := TX0) (N := 8) hx hb hts iw_X11_bringSpans_X0 tyX0 tyX0_ok nmX0 hown hK hP hD hS 1 rfl rfl 7 (by decide) (hN.use ns_47) (fun _ h9 => h9) rfl (by decide +kernel) rfl rfl (Nat.le_of_ble_eq_true rfl) dX11_bringSpans_29 (fun H locs hP hD hS => ?_)
  have hP : va_P (dC, dI) vwCl [(o0, .inr (11, [.ref o2, .ref o5, .ref o6, .ref o7, .ref o3, .ref o8, .ref o9, .ref o10, .ref o11, .ref o1, .ref o12, .ref o13, .int 0])), (o1, .inr (0, [.ref o4, .ref o14, .ref o15, .int 0, .int 0, .int 0, .int 0, .int 0])), (o2, .inr (4, [.ref o16, .int 0, .int 0])), (o3, .inr (1, [.int 0, .ref o17, .ref o18, .ref o19, .ref o20, .int 0, .int (-1), .int (-1)])), (o4, .inl (cI, 4096, .inl (fun _ => 0)))] H := hP
  have hD : va_D A [(o0, .inr (11, [.ref o2, .ref o5, .ref o6, .ref o7, .ref o3, .ref o8, .ref o9, .ref o10, .ref o11, .ref o1, .ref o12, .ref o13, .int 0])), (o1, .inr (0, [.ref o4, .ref o14, .ref o15, .int 0, .int 0, .int 0, .int 0, .int 0])), (o2, .inr (4, [.ref o16, .int 0, .int 0])), (o3, .inr (1, [.int 0, .ref o17, .ref o18, .ref o19, .ref o20, .int 0, .int (-1), .int (-1)])), (o4, .inl (cI, 4096, .inl (fun _ => 0)))] := hD
  refine lv_aload_n hx hb dX11_bringSpans_32 rfl (lv_at hl 0 rfl) ?_
  refine va_get (D := (dC, dI)) (ci := 11) (v := .ref o3) (C := RX11) (T := TX11) (N := 13) hx hb hts iw_X11_bringSpans_X11 hown hK hP 0 rfl rfl 4 (by decide) (hts (.fieldLink RX11 42 "HolelessHouse" "cliques" "LHolelessHouse$Cliques;") (by decide +kernel)) (fun _ h9 => h9) rfl dX11_bringSpans_33 ?_
  refine lv_aload_n hx hb dX11_bringSpans_36 rfl (lv_at hl 0 rfl) ?_
  refine va_get (D := (dC, dI)) (ci := 11) (v := .ref o2) (C := RX11) (T := TX11) (N := 13) hx hb hts iw_X11_bringSpans_X11 hown hK hP 0 rfl rfl 0 (by decide) (hts (.fieldLink RX11 10 "HolelessHouse" "graph" "LHolelessHouse$Graph;") (by decide +kernel)) (fun _ h9 => h9) rfl dX11_bringSpans_37 ?_
  refine kcall_v (D := (dC, dI)) (S := Unit) (wc := [(o3, .inr (1, [.int 0, .ref o17, .ref o18, .ref o19, .ref o20, .int 0, .int (-1), .int (-1)])), (o2, .inr (4, [.ref o16, .int 0, .int 0]))]) (wr := [(o0, .inr (11, [.ref o2, .ref o5, .ref o6, .ref o7, .ref o3, .ref o8, .ref o9, .ref o10, .ref o11, .ref o1, .ref o12, .ref o13, .int 0])), (o1, .inr (0, [.ref o4, .ref o14, .ref o15, .int 0, .int 0, .int 0, .int 0, .int 0])), (o4, .inl (cI, 4096, .inl (fun _ => 0)))]) (w1 := fun _ => [(o2, .inr (4, [.ref o16, .int 0, .int 0])), (o3, .inr (1, [.int 0, .ref o17, .ref o18, .ref o19, .ref o20, .int 0, .int 0, .int (-1)]))]) (fun hPc hDc => va_runVN (As := [.ref o2]) (rest := []) ⟨hx, hb, hml, hown, hts⟩ (kX1_bring_1 l dC dI cI c2 o3 o2 o17 o18 o19 o20 o16 H.size) ⟨va_cnB 1 hts gX11_bringSpans_X1_bring_n193 rfl rfl rfl (hN.1 _ ns_105) (hts (.initialized RX1) (by decide +kernel)) (by decide +kernel) ⟨Nat.le_of_ble_eq_true rfl, Nat.le_of_ble_eq_true rfl⟩, (hts (.instanceMethod yX1_bring) (by decide +kernel)), (hts (.selects RX1 yX1_bring yX1_bring) (by decide +kernel))⟩ (pre_V hPc hK hDc hN (ci := 1) (q0 := 0) rfl rfl) rfl rfl hl.1 rfl (lv_room (Nat.le_of_ble_eq_true rfl)) dX11_bringSpans_40 ⟨Nat.le_of_ble_eq_true rfl, Nat.le_of_ble_eq_true rfl⟩) hP hD hS hA [3, 2] [0, 1, 4] rfl rfl (by decide) (by decide) (by decide) (fun u H locs hP hD hS => ?_)
  have hP : va_P (dC, dI) vwCl [(o0, .inr (11, [.ref o2, .ref o5, .ref o6, .ref o7, .ref o3, .ref o8, .ref o9, .ref o10, .ref o11, .ref o1, .ref o12, .ref o13, .int 0])), (o1, .inr (0, [.ref o4, .ref o14, .ref o15, .int 0, .int 0, .int 0, .int 0, .int 0])), (o4, .inl (cI, 4096, .inl (fun _ => 0))), (o2, .inr (4, [.ref o16, .int 0, .int 0])), (o3, .inr (1, [.int 0, .ref o17, .ref o18, .ref o19, .ref o20, .int 0, .int 0, .int (-1)]))] H := hP
  have hD : va_D A [(o0, .inr (11, [.ref o2, .ref o5, .ref o6, .ref o7, .ref o3, .ref o8, .ref o9, .ref o10, .ref o11, .ref o1, .ref o12, .ref o13, .int 0])), (o1, .inr (0, [.ref o4, .ref o14, .ref o15, .int 0, .int 0, .int 0, .int 0, .int 0])), (o4, .inl (cI, 4096, .inl (fun _ => 0))), (o2, .inr (4, [.ref o16, .int 0, .int 0])), (o3, .inr (1, [.int 0, .ref o17, .ref o18, .ref o19, .ref o20, .int 0, .int 0, .int (-1)]))] := hD
  refine lv_aload_n hx hb dX11_bringSpans_43 rfl (lv_at hl 0 rfl) ?_
  refine va_get (D := (dC, dI)) (ci := 11) (v := .ref o3) (C := RX11) (T := TX11) (N := 13) hx hb hts iw_X11_bringSpans_X11 hown hK hP 0 rfl rfl 4 (by decide) (hts (.fieldLink RX11 42 "HolelessHouse" "cliques" "LHolelessHouse$Cliques;") (by decide +kernel)) (fun _ h9 => h9) rfl dX11_bringSpans_44 ?_
  refine va_getN (D := (dC, dI)) (ci := 1) (v := .int 0) (C := RX1) (T := TX1) (N := 8) hx hb hts iw_X11_bringSpans_X1 hown hK hP 4 rfl rfl 5 (by decide) (hN.use ns_36) (fun _ h9 => h9) rfl dX11_bringSpans_47 ?_
  refine lv_bipush (v := 12) hx hb dX11_bringSpans_50 (by decide) ?_
  refine lv_icmp_le (tgt := 63) hx hb dX11_bringSpans_52 (by decide) (fun _ => ?_) (fun h9 => absurd (by decide +kernel) h9)
  refine lv_aload_n hx hb dX11_bringSpans_63 rfl (lv_at hl 0 rfl) ?_
  refine va_get (D := (dC, dI)) (ci := 11) (v := .ref o1) (C := RX11) (T := TX11) (N := 13) hx hb hts iw_X11_bringSpans_X11 hown hK hP 0 rfl rfl 9 (by decide) (hts (.fieldLink RX11 75 "HolelessHouse" "spans" "LHolelessHouse$Benches;") (by decide +kernel)) (fun _ h9 => h9) rfl dX11_bringSpans_64 ?_
  refine lv_aload_n hx hb dX11_bringSpans_67 rfl (lv_at hl 0 rfl) ?_
  refine va_get (D := (dC, dI)) (ci := 11) (v := .ref o3) (C := RX11) (T := TX11) (N := 13) hx hb hts iw_X11_bringSpans_X11 hown hK hP 0 rfl rfl 4 (by decide) (hts (.fieldLink RX11 42 "HolelessHouse" "cliques" "LHolelessHouse$Cliques;") (by decide +kernel)) (fun _ h9 => h9) rfl dX11_bringSpans_68 ?_
  refine va_getN (D := (dC, dI)) (ci := 1) (v := .int 0) (C := RX1) (T := TX1) (N := 8) hx hb hts iw_X11_bringSpans_X1 hown hK hP 4 rfl rfl 5 (by decide) (hN.use ns_36) (fun _ h9 => h9) rfl dX11_bringSpans_71 ?_
  refine kcall_v (D := (dC, dI)) (S := Unit) (wc := [(o1, .inr (0, [.ref o4, .ref o14, .ref o15, .int 0, .int 0, .int 0, .int 0, .int 0]))]) (wr := [(o0, .inr (11, [.ref o2, .ref o5, .ref o6, .ref o7, .ref o3, .ref o8, .ref o9, .ref o10, .ref o11, .ref o1, .ref o12, .ref o13, .int 0])), (o4, .inl (cI, 4096, .inl (fun _ => 0))), (o2, .inr (4, [.ref o16, .int 0, .int 0])), (o3, .inr (1, [.int 0, .ref o17, .ref o18, .ref o19, .ref o20, .int 0, .int 0, .int (-1)]))]) (w1 := fun _ => [(o1, .inr (0, [.ref o4, .ref o14, .ref o15, .int 0, .int 0, .int 0, .int 0, .int 0]))]) (fun hPc hDc => va_runVN (As := [.int 0]) (rest := []) ⟨hx, hb, hml, hown, hts⟩ (kX0_restart_1 l dC dI cI c2 o1 o4 o14 o15 H.size) ⟨va_cnB 1 hts gX11_bringSpans_X0_restart_n303 rfl rfl rfl (hN.1 _ ns_121) (hts (.initialized RX0) (by decide +kernel)) (by decide +kernel) ⟨Nat.le_of_ble_eq_true rfl, Nat.le_of_ble_eq_true rfl⟩, (hts (.instanceMethod yX0_restart) (by decide +kernel)), (hts (.selects RX0 yX0_restart yX0_restart) (by decide +kernel))⟩ (pre_V hPc hK hDc hN (ci := 0) (q0 := 0) rfl rfl) rfl rfl hl.1 rfl (lv_room (Nat.le_of_ble_eq_true rfl)) dX11_bringSpans_74 ⟨Nat.le_of_ble_eq_true rfl, Nat.le_of_ble_eq_true rfl⟩) hP hD hS hA [1] [0, 2, 3, 4] rfl rfl (by decide) (by decide) (by decide) (fun u H locs hP hD hS => ?_)
  have hP : va_P (dC, dI) vwCl [(o0, .inr (11, [.ref o2, .ref o5, .ref o6, .ref o7, .ref o3, .ref o8, .ref o9, .ref o10, .ref o11, .ref o1, .ref o12, .ref o13, .int 0])), (o4, .inl (cI, 4096, .inl (fun _ => 0))), (o2, .inr (4, [.ref o16, .int 0, .int 0])), (o3, .inr (1, [.int 0, .ref o17, .ref o18, .ref o19, .ref o20, .int 0, .int 0, .int (-1)])), (o1, .inr (0, [.ref o4, .ref o14, .ref o15, .int 0, .int 0, .int 0, .int 0, .int 0]))] H := hP
  have hD : va_D A [(o0, .inr (11, [.ref o2, .ref o5, .ref o6, .ref o7, .ref o3, .ref o8, .ref o9, .ref o10, .ref o11, .ref o1, .ref o12, .ref o13, .int 0])), (o4, .inl (cI, 4096, .inl (fun _ => 0))), (o2, .inr (4, [.ref o16, .int 0, .int 0])), (o3, .inr (1, [.int 0, .ref o17, .ref o18, .ref o19, .ref o20, .int 0, .int 0, .int (-1)])), (o1, .inr (0, [.ref o4, .ref o14, .ref o15, .int 0, .int 0, .int 0, .int 0, .int 0]))] := hD
  refine lv_iconst (v := 0) hx hb dX11_bringSpans_77 (by decide) ?_
  refine lv_istore_n (lv' := [(1, .int 0), (0, .ref o0)]) hx hb dX11_bringSpans_78 rfl hl (by decide) rfl (fun ls hl => ?_)
  refine lv_iload_n hx hb dX11_bringSpans_79 rfl (lv_at hl 0 rfl) ?_
  refine lv_aload_n hx hb dX11_bringSpans_80 rfl (lv_at hl 1 rfl) ?_
  refine va_get (D := (dC, dI)) (ci := 11) (v := .ref o2) (C := RX11) (T := TX11) (N := 13) hx hb hts iw_X11_bringSpans_X11 hown hK hP 0 rfl rfl 0 (by decide) (hts (.fieldLink RX11 10 "HolelessHouse" "graph" "LHolelessHouse$Graph;") (by decide +kernel)) (fun _ h9 => h9) rfl dX11_bringSpans_81 ?_
  refine va_getN (D := (dC, dI)) (ci := 4) (v := .int 0) (C := RX4) (T := TX4) (N := 3) hx hb hts iw_X11_bringSpans_X4 hown hK hP 2 rfl rfl 1 (by decide) (hN.use ns_14) (fun _ h9 => h9) rfl dX11_bringSpans_84 ?_
  refine lv_icmp_ge (tgt := 111) hx hb dX11_bringSpans_87 (by decide) (fun _ => ?_) (fun h9 => absurd (by decide +kernel) h9)
  refine lv_aload_n hx hb dX11_bringSpans_111 rfl (lv_at hl 1 rfl) ?_
  refine va_get (D := (dC, dI)) (ci := 11) (v := .ref o1) (C := RX11) (T := TX11) (N := 13) hx hb hts iw_X11_bringSpans_X11 hown hK hP 0 rfl rfl 9 (by decide) (hts (.fieldLink RX11 75 "HolelessHouse" "spans" "LHolelessHouse$Benches;") (by decide +kernel)) (fun _ h9 => h9) rfl dX11_bringSpans_112 ?_
  refine kcall_v (D := (dC, dI)) (S := Unit) (wc := [(o1, .inr (0, [.ref o4, .ref o14, .ref o15, .int 0, .int 0, .int 0, .int 0, .int 0])), (o4, .inl (cI, 4096, .inl (fun _ => 0)))]) (wr := [(o0, .inr (11, [.ref o2, .ref o5, .ref o6, .ref o7, .ref o3, .ref o8, .ref o9, .ref o10, .ref o11, .ref o1, .ref o12, .ref o13, .int 0])), (o2, .inr (4, [.ref o16, .int 0, .int 0])), (o3, .inr (1, [.int 0, .ref o17, .ref o18, .ref o19, .ref o20, .int 0, .int 0, .int (-1)]))]) (w1 := fun _ => [(o4, .inl (cI, 4096, .inl (upd (fun _ => 0) (Int32.toNatClampNeg 0) 0))), (o1, .inr (0, [.ref o4, .ref o14, .ref o15, .int 0, .int 0, .int 0, .int 1, .int 0]))]) (fun hPc hDc => va_runVN (As := []) (rest := []) ⟨hx, hb, hml, hown, hts⟩ (kX0_findFirst_1 l dC dI cI c2 o1 o4 o14 o15 H.size) ⟨va_cnB 0 hts gX11_bringSpans_X0_findFirst_n310 rfl rfl rfl (hN.1 _ ns_124) (hts (.initialized RX0) (by decide +kernel)) (by decide +kernel) ⟨Nat.le_of_ble_eq_true rfl, Nat.le_of_ble_eq_true rfl⟩, (hts (.instanceMethod yX0_findFirst) (by decide +kernel)), (hts (.selects RX0 yX0_findFirst yX0_findFirst) (by decide +kernel))⟩ (pre_V hPc hK hDc hN (ci := 0) (q0 := 0) rfl rfl) rfl rfl hl.1 rfl (lv_room (Nat.le_of_ble_eq_true rfl)) dX11_bringSpans_115 ⟨Nat.le_of_ble_eq_true rfl, Nat.le_of_ble_eq_true rfl⟩) hP hD hS hA [4, 1] [0, 2, 3] rfl rfl (by decide) (by decide) (by decide) (fun u H locs hP hD hS => ?_)
  have hP : va_P (dC, dI) vwCl [(o0, .inr (11, [.ref o2, .ref o5, .ref o6, .ref o7, .ref o3, .ref o8, .ref o9, .ref o10, .ref o11, .ref o1, .ref o12, .ref o13, .int 0])), (o2, .inr (4, [.ref o16, .int 0, .int 0])), (o3, .inr (1, [.int 0, .ref o17, .ref o18, .ref o19, .ref o20, .int 0, .int 0, .int (-1)])), (o4, .inl (cI, 4096, .inl (upd (fun _ => 0) (Int32.toNatClampNeg 0) 0))), (o1, .inr (0, [.ref o4, .ref o14, .ref o15, .int 0, .int 0, .int 0, .int 1, .int 0]))] H := hP
  have hD : va_D A [(o0, .inr (11, [.ref o2, .ref o5, .ref o6, .ref o7, .ref o3, .ref o8, .ref o9, .ref o10, .ref o11, .ref o1, .ref o12, .ref o13, .int 0])), (o2, .inr (4, [.ref o16, .int 0, .int 0])), (o3, .inr (1, [.int 0, .ref o17, .ref o18, .ref o19, .ref o20, .int 0, .int 0, .int (-1)])), (o4, .inl (cI, 4096, .inl (upd (fun _ => 0) (Int32.toNatClampNeg 0) 0))), (o1, .inr (0, [.ref o4, .ref o14, .ref o15, .int 0, .int 0, .int 0, .int 1, .int 0]))] := hD
  have hP9 := hP.sub (ws' := [(o0, .inr (11, [.ref o2, .ref o5, .ref o6, .ref o7, .ref o3, .ref o8, .ref o9, .ref o10, .ref o11, .ref o1, .ref o12, .ref o13, .int 0])), (o2, .inr (4, [.ref o16, .int 0, .int 0])), (o3, .inr (1, [.int 0, .ref o17, .ref o18, .ref o19, .ref o20, .int 0, .int 0, .int (-1)])), (o4, .inl (cI, 4096, .inl (upd (fun _ => 0) (Int32.toNatClampNeg 0) 0))), (o1, .inr (0, [.ref o4, .ref o14, .ref o15, .int 0, .int 0, .int 0, .int 1, .int 0]))]) [0, 1, 2, 3, 4] rfl
  have hD9 := hD.sub (ws' := [(o0, .inr (11, [.ref o2, .ref o5, .ref o6, .ref o7, .ref o3, .ref o8, .ref o9, .ref o10, .ref o11, .ref o1, .ref o12, .ref o13, .int 0])), (o2, .inr (4, [.ref o16, .int 0, .int 0])), (o3, .inr (1, [.int 0, .ref o17, .ref o18, .ref o19, .ref o20, .int 0, .int 0, .int (-1)])), (o4, .inl (cI, 4096, .inl (upd (fun _ => 0) (Int32.toNatClampNeg 0) 0))), (o1, .inr (0, [.ref o4, .ref o14, .ref o15, .int 0, .int 0, .int 0, .int 1, .int 0]))]) [0, 1, 2, 3, 4] (by decide) rfl
  exact W.vret hx hb hr (fun t ht hW => ⟨⟨(), rfl, trivial, by rw [ht]; exact hP9, va_K.moved hW.alike hK, hD9⟩, hS.F ht⟩) hS.2.2 dX11_bringSpans_118
theorem iw_X11_line_X0 : ∀ w ∈ wsX00, w ∈ wsX11_line := by decide +kernel
theorem iw_X11_line_X11 : ∀ w ∈ wsX110, w ∈ wsX11_line := by decide +kernel
set_option maxHeartbeats 1000000 in
set_option maxRecDepth 100000 in
theorem kX11_line_1 (l : Launch) (dC : Nat → ClassId) (dI : Nat → Nat → Nat) (cI c2 : ClassId) (o0 : Nat) (o1 : Nat) (o2 : Nat) (o3 : Nat) (o4 : Nat) (o5 : Nat) (o6 : Nat) (o7 : Nat) (o8 : Nat) (o9 : Nat) (o10 : Nat) (o11 : Nat) (o12 : Nat) (o13 : Nat) (o14 : Nat) (o15 : Nat) (o16 : Nat) (o17 : Nat) (o18 : Nat) (o19 : Nat) (o20 : Nat) (sz : Nat) (a1 : Int32) (a1_lo : (-2147483648) ≤ a1.toInt) (a1_hi : a1.toInt ≤ (-1)) : Met l yX11_line wsX11_line ({ frames := 5, cells := 0, slots := 0, locals := 113 }) (va_Pc [.ref o0, .int a1] (wPre (dC, dI) [(cI, .int), (c2, .array .int)] [(o0, .inr (11, [.ref o2, .ref o5, .ref o6, .ref o7, .ref o3, .ref o8, .ref o9, .ref o10, .ref o11, .ref o1, .ref o12, .ref o13, .int 0])), (o1, .inr (0, [.ref o4, .ref o14, .ref o15, .int 0, .int 0, .int 0, .int 0, .int (-1)])), (o2, .inr (4, [.ref o16, .int 0, .int 0])), (o3, .inr (1, [.int 0, .ref o17, .ref o18, .ref o19, .ref o20, .int 0, .int (-1), .int (-1)])), (o4, .inl (cI, 4096, .inl (fun _ => 0)))] sz)) (va_Qi (fun (r : Int32) (_ : Unit) => r = (-9)) (fun _ t => wPost (dC, dI) [(cI, .int), (c2, .array .int)] (va_A [(o0, .inr (11, [.ref o2, .ref o5, .ref o6, .ref o7, .ref o3, .ref o8, .ref o9, .ref o10, .ref o11, .ref o1, .ref o12, .ref o13, .int 0])), (o1, .inr (0, [.ref o4, .ref o14, .ref o15, .int 0, .int 0, .int 0, .int 0, .int (-1)])), (o2, .inr (4, [.ref o16, .int 0, .int 0])), (o3, .inr (1, [.int 0, .ref o17, .ref o18, .ref o19, .ref o20, .int 0, .int (-1), .int (-1)])), (o4, .inl (cI, 4096, .inl (fun _ => 0)))] sz) [] t) (va_A [(o0, .inr (11, [.ref o2, .ref o5, .ref o6, .ref o7, .ref o3, .ref o8, .ref o9, .ref o10, .ref o11, .ref o1, .ref o12, .ref o13, .int 0])), (o1, .inr (0, [.ref o4, .ref o14, .ref o15, .int 0, .int 0, .int 0, .int 0, .int (-1)])), (o2, .inr (4, [.ref o16, .int 0, .int 0])), (o3, .inr (1, [.int 0, .ref o17, .ref o18, .ref o19, .ref o20, .int 0, .int (-1), .int (-1)])), (o4, .inl (cI, 4096, .inl (fun _ => 0)))] sz)) 0 0 (va_A [(o0, .inr (11, [.ref o2, .ref o5, .ref o6, .ref o7, .ref o3, .ref o8, .ref o9, .ref o10, .ref o11, .ref o1, .ref o12, .ref o13, .int 0])), (o1, .inr (0, [.ref o4, .ref o14, .ref o15, .int 0, .int 0, .int 0, .int 0, .int (-1)])), (o2, .inr (4, [.ref o16, .int 0, .int 0])), (o3, .inr (1, [.int 0, .ref o17, .ref o18, .ref o19, .ref o20, .int 0, .int (-1), .int (-1)])), (o4, .inl (cI, 4096, .inl (fun _ => 0)))] sz) := by
  refine Met.ofW (cc := cX11_line) (maxL := 2) (ret := (some .int)) (by decide) rfl ?_
  intro p e s m args below meth c s₁ B hml hv
  obtain ⟨rfl, hsz, hP, hK, hD0, hN⟩ := hv
  have hx := B.exec
  have hb := B.bytes
  have hr := B.returns
  have hts := atoms_spec (ws := wsX11_line) B.pre
  have hown : s.vm.findClass RX11 = some m.cls := findClass_of_methodNamed B.named
  have hlocks := B.notSynchronized
  subst hsz
  have hD := hD0.self (sz := s.heap.size)
  generalize hAe : va_A [(o0, .inr (11, [.ref o2, .ref o5, .ref o6, .ref o7, .ref o3, .ref o8, .ref o9, .ref o10, .ref o11, .ref o1, .ref o12, .ref o13, .int 0])), (o1, .inr (0, [.ref o4, .ref o14, .ref o15, .int 0, .int 0, .int 0, .int 0, .int (-1)])), (o2, .inr (4, [.ref o16, .int 0, .int 0])), (o3, .inr (1, [.int 0, .ref o17, .ref o18, .ref o19, .ref o20, .int 0, .int (-1), .int (-1)])), (o4, .inl (cI, 4096, .inl (fun _ => 0)))] s.heap.size = A at hD ⊢
  have hA : ∀ q : Nat, s.heap.size ≤ q → A q := fun q h => by rw [← hAe]; exact Or.inr h
  have hS : va_S A s.heap s.heap [] := va_S.rf
  have hP : va_P (dC, dI) vwCl [(o0, .inr (11, [.ref o2, .ref o5, .ref o6, .ref o7, .ref o3, .ref o8, .ref o9, .ref o10, .ref o11, .ref o1, .ref o12, .ref o13, .int 0])), (o1, .inr (0, [.ref o4, .ref o14, .ref o15, .int 0, .int 0, .int 0, .int 0, .int (-1)])), (o2, .inr (4, [.ref o16, .int 0, .int 0])), (o3, .inr (1, [.int 0, .ref o17, .ref o18, .ref o19, .ref o20, .int 0, .int (-1), .int (-1)])), (o4, .inl (cI, 4096, .inl (fun _ => 0)))] s.heap := hP
  have hl := lv_entry ([.ref o0, .int a1]) (n := 2) (Nat.le_of_ble_eq_true rfl)
  rw [lg_entry_eq]
  generalize (lg_sl ([.ref o0, .int a1]) ++ List.replicate (2 - (lg_sl ([.ref o0, .int a1])).length) Slot.unset).toArray = ls at hl ⊢
  have hl : lv_has ls 2 [(0, .ref o0), (1, .int a1)] := hl
  refine lv_aload_n hx hb dX11_line_0 rfl (lv_at hl 0 rfl) ?_
  refine kcall_v (D := (dC, dI)) (S := Unit) (wc := [(o0, .inr (11, [.ref o2, .ref o5, .ref o6, .ref o7, .ref o3, .ref o8, .ref o9, .ref o10, .ref o11, .ref o1, .ref o12, .ref o13, .int 0])), (o1, .inr (0, [.ref o4, .ref o14, .ref o15, .int 0, .int 0, .int 0, .int 0, .int (-1)])), (o2, .inr (4, [.ref o16, .int 0, .int 0])), (o3, .inr (1, [.int 0, .ref o17, .ref o18, .ref o19, .ref o20, .int 0, .int (-1), .int (-1)])), (o4, .inl (cI, 4096, .inl (fun _ => 0)))]) (wr := []) (w1 := fun _ => [(o0, .inr (11, [.ref o2, .ref o5, .ref o6, .ref o7, .ref o3, .ref o8, .ref o9, .ref o10, .ref o11, .ref o1, .ref o12, .ref o13, .int 0])), (o2, .inr (4, [.ref o16, .int 0, .int 0])), (o3, .inr (1, [.int 0, .ref o17, .ref o18, .ref o19, .ref o20, .int 0, .int 0, .int (-1)])), (o4, .inl (cI, 4096, .inl (upd (fun _ => 0) (Int32.toNatClampNeg 0) 0))), (o1, .inr (0, [.ref o4, .ref o14, .ref o15, .int 0, .int 0, .int 0, .int 1, .int 0]))]) (fun hPc hDc => va_runV (As := []) (rest := []) ⟨hx, hb, hml, hown, hts⟩ (kX11_bringSpans_1 l dC dI cI c2 o0 o1 o2 o3 o4 o5 o6 o7 o8 o9 o10 o11 o12 o13 o14 o15 o16 o17 o18 o19 o20 s.heap.size) (cwV 0 hts gX11_line_X11_bringSpans rfl rfl rfl (by decide +kernel) ⟨Nat.le_of_ble_eq_true rfl, Nat.le_of_ble_eq_true rfl⟩) (pre_V hPc hK hDc hN (ci := 11) (q0 := 0) rfl rfl) rfl rfl hl.1 rfl (lv_room (Nat.le_of_ble_eq_true rfl)) dX11_line_1 ⟨Nat.le_of_ble_eq_true rfl, Nat.le_of_ble_eq_true rfl⟩) hP hD hS hA [0, 1, 2, 3, 4] [] rfl rfl (by decide) (by decide) (by decide) (fun u H locs hP hD hS => ?_)
  have hP : va_P (dC, dI) vwCl [(o0, .inr (11, [.ref o2, .ref o5, .ref o6, .ref o7, .ref o3, .ref o8, .ref o9, .ref o10, .ref o11, .ref o1, .ref o12, .ref o13, .int 0])), (o2, .inr (4, [.ref o16, .int 0, .int 0])), (o3, .inr (1, [.int 0, .ref o17, .ref o18, .ref o19, .ref o20, .int 0, .int 0, .int (-1)])), (o4, .inl (cI, 4096, .inl (upd (fun _ => 0) (Int32.toNatClampNeg 0) 0))), (o1, .inr (0, [.ref o4, .ref o14, .ref o15, .int 0, .int 0, .int 0, .int 1, .int 0]))] H := hP
  have hD : va_D A [(o0, .inr (11, [.ref o2, .ref o5, .ref o6, .ref o7, .ref o3, .ref o8, .ref o9, .ref o10, .ref o11, .ref o1, .ref o12, .ref o13, .int 0])), (o2, .inr (4, [.ref o16, .int 0, .int 0])), (o3, .inr (1, [.int 0, .ref o17, .ref o18, .ref o19, .ref o20, .int 0, .int 0, .int (-1)])), (o4, .inl (cI, 4096, .inl (upd (fun _ => 0) (Int32.toNatClampNeg 0) 0))), (o1, .inr (0, [.ref o4, .ref o14, .ref o15, .int 0, .int 0, .int 0, .int 1, .int 0]))] := hD
  refine lv_aload_n hx hb dX11_line_4 rfl (lv_at hl 0 rfl) ?_
  refine va_get (D := (dC, dI)) (ci := 11) (v := .ref o1) (C := RX11) (T := TX11) (N := 13) hx hb hts iw_X11_line_X11 hown hK hP 0 rfl rfl 9 (by decide) (hts (.fieldLink RX11 75 "HolelessHouse" "spans" "LHolelessHouse$Benches;") (by decide +kernel)) (fun _ h9 => h9) rfl dX11_line_5 ?_
  refine va_getN (D := (dC, dI)) (ci := 0) (v := .int 1) (C := RX0) (T := TX0) (N := 8) hx hb hts iw_X11_line_X0 hown hK hP 4 rfl rfl 6 (by decide) (hN.use ns_46) (fun _ h9 => h9) rfl dX11_line_8 ?_
  refine lv_if_eq (tgt := 41) hx hb dX11_line_11 (by decide) (fun h9 => absurd h9 (by decide +kernel)) (fun _ => ?_)
  refine lv_iload_n hx hb dX11_line_14 rfl (lv_at hl 1 rfl) ?_
  refine lv_if_lt (tgt := 41) hx hb dX11_line_15 (by decide) (fun _ => ?_) (fun h9 => absurd (ib_lt (X := a1.toInt) (Y := 0) rfl (by decide +kernel) (by omega)) h9)
  refine lv_bipush (v := (-9)) hx hb dX11_line_41 (by decide) ?_
  have hP9 := hP.sub (ws' := []) [] rfl
  have hD9 := hD.sub (ws' := []) [] (by decide) rfl
  exact W.iret (v := (-9)) hx hb hr (fun t ht hW => ⟨⟨(-9), (), rfl, rfl, by rw [ht]; exact hP9, va_K.moved hW.alike hK, hD9⟩, hS.F ht⟩) hS.2.2 dX11_line_43
theorem iw_X12_setLine_X12 : ∀ w ∈ wsX120, w ∈ wsX12_setLine := by decide +kernel
set_option maxHeartbeats 1000000 in
set_option maxRecDepth 100000 in
theorem kX12_setLine_1 (l : Launch) (dC : Nat → ClassId) (dI : Nat → Nat → Nat) (cI c2 : ClassId) (o0 : Nat) (o1 : Nat) (o2 : Nat) (o3 : Nat) (o4 : Nat) (o5 : Nat) (o6 : Nat) (o7 : Nat) (o8 : Nat) (o9 : Nat) (o10 : Nat) (o11 : Nat) (o12 : Nat) (o13 : Nat) (o14 : Nat) (o15 : Nat) (o16 : Nat) (o17 : Nat) (o18 : Nat) (sz : Nat) : Met l yX12_setLine wsX12_setLine ({ frames := 0, cells := 0, slots := 0, locals := 0 }) (va_Pc [.ref o0] (wPre (dC, dI) [(cI, .int), (c2, .array .int)] [(o0, .inr (12, [.int 0, .ref o1, .int 0, .ref o2, .int 0, .ref o3, .ref o4, .int 0, .ref o5, .int 0, .ref o6, .int (-9), .int 0, .int 0, .ref o7, .ref o8, .ref o9, .ref o10, .ref o11, .int 0, .ref o12, .ref o13, .ref o14, .int 0, .ref o15, .ref o16, .ref o17, .int 0, .ref o18]))] sz)) (va_Qv (fun (_ : Unit) => True) (fun _ t => wPost (dC, dI) [(cI, .int), (c2, .array .int)] (va_A [(o0, .inr (12, [.int 0, .ref o1, .int 0, .ref o2, .int 0, .ref o3, .ref o4, .int 0, .ref o5, .int 0, .ref o6, .int (-9), .int 0, .int 0, .ref o7, .ref o8, .ref o9, .ref o10, .ref o11, .int 0, .ref o12, .ref o13, .ref o14, .int 0, .ref o15, .ref o16, .ref o17, .int 0, .ref o18]))] sz) [(o0, .inr (12, [.int 0, .ref o1, .int 0, .ref o2, .int 0, .ref o3, .ref o4, .int 0, .ref o5, .int 0, .ref o6, .int (-9), .int 0, .int 0, .ref o7, .ref o8, .ref o9, .ref o10, .ref o11, .int 0, .ref o12, .ref o13, .ref o14, .int 0, .ref o15, .ref o16, .ref o17, .int 0, .ref o18]))] t) (va_A [(o0, .inr (12, [.int 0, .ref o1, .int 0, .ref o2, .int 0, .ref o3, .ref o4, .int 0, .ref o5, .int 0, .ref o6, .int (-9), .int 0, .int 0, .ref o7, .ref o8, .ref o9, .ref o10, .ref o11, .int 0, .ref o12, .ref o13, .ref o14, .int 0, .ref o15, .ref o16, .ref o17, .int 0, .ref o18]))] sz)) 0 0 (va_A [(o0, .inr (12, [.int 0, .ref o1, .int 0, .ref o2, .int 0, .ref o3, .ref o4, .int 0, .ref o5, .int 0, .ref o6, .int (-9), .int 0, .int 0, .ref o7, .ref o8, .ref o9, .ref o10, .ref o11, .int 0, .ref o12, .ref o13, .ref o14, .int 0, .ref o15, .ref o16, .ref o17, .int 0, .ref o18]))] sz) := by
  refine Met.ofW (cc := cX12_setLine) (maxL := 6) (ret := none) (by decide) rfl ?_
  intro p e s m args below meth c s₁ B hml hv
  obtain ⟨rfl, hsz, hP, hK, hD0, hN⟩ := hv
  have hx := B.exec
  have hb := B.bytes
  have hr := B.returns
  have hts := atoms_spec (ws := wsX12_setLine) B.pre
  have hown : s.vm.findClass RX12 = some m.cls := findClass_of_methodNamed B.named
  have hlocks := B.notSynchronized
  subst hsz
  have hD := hD0.self (sz := s.heap.size)
  generalize hAe : va_A [(o0, .inr (12, [.int 0, .ref o1, .int 0, .ref o2, .int 0, .ref o3, .ref o4, .int 0, .ref o5, .int 0, .ref o6, .int (-9), .int 0, .int 0, .ref o7, .ref o8, .ref o9, .ref o10, .ref o11, .int 0, .ref o12, .ref o13, .ref o14, .int 0, .ref o15, .ref o16, .ref o17, .int 0, .ref o18]))] s.heap.size = A at hD ⊢
  have hA : ∀ q : Nat, s.heap.size ≤ q → A q := fun q h => by rw [← hAe]; exact Or.inr h
  have hS : va_S A s.heap s.heap [] := va_S.rf
  have hP : va_P (dC, dI) vwCl [(o0, .inr (12, [.int 0, .ref o1, .int 0, .ref o2, .int 0, .ref o3, .ref o4, .int 0, .ref o5, .int 0, .ref o6, .int (-9), .int 0, .int 0, .ref o7, .ref o8, .ref o9, .ref o10, .ref o11, .int 0, .ref o12, .ref o13, .ref o14, .int 0, .ref o15, .ref o16, .ref o17, .int 0, .ref o18]))] s.heap := hP
  have hl := lv_entry ([.ref o0]) (n := 6) (Nat.le_of_ble_eq_true rfl)
  rw [lg_entry_eq]
  generalize (lg_sl ([.ref o0]) ++ List.replicate (6 - (lg_sl ([.ref o0])).length) Slot.unset).toArray = ls at hl ⊢
  have hl : lv_has ls 6 [(0, .ref o0)] := hl
  refine lv_iconst (v := 1) hx hb dX12_setLine_0 (by decide) ?_
  refine lv_aload_n hx hb dX12_setLine_1 rfl (lv_at hl 0 rfl) ?_
  refine va_get (D := (dC, dI)) (ci := 12) (v := .int 0) (C := RX12) (T := TX12) (N := 29) hx hb hts iw_X12_setLine_X12 hown hK hP 0 rfl rfl 23 (by decide) (hts (.fieldLink RX12 191 "HolelessHouseModel" "thingMany" "I") (by decide +kernel)) (fun _ h9 => h9) rfl dX12_setLine_2 ?_
  refine lv_ishl hx hb dX12_setLine_5 (tk_i (v := 1) (by decide +kernel) ?_)
  refine lv_iconst (v := 1) hx hb dX12_setLine_6 (by decide) ?_
  refine lv_isub hx hb dX12_setLine_7 (tk_i (v := 0) (by decide +kernel) ?_)
  refine lv_istore_n (lv' := [(1, .int 0), (0, .ref o0)]) hx hb dX12_setLine_8 rfl hl (by decide) rfl (fun ls hl => ?_)
  refine lv_iload_n hx hb dX12_setLine_9 rfl (lv_at hl 0 rfl) ?_
  refine lv_istore_n (lv' := [(2, .int 0), (1, .int 0), (0, .ref o0)]) hx hb dX12_setLine_10 rfl hl (by decide) rfl (fun ls hl => ?_)
  refine lv_iload_n hx hb dX12_setLine_11 rfl (lv_at hl 0 rfl) ?_
  refine lv_if_le (tgt := 167) hx hb dX12_setLine_12 (by decide) (fun _ => ?_) (fun h9 => absurd (by decide +kernel) h9)
  refine lv_aload_n hx hb dX12_setLine_167 rfl (lv_at hl 2 rfl) ?_
  refine lv_iconst (v := 0) hx hb dX12_setLine_168 (by decide) ?_
  refine va_put (D := (dC, dI)) (ci := 12) (v := .int 0) (ty := .int) (C := RX12) (T := TX12) (N := 29) hx hb hts iw_X12_setLine_X12 tyX12 tyX12_ok nmX12 hown hK hP hD hS 0 rfl rfl 27 (by decide) (hts (.fieldLink RX12 197 "HolelessHouseModel" "lined" "I") (by decide +kernel)) (fun _ h9 => h9) rfl (by decide +kernel) rfl rfl (Nat.le_of_ble_eq_true rfl) dX12_setLine_169 (fun H locs hP hD hS => ?_)
  have hP : va_P (dC, dI) vwCl [(o0, .inr (12, [.int 0, .ref o1, .int 0, .ref o2, .int 0, .ref o3, .ref o4, .int 0, .ref o5, .int 0, .ref o6, .int (-9), .int 0, .int 0, .ref o7, .ref o8, .ref o9, .ref o10, .ref o11, .int 0, .ref o12, .ref o13, .ref o14, .int 0, .ref o15, .ref o16, .ref o17, .int 0, .ref o18]))] H := hP
  have hD : va_D A [(o0, .inr (12, [.int 0, .ref o1, .int 0, .ref o2, .int 0, .ref o3, .ref o4, .int 0, .ref o5, .int 0, .ref o6, .int (-9), .int 0, .int 0, .ref o7, .ref o8, .ref o9, .ref o10, .ref o11, .int 0, .ref o12, .ref o13, .ref o14, .int 0, .ref o15, .ref o16, .ref o17, .int 0, .ref o18]))] := hD
  refine lv_iconst (v := 0) hx hb dX12_setLine_172 (by decide) ?_
  refine lv_istore_n (lv' := [(2, .int 0), (1, .int 0), (0, .ref o0)]) hx hb dX12_setLine_173 rfl hl (by decide) rfl (fun ls hl => ?_)
  refine lv_aload_n hx hb dX12_setLine_174 rfl (lv_at hl 2 rfl) ?_
  refine va_get (D := (dC, dI)) (ci := 12) (v := .int 0) (C := RX12) (T := TX12) (N := 29) hx hb hts iw_X12_setLine_X12 hown hK hP 0 rfl rfl 23 (by decide) (hts (.fieldLink RX12 191 "HolelessHouseModel" "thingMany" "I") (by decide +kernel)) (fun _ h9 => h9) rfl dX12_setLine_175 ?_
  refine lv_if_le (tgt := 185) hx hb dX12_setLine_178 (by decide) (fun _ => ?_) (fun h9 => absurd (by decide +kernel) h9)
  refine lv_iconst (v := 0) hx hb dX12_setLine_185 (by decide) ?_
  refine lv_istore_n (lv' := [(3, .int 0), (2, .int 0), (1, .int 0), (0, .ref o0)]) hx hb dX12_setLine_186 rfl hl (by decide) rfl (fun ls hl => ?_)
  refine lv_iload_n hx hb dX12_setLine_187 rfl (lv_at hl 0 rfl) ?_
  refine lv_if_eq (tgt := 277) hx hb dX12_setLine_188 (by decide) (fun _ => ?_) (fun h9 => absurd (by decide +kernel) h9)
  have hP9 := hP.sub (ws' := [(o0, .inr (12, [.int 0, .ref o1, .int 0, .ref o2, .int 0, .ref o3, .ref o4, .int 0, .ref o5, .int 0, .ref o6, .int (-9), .int 0, .int 0, .ref o7, .ref o8, .ref o9, .ref o10, .ref o11, .int 0, .ref o12, .ref o13, .ref o14, .int 0, .ref o15, .ref o16, .ref o17, .int 0, .ref o18]))]) [0] rfl
  have hD9 := hD.sub (ws' := [(o0, .inr (12, [.int 0, .ref o1, .int 0, .ref o2, .int 0, .ref o3, .ref o4, .int 0, .ref o5, .int 0, .ref o6, .int (-9), .int 0, .int 0, .ref o7, .ref o8, .ref o9, .ref o10, .ref o11, .int 0, .ref o12, .ref o13, .ref o14, .int 0, .ref o15, .ref o16, .ref o17, .int 0, .ref o18]))]) [0] (by decide) rfl
  exact W.vret hx hb hr (fun t ht hW => ⟨⟨(), rfl, trivial, by rw [ht]; exact hP9, va_K.moved hW.alike hK, hD9⟩, hS.F ht⟩) hS.2.2 dX12_setLine_277
theorem iw_X12_hasSpans_X12 : ∀ w ∈ wsX120, w ∈ wsX12_hasSpans := by decide +kernel
set_option maxHeartbeats 1000000 in
set_option maxRecDepth 100000 in
theorem kX12_hasSpans_1 (l : Launch) (dC : Nat → ClassId) (dI : Nat → Nat → Nat) (cI c2 : ClassId) (o0 : Nat) (o1 : Nat) (o2 : Nat) (o3 : Nat) (o4 : Nat) (o5 : Nat) (o6 : Nat) (o7 : Nat) (o8 : Nat) (o9 : Nat) (o10 : Nat) (o11 : Nat) (o12 : Nat) (o13 : Nat) (o14 : Nat) (o15 : Nat) (o16 : Nat) (o17 : Nat) (o18 : Nat) (sz : Nat) : Met l yX12_hasSpans wsX12_hasSpans ({ frames := 2, cells := 0, slots := 0, locals := 43 }) (va_Pc [.ref o0] (wPre (dC, dI) [(cI, .int), (c2, .array .int)] [(o0, .inr (12, [.int 0, .ref o1, .int 0, .ref o2, .int 0, .ref o3, .ref o4, .int 0, .ref o5, .int 0, .ref o6, .int (-9), .int 0, .int 0, .ref o7, .ref o8, .ref o9, .ref o10, .ref o11, .int 0, .ref o12, .ref o13, .ref o14, .int 0, .ref o15, .ref o16, .ref o17, .int 0, .ref o18]))] sz)) (va_Qi (fun (r : Int32) (_ : Unit) => r = 1) (fun _ t => wPost (dC, dI) [(cI, .int), (c2, .array .int)] (va_A [(o0, .inr (12, [.int 0, .ref o1, .int 0, .ref o2, .int 0, .ref o3, .ref o4, .int 0, .ref o5, .int 0, .ref o6, .int (-9), .int 0, .int 0, .ref o7, .ref o8, .ref o9, .ref o10, .ref o11, .int 0, .ref o12, .ref o13, .ref o14, .int 0, .ref o15, .ref o16, .ref o17, .int 0, .ref o18]))] sz) [(o0, .inr (12, [.int 0, .ref o1, .int 0, .ref o2, .int 0, .ref o3, .ref o4, .int 0, .ref o5, .int 0, .ref o6, .int (-9), .int 0, .int 0, .ref o7, .ref o8, .ref o9, .ref o10, .ref o11, .int 0, .ref o12, .ref o13, .ref o14, .int 0, .ref o15, .ref o16, .ref o17, .int 0, .ref o18]))] t) (va_A [(o0, .inr (12, [.int 0, .ref o1, .int 0, .ref o2, .int 0, .ref o3, .ref o4, .int 0, .ref o5, .int 0, .ref o6, .int (-9), .int 0, .int 0, .ref o7, .ref o8, .ref o9, .ref o10, .ref o11, .int 0, .ref o12, .ref o13, .ref o14, .int 0, .ref o15, .ref o16, .ref o17, .int 0, .ref o18]))] sz)) 0 0 (va_A [(o0, .inr (12, [.int 0, .ref o1, .int 0, .ref o2, .int 0, .ref o3, .ref o4, .int 0, .ref o5, .int 0, .ref o6, .int (-9), .int 0, .int 0, .ref o7, .ref o8, .ref o9, .ref o10, .ref o11, .int 0, .ref o12, .ref o13, .ref o14, .int 0, .ref o15, .ref o16, .ref o17, .int 0, .ref o18]))] sz) := by
  refine Met.ofW (cc := cX12_hasSpans) (maxL := 2) (ret := (some .boolean)) (by decide) rfl ?_
  intro p e s m args below meth c s₁ B hml hv
  obtain ⟨rfl, hsz, hP, hK, hD0, hN⟩ := hv
  have hx := B.exec
  have hb := B.bytes
  have hr := B.returns
  have hts := atoms_spec (ws := wsX12_hasSpans) B.pre
  have hown : s.vm.findClass RX12 = some m.cls := findClass_of_methodNamed B.named
  have hlocks := B.notSynchronized
  subst hsz
  have hD := hD0.self (sz := s.heap.size)
  generalize hAe : va_A [(o0, .inr (12, [.int 0, .ref o1, .int 0, .ref o2, .int 0, .ref o3, .ref o4, .int 0, .ref o5, .int 0, .ref o6, .int (-9), .int 0, .int 0, .ref o7, .ref o8, .ref o9, .ref o10, .ref o11, .int 0, .ref o12, .ref o13, .ref o14, .int 0, .ref o15, .ref o16, .ref o17, .int 0, .ref o18]))] s.heap.size = A at hD ⊢
  have hA : ∀ q : Nat, s.heap.size ≤ q → A q := fun q h => by rw [← hAe]; exact Or.inr h
  have hS : va_S A s.heap s.heap [] := va_S.rf
  have hP : va_P (dC, dI) vwCl [(o0, .inr (12, [.int 0, .ref o1, .int 0, .ref o2, .int 0, .ref o3, .ref o4, .int 0, .ref o5, .int 0, .ref o6, .int (-9), .int 0, .int 0, .ref o7, .ref o8, .ref o9, .ref o10, .ref o11, .int 0, .ref o12, .ref o13, .ref o14, .int 0, .ref o15, .ref o16, .ref o17, .int 0, .ref o18]))] s.heap := hP
  have hl := lv_entry ([.ref o0]) (n := 2) (Nat.le_of_ble_eq_true rfl)
  rw [lg_entry_eq]
  generalize (lg_sl ([.ref o0]) ++ List.replicate (2 - (lg_sl ([.ref o0])).length) Slot.unset).toArray = ls at hl ⊢
  have hl : lv_has ls 2 [(0, .ref o0)] := hl
  refine lv_aload_n hx hb dX12_hasSpans_0 rfl (lv_at hl 0 rfl) ?_
  refine kcall_v (D := (dC, dI)) (S := Unit) (wc := [(o0, .inr (12, [.int 0, .ref o1, .int 0, .ref o2, .int 0, .ref o3, .ref o4, .int 0, .ref o5, .int 0, .ref o6, .int (-9), .int 0, .int 0, .ref o7, .ref o8, .ref o9, .ref o10, .ref o11, .int 0, .ref o12, .ref o13, .ref o14, .int 0, .ref o15, .ref o16, .ref o17, .int 0, .ref o18]))]) (wr := []) (w1 := fun _ => [(o0, .inr (12, [.int 0, .ref o1, .int 0, .ref o2, .int 0, .ref o3, .ref o4, .int 0, .ref o5, .int 0, .ref o6, .int (-9), .int 0, .int 0, .ref o7, .ref o8, .ref o9, .ref o10, .ref o11, .int 0, .ref o12, .ref o13, .ref o14, .int 0, .ref o15, .ref o16, .ref o17, .int 0, .ref o18]))]) (fun hPc hDc => va_runV (As := []) (rest := []) ⟨hx, hb, hml, hown, hts⟩ (kX12_setCliques_1 l dC dI cI c2 o0 o1 o2 o3 o4 o5 o6 o7 o8 o9 o10 o11 o12 o13 o14 o15 o16 o17 o18 s.heap.size) (cwV 0 hts gX12_hasSpans_X12_setCliques rfl rfl rfl (by decide +kernel) ⟨Nat.le_of_ble_eq_true rfl, Nat.le_of_ble_eq_true rfl⟩) (pre_V hPc hK hDc hN (ci := 12) (q0 := 0) rfl rfl) rfl rfl hl.1 rfl (lv_room (Nat.le_of_ble_eq_true rfl)) dX12_hasSpans_1 ⟨Nat.le_of_ble_eq_true rfl, Nat.le_of_ble_eq_true rfl⟩) hP hD hS hA [0] [] rfl rfl (by decide) (by decide) (by decide) (fun u H locs hP hD hS => ?_)
  have hP : va_P (dC, dI) vwCl [(o0, .inr (12, [.int 0, .ref o1, .int 0, .ref o2, .int 0, .ref o3, .ref o4, .int 0, .ref o5, .int 0, .ref o6, .int (-9), .int 0, .int 0, .ref o7, .ref o8, .ref o9, .ref o10, .ref o11, .int 0, .ref o12, .ref o13, .ref o14, .int 0, .ref o15, .ref o16, .ref o17, .int 0, .ref o18]))] H := hP
  have hD : va_D A [(o0, .inr (12, [.int 0, .ref o1, .int 0, .ref o2, .int 0, .ref o3, .ref o4, .int 0, .ref o5, .int 0, .ref o6, .int (-9), .int 0, .int 0, .ref o7, .ref o8, .ref o9, .ref o10, .ref o11, .int 0, .ref o12, .ref o13, .ref o14, .int 0, .ref o15, .ref o16, .ref o17, .int 0, .ref o18]))] := hD
  refine lv_aload_n hx hb dX12_hasSpans_4 rfl (lv_at hl 0 rfl) ?_
  refine lv_iconst (v := 0) hx hb dX12_hasSpans_5 (by decide) ?_
  refine va_put (D := (dC, dI)) (ci := 12) (v := .int 0) (ty := .int) (C := RX12) (T := TX12) (N := 29) hx hb hts iw_X12_hasSpans_X12 tyX12 tyX12_ok nmX12 hown hK hP hD hS 0 rfl rfl 23 (by decide) (hts (.fieldLink RX12 191 "HolelessHouseModel" "thingMany" "I") (by decide +kernel)) (fun _ h9 => h9) rfl (by decide +kernel) rfl rfl (Nat.le_of_ble_eq_true rfl) dX12_hasSpans_6 (fun H locs hP hD hS => ?_)
  have hP : va_P (dC, dI) vwCl [(o0, .inr (12, [.int 0, .ref o1, .int 0, .ref o2, .int 0, .ref o3, .ref o4, .int 0, .ref o5, .int 0, .ref o6, .int (-9), .int 0, .int 0, .ref o7, .ref o8, .ref o9, .ref o10, .ref o11, .int 0, .ref o12, .ref o13, .ref o14, .int 0, .ref o15, .ref o16, .ref o17, .int 0, .ref o18]))] H := hP
  have hD : va_D A [(o0, .inr (12, [.int 0, .ref o1, .int 0, .ref o2, .int 0, .ref o3, .ref o4, .int 0, .ref o5, .int 0, .ref o6, .int (-9), .int 0, .int 0, .ref o7, .ref o8, .ref o9, .ref o10, .ref o11, .int 0, .ref o12, .ref o13, .ref o14, .int 0, .ref o15, .ref o16, .ref o17, .int 0, .ref o18]))] := hD
  refine lv_aload_n hx hb dX12_hasSpans_9 rfl (lv_at hl 0 rfl) ?_
  refine lv_iconst (v := 0) hx hb dX12_hasSpans_10 (by decide) ?_
  refine va_put (D := (dC, dI)) (ci := 12) (v := .int 0) (ty := .int) (C := RX12) (T := TX12) (N := 29) hx hb hts iw_X12_hasSpans_X12 tyX12 tyX12_ok nmX12 hown hK hP hD hS 0 rfl rfl 27 (by decide) (hts (.fieldLink RX12 197 "HolelessHouseModel" "lined" "I") (by decide +kernel)) (fun _ h9 => h9) rfl (by decide +kernel) rfl rfl (Nat.le_of_ble_eq_true rfl) dX12_hasSpans_11 (fun H locs hP hD hS => ?_)
  have hP : va_P (dC, dI) vwCl [(o0, .inr (12, [.int 0, .ref o1, .int 0, .ref o2, .int 0, .ref o3, .ref o4, .int 0, .ref o5, .int 0, .ref o6, .int (-9), .int 0, .int 0, .ref o7, .ref o8, .ref o9, .ref o10, .ref o11, .int 0, .ref o12, .ref o13, .ref o14, .int 0, .ref o15, .ref o16, .ref o17, .int 0, .ref o18]))] H := hP
  have hD : va_D A [(o0, .inr (12, [.int 0, .ref o1, .int 0, .ref o2, .int 0, .ref o3, .ref o4, .int 0, .ref o5, .int 0, .ref o6, .int (-9), .int 0, .int 0, .ref o7, .ref o8, .ref o9, .ref o10, .ref o11, .int 0, .ref o12, .ref o13, .ref o14, .int 0, .ref o15, .ref o16, .ref o17, .int 0, .ref o18]))] := hD
  refine lv_aload_n hx hb dX12_hasSpans_14 rfl (lv_at hl 0 rfl) ?_
  refine kcall_i (D := (dC, dI)) (S := Unit) (v := 1) (wc := [(o0, .inr (12, [.int 0, .ref o1, .int 0, .ref o2, .int 0, .ref o3, .ref o4, .int 0, .ref o5, .int 0, .ref o6, .int (-9), .int 0, .int 0, .ref o7, .ref o8, .ref o9, .ref o10, .ref o11, .int 0, .ref o12, .ref o13, .ref o14, .int 0, .ref o15, .ref o16, .ref o17, .int 0, .ref o18]))]) (wr := []) (w1 := fun _ => [(o0, .inr (12, [.int 0, .ref o1, .int 0, .ref o2, .int 0, .ref o3, .ref o4, .int 0, .ref o5, .int 0, .ref o6, .int (-9), .int 0, .int 0, .ref o7, .ref o8, .ref o9, .ref o10, .ref o11, .int 0, .ref o12, .ref o13, .ref o14, .int 0, .ref o15, .ref o16, .ref o17, .int 0, .ref o18]))]) (fun hPc hDc => va_runV (As := []) (rest := []) ⟨hx, hb, hml, hown, hts⟩ (kX12_isSound_1 l dC dI cI c2 o0 o1 o2 o3 o4 o5 o6 o7 o8 o9 o10 o11 o12 o13 o14 o15 o16 o17 o18 H.size) (cwV 0 hts gX12_hasSpans_X12_isSound rfl rfl rfl (by decide +kernel) ⟨Nat.le_of_ble_eq_true rfl, Nat.le_of_ble_eq_true rfl⟩) (pre_V hPc hK hDc hN (ci := 12) (q0 := 0) rfl rfl) rfl rfl hl.1 rfl (lv_room (Nat.le_of_ble_eq_true rfl)) dX12_hasSpans_15 ⟨Nat.le_of_ble_eq_true rfl, Nat.le_of_ble_eq_true rfl⟩) hP hD hS hA [0] [] rfl rfl (by decide) (by decide) (by decide) (fun u H locs hP hD hS => ?_)
  have hP : va_P (dC, dI) vwCl [(o0, .inr (12, [.int 0, .ref o1, .int 0, .ref o2, .int 0, .ref o3, .ref o4, .int 0, .ref o5, .int 0, .ref o6, .int (-9), .int 0, .int 0, .ref o7, .ref o8, .ref o9, .ref o10, .ref o11, .int 0, .ref o12, .ref o13, .ref o14, .int 0, .ref o15, .ref o16, .ref o17, .int 0, .ref o18]))] H := hP
  have hD : va_D A [(o0, .inr (12, [.int 0, .ref o1, .int 0, .ref o2, .int 0, .ref o3, .ref o4, .int 0, .ref o5, .int 0, .ref o6, .int (-9), .int 0, .int 0, .ref o7, .ref o8, .ref o9, .ref o10, .ref o11, .int 0, .ref o12, .ref o13, .ref o14, .int 0, .ref o15, .ref o16, .ref o17, .int 0, .ref o18]))] := hD
  refine lv_if_ne (tgt := 23) hx hb dX12_hasSpans_18 (by decide) (fun _ => ?_) (fun h9 => absurd h9 (by decide +kernel))
  refine lv_iconst (v := 0) hx hb dX12_hasSpans_23 (by decide) ?_
  refine lv_istore_n (lv' := [(1, .int 0), (0, .ref o0)]) hx hb dX12_hasSpans_24 rfl hl (by decide) rfl (fun ls hl => ?_)
  refine lv_iload_n hx hb dX12_hasSpans_25 rfl (lv_at hl 0 rfl) ?_
  refine lv_aload_n hx hb dX12_hasSpans_26 rfl (lv_at hl 1 rfl) ?_
  refine va_get (D := (dC, dI)) (ci := 12) (v := .int 0) (C := RX12) (T := TX12) (N := 29) hx hb hts iw_X12_hasSpans_X12 hown hK hP 0 rfl rfl 19 (by decide) (hts (.fieldLink RX12 164 "HolelessHouseModel" "cliqueMany" "I") (by decide +kernel)) (fun _ h9 => h9) rfl dX12_hasSpans_27 ?_
  refine lv_icmp_ge (tgt := 51) hx hb dX12_hasSpans_30 (by decide) (fun _ => ?_) (fun h9 => absurd (by decide +kernel) h9)
  refine lv_aload_n hx hb dX12_hasSpans_51 rfl (lv_at hl 1 rfl) ?_
  refine lv_aload_n hx hb dX12_hasSpans_52 rfl (lv_at hl 1 rfl) ?_
  refine va_get (D := (dC, dI)) (ci := 12) (v := .int 0) (C := RX12) (T := TX12) (N := 29) hx hb hts iw_X12_hasSpans_X12 hown hK hP 0 rfl rfl 19 (by decide) (hts (.fieldLink RX12 164 "HolelessHouseModel" "cliqueMany" "I") (by decide +kernel)) (fun _ h9 => h9) rfl dX12_hasSpans_53 ?_
  refine va_put (D := (dC, dI)) (ci := 12) (v := .int 0) (ty := .int) (C := RX12) (T := TX12) (N := 29) hx hb hts iw_X12_hasSpans_X12 tyX12 tyX12_ok nmX12 hown hK hP hD hS 0 rfl rfl 23 (by decide) (hts (.fieldLink RX12 191 "HolelessHouseModel" "thingMany" "I") (by decide +kernel)) (fun _ h9 => h9) rfl (by decide +kernel) rfl rfl (Nat.le_of_ble_eq_true rfl) dX12_hasSpans_56 (fun H locs hP hD hS => ?_)
  have hP : va_P (dC, dI) vwCl [(o0, .inr (12, [.int 0, .ref o1, .int 0, .ref o2, .int 0, .ref o3, .ref o4, .int 0, .ref o5, .int 0, .ref o6, .int (-9), .int 0, .int 0, .ref o7, .ref o8, .ref o9, .ref o10, .ref o11, .int 0, .ref o12, .ref o13, .ref o14, .int 0, .ref o15, .ref o16, .ref o17, .int 0, .ref o18]))] H := hP
  have hD : va_D A [(o0, .inr (12, [.int 0, .ref o1, .int 0, .ref o2, .int 0, .ref o3, .ref o4, .int 0, .ref o5, .int 0, .ref o6, .int (-9), .int 0, .int 0, .ref o7, .ref o8, .ref o9, .ref o10, .ref o11, .int 0, .ref o12, .ref o13, .ref o14, .int 0, .ref o15, .ref o16, .ref o17, .int 0, .ref o18]))] := hD
  refine lv_aload_n hx hb dX12_hasSpans_59 rfl (lv_at hl 1 rfl) ?_
  refine kcall_v (D := (dC, dI)) (S := Unit) (wc := [(o0, .inr (12, [.int 0, .ref o1, .int 0, .ref o2, .int 0, .ref o3, .ref o4, .int 0, .ref o5, .int 0, .ref o6, .int (-9), .int 0, .int 0, .ref o7, .ref o8, .ref o9, .ref o10, .ref o11, .int 0, .ref o12, .ref o13, .ref o14, .int 0, .ref o15, .ref o16, .ref o17, .int 0, .ref o18]))]) (wr := []) (w1 := fun _ => [(o0, .inr (12, [.int 0, .ref o1, .int 0, .ref o2, .int 0, .ref o3, .ref o4, .int 0, .ref o5, .int 0, .ref o6, .int (-9), .int 0, .int 0, .ref o7, .ref o8, .ref o9, .ref o10, .ref o11, .int 0, .ref o12, .ref o13, .ref o14, .int 0, .ref o15, .ref o16, .ref o17, .int 0, .ref o18]))]) (fun hPc hDc => va_runV (As := []) (rest := []) ⟨hx, hb, hml, hown, hts⟩ (kX12_setLine_1 l dC dI cI c2 o0 o1 o2 o3 o4 o5 o6 o7 o8 o9 o10 o11 o12 o13 o14 o15 o16 o17 o18 H.size) (cwV 0 hts gX12_hasSpans_X12_setLine rfl rfl rfl (by decide +kernel) ⟨Nat.le_of_ble_eq_true rfl, Nat.le_of_ble_eq_true rfl⟩) (pre_V hPc hK hDc hN (ci := 12) (q0 := 0) rfl rfl) rfl rfl hl.1 rfl (lv_room (Nat.le_of_ble_eq_true rfl)) dX12_hasSpans_60 ⟨Nat.le_of_ble_eq_true rfl, Nat.le_of_ble_eq_true rfl⟩) hP hD hS hA [0] [] rfl rfl (by decide) (by decide) (by decide) (fun u H locs hP hD hS => ?_)
  have hP : va_P (dC, dI) vwCl [(o0, .inr (12, [.int 0, .ref o1, .int 0, .ref o2, .int 0, .ref o3, .ref o4, .int 0, .ref o5, .int 0, .ref o6, .int (-9), .int 0, .int 0, .ref o7, .ref o8, .ref o9, .ref o10, .ref o11, .int 0, .ref o12, .ref o13, .ref o14, .int 0, .ref o15, .ref o16, .ref o17, .int 0, .ref o18]))] H := hP
  have hD : va_D A [(o0, .inr (12, [.int 0, .ref o1, .int 0, .ref o2, .int 0, .ref o3, .ref o4, .int 0, .ref o5, .int 0, .ref o6, .int (-9), .int 0, .int 0, .ref o7, .ref o8, .ref o9, .ref o10, .ref o11, .int 0, .ref o12, .ref o13, .ref o14, .int 0, .ref o15, .ref o16, .ref o17, .int 0, .ref o18]))] := hD
  refine lv_aload_n hx hb dX12_hasSpans_63 rfl (lv_at hl 1 rfl) ?_
  refine va_get (D := (dC, dI)) (ci := 12) (v := .int 0) (C := RX12) (T := TX12) (N := 29) hx hb hts iw_X12_hasSpans_X12 hown hK hP 0 rfl rfl 27 (by decide) (hts (.fieldLink RX12 197 "HolelessHouseModel" "lined" "I") (by decide +kernel)) (fun _ h9 => h9) rfl dX12_hasSpans_64 ?_
  refine lv_aload_n hx hb dX12_hasSpans_67 rfl (lv_at hl 1 rfl) ?_
  refine va_get (D := (dC, dI)) (ci := 12) (v := .int 0) (C := RX12) (T := TX12) (N := 29) hx hb hts iw_X12_hasSpans_X12 hown hK hP 0 rfl rfl 19 (by decide) (hts (.fieldLink RX12 164 "HolelessHouseModel" "cliqueMany" "I") (by decide +kernel)) (fun _ h9 => h9) rfl dX12_hasSpans_68 ?_
  refine lv_icmp_ne (tgt := 78) hx hb dX12_hasSpans_71 (by decide) (fun h9 => absurd (by decide +kernel) h9) (fun _ => ?_)
  refine lv_iconst (v := 1) hx hb dX12_hasSpans_74 (by decide) ?_
  refine lv_goto (tgt := 79) hx hb dX12_hasSpans_75 (by decide) ?_
  have hP9 := hP.sub (ws' := [(o0, .inr (12, [.int 0, .ref o1, .int 0, .ref o2, .int 0, .ref o3, .ref o4, .int 0, .ref o5, .int 0, .ref o6, .int (-9), .int 0, .int 0, .ref o7, .ref o8, .ref o9, .ref o10, .ref o11, .int 0, .ref o12, .ref o13, .ref o14, .int 0, .ref o15, .ref o16, .ref o17, .int 0, .ref o18]))]) [0] rfl
  have hD9 := hD.sub (ws' := [(o0, .inr (12, [.int 0, .ref o1, .int 0, .ref o2, .int 0, .ref o3, .ref o4, .int 0, .ref o5, .int 0, .ref o6, .int (-9), .int 0, .int 0, .ref o7, .ref o8, .ref o9, .ref o10, .ref o11, .int 0, .ref o12, .ref o13, .ref o14, .int 0, .ref o15, .ref o16, .ref o17, .int 0, .ref o18]))]) [0] (by decide) rfl
  exact W.zret (v := 1) (ty := .boolean) hx hb hr rfl (fun t ht hW => ⟨⟨1, (), rfl, rfl, by rw [ht]; exact hP9, va_K.moved hW.alike hK, hD9⟩, hS.F ht⟩) hS.2.2 dX12_hasSpans_79
