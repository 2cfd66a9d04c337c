set_option maxHeartbeats 1000000 in
set_option maxRecDepth 100000 in
theorem kX11_count_3 (l : Launch) (dC : Nat → ClassId) (dI : Nat → Nat → Nat) (cI c2 : ClassId) (o0 : Nat) (o1 : Nat) (o2 : Nat) (o3 : Nat) (o4 : Nat) (o5 : Nat) (o6 : Nat) (o7 : Nat) (o8 : Nat) (o9 : Nat) (o10 : Nat) (o11 : Nat) (o12 : Nat) (o13 : Nat) (sz : Nat) : Met l yX11_count wsX11_count ({ frames := 1, cells := 0, slots := 0, locals := 22 }) (va_Pc [.ref o0, .int 1] (wPre (dC, dI) [(cI, .int), (c2, .array .int)] [(o0, .inr (11, [.ref o1, .ref o2, .ref o3, .ref o4, .ref o5, .ref o6, .ref o7, .ref o8, .ref o9, .ref o10, .ref o11, .ref o12, .int 0])), (o1, .inr (4, [.ref o13, .int 0, .int 0]))] sz)) (va_Qi (fun (r : Int32) (_ : Unit) => r = 0) (fun _ t => wPost (dC, dI) [(cI, .int), (c2, .array .int)] (va_A [(o0, .inr (11, [.ref o1, .ref o2, .ref o3, .ref o4, .ref o5, .ref o6, .ref o7, .ref o8, .ref o9, .ref o10, .ref o11, .ref o12, .int 0])), (o1, .inr (4, [.ref o13, .int 0, .int 0]))] sz) [] t) (va_A [(o0, .inr (11, [.ref o1, .ref o2, .ref o3, .ref o4, .ref o5, .ref o6, .ref o7, .ref o8, .ref o9, .ref o10, .ref o11, .ref o12, .int 0])), (o1, .inr (4, [.ref o13, .int 0, .int 0]))] sz)) 0 0 (va_A [(o0, .inr (11, [.ref o1, .ref o2, .ref o3, .ref o4, .ref o5, .ref o6, .ref o7, .ref o8, .ref o9, .ref o10, .ref o11, .ref o12, .int 0])), (o1, .inr (4, [.ref o13, .int 0, .int 0]))] sz) := by
  refine Met.ofW (cc := cX11_count) (maxL := 2) (ret := (some .int)) (by decide) rfl ?_
  intro p e s m args below meth c s₁ B hml hv
  obtain ⟨rfl, hsz, hP, hK, hD0, hN⟩ := hv
  have hx := B.exec
  have hb := B.bytes
  have hr := B.returns
  have hts := atoms_spec (ws := wsX11_count) B.pre
  have hown : s.vm.findClass RX11 = some m.cls := findClass_of_methodNamed B.named
  have hlocks := B.notSynchronized
  subst hsz
  have hD := hD0.self (sz := s.heap.size)
  generalize hAe : va_A [(o0, .inr (11, [.ref o1, .ref o2, .ref o3, .ref o4, .ref o5, .ref o6, .ref o7, .ref o8, .ref o9, .ref o10, .ref o11, .ref o12, .int 0])), (o1, .inr (4, [.ref o13, .int 0, .int 0]))] s.heap.size = A at hD ⊢
  have hA : ∀ q : Nat, s.heap.size ≤ q → A q := fun q h => by rw [← hAe]; exact Or.inr h
  have hS : va_S A s.heap s.heap [] := va_S.rf
  have hP : va_P (dC, dI) vwCl [(o0, .inr (11, [.ref o1, .ref o2, .ref o3, .ref o4, .ref o5, .ref o6, .ref o7, .ref o8, .ref o9, .ref o10, .ref o11, .ref o12, .int 0])), (o1, .inr (4, [.ref o13, .int 0, .int 0]))] s.heap := hP
  have hl := lv_entry ([.ref o0, .int 1]) (n := 2) (Nat.le_of_ble_eq_true rfl)
  rw [lg_entry_eq]
  generalize (lg_sl ([.ref o0, .int 1]) ++ List.replicate (2 - (lg_sl ([.ref o0, .int 1])).length) Slot.unset).toArray = ls at hl ⊢
  have hl : lv_has ls 2 [(0, .ref o0), (1, .int 1)] := hl
  refine lv_iload_n hx hb dX11_count_0 rfl (lv_at hl 1 rfl) ?_
  refine lv_tableIn (off := 43) (tgt := 44) hx hb dX11_count_1 (by decide +kernel) (by decide +kernel) (by decide +kernel) (by decide) ?_
  refine lv_aload_n hx hb dX11_count_44 rfl (lv_at hl 0 rfl) ?_
  refine va_get (D := (dC, dI)) (ci := 11) (v := .ref o1) (C := RX11) (T := TX11) (N := 13) hx hb hts iw_X11_count_X11 hown hK hP 0 rfl rfl 0 (by decide) (hts (.fieldLink RX11 10 "HolelessHouse" "graph" "LHolelessHouse$Graph;") (by decide +kernel)) (fun _ h9 => h9) rfl dX11_count_45 ?_
  refine kcall_i (D := (dC, dI)) (S := Unit) (v := 0) (wc := [(o1, .inr (4, [.ref o13, .int 0, .int 0]))]) (wr := [(o0, .inr (11, [.ref o1, .ref o2, .ref o3, .ref o4, .ref o5, .ref o6, .ref o7, .ref o8, .ref o9, .ref o10, .ref o11, .ref o12, .int 0]))]) (w1 := fun _ => [(o1, .inr (4, [.ref o13, .int 0, .int 0]))]) (fun hPc hDc => va_runVN (As := []) (rest := []) ⟨hx, hb, hml, hown, hts⟩ (kX4_pairs_2 l dC dI cI c2 o1 o13 s.heap.size) ⟨va_cnB 0 hts gX11_count_X4_pairs_n148 rfl rfl rfl (hN.1 _ ns_79) (hts (.initialized RX4) (by decide +kernel)) (by decide +kernel) ⟨Nat.le_of_ble_eq_true rfl, Nat.le_of_ble_eq_true rfl⟩, (hts (.instanceMethod yX4_pairs) (by decide +kernel)), (hts (.selects RX4 yX4_pairs yX4_pairs) (by decide +kernel))⟩ (pre_V hPc hK hDc hN (ci := 4) (q0 := 0) rfl rfl) rfl rfl hl.1 rfl (lv_room (Nat.le_of_ble_eq_true rfl)) dX11_count_48 ⟨Nat.le_of_ble_eq_true rfl, Nat.le_of_ble_eq_true rfl⟩) hP hD hS hA [1] [0] rfl rfl (by decide) (by decide) (by decide) (fun u H locs hP hD hS => ?_)
  have hP : va_P (dC, dI) vwCl [(o0, .inr (11, [.ref o1, .ref o2, .ref o3, .ref o4, .ref o5, .ref o6, .ref o7, .ref o8, .ref o9, .ref o10, .ref o11, .ref o12, .int 0])), (o1, .inr (4, [.ref o13, .int 0, .int 0]))] H := hP
  have hD : va_D A [(o0, .inr (11, [.ref o1, .ref o2, .ref o3, .ref o4, .ref o5, .ref o6, .ref o7, .ref o8, .ref o9, .ref o10, .ref o11, .ref o12, .int 0])), (o1, .inr (4, [.ref o13, .int 0, .int 0]))] := hD
  have hP9 := hP.sub (ws' := []) [] rfl
  have hD9 := hD.sub (ws' := []) [] (by decide) rfl
  exact W.iret (v := 0) hx hb hr (fun t ht hW => ⟨⟨0, (), rfl, rfl, by rw [ht]; exact hP9, va_K.moved hW.alike hK, hD9⟩, hS.F ht⟩) hS.2.2 dX11_count_51
set_option maxHeartbeats 1000000 in
set_option maxRecDepth 100000 in
theorem kX12_count_3 (l : Launch) (dC : Nat → ClassId) (dI : Nat → Nat → Nat) (cI c2 : ClassId) (o0 : Nat) (o1 : Nat) (o2 : Nat) (o3 : Nat) (o4 : Nat) (o5 : Nat) (o6 : Nat) (o7 : Nat) (o8 : Nat) (o9 : Nat) (o10 : Nat) (o11 : Nat) (o12 : Nat) (o13 : Nat) (o14 : Nat) (o15 : Nat) (o16 : Nat) (o17 : Nat) (o18 : Nat) (sz : Nat) : Met l yX12_count wsX12_count ({ frames := 1, cells := 0, slots := 0, locals := 22 }) (va_Pc [.ref o0, .int 1] (wPre (dC, dI) [(cI, .int), (c2, .array .int)] [(o0, .inr (12, [.int 0, .ref o2, .int 0, .ref o3, .int 0, .ref o1, .ref o4, .int 0, .ref o5, .int 0, .ref o6, .int (-9), .int 0, .int 0, .ref o7, .ref o8, .ref o9, .ref o10, .ref o11, .int 0, .ref o12, .ref o13, .ref o14, .int 0, .ref o15, .ref o16, .ref o17, .int 0, .ref o18])), (o1, .inl (cI, 12, .inl (fun _ => (-9))))] sz)) (va_Qi (fun (r : Int32) (_ : Unit) => r = 0) (fun _ t => wPost (dC, dI) [(cI, .int), (c2, .array .int)] (va_A [(o0, .inr (12, [.int 0, .ref o2, .int 0, .ref o3, .int 0, .ref o1, .ref o4, .int 0, .ref o5, .int 0, .ref o6, .int (-9), .int 0, .int 0, .ref o7, .ref o8, .ref o9, .ref o10, .ref o11, .int 0, .ref o12, .ref o13, .ref o14, .int 0, .ref o15, .ref o16, .ref o17, .int 0, .ref o18])), (o1, .inl (cI, 12, .inl (fun _ => (-9))))] sz) [] t) (va_A [(o0, .inr (12, [.int 0, .ref o2, .int 0, .ref o3, .int 0, .ref o1, .ref o4, .int 0, .ref o5, .int 0, .ref o6, .int (-9), .int 0, .int 0, .ref o7, .ref o8, .ref o9, .ref o10, .ref o11, .int 0, .ref o12, .ref o13, .ref o14, .int 0, .ref o15, .ref o16, .ref o17, .int 0, .ref o18])), (o1, .inl (cI, 12, .inl (fun _ => (-9))))] sz)) 0 0 (va_A [(o0, .inr (12, [.int 0, .ref o2, .int 0, .ref o3, .int 0, .ref o1, .ref o4, .int 0, .ref o5, .int 0, .ref o6, .int (-9), .int 0, .int 0, .ref o7, .ref o8, .ref o9, .ref o10, .ref o11, .int 0, .ref o12, .ref o13, .ref o14, .int 0, .ref o15, .ref o16, .ref o17, .int 0, .ref o18])), (o1, .inl (cI, 12, .inl (fun _ => (-9))))] sz) := by
  refine Met.ofW (cc := cX12_count) (maxL := 4) (ret := (some .int)) (by decide) rfl ?_
  intro p e s m args below meth c s₁ B hml hv
  obtain ⟨rfl, hsz, hP, hK, hD0, hN⟩ := hv
  have hx := B.exec
  have hb := B.bytes
  have hr := B.returns
  have hts := atoms_spec (ws := wsX12_count) B.pre
  have hown : s.vm.findClass RX12 = some m.cls := findClass_of_methodNamed B.named
  have hlocks := B.notSynchronized
  subst hsz
  have hD := hD0.self (sz := s.heap.size)
  generalize hAe : va_A [(o0, .inr (12, [.int 0, .ref o2, .int 0, .ref o3, .int 0, .ref o1, .ref o4, .int 0, .ref o5, .int 0, .ref o6, .int (-9), .int 0, .int 0, .ref o7, .ref o8, .ref o9, .ref o10, .ref o11, .int 0, .ref o12, .ref o13, .ref o14, .int 0, .ref o15, .ref o16, .ref o17, .int 0, .ref o18])), (o1, .inl (cI, 12, .inl (fun _ => (-9))))] s.heap.size = A at hD ⊢
  have hA : ∀ q : Nat, s.heap.size ≤ q → A q := fun q h => by rw [← hAe]; exact Or.inr h
  have hS : va_S A s.heap s.heap [] := va_S.rf
  have hP : va_P (dC, dI) vwCl [(o0, .inr (12, [.int 0, .ref o2, .int 0, .ref o3, .int 0, .ref o1, .ref o4, .int 0, .ref o5, .int 0, .ref o6, .int (-9), .int 0, .int 0, .ref o7, .ref o8, .ref o9, .ref o10, .ref o11, .int 0, .ref o12, .ref o13, .ref o14, .int 0, .ref o15, .ref o16, .ref o17, .int 0, .ref o18])), (o1, .inl (cI, 12, .inl (fun _ => (-9))))] s.heap := hP
  have hl := lv_entry ([.ref o0, .int 1]) (n := 4) (Nat.le_of_ble_eq_true rfl)
  rw [lg_entry_eq]
  generalize (lg_sl ([.ref o0, .int 1]) ++ List.replicate (4 - (lg_sl ([.ref o0, .int 1])).length) Slot.unset).toArray = ls at hl ⊢
  have hl : lv_has ls 4 [(0, .ref o0), (1, .int 1)] := hl
  refine lv_iconst (v := 0) hx hb dX12_count_0 (by decide) ?_
  refine lv_istore_n (lv' := [(2, .int 0), (0, .ref o0), (1, .int 1)]) hx hb dX12_count_1 rfl hl (by decide) rfl (fun ls hl => ?_)
  refine lv_iconst (v := 0) hx hb dX12_count_2 (by decide) ?_
  refine lv_istore_n (lv' := [(3, .int 0), (2, .int 0), (0, .ref o0), (1, .int 1)]) hx hb dX12_count_3 rfl hl (by decide) rfl (fun ls hl => ?_)
  refine lv_iload_n hx hb dX12_count_4 rfl (lv_at hl 0 rfl) ?_
  refine lv_bipush (v := 12) hx hb dX12_count_5 (by decide) ?_
  refine lv_icmp_ge (tgt := 33) hx hb dX12_count_7 (by decide) (fun h9 => absurd h9 (by decide +kernel)) (fun _ => ?_)
  refine lv_iload_n hx hb dX12_count_10 rfl (lv_at hl 1 rfl) ?_
  refine lv_aload_n hx hb dX12_count_11 rfl (lv_at hl 2 rfl) ?_
  refine va_get (D := (dC, dI)) (ci := 12) (v := .ref o1) (C := RX12) (T := TX12) (N := 29) hx hb hts iw_X12_count_X12 hown hK hP 0 rfl rfl 5 (by decide) (hts (.fieldLink RX12 16 "HolelessHouseModel" "rows" "[I") (by decide +kernel)) (fun _ h9 => h9) rfl dX12_count_12 ?_
  refine lv_iload_n hx hb dX12_count_15 rfl (lv_at hl 0 rfl) ?_
  refine va_iald hx hb hK hP 1 0 rfl rfl (vin (by decide +kernel)) dX12_count_16 (tk_i (v := (-9)) (by decide +kernel) ?_)
  refine lv_if_lt (tgt := 24) hx hb dX12_count_17 (by decide) (fun _ => ?_) (fun h9 => absurd (by decide +kernel) h9)
  refine lv_iconst (v := 0) hx hb dX12_count_24 (by decide) ?_
  refine lv_iadd hx hb dX12_count_25 (tk_i (v := 0) (by decide +kernel) ?_)
  refine lv_istore_n (lv' := [(2, .int 0), (3, .int 0), (0, .ref o0), (1, .int 1)]) hx hb dX12_count_26 rfl hl (by decide) rfl (fun ls hl => ?_)
  refine lv_iinc (v := 1) (lv' := [(3, .int 1), (2, .int 0), (0, .ref o0), (1, .int 1)]) hx hb dX12_count_27 hl (k := 1) rfl (by decide +kernel) (by decide) rfl (fun ls hl => ?_)
  refine lv_goto (tgt := 4) hx hb dX12_count_30 (by decide) ?_
  refine lv_iload_n hx hb dX12_count_4 rfl (lv_at hl 0 rfl) ?_
  refine lv_bipush (v := 12) hx hb dX12_count_5 (by decide) ?_
  refine lv_icmp_ge (tgt := 33) hx hb dX12_count_7 (by decide) (fun h9 => absurd h9 (by decide +kernel)) (fun _ => ?_)
  refine lv_iload_n hx hb dX12_count_10 rfl (lv_at hl 1 rfl) ?_
  refine lv_aload_n hx hb dX12_count_11 rfl (lv_at hl 2 rfl) ?_
  refine va_get (D := (dC, dI)) (ci := 12) (v := .ref o1) (C := RX12) (T := TX12) (N := 29) hx hb hts iw_X12_count_X12 hown hK hP 0 rfl rfl 5 (by decide) (hts (.fieldLink RX12 16 "HolelessHouseModel" "rows" "[I") (by decide +kernel)) (fun _ h9 => h9) rfl dX12_count_12 ?_
  refine lv_iload_n hx hb dX12_count_15 rfl (lv_at hl 0 rfl) ?_
  refine va_iald hx hb hK hP 1 0 rfl rfl (vin (by decide +kernel)) dX12_count_16 (tk_i (v := (-9)) (by decide +kernel) ?_)
  refine lv_if_lt (tgt := 24) hx hb dX12_count_17 (by decide) (fun _ => ?_) (fun h9 => absurd (by decide +kernel) h9)
  refine lv_iconst (v := 0) hx hb dX12_count_24 (by decide) ?_
  refine lv_iadd hx hb dX12_count_25 (tk_i (v := 0) (by decide +kernel) ?_)
  refine lv_istore_n (lv' := [(2, .int 0), (3, .int 1), (0, .ref o0), (1, .int 1)]) hx hb dX12_count_26 rfl hl (by decide) rfl (fun ls hl => ?_)
  refine lv_iinc (v := 2) (lv' := [(3, .int 2), (2, .int 0), (0, .ref o0), (1, .int 1)]) hx hb dX12_count_27 hl (k := 1) rfl (by decide +kernel) (by decide) rfl (fun ls hl => ?_)
  refine lv_goto (tgt := 4) hx hb dX12_count_30 (by decide) ?_
  refine lv_iload_n hx hb dX12_count_4 rfl (lv_at hl 0 rfl) ?_
  refine lv_bipush (v := 12) hx hb dX12_count_5 (by decide) ?_
  refine lv_icmp_ge (tgt := 33) hx hb dX12_count_7 (by decide) (fun h9 => absurd h9 (by decide +kernel)) (fun _ => ?_)
  refine lv_iload_n hx hb dX12_count_10 rfl (lv_at hl 1 rfl) ?_
  refine lv_aload_n hx hb dX12_count_11 rfl (lv_at hl 2 rfl) ?_
  refine va_get (D := (dC, dI)) (ci := 12) (v := .ref o1) (C := RX12) (T := TX12) (N := 29) hx hb hts iw_X12_count_X12 hown hK hP 0 rfl rfl 5 (by decide) (hts (.fieldLink RX12 16 "HolelessHouseModel" "rows" "[I") (by decide +kernel)) (fun _ h9 => h9) rfl dX12_count_12 ?_
  refine lv_iload_n hx hb dX12_count_15 rfl (lv_at hl 0 rfl) ?_
  refine va_iald hx hb hK hP 1 0 rfl rfl (vin (by decide +kernel)) dX12_count_16 (tk_i (v := (-9)) (by decide +kernel) ?_)
  refine lv_if_lt (tgt := 24) hx hb dX12_count_17 (by decide) (fun _ => ?_) (fun h9 => absurd (by decide +kernel) h9)
  refine lv_iconst (v := 0) hx hb dX12_count_24 (by decide) ?_
  refine lv_iadd hx hb dX12_count_25 (tk_i (v := 0) (by decide +kernel) ?_)
  refine lv_istore_n (lv' := [(2, .int 0), (3, .int 2), (0, .ref o0), (1, .int 1)]) hx hb dX12_count_26 rfl hl (by decide) rfl (fun ls hl => ?_)
  refine lv_iinc (v := 3) (lv' := [(3, .int 3), (2, .int 0), (0, .ref o0), (1, .int 1)]) hx hb dX12_count_27 hl (k := 1) rfl (by decide +kernel) (by decide) rfl (fun ls hl => ?_)
  refine lv_goto (tgt := 4) hx hb dX12_count_30 (by decide) ?_
  refine lv_iload_n hx hb dX12_count_4 rfl (lv_at hl 0 rfl) ?_
  refine lv_bipush (v := 12) hx hb dX12_count_5 (by decide) ?_
  refine lv_icmp_ge (tgt := 33) hx hb dX12_count_7 (by decide) (fun h9 => absurd h9 (by decide +kernel)) (fun _ => ?_)
  refine lv_iload_n hx hb dX12_count_10 rfl (lv_at hl 1 rfl) ?_
  refine lv_aload_n hx hb dX12_count_11 rfl (lv_at hl 2 rfl) ?_
  refine va_get (D := (dC, dI)) (ci := 12) (v := .ref o1) (C := RX12) (T := TX12) (N := 29) hx hb hts iw_X12_count_X12 hown hK hP 0 rfl rfl 5 (by decide) (hts (.fieldLink RX12 16 "HolelessHouseModel" "rows" "[I") (by decide +kernel)) (fun _ h9 => h9) rfl dX12_count_12 ?_
  refine lv_iload_n hx hb dX12_count_15 rfl (lv_at hl 0 rfl) ?_
  refine va_iald hx hb hK hP 1 0 rfl rfl (vin (by decide +kernel)) dX12_count_16 (tk_i (v := (-9)) (by decide +kernel) ?_)
  refine lv_if_lt (tgt := 24) hx hb dX12_count_17 (by decide) (fun _ => ?_) (fun h9 => absurd (by decide +kernel) h9)
  refine lv_iconst (v := 0) hx hb dX12_count_24 (by decide) ?_
  refine lv_iadd hx hb dX12_count_25 (tk_i (v := 0) (by decide +kernel) ?_)
  refine lv_istore_n (lv' := [(2, .int 0), (3, .int 3), (0, .ref o0), (1, .int 1)]) hx hb dX12_count_26 rfl hl (by decide) rfl (fun ls hl => ?_)
  refine lv_iinc (v := 4) (lv' := [(3, .int 4), (2, .int 0), (0, .ref o0), (1, .int 1)]) hx hb dX12_count_27 hl (k := 1) rfl (by decide +kernel) (by decide) rfl (fun ls hl => ?_)
  refine lv_goto (tgt := 4) hx hb dX12_count_30 (by decide) ?_
  refine lv_iload_n hx hb dX12_count_4 rfl (lv_at hl 0 rfl) ?_
  refine lv_bipush (v := 12) hx hb dX12_count_5 (by decide) ?_
  refine lv_icmp_ge (tgt := 33) hx hb dX12_count_7 (by decide) (fun h9 => absurd h9 (by decide +kernel)) (fun _ => ?_)
  refine lv_iload_n hx hb dX12_count_10 rfl (lv_at hl 1 rfl) ?_
  refine lv_aload_n hx hb dX12_count_11 rfl (lv_at hl 2 rfl) ?_
  refine va_get (D := (dC, dI)) (ci := 12) (v := .ref o1) (C := RX12) (T := TX12) (N := 29) hx hb hts iw_X12_count_X12 hown hK hP 0 rfl rfl 5 (by decide) (hts (.fieldLink RX12 16 "HolelessHouseModel" "rows" "[I") (by decide +kernel)) (fun _ h9 => h9) rfl dX12_count_12 ?_
  refine lv_iload_n hx hb dX12_count_15 rfl (lv_at hl 0 rfl) ?_
  refine va_iald hx hb hK hP 1 0 rfl rfl (vin (by decide +kernel)) dX12_count_16 (tk_i (v := (-9)) (by decide +kernel) ?_)
  refine lv_if_lt (tgt := 24) hx hb dX12_count_17 (by decide) (fun _ => ?_) (fun h9 => absurd (by decide +kernel) h9)
  refine lv_iconst (v := 0) hx hb dX12_count_24 (by decide) ?_
  refine lv_iadd hx hb dX12_count_25 (tk_i (v := 0) (by decide +kernel) ?_)
  refine lv_istore_n (lv' := [(2, .int 0), (3, .int 4), (0, .ref o0), (1, .int 1)]) hx hb dX12_count_26 rfl hl (by decide) rfl (fun ls hl => ?_)
  refine lv_iinc (v := 5) (lv' := [(3, .int 5), (2, .int 0), (0, .ref o0), (1, .int 1)]) hx hb dX12_count_27 hl (k := 1) rfl (by decide +kernel) (by decide) rfl (fun ls hl => ?_)
  refine lv_goto (tgt := 4) hx hb dX12_count_30 (by decide) ?_
  refine lv_iload_n hx hb dX12_count_4 rfl (lv_at hl 0 rfl) ?_
  refine lv_bipush (v := 12) hx hb dX12_count_5 (by decide) ?_
  refine lv_icmp_ge (tgt := 33) hx hb dX12_count_7 (by decide) (fun h9 => absurd h9 (by decide +kernel)) (fun _ => ?_)
  refine lv_iload_n hx hb dX12_count_10 rfl (lv_at hl 1 rfl) ?_
  refine lv_aload_n hx hb dX12_count_11 rfl (lv_at hl 2 rfl) ?_
  refine va_get (D := (dC, dI)) (ci := 12) (v := .ref o1) (C := RX12) (T := TX12) (N := 29) hx hb hts iw_X12_count_X12 hown hK hP 0 rfl rfl 5 (by decide) (hts (.fieldLink RX12 16 "HolelessHouseModel" "rows" "[I") (by decide +kernel)) (fun _ h9 => h9) rfl dX12_count_12 ?_
  refine lv_iload_n hx hb dX12_count_15 rfl (lv_at hl 0 rfl) ?_
  refine va_iald hx hb hK hP 1 0 rfl rfl (vin (by decide +kernel)) dX12_count_16 (tk_i (v := (-9)) (by decide +kernel) ?_)
  refine lv_if_lt (tgt := 24) hx hb dX12_count_17 (by decide) (fun _ => ?_) (fun h9 => absurd (by decide +kernel) h9)
  refine lv_iconst (v := 0) hx hb dX12_count_24 (by decide) ?_
  refine lv_iadd hx hb dX12_count_25 (tk_i (v := 0) (by decide +kernel) ?_)
  refine lv_istore_n (lv' := [(2, .int 0), (3, .int 5), (0, .ref o0), (1, .int 1)]) hx hb dX12_count_26 rfl hl (by decide) rfl (fun ls hl => ?_)
  refine lv_iinc (v := 6) (lv' := [(3, .int 6), (2, .int 0), (0, .ref o0), (1, .int 1)]) hx hb dX12_count_27 hl (k := 1) rfl (by decide +kernel) (by decide) rfl (fun ls hl => ?_)
  refine lv_goto (tgt := 4) hx hb dX12_count_30 (by decide) ?_
  refine lv_iload_n hx hb dX12_count_4 rfl (lv_at hl 0 rfl) ?_
  refine lv_bipush (v := 12) hx hb dX12_count_5 (by decide) ?_
  refine lv_icmp_ge (tgt := 33) hx hb dX12_count_7 (by decide) (fun h9 => absurd h9 (by decide +kernel)) (fun _ => ?_)
  refine lv_iload_n hx hb dX12_count_10 rfl (lv_at hl 1 rfl) ?_
  refine lv_aload_n hx hb dX12_count_11 rfl (lv_at hl 2 rfl) ?_
  refine va_get (D := (dC, dI)) (ci := 12) (v := .ref o1) (C := RX12) (T := TX12) (N := 29) hx hb hts iw_X12_count_X12 hown hK hP 0 rfl rfl 5 (by decide) (hts (.fieldLink RX12 16 "HolelessHouseModel" "rows" "[I") (by decide +kernel)) (fun _ h9 => h9) rfl dX12_count_12 ?_
  refine lv_iload_n hx hb dX12_count_15 rfl (lv_at hl 0 rfl) ?_
  refine va_iald hx hb hK hP 1 0 rfl rfl (vin (by decide +kernel)) dX12_count_16 (tk_i (v := (-9)) (by decide +kernel) ?_)
  refine lv_if_lt (tgt := 24) hx hb dX12_count_17 (by decide) (fun _ => ?_) (fun h9 => absurd (by decide +kernel) h9)
  refine lv_iconst (v := 0) hx hb dX12_count_24 (by decide) ?_
  refine lv_iadd hx hb dX12_count_25 (tk_i (v := 0) (by decide +kernel) ?_)
  refine lv_istore_n (lv' := [(2, .int 0), (3, .int 6), (0, .ref o0), (1, .int 1)]) hx hb dX12_count_26 rfl hl (by decide) rfl (fun ls hl => ?_)
  refine lv_iinc (v := 7) (lv' := [(3, .int 7), (2, .int 0), (0, .ref o0), (1, .int 1)]) hx hb dX12_count_27 hl (k := 1) rfl (by decide +kernel) (by decide) rfl (fun ls hl => ?_)
  refine lv_goto (tgt := 4) hx hb dX12_count_30 (by decide) ?_
  refine lv_iload_n hx hb dX12_count_4 rfl (lv_at hl 0 rfl) ?_
  refine lv_bipush (v := 12) hx hb dX12_count_5 (by decide) ?_
  refine lv_icmp_ge (tgt := 33) hx hb dX12_count_7 (by decide) (fun h9 => absurd h9 (by decide +kernel)) (fun _ => ?_)
  refine lv_iload_n hx hb dX12_count_10 rfl (lv_at hl 1 rfl) ?_
  refine lv_aload_n hx hb dX12_count_11 rfl (lv_at hl 2 rfl) ?_
  refine va_get (D := (dC, dI)) (ci := 12) (v := .ref o1) (C := RX12) (T := TX12) (N := 29) hx hb hts iw_X12_count_X12 hown hK hP 0 rfl rfl 5 (by decide) (hts (.fieldLink RX12 16 "HolelessHouseModel" "rows" "[I") (by decide +kernel)) (fun _ h9 => h9) rfl dX12_count_12 ?_
  refine lv_iload_n hx hb dX12_count_15 rfl (lv_at hl 0 rfl) ?_
  refine va_iald hx hb hK hP 1 0 rfl rfl (vin (by decide +kernel)) dX12_count_16 (tk_i (v := (-9)) (by decide +kernel) ?_)
  refine lv_if_lt (tgt := 24) hx hb dX12_count_17 (by decide) (fun _ => ?_) (fun h9 => absurd (by decide +kernel) h9)
  refine lv_iconst (v := 0) hx hb dX12_count_24 (by decide) ?_
  refine lv_iadd hx hb dX12_count_25 (tk_i (v := 0) (by decide +kernel) ?_)
  refine lv_istore_n (lv' := [(2, .int 0), (3, .int 7), (0, .ref o0), (1, .int 1)]) hx hb dX12_count_26 rfl hl (by decide) rfl (fun ls hl => ?_)
  refine lv_iinc (v := 8) (lv' := [(3, .int 8), (2, .int 0), (0, .ref o0), (1, .int 1)]) hx hb dX12_count_27 hl (k := 1) rfl (by decide +kernel) (by decide) rfl (fun ls hl => ?_)
  refine lv_goto (tgt := 4) hx hb dX12_count_30 (by decide) ?_
  refine lv_iload_n hx hb dX12_count_4 rfl (lv_at hl 0 rfl) ?_
  refine lv_bipush (v := 12) hx hb dX12_count_5 (by decide) ?_
  refine lv_icmp_ge (tgt := 33) hx hb dX12_count_7 (by decide) (fun h9 => absurd h9 (by decide +kernel)) (fun _ => ?_)
  refine lv_iload_n hx hb dX12_count_10 rfl (lv_at hl 1 rfl) ?_
  refine lv_aload_n hx hb dX12_count_11 rfl (lv_at hl 2 rfl) ?_
  refine va_get (D := (dC, dI)) (ci := 12) (v := .ref o1) (C := RX12) (T := TX12) (N := 29) hx hb hts iw_X12_count_X12 hown hK hP 0 rfl rfl 5 (by decide) (hts (.fieldLink RX12 16 "HolelessHouseModel" "rows" "[I") (by decide +kernel)) (fun _ h9 => h9) rfl dX12_count_12 ?_
  refine lv_iload_n hx hb dX12_count_15 rfl (lv_at hl 0 rfl) ?_
  refine va_iald hx hb hK hP 1 0 rfl rfl (vin (by decide +kernel)) dX12_count_16 (tk_i (v := (-9)) (by decide +kernel) ?_)
  refine lv_if_lt (tgt := 24) hx hb dX12_count_17 (by decide) (fun _ => ?_) (fun h9 => absurd (by decide +kernel) h9)
  refine lv_iconst (v := 0) hx hb dX12_count_24 (by decide) ?_
  refine lv_iadd hx hb dX12_count_25 (tk_i (v := 0) (by decide +kernel) ?_)
  refine lv_istore_n (lv' := [(2, .int 0), (3, .int 8), (0, .ref o0), (1, .int 1)]) hx hb dX12_count_26 rfl hl (by decide) rfl (fun ls hl => ?_)
  refine lv_iinc (v := 9) (lv' := [(3, .int 9), (2, .int 0), (0, .ref o0), (1, .int 1)]) hx hb dX12_count_27 hl (k := 1) rfl (by decide +kernel) (by decide) rfl (fun ls hl => ?_)
  refine lv_goto (tgt := 4) hx hb dX12_count_30 (by decide) ?_
  refine lv_iload_n hx hb dX12_count_4 rfl (lv_at hl 0 rfl) ?_
  refine lv_bipush (v := 12) hx hb dX12_count_5 (by decide) ?_
  refine lv_icmp_ge (tgt := 33) hx hb dX12_count_7 (by decide) (fun h9 => absurd h9 (by decide +kernel)) (fun _ => ?_)
  refine lv_iload_n hx hb dX12_count_10 rfl (lv_at hl 1 rfl) ?_
  refine lv_aload_n hx hb dX12_count_11 rfl (lv_at hl 2 rfl) ?_
  refine va_get (D := (dC, dI)) (ci := 12) (v := .ref o1) (C := RX12) (T := TX12) (N := 29) hx hb hts iw_X12_count_X12 hown hK hP 0 rfl rfl 5 (by decide) (hts (.fieldLink RX12 16 "HolelessHouseModel" "rows" "[I") (by decide +kernel)) (fun _ h9 => h9) rfl dX12_count_12 ?_
  refine lv_iload_n hx hb dX12_count_15 rfl (lv_at hl 0 rfl) ?_
  refine va_iald hx hb hK hP 1 0 rfl rfl (vin (by decide +kernel)) dX12_count_16 (tk_i (v := (-9)) (by decide +kernel) ?_)
  refine lv_if_lt (tgt := 24) hx hb dX12_count_17 (by decide) (fun _ => ?_) (fun h9 => absurd (by decide +kernel) h9)
  refine lv_iconst (v := 0) hx hb dX12_count_24 (by decide) ?_
  refine lv_iadd hx hb dX12_count_25 (tk_i (v := 0) (by decide +kernel) ?_)
  refine lv_istore_n (lv' := [(2, .int 0), (3, .int 9), (0, .ref o0), (1, .int 1)]) hx hb dX12_count_26 rfl hl (by decide) rfl (fun ls hl => ?_)
  refine lv_iinc (v := 10) (lv' := [(3, .int 10), (2, .int 0), (0, .ref o0), (1, .int 1)]) hx hb dX12_count_27 hl (k := 1) rfl (by decide +kernel) (by decide) rfl (fun ls hl => ?_)
  refine lv_goto (tgt := 4) hx hb dX12_count_30 (by decide) ?_
  refine lv_iload_n hx hb dX12_count_4 rfl (lv_at hl 0 rfl) ?_
  refine lv_bipush (v := 12) hx hb dX12_count_5 (by decide) ?_
  refine lv_icmp_ge (tgt := 33) hx hb dX12_count_7 (by decide) (fun h9 => absurd h9 (by decide +kernel)) (fun _ => ?_)
  refine lv_iload_n hx hb dX12_count_10 rfl (lv_at hl 1 rfl) ?_
  refine lv_aload_n hx hb dX12_count_11 rfl (lv_at hl 2 rfl) ?_
  refine va_get (D := (dC, dI)) (ci := 12) (v := .ref o1) (C := RX12) (T := TX12) (N := 29) hx hb hts iw_X12_count_X12 hown hK hP 0 rfl rfl 5 (by decide) (hts (.fieldLink RX12 16 "HolelessHouseModel" "rows" "[I") (by decide +kernel)) (fun _ h9 => h9) rfl dX12_count_12 ?_
  refine lv_iload_n hx hb dX12_count_15 rfl (lv_at hl 0 rfl) ?_
  refine va_iald hx hb hK hP 1 0 rfl rfl (vin (by decide +kernel)) dX12_count_16 (tk_i (v := (-9)) (by decide +kernel) ?_)
  refine lv_if_lt (tgt := 24) hx hb dX12_count_17 (by decide) (fun _ => ?_) (fun h9 => absurd (by decide +kernel) h9)
  refine lv_iconst (v := 0) hx hb dX12_count_24 (by decide) ?_
  refine lv_iadd hx hb dX12_count_25 (tk_i (v := 0) (by decide +kernel) ?_)
  refine lv_istore_n (lv' := [(2, .int 0), (3, .int 10), (0, .ref o0), (1, .int 1)]) hx hb dX12_count_26 rfl hl (by decide) rfl (fun ls hl => ?_)
  refine lv_iinc (v := 11) (lv' := [(3, .int 11), (2, .int 0), (0, .ref o0), (1, .int 1)]) hx hb dX12_count_27 hl (k := 1) rfl (by decide +kernel) (by decide) rfl (fun ls hl => ?_)
  refine lv_goto (tgt := 4) hx hb dX12_count_30 (by decide) ?_
  refine lv_iload_n hx hb dX12_count_4 rfl (lv_at hl 0 rfl) ?_
  refine lv_bipush (v := 12) hx hb dX12_count_5 (by decide) ?_
  refine lv_icmp_ge (tgt := 33) hx hb dX12_count_7 (by decide) (fun h9 => absurd h9 (by decide +kernel)) (fun _ => ?_)
  refine lv_iload_n hx hb dX12_count_10 rfl (lv_at hl 1 rfl) ?_
  refine lv_aload_n hx hb dX12_count_11 rfl (lv_at hl 2 rfl) ?_
  refine va_get (D := (dC, dI)) (ci := 12) (v := .ref o1) (C := RX12) (T := TX12) (N := 29) hx hb hts iw_X12_count_X12 hown hK hP 0 rfl rfl 5 (by decide) (hts (.fieldLink RX12 16 "HolelessHouseModel" "rows" "[I") (by decide +kernel)) (fun _ h9 => h9) rfl dX12_count_12 ?_
  refine lv_iload_n hx hb dX12_count_15 rfl (lv_at hl 0 rfl) ?_
  refine va_iald hx hb hK hP 1 0 rfl rfl (vin (by decide +kernel)) dX12_count_16 (tk_i (v := (-9)) (by decide +kernel) ?_)
  refine lv_if_lt (tgt := 24) hx hb dX12_count_17 (by decide) (fun _ => ?_) (fun h9 => absurd (by decide +kernel) h9)
  refine lv_iconst (v := 0) hx hb dX12_count_24 (by decide) ?_
  refine lv_iadd hx hb dX12_count_25 (tk_i (v := 0) (by decide +kernel) ?_)
  refine lv_istore_n (lv' := [(2, .int 0), (3, .int 11), (0, .ref o0), (1, .int 1)]) hx hb dX12_count_26 rfl hl (by decide) rfl (fun ls hl => ?_)
  refine lv_iinc (v := 12) (lv' := [(3, .int 12), (2, .int 0), (0, .ref o0), (1, .int 1)]) hx hb dX12_count_27 hl (k := 1) rfl (by decide +kernel) (by decide) rfl (fun ls hl => ?_)
  refine lv_goto (tgt := 4) hx hb dX12_count_30 (by decide) ?_
  refine lv_iload_n hx hb dX12_count_4 rfl (lv_at hl 0 rfl) ?_
  refine lv_bipush (v := 12) hx hb dX12_count_5 (by decide) ?_
  refine lv_icmp_ge (tgt := 33) hx hb dX12_count_7 (by decide) (fun _ => ?_) (fun h9 => absurd (by decide +kernel) h9)
  refine lv_iload_n hx hb dX12_count_33 rfl (lv_at hl 3 rfl) ?_
  refine lv_tableIn (off := 39) (tgt := 73) hx hb dX12_count_34 (by decide +kernel) (by decide +kernel) (by decide +kernel) (by decide) ?_
  refine lv_aload_n hx hb dX12_count_73 rfl (lv_at hl 2 rfl) ?_
  refine kcall_i (D := (dC, dI)) (S := Unit) (v := 0) (wc := [(o0, .inr (12, [.int 0, .ref o2, .int 0, .ref o3, .int 0, .ref o1, .ref o4, .int 0, .ref o5, .int 0, .ref o6, .int (-9), .int 0, .int 0, .ref o7, .ref o8, .ref o9, .ref o10, .ref o11, .int 0, .ref o12, .ref o13, .ref o14, .int 0, .ref o15, .ref o16, .ref o17, .int 0, .ref o18]))]) (wr := [(o1, .inl (cI, 12, .inl (fun _ => (-9))))]) (w1 := fun _ => [(o0, .inr (12, [.int 0, .ref o2, .int 0, .ref o3, .int 0, .ref o1, .ref o4, .int 0, .ref o5, .int 0, .ref o6, .int (-9), .int 0, .int 0, .ref o7, .ref o8, .ref o9, .ref o10, .ref o11, .int 0, .ref o12, .ref o13, .ref o14, .int 0, .ref o15, .ref o16, .ref o17, .int 0, .ref o18]))]) (fun hPc hDc => va_runV (As := []) (rest := []) ⟨hx, hb, hml, hown, hts⟩ (kX12_pairs_1 l dC dI cI c2 o0 o2 o3 o1 o4 o5 o6 o7 o8 o9 o10 o11 o12 o13 o14 o15 o16 o17 o18 s.heap.size) (cwV 0 hts gX12_count_X12_pairs rfl rfl rfl (by decide +kernel) ⟨Nat.le_of_ble_eq_true rfl, Nat.le_of_ble_eq_true rfl⟩) (pre_V hPc hK hDc hN (ci := 12) (q0 := 0) rfl rfl) rfl rfl hl.1 rfl (lv_room (Nat.le_of_ble_eq_true rfl)) dX12_count_74 ⟨Nat.le_of_ble_eq_true rfl, Nat.le_of_ble_eq_true rfl⟩) hP hD hS hA [0] [1] rfl rfl (by decide) (by decide) (by decide) (fun u H locs hP hD hS => ?_)
  have hP : va_P (dC, dI) vwCl [(o1, .inl (cI, 12, .inl (fun _ => (-9)))), (o0, .inr (12, [.int 0, .ref o2, .int 0, .ref o3, .int 0, .ref o1, .ref o4, .int 0, .ref o5, .int 0, .ref o6, .int (-9), .int 0, .int 0, .ref o7, .ref o8, .ref o9, .ref o10, .ref o11, .int 0, .ref o12, .ref o13, .ref o14, .int 0, .ref o15, .ref o16, .ref o17, .int 0, .ref o18]))] H := hP
  have hD : va_D A [(o1, .inl (cI, 12, .inl (fun _ => (-9)))), (o0, .inr (12, [.int 0, .ref o2, .int 0, .ref o3, .int 0, .ref o1, .ref o4, .int 0, .ref o5, .int 0, .ref o6, .int (-9), .int 0, .int 0, .ref o7, .ref o8, .ref o9, .ref o10, .ref o11, .int 0, .ref o12, .ref o13, .ref o14, .int 0, .ref o15, .ref o16, .ref o17, .int 0, .ref o18]))] := hD
  have hP9 := hP.sub (ws' := []) [] rfl
  have hD9 := hD.sub (ws' := []) [] (by decide) rfl
  exact W.iret (v := 0) hx hb hr (fun t ht hW => ⟨⟨0, (), rfl, rfl, by rw [ht]; exact hP9, va_K.moved hW.alike hK, hD9⟩, hS.F ht⟩) hS.2.2 dX12_count_77
theorem iw_X11_count_X10 : ∀ w ∈ wsX100, w ∈ wsX11_count := by decide +kernel
set_option maxHeartbeats 1000000 in
set_option maxRecDepth 100000 in
theorem kX11_count_4 (l : Launch) (dC : Nat → ClassId) (dI : Nat → Nat → Nat) (cI c2 : ClassId) (o0 : Nat) (o1 : Nat) (o2 : Nat) (o3 : Nat) (o4 : Nat) (o5 : Nat) (o6 : Nat) (o7 : Nat) (o8 : Nat) (o9 : Nat) (o10 : Nat) (o11 : Nat) (o12 : Nat) (o13 : Nat) (sz : Nat) : Met l yX11_count wsX11_count ({ frames := 0, cells := 0, slots := 0, locals := 0 }) (va_Pc [.ref o0, .int 2] (wPre (dC, dI) [(cI, .int), (c2, .array .int)] [(o0, .inr (11, [.ref o2, .ref o1, .ref o3, .ref o4, .ref o5, .ref o6, .ref o7, .ref o8, .ref o9, .ref o10, .ref o11, .ref o12, .int 0])), (o1, .inr (10, [.ref o13, .int 0, .int 0]))] sz)) (va_Qi (fun (r : Int32) (_ : Unit) => r = 0) (fun _ t => wPost (dC, dI) [(cI, .int), (c2, .array .int)] (va_A [(o0, .inr (11, [.ref o2, .ref o1, .ref o3, .ref o4, .ref o5, .ref o6, .ref o7, .ref o8, .ref o9, .ref o10, .ref o11, .ref o12, .int 0])), (o1, .inr (10, [.ref o13, .int 0, .int 0]))] sz) [] t) (va_A [(o0, .inr (11, [.ref o2, .ref o1, .ref o3, .ref o4, .ref o5, .ref o6, .ref o7, .ref o8, .ref o9, .ref o10, .ref o11, .ref o12, .int 0])), (o1, .inr (10, [.ref o13, .int 0, .int 0]))] sz)) 0 0 (va_A [(o0, .inr (11, [.ref o2, .ref o1, .ref o3, .ref o4, .ref o5, .ref o6, .ref o7, .ref o8, .ref o9, .ref o10, .ref o11, .ref o12, .int 0])), (o1, .inr (10, [.ref o13, .int 0, .int 0]))] sz) := by
  refine Met.ofW (cc := cX11_count) (maxL := 2) (ret := (some .int)) (by decide) rfl ?_
  intro p e s m args below meth c s₁ B hml hv
  obtain ⟨rfl, hsz, hP, hK, hD0, hN⟩ := hv
  have hx := B.exec
  have hb := B.bytes
  have hr := B.returns
  have hts := atoms_spec (ws := wsX11_count) B.pre
  have hown : s.vm.findClass RX11 = some m.cls := findClass_of_methodNamed B.named
  have hlocks := B.notSynchronized
  subst hsz
  have hD := hD0.self (sz := s.heap.size)
  generalize hAe : va_A [(o0, .inr (11, [.ref o2, .ref o1, .ref o3, .ref o4, .ref o5, .ref o6, .ref o7, .ref o8, .ref o9, .ref o10, .ref o11, .ref o12, .int 0])), (o1, .inr (10, [.ref o13, .int 0, .int 0]))] s.heap.size = A at hD ⊢
  have hA : ∀ q : Nat, s.heap.size ≤ q → A q := fun q h => by rw [← hAe]; exact Or.inr h
  have hS : va_S A s.heap s.heap [] := va_S.rf
  have hP : va_P (dC, dI) vwCl [(o0, .inr (11, [.ref o2, .ref o1, .ref o3, .ref o4, .ref o5, .ref o6, .ref o7, .ref o8, .ref o9, .ref o10, .ref o11, .ref o12, .int 0])), (o1, .inr (10, [.ref o13, .int 0, .int 0]))] s.heap := hP
  have hl := lv_entry ([.ref o0, .int 2]) (n := 2) (Nat.le_of_ble_eq_true rfl)
  rw [lg_entry_eq]
  generalize (lg_sl ([.ref o0, .int 2]) ++ List.replicate (2 - (lg_sl ([.ref o0, .int 2])).length) Slot.unset).toArray = ls at hl ⊢
  have hl : lv_has ls 2 [(0, .ref o0), (1, .int 2)] := hl
  refine lv_iload_n hx hb dX11_count_0 rfl (lv_at hl 1 rfl) ?_
  refine lv_tableIn (off := 51) (tgt := 52) hx hb dX11_count_1 (by decide +kernel) (by decide +kernel) (by decide +kernel) (by decide) ?_
  refine lv_aload_n hx hb dX11_count_52 rfl (lv_at hl 0 rfl) ?_
  refine va_get (D := (dC, dI)) (ci := 11) (v := .ref o1) (C := RX11) (T := TX11) (N := 13) hx hb hts iw_X11_count_X11 hown hK hP 0 rfl rfl 1 (by decide) (hts (.fieldLink RX11 19 "HolelessHouse" "table" "LHolelessHouse$Table;") (by decide +kernel)) (fun _ h9 => h9) rfl dX11_count_53 ?_
  refine va_getN (D := (dC, dI)) (ci := 10) (v := .int 0) (C := RX10) (T := TX10) (N := 3) hx hb hts iw_X11_count_X10 hown hK hP 1 rfl rfl 1 (by decide) (hN.use ns_22) (fun _ h9 => h9) rfl dX11_count_56 ?_
  have hP9 := hP.sub (ws' := []) [] rfl
  have hD9 := hD.sub (ws' := []) [] (by decide) rfl
  exact W.iret (v := 0) hx hb hr (fun t ht hW => ⟨⟨0, (), rfl, rfl, by rw [ht]; exact hP9, va_K.moved hW.alike hK, hD9⟩, hS.F ht⟩) hS.2.2 dX11_count_59
set_option maxHeartbeats 1000000 in
set_option maxRecDepth 100000 in
theorem kX12_count_4 (l : Launch) (dC : Nat → ClassId) (dI : Nat → Nat → Nat) (cI c2 : ClassId) (o0 : Nat) (o1 : Nat) (o2 : Nat) (o3 : Nat) (o4 : Nat) (o5 : Nat) (o6 : Nat) (o7 : Nat) (o8 : Nat) (o9 : Nat) (o10 : Nat) (o11 : Nat) (o12 : Nat) (o13 : Nat) (o14 : Nat) (o15 : Nat) (o16 : Nat) (o17 : Nat) (o18 : Nat) (sz : Nat) : Met l yX12_count wsX12_count ({ frames := 0, cells := 0, slots := 0, locals := 0 }) (va_Pc [.ref o0, .int 2] (wPre (dC, dI) [(cI, .int), (c2, .array .int)] [(o0, .inr (12, [.int 0, .ref o2, .int 0, .ref o3, .int 0, .ref o1, .ref o4, .int 0, .ref o5, .int 0, .ref o6, .int (-9), .int 0, .int 0, .ref o7, .ref o8, .ref o9, .ref o10, .ref o11, .int 0, .ref o12, .ref o13, .ref o14, .int 0, .ref o15, .ref o16, .ref o17, .int 0, .ref o18])), (o1, .inl (cI, 12, .inl (fun _ => (-9))))] sz)) (va_Qi (fun (r : Int32) (_ : Unit) => r = 0) (fun _ t => wPost (dC, dI) [(cI, .int), (c2, .array .int)] (va_A [(o0, .inr (12, [.int 0, .ref o2, .int 0, .ref o3, .int 0, .ref o1, .ref o4, .int 0, .ref o5, .int 0, .ref o6, .int (-9), .int 0, .int 0, .ref o7, .ref o8, .ref o9, .ref o10, .ref o11, .int 0, .ref o12, .ref o13, .ref o14, .int 0, .ref o15, .ref o16, .ref o17, .int 0, .ref o18])), (o1, .inl (cI, 12, .inl (fun _ => (-9))))] sz) [] t) (va_A [(o0, .inr (12, [.int 0, .ref o2, .int 0, .ref o3, .int 0, .ref o1, .ref o4, .int 0, .ref o5, .int 0, .ref o6, .int (-9), .int 0, .int 0, .ref o7, .ref o8, .ref o9, .ref o10, .ref o11, .int 0, .ref o12, .ref o13, .ref o14, .int 0, .ref o15, .ref o16, .ref o17, .int 0, .ref o18])), (o1, .inl (cI, 12, .inl (fun _ => (-9))))] sz)) 0 0 (va_A [(o0, .inr (12, [.int 0, .ref o2, .int 0, .ref o3, .int 0, .ref o1, .ref o4, .int 0, .ref o5, .int 0, .ref o6, .int (-9), .int 0, .int 0, .ref o7, .ref o8, .ref o9, .ref o10, .ref o11, .int 0, .ref o12, .ref o13, .ref o14, .int 0, .ref o15, .ref o16, .ref o17, .int 0, .ref o18])), (o1, .inl (cI, 12, .inl (fun _ => (-9))))] sz) := by
  refine Met.ofW (cc := cX12_count) (maxL := 4) (ret := (some .int)) (by decide) rfl ?_
  intro p e s m args below meth c s₁ B hml hv
  obtain ⟨rfl, hsz, hP, hK, hD0, hN⟩ := hv
  have hx := B.exec
  have hb := B.bytes
  have hr := B.returns
  have hts := atoms_spec (ws := wsX12_count) B.pre
  have hown : s.vm.findClass RX12 = some m.cls := findClass_of_methodNamed B.named
  have hlocks := B.notSynchronized
  subst hsz
  have hD := hD0.self (sz := s.heap.size)
  generalize hAe : va_A [(o0, .inr (12, [.int 0, .ref o2, .int 0, .ref o3, .int 0, .ref o1, .ref o4, .int 0, .ref o5, .int 0, .ref o6, .int (-9), .int 0, .int 0, .ref o7, .ref o8, .ref o9, .ref o10, .ref o11, .int 0, .ref o12, .ref o13, .ref o14, .int 0, .ref o15, .ref o16, .ref o17, .int 0, .ref o18])), (o1, .inl (cI, 12, .inl (fun _ => (-9))))] s.heap.size = A at hD ⊢
  have hA : ∀ q : Nat, s.heap.size ≤ q → A q := fun q h => by rw [← hAe]; exact Or.inr h
  have hS : va_S A s.heap s.heap [] := va_S.rf
  have hP : va_P (dC, dI) vwCl [(o0, .inr (12, [.int 0, .ref o2, .int 0, .ref o3, .int 0, .ref o1, .ref o4, .int 0, .ref o5, .int 0, .ref o6, .int (-9), .int 0, .int 0, .ref o7, .ref o8, .ref o9, .ref o10, .ref o11, .int 0, .ref o12, .ref o13, .ref o14, .int 0, .ref o15, .ref o16, .ref o17, .int 0, .ref o18])), (o1, .inl (cI, 12, .inl (fun _ => (-9))))] s.heap := hP
  have hl := lv_entry ([.ref o0, .int 2]) (n := 4) (Nat.le_of_ble_eq_true rfl)
  rw [lg_entry_eq]
  generalize (lg_sl ([.ref o0, .int 2]) ++ List.replicate (4 - (lg_sl ([.ref o0, .int 2])).length) Slot.unset).toArray = ls at hl ⊢
  have hl : lv_has ls 4 [(0, .ref o0), (1, .int 2)] := hl
  refine lv_iconst (v := 0) hx hb dX12_count_0 (by decide) ?_
  refine lv_istore_n (lv' := [(2, .int 0), (0, .ref o0), (1, .int 2)]) hx hb dX12_count_1 rfl hl (by decide) rfl (fun ls hl => ?_)
  refine lv_iconst (v := 0) hx hb dX12_count_2 (by decide) ?_
  refine lv_istore_n (lv' := [(3, .int 0), (2, .int 0), (0, .ref o0), (1, .int 2)]) hx hb dX12_count_3 rfl hl (by decide) rfl (fun ls hl => ?_)
  refine lv_iload_n hx hb dX12_count_4 rfl (lv_at hl 0 rfl) ?_
  refine lv_bipush (v := 12) hx hb dX12_count_5 (by decide) ?_
  refine lv_icmp_ge (tgt := 33) hx hb dX12_count_7 (by decide) (fun h9 => absurd h9 (by decide +kernel)) (fun _ => ?_)
  refine lv_iload_n hx hb dX12_count_10 rfl (lv_at hl 1 rfl) ?_
  refine lv_aload_n hx hb dX12_count_11 rfl (lv_at hl 2 rfl) ?_
  refine va_get (D := (dC, dI)) (ci := 12) (v := .ref o1) (C := RX12) (T := TX12) (N := 29) hx hb hts iw_X12_count_X12 hown hK hP 0 rfl rfl 5 (by decide) (hts (.fieldLink RX12 16 "HolelessHouseModel" "rows" "[I") (by decide +kernel)) (fun _ h9 => h9) rfl dX12_count_12 ?_
  refine lv_iload_n hx hb dX12_count_15 rfl (lv_at hl 0 rfl) ?_
  refine va_iald hx hb hK hP 1 0 rfl rfl (vin (by decide +kernel)) dX12_count_16 (tk_i (v := (-9)) (by decide +kernel) ?_)
  refine lv_if_lt (tgt := 24) hx hb dX12_count_17 (by decide) (fun _ => ?_) (fun h9 => absurd (by decide +kernel) h9)
  refine lv_iconst (v := 0) hx hb dX12_count_24 (by decide) ?_
  refine lv_iadd hx hb dX12_count_25 (tk_i (v := 0) (by decide +kernel) ?_)
  refine lv_istore_n (lv' := [(2, .int 0), (3, .int 0), (0, .ref o0), (1, .int 2)]) hx hb dX12_count_26 rfl hl (by decide) rfl (fun ls hl => ?_)
  refine lv_iinc (v := 1) (lv' := [(3, .int 1), (2, .int 0), (0, .ref o0), (1, .int 2)]) hx hb dX12_count_27 hl (k := 1) rfl (by decide +kernel) (by decide) rfl (fun ls hl => ?_)
  refine lv_goto (tgt := 4) hx hb dX12_count_30 (by decide) ?_
  refine lv_iload_n hx hb dX12_count_4 rfl (lv_at hl 0 rfl) ?_
  refine lv_bipush (v := 12) hx hb dX12_count_5 (by decide) ?_
  refine lv_icmp_ge (tgt := 33) hx hb dX12_count_7 (by decide) (fun h9 => absurd h9 (by decide +kernel)) (fun _ => ?_)
  refine lv_iload_n hx hb dX12_count_10 rfl (lv_at hl 1 rfl) ?_
  refine lv_aload_n hx hb dX12_count_11 rfl (lv_at hl 2 rfl) ?_
  refine va_get (D := (dC, dI)) (ci := 12) (v := .ref o1) (C := RX12) (T := TX12) (N := 29) hx hb hts iw_X12_count_X12 hown hK hP 0 rfl rfl 5 (by decide) (hts (.fieldLink RX12 16 "HolelessHouseModel" "rows" "[I") (by decide +kernel)) (fun _ h9 => h9) rfl dX12_count_12 ?_
  refine lv_iload_n hx hb dX12_count_15 rfl (lv_at hl 0 rfl) ?_
  refine va_iald hx hb hK hP 1 0 rfl rfl (vin (by decide +kernel)) dX12_count_16 (tk_i (v := (-9)) (by decide +kernel) ?_)
  refine lv_if_lt (tgt := 24) hx hb dX12_count_17 (by decide) (fun _ => ?_) (fun h9 => absurd (by decide +kernel) h9)
  refine lv_iconst (v := 0) hx hb dX12_count_24 (by decide) ?_
  refine lv_iadd hx hb dX12_count_25 (tk_i (v := 0) (by decide +kernel) ?_)
  refine lv_istore_n (lv' := [(2, .int 0), (3, .int 1), (0, .ref o0), (1, .int 2)]) hx hb dX12_count_26 rfl hl (by decide) rfl (fun ls hl => ?_)
  refine lv_iinc (v := 2) (lv' := [(3, .int 2), (2, .int 0), (0, .ref o0), (1, .int 2)]) hx hb dX12_count_27 hl (k := 1) rfl (by decide +kernel) (by decide) rfl (fun ls hl => ?_)
  refine lv_goto (tgt := 4) hx hb dX12_count_30 (by decide) ?_
  refine lv_iload_n hx hb dX12_count_4 rfl (lv_at hl 0 rfl) ?_
  refine lv_bipush (v := 12) hx hb dX12_count_5 (by decide) ?_
  refine lv_icmp_ge (tgt := 33) hx hb dX12_count_7 (by decide) (fun h9 => absurd h9 (by decide +kernel)) (fun _ => ?_)
  refine lv_iload_n hx hb dX12_count_10 rfl (lv_at hl 1 rfl) ?_
  refine lv_aload_n hx hb dX12_count_11 rfl (lv_at hl 2 rfl) ?_
  refine va_get (D := (dC, dI)) (ci := 12) (v := .ref o1) (C := RX12) (T := TX12) (N := 29) hx hb hts iw_X12_count_X12 hown hK hP 0 rfl rfl 5 (by decide) (hts (.fieldLink RX12 16 "HolelessHouseModel" "rows" "[I") (by decide +kernel)) (fun _ h9 => h9) rfl dX12_count_12 ?_
  refine lv_iload_n hx hb dX12_count_15 rfl (lv_at hl 0 rfl) ?_
  refine va_iald hx hb hK hP 1 0 rfl rfl (vin (by decide +kernel)) dX12_count_16 (tk_i (v := (-9)) (by decide +kernel) ?_)
  refine lv_if_lt (tgt := 24) hx hb dX12_count_17 (by decide) (fun _ => ?_) (fun h9 => absurd (by decide +kernel) h9)
  refine lv_iconst (v := 0) hx hb dX12_count_24 (by decide) ?_
  refine lv_iadd hx hb dX12_count_25 (tk_i (v := 0) (by decide +kernel) ?_)
  refine lv_istore_n (lv' := [(2, .int 0), (3, .int 2), (0, .ref o0), (1, .int 2)]) hx hb dX12_count_26 rfl hl (by decide) rfl (fun ls hl => ?_)
  refine lv_iinc (v := 3) (lv' := [(3, .int 3), (2, .int 0), (0, .ref o0), (1, .int 2)]) hx hb dX12_count_27 hl (k := 1) rfl (by decide +kernel) (by decide) rfl (fun ls hl => ?_)
  refine lv_goto (tgt := 4) hx hb dX12_count_30 (by decide) ?_
  refine lv_iload_n hx hb dX12_count_4 rfl (lv_at hl 0 rfl) ?_
  refine lv_bipush (v := 12) hx hb dX12_count_5 (by decide) ?_
  refine lv_icmp_ge (tgt := 33) hx hb dX12_count_7 (by decide) (fun h9 => absurd h9 (by decide +kernel)) (fun _ => ?_)
  refine lv_iload_n hx hb dX12_count_10 rfl (lv_at hl 1 rfl) ?_
  refine lv_aload_n hx hb dX12_count_11 rfl (lv_at hl 2 rfl) ?_
  refine va_get (D := (dC, dI)) (ci := 12) (v := .ref o1) (C := RX12) (T := TX12) (N := 29) hx hb hts iw_X12_count_X12 hown hK hP 0 rfl rfl 5 (by decide) (hts (.fieldLink RX12 16 "HolelessHouseModel" "rows" "[I") (by decide +kernel)) (fun _ h9 => h9) rfl dX12_count_12 ?_
  refine lv_iload_n hx hb dX12_count_15 rfl (lv_at hl 0 rfl) ?_
  refine va_iald hx hb hK hP 1 0 rfl rfl (vin (by decide +kernel)) dX12_count_16 (tk_i (v := (-9)) (by decide +kernel) ?_)
  refine lv_if_lt (tgt := 24) hx hb dX12_count_17 (by decide) (fun _ => ?_) (fun h9 => absurd (by decide +kernel) h9)
  refine lv_iconst (v := 0) hx hb dX12_count_24 (by decide) ?_
  refine lv_iadd hx hb dX12_count_25 (tk_i (v := 0) (by decide +kernel) ?_)
  refine lv_istore_n (lv' := [(2, .int 0), (3, .int 3), (0, .ref o0), (1, .int 2)]) hx hb dX12_count_26 rfl hl (by decide) rfl (fun ls hl => ?_)
  refine lv_iinc (v := 4) (lv' := [(3, .int 4), (2, .int 0), (0, .ref o0), (1, .int 2)]) hx hb dX12_count_27 hl (k := 1) rfl (by decide +kernel) (by decide) rfl (fun ls hl => ?_)
  refine lv_goto (tgt := 4) hx hb dX12_count_30 (by decide) ?_
  refine lv_iload_n hx hb dX12_count_4 rfl (lv_at hl 0 rfl) ?_
  refine lv_bipush (v := 12) hx hb dX12_count_5 (by decide) ?_
  refine lv_icmp_ge (tgt := 33) hx hb dX12_count_7 (by decide) (fun h9 => absurd h9 (by decide +kernel)) (fun _ => ?_)
  refine lv_iload_n hx hb dX12_count_10 rfl (lv_at hl 1 rfl) ?_
  refine lv_aload_n hx hb dX12_count_11 rfl (lv_at hl 2 rfl) ?_
  refine va_get (D := (dC, dI)) (ci := 12) (v := .ref o1) (C := RX12) (T := TX12) (N := 29) hx hb hts iw_X12_count_X12 hown hK hP 0 rfl rfl 5 (by decide) (hts (.fieldLink RX12 16 "HolelessHouseModel" "rows" "[I") (by decide +kernel)) (fun _ h9 => h9) rfl dX12_count_12 ?_
  refine lv_iload_n hx hb dX12_count_15 rfl (lv_at hl 0 rfl) ?_
  refine va_iald hx hb hK hP 1 0 rfl rfl (vin (by decide +kernel)) dX12_count_16 (tk_i (v := (-9)) (by decide +kernel) ?_)
  refine lv_if_lt (tgt := 24) hx hb dX12_count_17 (by decide) (fun _ => ?_) (fun h9 => absurd (by decide +kernel) h9)
  refine lv_iconst (v := 0) hx hb dX12_count_24 (by decide) ?_
  refine lv_iadd hx hb dX12_count_25 (tk_i (v := 0) (by decide +kernel) ?_)
  refine lv_istore_n (lv' := [(2, .int 0), (3, .int 4), (0, .ref o0), (1, .int 2)]) hx hb dX12_count_26 rfl hl (by decide) rfl (fun ls hl => ?_)
  refine lv_iinc (v := 5) (lv' := [(3, .int 5), (2, .int 0), (0, .ref o0), (1, .int 2)]) hx hb dX12_count_27 hl (k := 1) rfl (by decide +kernel) (by decide) rfl (fun ls hl => ?_)
  refine lv_goto (tgt := 4) hx hb dX12_count_30 (by decide) ?_
  refine lv_iload_n hx hb dX12_count_4 rfl (lv_at hl 0 rfl) ?_
  refine lv_bipush (v := 12) hx hb dX12_count_5 (by decide) ?_
  refine lv_icmp_ge (tgt := 33) hx hb dX12_count_7 (by decide) (fun h9 => absurd h9 (by decide +kernel)) (fun _ => ?_)
  refine lv_iload_n hx hb dX12_count_10 rfl (lv_at hl 1 rfl) ?_
  refine lv_aload_n hx hb dX12_count_11 rfl (lv_at hl 2 rfl) ?_
  refine va_get (D := (dC, dI)) (ci := 12) (v := .ref o1) (C := RX12) (T := TX12) (N := 29) hx hb hts iw_X12_count_X12 hown hK hP 0 rfl rfl 5 (by decide) (hts (.fieldLink RX12 16 "HolelessHouseModel" "rows" "[I") (by decide +kernel)) (fun _ h9 => h9) rfl dX12_count_12 ?_
  refine lv_iload_n hx hb dX12_count_15 rfl (lv_at hl 0 rfl) ?_
  refine va_iald hx hb hK hP 1 0 rfl rfl (vin (by decide +kernel)) dX12_count_16 (tk_i (v := (-9)) (by decide +kernel) ?_)
  refine lv_if_lt (tgt := 24) hx hb dX12_count_17 (by decide) (fun _ => ?_) (fun h9 => absurd (by decide +kernel) h9)
  refine lv_iconst (v := 0) hx hb dX12_count_24 (by decide) ?_
  refine lv_iadd hx hb dX12_count_25 (tk_i (v := 0) (by decide +kernel) ?_)
  refine lv_istore_n (lv' := [(2, .int 0), (3, .int 5), (0, .ref o0), (1, .int 2)]) hx hb dX12_count_26 rfl hl (by decide) rfl (fun ls hl => ?_)
  refine lv_iinc (v := 6) (lv' := [(3, .int 6), (2, .int 0), (0, .ref o0), (1, .int 2)]) hx hb dX12_count_27 hl (k := 1) rfl (by decide +kernel) (by decide) rfl (fun ls hl => ?_)
  refine lv_goto (tgt := 4) hx hb dX12_count_30 (by decide) ?_
  refine lv_iload_n hx hb dX12_count_4 rfl (lv_at hl 0 rfl) ?_
  refine lv_bipush (v := 12) hx hb dX12_count_5 (by decide) ?_
  refine lv_icmp_ge (tgt := 33) hx hb dX12_count_7 (by decide) (fun h9 => absurd h9 (by decide +kernel)) (fun _ => ?_)
  refine lv_iload_n hx hb dX12_count_10 rfl (lv_at hl 1 rfl) ?_
  refine lv_aload_n hx hb dX12_count_11 rfl (lv_at hl 2 rfl) ?_
  refine va_get (D := (dC, dI)) (ci := 12) (v := .ref o1) (C := RX12) (T := TX12) (N := 29) hx hb hts iw_X12_count_X12 hown hK hP 0 rfl rfl 5 (by decide) (hts (.fieldLink RX12 16 "HolelessHouseModel" "rows" "[I") (by decide +kernel)) (fun _ h9 => h9) rfl dX12_count_12 ?_
  refine lv_iload_n hx hb dX12_count_15 rfl (lv_at hl 0 rfl) ?_
  refine va_iald hx hb hK hP 1 0 rfl rfl (vin (by decide +kernel)) dX12_count_16 (tk_i (v := (-9)) (by decide +kernel) ?_)
  refine lv_if_lt (tgt := 24) hx hb dX12_count_17 (by decide) (fun _ => ?_) (fun h9 => absurd (by decide +kernel) h9)
  refine lv_iconst (v := 0) hx hb dX12_count_24 (by decide) ?_
  refine lv_iadd hx hb dX12_count_25 (tk_i (v := 0) (by decide +kernel) ?_)
  refine lv_istore_n (lv' := [(2, .int 0), (3, .int 6), (0, .ref o0), (1, .int 2)]) hx hb dX12_count_26 rfl hl (by decide) rfl (fun ls hl => ?_)
  refine lv_iinc (v := 7) (lv' := [(3, .int 7), (2, .int 0), (0, .ref o0), (1, .int 2)]) hx hb dX12_count_27 hl (k := 1) rfl (by decide +kernel) (by decide) rfl (fun ls hl => ?_)
  refine lv_goto (tgt := 4) hx hb dX12_count_30 (by decide) ?_
  refine lv_iload_n hx hb dX12_count_4 rfl (lv_at hl 0 rfl) ?_
  refine lv_bipush (v := 12) hx hb dX12_count_5 (by decide) ?_
  refine lv_icmp_ge (tgt := 33) hx hb dX12_count_7 (by decide) (fun h9 => absurd h9 (by decide +kernel)) (fun _ => ?_)
  refine lv_iload_n hx hb dX12_count_10 rfl (lv_at hl 1 rfl) ?_
  refine lv_aload_n hx hb dX12_count_11 rfl (lv_at hl 2 rfl) ?_
  refine va_get (D := (dC, dI)) (ci := 12) (v := .ref o1) (C := RX12) (T := TX12) (N := 29) hx hb hts iw_X12_count_X12 hown hK hP 0 rfl rfl 5 (by decide) (hts (.fieldLink RX12 16 "HolelessHouseModel" "rows" "[I") (by decide +kernel)) (fun _ h9 => h9) rfl dX12_count_12 ?_
  refine lv_iload_n hx hb dX12_count_15 rfl (lv_at hl 0 rfl) ?_
  refine va_iald hx hb hK hP 1 0 rfl rfl (vin (by decide +kernel)) dX12_count_16 (tk_i (v := (-9)) (by decide +kernel) ?_)
  refine lv_if_lt (tgt := 24) hx hb dX12_count_17 (by decide) (fun _ => ?_) (fun h9 => absurd (by decide +kernel) h9)
  refine lv_iconst (v := 0) hx hb dX12_count_24 (by decide) ?_
  refine lv_iadd hx hb dX12_count_25 (tk_i (v := 0) (by decide +kernel) ?_)
  refine lv_istore_n (lv' := [(2, .int 0), (3, .int 7), (0, .ref o0), (1, .int 2)]) hx hb dX12_count_26 rfl hl (by decide) rfl (fun ls hl => ?_)
  refine lv_iinc (v := 8) (lv' := [(3, .int 8), (2, .int 0), (0, .ref o0), (1, .int 2)]) hx hb dX12_count_27 hl (k := 1) rfl (by decide +kernel) (by decide) rfl (fun ls hl => ?_)
  refine lv_goto (tgt := 4) hx hb dX12_count_30 (by decide) ?_
  refine lv_iload_n hx hb dX12_count_4 rfl (lv_at hl 0 rfl) ?_
  refine lv_bipush (v := 12) hx hb dX12_count_5 (by decide) ?_
  refine lv_icmp_ge (tgt := 33) hx hb dX12_count_7 (by decide) (fun h9 => absurd h9 (by decide +kernel)) (fun _ => ?_)
  refine lv_iload_n hx hb dX12_count_10 rfl (lv_at hl 1 rfl) ?_
  refine lv_aload_n hx hb dX12_count_11 rfl (lv_at hl 2 rfl) ?_
  refine va_get (D := (dC, dI)) (ci := 12) (v := .ref o1) (C := RX12) (T := TX12) (N := 29) hx hb hts iw_X12_count_X12 hown hK hP 0 rfl rfl 5 (by decide) (hts (.fieldLink RX12 16 "HolelessHouseModel" "rows" "[I") (by decide +kernel)) (fun _ h9 => h9) rfl dX12_count_12 ?_
  refine lv_iload_n hx hb dX12_count_15 rfl (lv_at hl 0 rfl) ?_
  refine va_iald hx hb hK hP 1 0 rfl rfl (vin (by decide +kernel)) dX12_count_16 (tk_i (v := (-9)) (by decide +kernel) ?_)
  refine lv_if_lt (tgt := 24) hx hb dX12_count_17 (by decide) (fun _ => ?_) (fun h9 => absurd (by decide +kernel) h9)
  refine lv_iconst (v := 0) hx hb dX12_count_24 (by decide) ?_
  refine lv_iadd hx hb dX12_count_25 (tk_i (v := 0) (by decide +kernel) ?_)
  refine lv_istore_n (lv' := [(2, .int 0), (3, .int 8), (0, .ref o0), (1, .int 2)]) hx hb dX12_count_26 rfl hl (by decide) rfl (fun ls hl => ?_)
  refine lv_iinc (v := 9) (lv' := [(3, .int 9), (2, .int 0), (0, .ref o0), (1, .int 2)]) hx hb dX12_count_27 hl (k := 1) rfl (by decide +kernel) (by decide) rfl (fun ls hl => ?_)
  refine lv_goto (tgt := 4) hx hb dX12_count_30 (by decide) ?_
  refine lv_iload_n hx hb dX12_count_4 rfl (lv_at hl 0 rfl) ?_
  refine lv_bipush (v := 12) hx hb dX12_count_5 (by decide) ?_
  refine lv_icmp_ge (tgt := 33) hx hb dX12_count_7 (by decide) (fun h9 => absurd h9 (by decide +kernel)) (fun _ => ?_)
  refine lv_iload_n hx hb dX12_count_10 rfl (lv_at hl 1 rfl) ?_
  refine lv_aload_n hx hb dX12_count_11 rfl (lv_at hl 2 rfl) ?_
  refine va_get (D := (dC, dI)) (ci := 12) (v := .ref o1) (C := RX12) (T := TX12) (N := 29) hx hb hts iw_X12_count_X12 hown hK hP 0 rfl rfl 5 (by decide) (hts (.fieldLink RX12 16 "HolelessHouseModel" "rows" "[I") (by decide +kernel)) (fun _ h9 => h9) rfl dX12_count_12 ?_
  refine lv_iload_n hx hb dX12_count_15 rfl (lv_at hl 0 rfl) ?_
  refine va_iald hx hb hK hP 1 0 rfl rfl (vin (by decide +kernel)) dX12_count_16 (tk_i (v := (-9)) (by decide +kernel) ?_)
  refine lv_if_lt (tgt := 24) hx hb dX12_count_17 (by decide) (fun _ => ?_) (fun h9 => absurd (by decide +kernel) h9)
  refine lv_iconst (v := 0) hx hb dX12_count_24 (by decide) ?_
  refine lv_iadd hx hb dX12_count_25 (tk_i (v := 0) (by decide +kernel) ?_)
  refine lv_istore_n (lv' := [(2, .int 0), (3, .int 9), (0, .ref o0), (1, .int 2)]) hx hb dX12_count_26 rfl hl (by decide) rfl (fun ls hl => ?_)
  refine lv_iinc (v := 10) (lv' := [(3, .int 10), (2, .int 0), (0, .ref o0), (1, .int 2)]) hx hb dX12_count_27 hl (k := 1) rfl (by decide +kernel) (by decide) rfl (fun ls hl => ?_)
  refine lv_goto (tgt := 4) hx hb dX12_count_30 (by decide) ?_
  refine lv_iload_n hx hb dX12_count_4 rfl (lv_at hl 0 rfl) ?_
  refine lv_bipush (v := 12) hx hb dX12_count_5 (by decide) ?_
  refine lv_icmp_ge (tgt := 33) hx hb dX12_count_7 (by decide) (fun h9 => absurd h9 (by decide +kernel)) (fun _ => ?_)
  refine lv_iload_n hx hb dX12_count_10 rfl (lv_at hl 1 rfl) ?_
  refine lv_aload_n hx hb dX12_count_11 rfl (lv_at hl 2 rfl) ?_
  refine va_get (D := (dC, dI)) (ci := 12) (v := .ref o1) (C := RX12) (T := TX12) (N := 29) hx hb hts iw_X12_count_X12 hown hK hP 0 rfl rfl 5 (by decide) (hts (.fieldLink RX12 16 "HolelessHouseModel" "rows" "[I") (by decide +kernel)) (fun _ h9 => h9) rfl dX12_count_12 ?_
  refine lv_iload_n hx hb dX12_count_15 rfl (lv_at hl 0 rfl) ?_
  refine va_iald hx hb hK hP 1 0 rfl rfl (vin (by decide +kernel)) dX12_count_16 (tk_i (v := (-9)) (by decide +kernel) ?_)
  refine lv_if_lt (tgt := 24) hx hb dX12_count_17 (by decide) (fun _ => ?_) (fun h9 => absurd (by decide +kernel) h9)
  refine lv_iconst (v := 0) hx hb dX12_count_24 (by decide) ?_
  refine lv_iadd hx hb dX12_count_25 (tk_i (v := 0) (by decide +kernel) ?_)
  refine lv_istore_n (lv' := [(2, .int 0), (3, .int 10), (0, .ref o0), (1, .int 2)]) hx hb dX12_count_26 rfl hl (by decide) rfl (fun ls hl => ?_)
  refine lv_iinc (v := 11) (lv' := [(3, .int 11), (2, .int 0), (0, .ref o0), (1, .int 2)]) hx hb dX12_count_27 hl (k := 1) rfl (by decide +kernel) (by decide) rfl (fun ls hl => ?_)
  refine lv_goto (tgt := 4) hx hb dX12_count_30 (by decide) ?_
  refine lv_iload_n hx hb dX12_count_4 rfl (lv_at hl 0 rfl) ?_
  refine lv_bipush (v := 12) hx hb dX12_count_5 (by decide) ?_
  refine lv_icmp_ge (tgt := 33) hx hb dX12_count_7 (by decide) (fun h9 => absurd h9 (by decide +kernel)) (fun _ => ?_)
  refine lv_iload_n hx hb dX12_count_10 rfl (lv_at hl 1 rfl) ?_
  refine lv_aload_n hx hb dX12_count_11 rfl (lv_at hl 2 rfl) ?_
  refine va_get (D := (dC, dI)) (ci := 12) (v := .ref o1) (C := RX12) (T := TX12) (N := 29) hx hb hts iw_X12_count_X12 hown hK hP 0 rfl rfl 5 (by decide) (hts (.fieldLink RX12 16 "HolelessHouseModel" "rows" "[I") (by decide +kernel)) (fun _ h9 => h9) rfl dX12_count_12 ?_
  refine lv_iload_n hx hb dX12_count_15 rfl (lv_at hl 0 rfl) ?_
  refine va_iald hx hb hK hP 1 0 rfl rfl (vin (by decide +kernel)) dX12_count_16 (tk_i (v := (-9)) (by decide +kernel) ?_)
  refine lv_if_lt (tgt := 24) hx hb dX12_count_17 (by decide) (fun _ => ?_) (fun h9 => absurd (by decide +kernel) h9)
  refine lv_iconst (v := 0) hx hb dX12_count_24 (by decide) ?_
  refine lv_iadd hx hb dX12_count_25 (tk_i (v := 0) (by decide +kernel) ?_)
  refine lv_istore_n (lv' := [(2, .int 0), (3, .int 11), (0, .ref o0), (1, .int 2)]) hx hb dX12_count_26 rfl hl (by decide) rfl (fun ls hl => ?_)
  refine lv_iinc (v := 12) (lv' := [(3, .int 12), (2, .int 0), (0, .ref o0), (1, .int 2)]) hx hb dX12_count_27 hl (k := 1) rfl (by decide +kernel) (by decide) rfl (fun ls hl => ?_)
  refine lv_goto (tgt := 4) hx hb dX12_count_30 (by decide) ?_
  refine lv_iload_n hx hb dX12_count_4 rfl (lv_at hl 0 rfl) ?_
  refine lv_bipush (v := 12) hx hb dX12_count_5 (by decide) ?_
  refine lv_icmp_ge (tgt := 33) hx hb dX12_count_7 (by decide) (fun _ => ?_) (fun h9 => absurd (by decide +kernel) h9)
  refine lv_iload_n hx hb dX12_count_33 rfl (lv_at hl 3 rfl) ?_
  refine lv_tableIn (off := 44) (tgt := 78) hx hb dX12_count_34 (by decide +kernel) (by decide +kernel) (by decide +kernel) (by decide) ?_
  refine lv_aload_n hx hb dX12_count_78 rfl (lv_at hl 2 rfl) ?_
  refine va_get (D := (dC, dI)) (ci := 12) (v := .int 0) (C := RX12) (T := TX12) (N := 29) hx hb hts iw_X12_count_X12 hown hK hP 0 rfl rfl 4 (by decide) (hts (.fieldLink RX12 128 "HolelessHouseModel" "columns" "I") (by decide +kernel)) (fun _ h9 => h9) rfl dX12_count_79 ?_
  have hP9 := hP.sub (ws' := []) [] rfl
  have hD9 := hD.sub (ws' := []) [] (by decide) rfl
  exact W.iret (v := 0) hx hb hr (fun t ht hW => ⟨⟨0, (), rfl, rfl, by rw [ht]; exact hP9, va_K.moved hW.alike hK, hD9⟩, hS.F ht⟩) hS.2.2 dX12_count_82
theorem iw_X10_present_X10 : ∀ w ∈ wsX100, w ∈ wsX10_present := by decide +kernel
set_option maxHeartbeats 1000000 in
set_option maxRecDepth 100000 in
theorem kX10_present_1 (l : Launch) (dC : Nat → ClassId) (dI : Nat → Nat → Nat) (cI c2 : ClassId) (o0 : Nat) (o1 : Nat) (sz : Nat) : Met l yX10_present wsX10_present ({ frames := 0, cells := 0, slots := 0, locals := 0 }) (va_Pc [.ref o0] (wPre (dC, dI) [(cI, .int), (c2, .array .int)] [(o0, .inr (10, [.ref o1, .int 0, .int 0])), (o1, .inl (cI, 12, .inl (fun _ => (-1))))] sz)) (va_Qi (fun (r : Int32) (_ : Unit) => r = 0) (fun _ t => wPost (dC, dI) [(cI, .int), (c2, .array .int)] (va_A [(o0, .inr (10, [.ref o1, .int 0, .int 0])), (o1, .inl (cI, 12, .inl (fun _ => (-1))))] sz) [(o0, .inr (10, [.ref o1, .int 0, .int 0])), (o1, .inl (cI, 12, .inl (fun _ => (-1))))] t) (va_A [(o0, .inr (10, [.ref o1, .int 0, .int 0])), (o1, .inl (cI, 12, .inl (fun _ => (-1))))] sz)) 0 0 (va_A [(o0, .inr (10, [.ref o1, .int 0, .int 0])), (o1, .inl (cI, 12, .inl (fun _ => (-1))))] sz) := by
  refine Met.ofW (cc := cX10_present) (maxL := 3) (ret := (some .int)) (by decide) rfl ?_
  intro p e s m args below meth c s₁ B hml hv
  obtain ⟨rfl, hsz, hP, hK, hD0, hN⟩ := hv
  have hx := B.exec
  have hb := B.bytes
  have hr := B.returns
  have hts := atoms_spec (ws := wsX10_present) B.pre
  have hown : s.vm.findClass RX10 = some m.cls := findClass_of_methodNamed B.named
  have hlocks := B.notSynchronized
  subst hsz
  have hD := hD0.self (sz := s.heap.size)
  generalize hAe : va_A [(o0, .inr (10, [.ref o1, .int 0, .int 0])), (o1, .inl (cI, 12, .inl (fun _ => (-1))))] s.heap.size = A at hD ⊢
  have hA : ∀ q : Nat, s.heap.size ≤ q → A q := fun q h => by rw [← hAe]; exact Or.inr h
  have hS : va_S A s.heap s.heap [] := va_S.rf
  have hP : va_P (dC, dI) vwCl [(o0, .inr (10, [.ref o1, .int 0, .int 0])), (o1, .inl (cI, 12, .inl (fun _ => (-1))))] s.heap := hP
  have hl := lv_entry ([.ref o0]) (n := 3) (Nat.le_of_ble_eq_true rfl)
  rw [lg_entry_eq]
  generalize (lg_sl ([.ref o0]) ++ List.replicate (3 - (lg_sl ([.ref o0])).length) Slot.unset).toArray = ls at hl ⊢
  have hl : lv_has ls 3 [(0, .ref o0)] := hl
  refine lv_iconst (v := 0) hx hb dX10_present_0 (by decide) ?_
  refine lv_istore_n (lv' := [(1, .int 0), (0, .ref o0)]) hx hb dX10_present_1 rfl hl (by decide) rfl (fun ls hl => ?_)
  refine lv_iconst (v := 0) hx hb dX10_present_2 (by decide) ?_
  refine lv_istore_n (lv' := [(2, .int 0), (1, .int 0), (0, .ref o0)]) hx hb dX10_present_3 rfl hl (by decide) rfl (fun ls hl => ?_)
  refine lv_iload_n hx hb dX10_present_4 rfl (lv_at hl 0 rfl) ?_
  refine lv_bipush (v := 12) hx hb dX10_present_5 (by decide) ?_
  refine lv_icmp_ge (tgt := 29) hx hb dX10_present_7 (by decide) (fun h9 => absurd h9 (by decide +kernel)) (fun _ => ?_)
  refine lv_aload_n hx hb dX10_present_10 rfl (lv_at hl 2 rfl) ?_
  refine va_get (D := (dC, dI)) (ci := 10) (v := .ref o1) (C := RX10) (T := TX10) (N := 3) hx hb hts iw_X10_present_X10 hown hK hP 0 rfl rfl 0 (by decide) (hts (.fieldLink RX10 9 "HolelessHouse$Table" "rows" "[I") (by decide +kernel)) (fun _ h9 => h9) rfl dX10_present_11 ?_
  refine lv_iload_n hx hb dX10_present_14 rfl (lv_at hl 0 rfl) ?_
  refine va_iald hx hb hK hP 1 0 rfl rfl (vin (by decide +kernel)) dX10_present_15 (tk_i (v := (-1)) (by decide +kernel) ?_)
  refine lv_iconst (v := (-1)) hx hb dX10_present_16 (by decide) ?_
  refine lv_icmp_eq (tgt := 23) hx hb dX10_present_17 (by decide) (fun _ => ?_) (fun h9 => absurd (by decide +kernel) h9)
  refine lv_iinc (v := 1) (lv' := [(2, .int 1), (1, .int 0), (0, .ref o0)]) hx hb dX10_present_23 hl (k := 0) rfl (by decide +kernel) (by decide) rfl (fun ls hl => ?_)
  refine lv_goto (tgt := 4) hx hb dX10_present_26 (by decide) ?_
  refine lv_iload_n hx hb dX10_present_4 rfl (lv_at hl 0 rfl) ?_
  refine lv_bipush (v := 12) hx hb dX10_present_5 (by decide) ?_
  refine lv_icmp_ge (tgt := 29) hx hb dX10_present_7 (by decide) (fun h9 => absurd h9 (by decide +kernel)) (fun _ => ?_)
  refine lv_aload_n hx hb dX10_present_10 rfl (lv_at hl 2 rfl) ?_
  refine va_get (D := (dC, dI)) (ci := 10) (v := .ref o1) (C := RX10) (T := TX10) (N := 3) hx hb hts iw_X10_present_X10 hown hK hP 0 rfl rfl 0 (by decide) (hts (.fieldLink RX10 9 "HolelessHouse$Table" "rows" "[I") (by decide +kernel)) (fun _ h9 => h9) rfl dX10_present_11 ?_
  refine lv_iload_n hx hb dX10_present_14 rfl (lv_at hl 0 rfl) ?_
  refine va_iald hx hb hK hP 1 0 rfl rfl (vin (by decide +kernel)) dX10_present_15 (tk_i (v := (-1)) (by decide +kernel) ?_)
  refine lv_iconst (v := (-1)) hx hb dX10_present_16 (by decide) ?_
  refine lv_icmp_eq (tgt := 23) hx hb dX10_present_17 (by decide) (fun _ => ?_) (fun h9 => absurd (by decide +kernel) h9)
  refine lv_iinc (v := 2) (lv' := [(2, .int 2), (1, .int 0), (0, .ref o0)]) hx hb dX10_present_23 hl (k := 0) rfl (by decide +kernel) (by decide) rfl (fun ls hl => ?_)
  refine lv_goto (tgt := 4) hx hb dX10_present_26 (by decide) ?_
  refine lv_iload_n hx hb dX10_present_4 rfl (lv_at hl 0 rfl) ?_
  refine lv_bipush (v := 12) hx hb dX10_present_5 (by decide) ?_
  refine lv_icmp_ge (tgt := 29) hx hb dX10_present_7 (by decide) (fun h9 => absurd h9 (by decide +kernel)) (fun _ => ?_)
  refine lv_aload_n hx hb dX10_present_10 rfl (lv_at hl 2 rfl) ?_
  refine va_get (D := (dC, dI)) (ci := 10) (v := .ref o1) (C := RX10) (T := TX10) (N := 3) hx hb hts iw_X10_present_X10 hown hK hP 0 rfl rfl 0 (by decide) (hts (.fieldLink RX10 9 "HolelessHouse$Table" "rows" "[I") (by decide +kernel)) (fun _ h9 => h9) rfl dX10_present_11 ?_
  refine lv_iload_n hx hb dX10_present_14 rfl (lv_at hl 0 rfl) ?_
  refine va_iald hx hb hK hP 1 0 rfl rfl (vin (by decide +kernel)) dX10_present_15 (tk_i (v := (-1)) (by decide +kernel) ?_)
  refine lv_iconst (v := (-1)) hx hb dX10_present_16 (by decide) ?_
  refine lv_icmp_eq (tgt := 23) hx hb dX10_present_17 (by decide) (fun _ => ?_) (fun h9 => absurd (by decide +kernel) h9)
  refine lv_iinc (v := 3) (lv' := [(2, .int 3), (1, .int 0), (0, .ref o0)]) hx hb dX10_present_23 hl (k := 0) rfl (by decide +kernel) (by decide) rfl (fun ls hl => ?_)
  refine lv_goto (tgt := 4) hx hb dX10_present_26 (by decide) ?_
  refine lv_iload_n hx hb dX10_present_4 rfl (lv_at hl 0 rfl) ?_
  refine lv_bipush (v := 12) hx hb dX10_present_5 (by decide) ?_
  refine lv_icmp_ge (tgt := 29) hx hb dX10_present_7 (by decide) (fun h9 => absurd h9 (by decide +kernel)) (fun _ => ?_)
  refine lv_aload_n hx hb dX10_present_10 rfl (lv_at hl 2 rfl) ?_
  refine va_get (D := (dC, dI)) (ci := 10) (v := .ref o1) (C := RX10) (T := TX10) (N := 3) hx hb hts iw_X10_present_X10 hown hK hP 0 rfl rfl 0 (by decide) (hts (.fieldLink RX10 9 "HolelessHouse$Table" "rows" "[I") (by decide +kernel)) (fun _ h9 => h9) rfl dX10_present_11 ?_
  refine lv_iload_n hx hb dX10_present_14 rfl (lv_at hl 0 rfl) ?_
  refine va_iald hx hb hK hP 1 0 rfl rfl (vin (by decide +kernel)) dX10_present_15 (tk_i (v := (-1)) (by decide +kernel) ?_)
  refine lv_iconst (v := (-1)) hx hb dX10_present_16 (by decide) ?_
  refine lv_icmp_eq (tgt := 23) hx hb dX10_present_17 (by decide) (fun _ => ?_) (fun h9 => absurd (by decide +kernel) h9)
  refine lv_iinc (v := 4) (lv' := [(2, .int 4), (1, .int 0), (0, .ref o0)]) hx hb dX10_present_23 hl (k := 0) rfl (by decide +kernel) (by decide) rfl (fun ls hl => ?_)
  refine lv_goto (tgt := 4) hx hb dX10_present_26 (by decide) ?_
  refine lv_iload_n hx hb dX10_present_4 rfl (lv_at hl 0 rfl) ?_
  refine lv_bipush (v := 12) hx hb dX10_present_5 (by decide) ?_
  refine lv_icmp_ge (tgt := 29) hx hb dX10_present_7 (by decide) (fun h9 => absurd h9 (by decide +kernel)) (fun _ => ?_)
  refine lv_aload_n hx hb dX10_present_10 rfl (lv_at hl 2 rfl) ?_
  refine va_get (D := (dC, dI)) (ci := 10) (v := .ref o1) (C := RX10) (T := TX10) (N := 3) hx hb hts iw_X10_present_X10 hown hK hP 0 rfl rfl 0 (by decide) (hts (.fieldLink RX10 9 "HolelessHouse$Table" "rows" "[I") (by decide +kernel)) (fun _ h9 => h9) rfl dX10_present_11 ?_
  refine lv_iload_n hx hb dX10_present_14 rfl (lv_at hl 0 rfl) ?_
  refine va_iald hx hb hK hP 1 0 rfl rfl (vin (by decide +kernel)) dX10_present_15 (tk_i (v := (-1)) (by decide +kernel) ?_)
  refine lv_iconst (v := (-1)) hx hb dX10_present_16 (by decide) ?_
  refine lv_icmp_eq (tgt := 23) hx hb dX10_present_17 (by decide) (fun _ => ?_) (fun h9 => absurd (by decide +kernel) h9)
  refine lv_iinc (v := 5) (lv' := [(2, .int 5), (1, .int 0), (0, .ref o0)]) hx hb dX10_present_23 hl (k := 0) rfl (by decide +kernel) (by decide) rfl (fun ls hl => ?_)
  refine lv_goto (tgt := 4) hx hb dX10_present_26 (by decide) ?_
  refine lv_iload_n hx hb dX10_present_4 rfl (lv_at hl 0 rfl) ?_
  refine lv_bipush (v := 12) hx hb dX10_present_5 (by decide) ?_
  refine lv_icmp_ge (tgt := 29) hx hb dX10_present_7 (by decide) (fun h9 => absurd h9 (by decide +kernel)) (fun _ => ?_)
  refine lv_aload_n hx hb dX10_present_10 rfl (lv_at hl 2 rfl) ?_
  refine va_get (D := (dC, dI)) (ci := 10) (v := .ref o1) (C := RX10) (T := TX10) (N := 3) hx hb hts iw_X10_present_X10 hown hK hP 0 rfl rfl 0 (by decide) (hts (.fieldLink RX10 9 "HolelessHouse$Table" "rows" "[I") (by decide +kernel)) (fun _ h9 => h9) rfl dX10_present_11 ?_
  refine lv_iload_n hx hb dX10_present_14 rfl (lv_at hl 0 rfl) ?_
  refine va_iald hx hb hK hP 1 0 rfl rfl (vin (by decide +kernel)) dX10_present_15 (tk_i (v := (-1)) (by decide +kernel) ?_)
  refine lv_iconst (v := (-1)) hx hb dX10_present_16 (by decide) ?_
  refine lv_icmp_eq (tgt := 23) hx hb dX10_present_17 (by decide) (fun _ => ?_) (fun h9 => absurd (by decide +kernel) h9)
  refine lv_iinc (v := 6) (lv' := [(2, .int 6), (1, .int 0), (0, .ref o0)]) hx hb dX10_present_23 hl (k := 0) rfl (by decide +kernel) (by decide) rfl (fun ls hl => ?_)
  refine lv_goto (tgt := 4) hx hb dX10_present_26 (by decide) ?_
  refine lv_iload_n hx hb dX10_present_4 rfl (lv_at hl 0 rfl) ?_
  refine lv_bipush (v := 12) hx hb dX10_present_5 (by decide) ?_
  refine lv_icmp_ge (tgt := 29) hx hb dX10_present_7 (by decide) (fun h9 => absurd h9 (by decide +kernel)) (fun _ => ?_)
  refine lv_aload_n hx hb dX10_present_10 rfl (lv_at hl 2 rfl) ?_
  refine va_get (D := (dC, dI)) (ci := 10) (v := .ref o1) (C := RX10) (T := TX10) (N := 3) hx hb hts iw_X10_present_X10 hown hK hP 0 rfl rfl 0 (by decide) (hts (.fieldLink RX10 9 "HolelessHouse$Table" "rows" "[I") (by decide +kernel)) (fun _ h9 => h9) rfl dX10_present_11 ?_
  refine lv_iload_n hx hb dX10_present_14 rfl (lv_at hl 0 rfl) ?_
  refine va_iald hx hb hK hP 1 0 rfl rfl (vin (by decide +kernel)) dX10_present_15 (tk_i (v := (-1)) (by decide +kernel) ?_)
  refine lv_iconst (v := (-1)) hx hb dX10_present_16 (by decide) ?_
  refine lv_icmp_eq (tgt := 23) hx hb dX10_present_17 (by decide) (fun _ => ?_) (fun h9 => absurd (by decide +kernel) h9)
  refine lv_iinc (v := 7) (lv' := [(2, .int 7), (1, .int 0), (0, .ref o0)]) hx hb dX10_present_23 hl (k := 0) rfl (by decide +kernel) (by decide) rfl (fun ls hl => ?_)
  refine lv_goto (tgt := 4) hx hb dX10_present_26 (by decide) ?_
  refine lv_iload_n hx hb dX10_present_4 rfl (lv_at hl 0 rfl) ?_
  refine lv_bipush (v := 12) hx hb dX10_present_5 (by decide) ?_
  refine lv_icmp_ge (tgt := 29) hx hb dX10_present_7 (by decide) (fun h9 => absurd h9 (by decide +kernel)) (fun _ => ?_)
  refine lv_aload_n hx hb dX10_present_10 rfl (lv_at hl 2 rfl) ?_
  refine va_get (D := (dC, dI)) (ci := 10) (v := .ref o1) (C := RX10) (T := TX10) (N := 3) hx hb hts iw_X10_present_X10 hown hK hP 0 rfl rfl 0 (by decide) (hts (.fieldLink RX10 9 "HolelessHouse$Table" "rows" "[I") (by decide +kernel)) (fun _ h9 => h9) rfl dX10_present_11 ?_
  refine lv_iload_n hx hb dX10_present_14 rfl (lv_at hl 0 rfl) ?_
  refine va_iald hx hb hK hP 1 0 rfl rfl (vin (by decide +kernel)) dX10_present_15 (tk_i (v := (-1)) (by decide +kernel) ?_)
  refine lv_iconst (v := (-1)) hx hb dX10_present_16 (by decide) ?_
  refine lv_icmp_eq (tgt := 23) hx hb dX10_present_17 (by decide) (fun _ => ?_) (fun h9 => absurd (by decide +kernel) h9)
  refine lv_iinc (v := 8) (lv' := [(2, .int 8), (1, .int 0), (0, .ref o0)]) hx hb dX10_present_23 hl (k := 0) rfl (by decide +kernel) (by decide) rfl (fun ls hl => ?_)
  refine lv_goto (tgt := 4) hx hb dX10_present_26 (by decide) ?_
  refine lv_iload_n hx hb dX10_present_4 rfl (lv_at hl 0 rfl) ?_
  refine lv_bipush (v := 12) hx hb dX10_present_5 (by decide) ?_
  refine lv_icmp_ge (tgt := 29) hx hb dX10_present_7 (by decide) (fun h9 => absurd h9 (by decide +kernel)) (fun _ => ?_)
  refine lv_aload_n hx hb dX10_present_10 rfl (lv_at hl 2 rfl) ?_
  refine va_get (D := (dC, dI)) (ci := 10) (v := .ref o1) (C := RX10) (T := TX10) (N := 3) hx hb hts iw_X10_present_X10 hown hK hP 0 rfl rfl 0 (by decide) (hts (.fieldLink RX10 9 "HolelessHouse$Table" "rows" "[I") (by decide +kernel)) (fun _ h9 => h9) rfl dX10_present_11 ?_
  refine lv_iload_n hx hb dX10_present_14 rfl (lv_at hl 0 rfl) ?_
  refine va_iald hx hb hK hP 1 0 rfl rfl (vin (by decide +kernel)) dX10_present_15 (tk_i (v := (-1)) (by decide +kernel) ?_)
  refine lv_iconst (v := (-1)) hx hb dX10_present_16 (by decide) ?_
  refine lv_icmp_eq (tgt := 23) hx hb dX10_present_17 (by decide) (fun _ => ?_) (fun h9 => absurd (by decide +kernel) h9)
  refine lv_iinc (v := 9) (lv' := [(2, .int 9), (1, .int 0), (0, .ref o0)]) hx hb dX10_present_23 hl (k := 0) rfl (by decide +kernel) (by decide) rfl (fun ls hl => ?_)
  refine lv_goto (tgt := 4) hx hb dX10_present_26 (by decide) ?_
  refine lv_iload_n hx hb dX10_present_4 rfl (lv_at hl 0 rfl) ?_
  refine lv_bipush (v := 12) hx hb dX10_present_5 (by decide) ?_
  refine lv_icmp_ge (tgt := 29) hx hb dX10_present_7 (by decide) (fun h9 => absurd h9 (by decide +kernel)) (fun _ => ?_)
  refine lv_aload_n hx hb dX10_present_10 rfl (lv_at hl 2 rfl) ?_
  refine va_get (D := (dC, dI)) (ci := 10) (v := .ref o1) (C := RX10) (T := TX10) (N := 3) hx hb hts iw_X10_present_X10 hown hK hP 0 rfl rfl 0 (by decide) (hts (.fieldLink RX10 9 "HolelessHouse$Table" "rows" "[I") (by decide +kernel)) (fun _ h9 => h9) rfl dX10_present_11 ?_
  refine lv_iload_n hx hb dX10_present_14 rfl (lv_at hl 0 rfl) ?_
  refine va_iald hx hb hK hP 1 0 rfl rfl (vin (by decide +kernel)) dX10_present_15 (tk_i (v := (-1)) (by decide +kernel) ?_)
  refine lv_iconst (v := (-1)) hx hb dX10_present_16 (by decide) ?_
  refine lv_icmp_eq (tgt := 23) hx hb dX10_present_17 (by decide) (fun _ => ?_) (fun h9 => absurd (by decide +kernel) h9)
  refine lv_iinc (v := 10) (lv' := [(2, .int 10), (1, .int 0), (0, .ref o0)]) hx hb dX10_present_23 hl (k := 0) rfl (by decide +kernel) (by decide) rfl (fun ls hl => ?_)
  refine lv_goto (tgt := 4) hx hb dX10_present_26 (by decide) ?_
  refine lv_iload_n hx hb dX10_present_4 rfl (lv_at hl 0 rfl) ?_
  refine lv_bipush (v := 12) hx hb dX10_present_5 (by decide) ?_
  refine lv_icmp_ge (tgt := 29) hx hb dX10_present_7 (by decide) (fun h9 => absurd h9 (by decide +kernel)) (fun _ => ?_)
  refine lv_aload_n hx hb dX10_present_10 rfl (lv_at hl 2 rfl) ?_
  refine va_get (D := (dC, dI)) (ci := 10) (v := .ref o1) (C := RX10) (T := TX10) (N := 3) hx hb hts iw_X10_present_X10 hown hK hP 0 rfl rfl 0 (by decide) (hts (.fieldLink RX10 9 "HolelessHouse$Table" "rows" "[I") (by decide +kernel)) (fun _ h9 => h9) rfl dX10_present_11 ?_
  refine lv_iload_n hx hb dX10_present_14 rfl (lv_at hl 0 rfl) ?_
  refine va_iald hx hb hK hP 1 0 rfl rfl (vin (by decide +kernel)) dX10_present_15 (tk_i (v := (-1)) (by decide +kernel) ?_)
  refine lv_iconst (v := (-1)) hx hb dX10_present_16 (by decide) ?_
  refine lv_icmp_eq (tgt := 23) hx hb dX10_present_17 (by decide) (fun _ => ?_) (fun h9 => absurd (by decide +kernel) h9)
  refine lv_iinc (v := 11) (lv' := [(2, .int 11), (1, .int 0), (0, .ref o0)]) hx hb dX10_present_23 hl (k := 0) rfl (by decide +kernel) (by decide) rfl (fun ls hl => ?_)
  refine lv_goto (tgt := 4) hx hb dX10_present_26 (by decide) ?_
  refine lv_iload_n hx hb dX10_present_4 rfl (lv_at hl 0 rfl) ?_
  refine lv_bipush (v := 12) hx hb dX10_present_5 (by decide) ?_
  refine lv_icmp_ge (tgt := 29) hx hb dX10_present_7 (by decide) (fun h9 => absurd h9 (by decide +kernel)) (fun _ => ?_)
  refine lv_aload_n hx hb dX10_present_10 rfl (lv_at hl 2 rfl) ?_
  refine va_get (D := (dC, dI)) (ci := 10) (v := .ref o1) (C := RX10) (T := TX10) (N := 3) hx hb hts iw_X10_present_X10 hown hK hP 0 rfl rfl 0 (by decide) (hts (.fieldLink RX10 9 "HolelessHouse$Table" "rows" "[I") (by decide +kernel)) (fun _ h9 => h9) rfl dX10_present_11 ?_
  refine lv_iload_n hx hb dX10_present_14 rfl (lv_at hl 0 rfl) ?_
  refine va_iald hx hb hK hP 1 0 rfl rfl (vin (by decide +kernel)) dX10_present_15 (tk_i (v := (-1)) (by decide +kernel) ?_)
  refine lv_iconst (v := (-1)) hx hb dX10_present_16 (by decide) ?_
  refine lv_icmp_eq (tgt := 23) hx hb dX10_present_17 (by decide) (fun _ => ?_) (fun h9 => absurd (by decide +kernel) h9)
  refine lv_iinc (v := 12) (lv' := [(2, .int 12), (1, .int 0), (0, .ref o0)]) hx hb dX10_present_23 hl (k := 0) rfl (by decide +kernel) (by decide) rfl (fun ls hl => ?_)
  refine lv_goto (tgt := 4) hx hb dX10_present_26 (by decide) ?_
  refine lv_iload_n hx hb dX10_present_4 rfl (lv_at hl 0 rfl) ?_
  refine lv_bipush (v := 12) hx hb dX10_present_5 (by decide) ?_
  refine lv_icmp_ge (tgt := 29) hx hb dX10_present_7 (by decide) (fun _ => ?_) (fun h9 => absurd (by decide +kernel) h9)
  refine lv_iload_n hx hb dX10_present_29 rfl (lv_at hl 1 rfl) ?_
  have hP9 := hP.sub (ws' := [(o0, .inr (10, [.ref o1, .int 0, .int 0])), (o1, .inl (cI, 12, .inl (fun _ => (-1))))]) [0, 1] rfl
  have hD9 := hD.sub (ws' := [(o0, .inr (10, [.ref o1, .int 0, .int 0])), (o1, .inl (cI, 12, .inl (fun _ => (-1))))]) [0, 1] (by decide) rfl
  exact W.iret (v := 0) hx hb hr (fun t ht hW => ⟨⟨0, (), rfl, rfl, by rw [ht]; exact hP9, va_K.moved hW.alike hK, hD9⟩, hS.F ht⟩) hS.2.2 dX10_present_30
set_option maxHeartbeats 1000000 in
set_option maxRecDepth 100000 in
theorem kX11_count_5 (l : Launch) (dC : Nat → ClassId) (dI : Nat → Nat → Nat) (cI c2 : ClassId) (o0 : Nat) (o1 : Nat) (o2 : Nat) (o3 : Nat) (o4 : Nat) (o5 : Nat) (o6 : Nat) (o7 : Nat) (o8 : Nat) (o9 : Nat) (o10 : Nat) (o11 : Nat) (o12 : Nat) (o13 : Nat) (sz : Nat) : Met l yX11_count wsX11_count ({ frames := 1, cells := 0, slots := 0, locals := 22 }) (va_Pc [.ref o0, .int 3] (wPre (dC, dI) [(cI, .int), (c2, .array .int)] [(o0, .inr (11, [.ref o3, .ref o1, .ref o4, .ref o5, .ref o6, .ref o7, .ref o8, .ref o9, .ref o10, .ref o11, .ref o12, .ref o13, .int 0])), (o1, .inr (10, [.ref o2, .int 0, .int 0])), (o2, .inl (cI, 12, .inl (fun _ => (-1))))] sz)) (va_Qi (fun (r : Int32) (_ : Unit) => r = 0) (fun _ t => wPost (dC, dI) [(cI, .int), (c2, .array .int)] (va_A [(o0, .inr (11, [.ref o3, .ref o1, .ref o4, .ref o5, .ref o6, .ref o7, .ref o8, .ref o9, .ref o10, .ref o11, .ref o12, .ref o13, .int 0])), (o1, .inr (10, [.ref o2, .int 0, .int 0])), (o2, .inl (cI, 12, .inl (fun _ => (-1))))] sz) [] t) (va_A [(o0, .inr (11, [.ref o3, .ref o1, .ref o4, .ref o5, .ref o6, .ref o7, .ref o8, .ref o9, .ref o10, .ref o11, .ref o12, .ref o13, .int 0])), (o1, .inr (10, [.ref o2, .int 0, .int 0])), (o2, .inl (cI, 12, .inl (fun _ => (-1))))] sz)) 0 0 (va_A [(o0, .inr (11, [.ref o3, .ref o1, .ref o4, .ref o5, .ref o6, .ref o7, .ref o8, .ref o9, .ref o10, .ref o11, .ref o12, .ref o13, .int 0])), (o1, .inr (10, [.ref o2, .int 0, .int 0])), (o2, .inl (cI, 12, .inl (fun _ => (-1))))] sz) := by
  refine Met.ofW (cc := cX11_count) (maxL := 2) (ret := (some .int)) (by decide) rfl ?_
  intro p e s m args below meth c s₁ B hml hv
  obtain ⟨rfl, hsz, hP, hK, hD0, hN⟩ := hv
  have hx := B.exec
  have hb := B.bytes
  have hr := B.returns
  have hts := atoms_spec (ws := wsX11_count) B.pre
  have hown : s.vm.findClass RX11 = some m.cls := findClass_of_methodNamed B.named
  have hlocks := B.notSynchronized
  subst hsz
  have hD := hD0.self (sz := s.heap.size)
  generalize hAe : va_A [(o0, .inr (11, [.ref o3, .ref o1, .ref o4, .ref o5, .ref o6, .ref o7, .ref o8, .ref o9, .ref o10, .ref o11, .ref o12, .ref o13, .int 0])), (o1, .inr (10, [.ref o2, .int 0, .int 0])), (o2, .inl (cI, 12, .inl (fun _ => (-1))))] s.heap.size = A at hD ⊢
  have hA : ∀ q : Nat, s.heap.size ≤ q → A q := fun q h => by rw [← hAe]; exact Or.inr h
  have hS : va_S A s.heap s.heap [] := va_S.rf
  have hP : va_P (dC, dI) vwCl [(o0, .inr (11, [.ref o3, .ref o1, .ref o4, .ref o5, .ref o6, .ref o7, .ref o8, .ref o9, .ref o10, .ref o11, .ref o12, .ref o13, .int 0])), (o1, .inr (10, [.ref o2, .int 0, .int 0])), (o2, .inl (cI, 12, .inl (fun _ => (-1))))] s.heap := hP
  have hl := lv_entry ([.ref o0, .int 3]) (n := 2) (Nat.le_of_ble_eq_true rfl)
  rw [lg_entry_eq]
  generalize (lg_sl ([.ref o0, .int 3]) ++ List.replicate (2 - (lg_sl ([.ref o0, .int 3])).length) Slot.unset).toArray = ls at hl ⊢
  have hl : lv_has ls 2 [(0, .ref o0), (1, .int 3)] := hl
  refine lv_iload_n hx hb dX11_count_0 rfl (lv_at hl 1 rfl) ?_
  refine lv_tableIn (off := 59) (tgt := 60) hx hb dX11_count_1 (by decide +kernel) (by decide +kernel) (by decide +kernel) (by decide) ?_
  refine lv_aload_n hx hb dX11_count_60 rfl (lv_at hl 0 rfl) ?_
  refine va_get (D := (dC, dI)) (ci := 11) (v := .ref o1) (C := RX11) (T := TX11) (N := 13) hx hb hts iw_X11_count_X11 hown hK hP 0 rfl rfl 1 (by decide) (hts (.fieldLink RX11 19 "HolelessHouse" "table" "LHolelessHouse$Table;") (by decide +kernel)) (fun _ h9 => h9) rfl dX11_count_61 ?_
  refine kcall_i (D := (dC, dI)) (S := Unit) (v := 0) (wc := [(o1, .inr (10, [.ref o2, .int 0, .int 0])), (o2, .inl (cI, 12, .inl (fun _ => (-1))))]) (wr := [(o0, .inr (11, [.ref o3, .ref o1, .ref o4, .ref o5, .ref o6, .ref o7, .ref o8, .ref o9, .ref o10, .ref o11, .ref o12, .ref o13, .int 0]))]) (w1 := fun _ => [(o1, .inr (10, [.ref o2, .int 0, .int 0])), (o2, .inl (cI, 12, .inl (fun _ => (-1))))]) (fun hPc hDc => va_runVN (As := []) (rest := []) ⟨hx, hb, hml, hown, hts⟩ (kX10_present_1 l dC dI cI c2 o1 o2 s.heap.size) ⟨va_cnB 0 hts gX11_count_X10_present_n272 rfl rfl rfl (hN.1 _ ns_138) (hts (.initialized RX10) (by decide +kernel)) (by decide +kernel) ⟨Nat.le_of_ble_eq_true rfl, Nat.le_of_ble_eq_true rfl⟩, (hts (.instanceMethod yX10_present) (by decide +kernel)), (hts (.selects RX10 yX10_present yX10_present) (by decide +kernel))⟩ (pre_V hPc hK hDc hN (ci := 10) (q0 := 0) rfl rfl) rfl rfl hl.1 rfl (lv_room (Nat.le_of_ble_eq_true rfl)) dX11_count_64 ⟨Nat.le_of_ble_eq_true rfl, Nat.le_of_ble_eq_true rfl⟩) hP hD hS hA [1, 2] [0] rfl rfl (by decide) (by decide) (by decide) (fun u H locs hP hD hS => ?_)
  have hP : va_P (dC, dI) vwCl [(o0, .inr (11, [.ref o3, .ref o1, .ref o4, .ref o5, .ref o6, .ref o7, .ref o8, .ref o9, .ref o10, .ref o11, .ref o12, .ref o13, .int 0])), (o1, .inr (10, [.ref o2, .int 0, .int 0])), (o2, .inl (cI, 12, .inl (fun _ => (-1))))] H := hP
  have hD : va_D A [(o0, .inr (11, [.ref o3, .ref o1, .ref o4, .ref o5, .ref o6, .ref o7, .ref o8, .ref o9, .ref o10, .ref o11, .ref o12, .ref o13, .int 0])), (o1, .inr (10, [.ref o2, .int 0, .int 0])), (o2, .inl (cI, 12, .inl (fun _ => (-1))))] := hD
  have hP9 := hP.sub (ws' := []) [] rfl
  have hD9 := hD.sub (ws' := []) [] (by decide) rfl
  exact W.iret (v := 0) hx hb hr (fun t ht hW => ⟨⟨0, (), rfl, rfl, by rw [ht]; exact hP9, va_K.moved hW.alike hK, hD9⟩, hS.F ht⟩) hS.2.2 dX11_count_67
set_option maxHeartbeats 1000000 in
set_option maxRecDepth 100000 in
theorem kX12_count_5 (l : Launch) (dC : Nat → ClassId) (dI : Nat → Nat → Nat) (cI c2 : ClassId) (o0 : Nat) (o1 : Nat) (o2 : Nat) (o3 : Nat) (o4 : Nat) (o5 : Nat) (o6 : Nat) (o7 : Nat) (o8 : Nat) (o9 : Nat) (o10 : Nat) (o11 : Nat) (o12 : Nat) (o13 : Nat) (o14 : Nat) (o15 : Nat) (o16 : Nat) (o17 : Nat) (o18 : Nat) (sz : Nat) : Met l yX12_count wsX12_count ({ frames := 0, cells := 0, slots := 0, locals := 0 }) (va_Pc [.ref o0, .int 3] (wPre (dC, dI) [(cI, .int), (c2, .array .int)] [(o0, .inr (12, [.int 0, .ref o2, .int 0, .ref o3, .int 0, .ref o1, .ref o4, .int 0, .ref o5, .int 0, .ref o6, .int (-9), .int 0, .int 0, .ref o7, .ref o8, .ref o9, .ref o10, .ref o11, .int 0, .ref o12, .ref o13, .ref o14, .int 0, .ref o15, .ref o16, .ref o17, .int 0, .ref o18])), (o1, .inl (cI, 12, .inl (fun _ => (-9))))] sz)) (va_Qi (fun (r : Int32) (_ : Unit) => r = 0) (fun _ t => wPost (dC, dI) [(cI, .int), (c2, .array .int)] (va_A [(o0, .inr (12, [.int 0, .ref o2, .int 0, .ref o3, .int 0, .ref o1, .ref o4, .int 0, .ref o5, .int 0, .ref o6, .int (-9), .int 0, .int 0, .ref o7, .ref o8, .ref o9, .ref o10, .ref o11, .int 0, .ref o12, .ref o13, .ref o14, .int 0, .ref o15, .ref o16, .ref o17, .int 0, .ref o18])), (o1, .inl (cI, 12, .inl (fun _ => (-9))))] sz) [] t) (va_A [(o0, .inr (12, [.int 0, .ref o2, .int 0, .ref o3, .int 0, .ref o1, .ref o4, .int 0, .ref o5, .int 0, .ref o6, .int (-9), .int 0, .int 0, .ref o7, .ref o8, .ref o9, .ref o10, .ref o11, .int 0, .ref o12, .ref o13, .ref o14, .int 0, .ref o15, .ref o16, .ref o17, .int 0, .ref o18])), (o1, .inl (cI, 12, .inl (fun _ => (-9))))] sz)) 0 0 (va_A [(o0, .inr (12, [.int 0, .ref o2, .int 0, .ref o3, .int 0, .ref o1, .ref o4, .int 0, .ref o5, .int 0, .ref o6, .int (-9), .int 0, .int 0, .ref o7, .ref o8, .ref o9, .ref o10, .ref o11, .int 0, .ref o12, .ref o13, .ref o14, .int 0, .ref o15, .ref o16, .ref o17, .int 0, .ref o18])), (o1, .inl (cI, 12, .inl (fun _ => (-9))))] sz) := by
  refine Met.ofW (cc := cX12_count) (maxL := 4) (ret := (some .int)) (by decide) rfl ?_
  intro p e s m args below meth c s₁ B hml hv
  obtain ⟨rfl, hsz, hP, hK, hD0, hN⟩ := hv
  have hx := B.exec
  have hb := B.bytes
  have hr := B.returns
  have hts := atoms_spec (ws := wsX12_count) B.pre
  have hown : s.vm.findClass RX12 = some m.cls := findClass_of_methodNamed B.named
  have hlocks := B.notSynchronized
  subst hsz
  have hD := hD0.self (sz := s.heap.size)
  generalize hAe : va_A [(o0, .inr (12, [.int 0, .ref o2, .int 0, .ref o3, .int 0, .ref o1, .ref o4, .int 0, .ref o5, .int 0, .ref o6, .int (-9), .int 0, .int 0, .ref o7, .ref o8, .ref o9, .ref o10, .ref o11, .int 0, .ref o12, .ref o13, .ref o14, .int 0, .ref o15, .ref o16, .ref o17, .int 0, .ref o18])), (o1, .inl (cI, 12, .inl (fun _ => (-9))))] s.heap.size = A at hD ⊢
  have hA : ∀ q : Nat, s.heap.size ≤ q → A q := fun q h => by rw [← hAe]; exact Or.inr h
  have hS : va_S A s.heap s.heap [] := va_S.rf
  have hP : va_P (dC, dI) vwCl [(o0, .inr (12, [.int 0, .ref o2, .int 0, .ref o3, .int 0, .ref o1, .ref o4, .int 0, .ref o5, .int 0, .ref o6, .int (-9), .int 0, .int 0, .ref o7, .ref o8, .ref o9, .ref o10, .ref o11, .int 0, .ref o12, .ref o13, .ref o14, .int 0, .ref o15, .ref o16, .ref o17, .int 0, .ref o18])), (o1, .inl (cI, 12, .inl (fun _ => (-9))))] s.heap := hP
  have hl := lv_entry ([.ref o0, .int 3]) (n := 4) (Nat.le_of_ble_eq_true rfl)
  rw [lg_entry_eq]
  generalize (lg_sl ([.ref o0, .int 3]) ++ List.replicate (4 - (lg_sl ([.ref o0, .int 3])).length) Slot.unset).toArray = ls at hl ⊢
  have hl : lv_has ls 4 [(0, .ref o0), (1, .int 3)] := hl
  refine lv_iconst (v := 0) hx hb dX12_count_0 (by decide) ?_
  refine lv_istore_n (lv' := [(2, .int 0), (0, .ref o0), (1, .int 3)]) hx hb dX12_count_1 rfl hl (by decide) rfl (fun ls hl => ?_)
  refine lv_iconst (v := 0) hx hb dX12_count_2 (by decide) ?_
  refine lv_istore_n (lv' := [(3, .int 0), (2, .int 0), (0, .ref o0), (1, .int 3)]) hx hb dX12_count_3 rfl hl (by decide) rfl (fun ls hl => ?_)
  refine lv_iload_n hx hb dX12_count_4 rfl (lv_at hl 0 rfl) ?_
  refine lv_bipush (v := 12) hx hb dX12_count_5 (by decide) ?_
  refine lv_icmp_ge (tgt := 33) hx hb dX12_count_7 (by decide) (fun h9 => absurd h9 (by decide +kernel)) (fun _ => ?_)
  refine lv_iload_n hx hb dX12_count_10 rfl (lv_at hl 1 rfl) ?_
  refine lv_aload_n hx hb dX12_count_11 rfl (lv_at hl 2 rfl) ?_
  refine va_get (D := (dC, dI)) (ci := 12) (v := .ref o1) (C := RX12) (T := TX12) (N := 29) hx hb hts iw_X12_count_X12 hown hK hP 0 rfl rfl 5 (by decide) (hts (.fieldLink RX12 16 "HolelessHouseModel" "rows" "[I") (by decide +kernel)) (fun _ h9 => h9) rfl dX12_count_12 ?_
  refine lv_iload_n hx hb dX12_count_15 rfl (lv_at hl 0 rfl) ?_
  refine va_iald hx hb hK hP 1 0 rfl rfl (vin (by decide +kernel)) dX12_count_16 (tk_i (v := (-9)) (by decide +kernel) ?_)
  refine lv_if_lt (tgt := 24) hx hb dX12_count_17 (by decide) (fun _ => ?_) (fun h9 => absurd (by decide +kernel) h9)
  refine lv_iconst (v := 0) hx hb dX12_count_24 (by decide) ?_
  refine lv_iadd hx hb dX12_count_25 (tk_i (v := 0) (by decide +kernel) ?_)
  refine lv_istore_n (lv' := [(2, .int 0), (3, .int 0), (0, .ref o0), (1, .int 3)]) hx hb dX12_count_26 rfl hl (by decide) rfl (fun ls hl => ?_)
  refine lv_iinc (v := 1) (lv' := [(3, .int 1), (2, .int 0), (0, .ref o0), (1, .int 3)]) hx hb dX12_count_27 hl (k := 1) rfl (by decide +kernel) (by decide) rfl (fun ls hl => ?_)
  refine lv_goto (tgt := 4) hx hb dX12_count_30 (by decide) ?_
  refine lv_iload_n hx hb dX12_count_4 rfl (lv_at hl 0 rfl) ?_
  refine lv_bipush (v := 12) hx hb dX12_count_5 (by decide) ?_
  refine lv_icmp_ge (tgt := 33) hx hb dX12_count_7 (by decide) (fun h9 => absurd h9 (by decide +kernel)) (fun _ => ?_)
  refine lv_iload_n hx hb dX12_count_10 rfl (lv_at hl 1 rfl) ?_
  refine lv_aload_n hx hb dX12_count_11 rfl (lv_at hl 2 rfl) ?_
  refine va_get (D := (dC, dI)) (ci := 12) (v := .ref o1) (C := RX12) (T := TX12) (N := 29) hx hb hts iw_X12_count_X12 hown hK hP 0 rfl rfl 5 (by decide) (hts (.fieldLink RX12 16 "HolelessHouseModel" "rows" "[I") (by decide +kernel)) (fun _ h9 => h9) rfl dX12_count_12 ?_
  refine lv_iload_n hx hb dX12_count_15 rfl (lv_at hl 0 rfl) ?_
  refine va_iald hx hb hK hP 1 0 rfl rfl (vin (by decide +kernel)) dX12_count_16 (tk_i (v := (-9)) (by decide +kernel) ?_)
  refine lv_if_lt (tgt := 24) hx hb dX12_count_17 (by decide) (fun _ => ?_) (fun h9 => absurd (by decide +kernel) h9)
  refine lv_iconst (v := 0) hx hb dX12_count_24 (by decide) ?_
  refine lv_iadd hx hb dX12_count_25 (tk_i (v := 0) (by decide +kernel) ?_)
  refine lv_istore_n (lv' := [(2, .int 0), (3, .int 1), (0, .ref o0), (1, .int 3)]) hx hb dX12_count_26 rfl hl (by decide) rfl (fun ls hl => ?_)
  refine lv_iinc (v := 2) (lv' := [(3, .int 2), (2, .int 0), (0, .ref o0), (1, .int 3)]) hx hb dX12_count_27 hl (k := 1) rfl (by decide +kernel) (by decide) rfl (fun ls hl => ?_)
  refine lv_goto (tgt := 4) hx hb dX12_count_30 (by decide) ?_
  refine lv_iload_n hx hb dX12_count_4 rfl (lv_at hl 0 rfl) ?_
  refine lv_bipush (v := 12) hx hb dX12_count_5 (by decide) ?_
  refine lv_icmp_ge (tgt := 33) hx hb dX12_count_7 (by decide) (fun h9 => absurd h9 (by decide +kernel)) (fun _ => ?_)
  refine lv_iload_n hx hb dX12_count_10 rfl (lv_at hl 1 rfl) ?_
  refine lv_aload_n hx hb dX12_count_11 rfl (lv_at hl 2 rfl) ?_
  refine va_get (D := (dC, dI)) (ci := 12) (v := .ref o1) (C := RX12) (T := TX12) (N := 29) hx hb hts iw_X12_count_X12 hown hK hP 0 rfl rfl 5 (by decide) (hts (.fieldLink RX12 16 "HolelessHouseModel" "rows" "[I") (by decide +kernel)) (fun _ h9 => h9) rfl dX12_count_12 ?_
  refine lv_iload_n hx hb dX12_count_15 rfl (lv_at hl 0 rfl) ?_
  refine va_iald hx hb hK hP 1 0 rfl rfl (vin (by decide +kernel)) dX12_count_16 (tk_i (v := (-9)) (by decide +kernel) ?_)
  refine lv_if_lt (tgt := 24) hx hb dX12_count_17 (by decide) (fun _ => ?_) (fun h9 => absurd (by decide +kernel) h9)
  refine lv_iconst (v := 0) hx hb dX12_count_24 (by decide) ?_
  refine lv_iadd hx hb dX12_count_25 (tk_i (v := 0) (by decide +kernel) ?_)
  refine lv_istore_n (lv' := [(2, .int 0), (3, .int 2), (0, .ref o0), (1, .int 3)]) hx hb dX12_count_26 rfl hl (by decide) rfl (fun ls hl => ?_)
  refine lv_iinc (v := 3) (lv' := [(3, .int 3), (2, .int 0), (0, .ref o0), (1, .int 3)]) hx hb dX12_count_27 hl (k := 1) rfl (by decide +kernel) (by decide) rfl (fun ls hl => ?_)
  refine lv_goto (tgt := 4) hx hb dX12_count_30 (by decide) ?_
  refine lv_iload_n hx hb dX12_count_4 rfl (lv_at hl 0 rfl) ?_
  refine lv_bipush (v := 12) hx hb dX12_count_5 (by decide) ?_
  refine lv_icmp_ge (tgt := 33) hx hb dX12_count_7 (by decide) (fun h9 => absurd h9 (by decide +kernel)) (fun _ => ?_)
  refine lv_iload_n hx hb dX12_count_10 rfl (lv_at hl 1 rfl) ?_
  refine lv_aload_n hx hb dX12_count_11 rfl (lv_at hl 2 rfl) ?_
  refine va_get (D := (dC, dI)) (ci := 12) (v := .ref o1) (C := RX12) (T := TX12) (N := 29) hx hb hts iw_X12_count_X12 hown hK hP 0 rfl rfl 5 (by decide) (hts (.fieldLink RX12 16 "HolelessHouseModel" "rows" "[I") (by decide +kernel)) (fun _ h9 => h9) rfl dX12_count_12 ?_
  refine lv_iload_n hx hb dX12_count_15 rfl (lv_at hl 0 rfl) ?_
  refine va_iald hx hb hK hP 1 0 rfl rfl (vin (by decide +kernel)) dX12_count_16 (tk_i (v := (-9)) (by decide +kernel) ?_)
  refine lv_if_lt (tgt := 24) hx hb dX12_count_17 (by decide) (fun _ => ?_) (fun h9 => absurd (by decide +kernel) h9)
  refine lv_iconst (v := 0) hx hb dX12_count_24 (by decide) ?_
  refine lv_iadd hx hb dX12_count_25 (tk_i (v := 0) (by decide +kernel) ?_)
  refine lv_istore_n (lv' := [(2, .int 0), (3, .int 3), (0, .ref o0), (1, .int 3)]) hx hb dX12_count_26 rfl hl (by decide) rfl (fun ls hl => ?_)
  refine lv_iinc (v := 4) (lv' := [(3, .int 4), (2, .int 0), (0, .ref o0), (1, .int 3)]) hx hb dX12_count_27 hl (k := 1) rfl (by decide +kernel) (by decide) rfl (fun ls hl => ?_)
  refine lv_goto (tgt := 4) hx hb dX12_count_30 (by decide) ?_
  refine lv_iload_n hx hb dX12_count_4 rfl (lv_at hl 0 rfl) ?_
  refine lv_bipush (v := 12) hx hb dX12_count_5 (by decide) ?_
  refine lv_icmp_ge (tgt := 33) hx hb dX12_count_7 (by decide) (fun h9 => absurd h9 (by decide +kernel)) (fun _ => ?_)
  refine lv_iload_n hx hb dX12_count_10 rfl (lv_at hl 1 rfl) ?_
  refine lv_aload_n hx hb dX12_count_11 rfl (lv_at hl 2 rfl) ?_
  refine va_get (D := (dC, dI)) (ci := 12) (v := .ref o1) (C := RX12) (T := TX12) (N := 29) hx hb hts iw_X12_count_X12 hown hK hP 0 rfl rfl 5 (by decide) (hts (.fieldLink RX12 16 "HolelessHouseModel" "rows" "[I") (by decide +kernel)) (fun _ h9 => h9) rfl dX12_count_12 ?_
  refine lv_iload_n hx hb dX12_count_15 rfl (lv_at hl 0 rfl) ?_
  refine va_iald hx hb hK hP 1 0 rfl rfl (vin (by decide +kernel)) dX12_count_16 (tk_i (v := (-9)) (by decide +kernel) ?_)
  refine lv_if_lt (tgt := 24) hx hb dX12_count_17 (by decide) (fun _ => ?_) (fun h9 => absurd (by decide +kernel) h9)
  refine lv_iconst (v := 0) hx hb dX12_count_24 (by decide) ?_
  refine lv_iadd hx hb dX12_count_25 (tk_i (v := 0) (by decide +kernel) ?_)
  refine lv_istore_n (lv' := [(2, .int 0), (3, .int 4), (0, .ref o0), (1, .int 3)]) hx hb dX12_count_26 rfl hl (by decide) rfl (fun ls hl => ?_)
  refine lv_iinc (v := 5) (lv' := [(3, .int 5), (2, .int 0), (0, .ref o0), (1, .int 3)]) hx hb dX12_count_27 hl (k := 1) rfl (by decide +kernel) (by decide) rfl (fun ls hl => ?_)
  refine lv_goto (tgt := 4) hx hb dX12_count_30 (by decide) ?_
  refine lv_iload_n hx hb dX12_count_4 rfl (lv_at hl 0 rfl) ?_
  refine lv_bipush (v := 12) hx hb dX12_count_5 (by decide) ?_
  refine lv_icmp_ge (tgt := 33) hx hb dX12_count_7 (by decide) (fun h9 => absurd h9 (by decide +kernel)) (fun _ => ?_)
  refine lv_iload_n hx hb dX12_count_10 rfl (lv_at hl 1 rfl) ?_
  refine lv_aload_n hx hb dX12_count_11 rfl (lv_at hl 2 rfl) ?_
  refine va_get (D := (dC, dI)) (ci := 12) (v := .ref o1) (C := RX12) (T := TX12) (N := 29) hx hb hts iw_X12_count_X12 hown hK hP 0 rfl rfl 5 (by decide) (hts (.fieldLink RX12 16 "HolelessHouseModel" "rows" "[I") (by decide +kernel)) (fun _ h9 => h9) rfl dX12_count_12 ?_
  refine lv_iload_n hx hb dX12_count_15 rfl (lv_at hl 0 rfl) ?_
  refine va_iald hx hb hK hP 1 0 rfl rfl (vin (by decide +kernel)) dX12_count_16 (tk_i (v := (-9)) (by decide +kernel) ?_)
  refine lv_if_lt (tgt := 24) hx hb dX12_count_17 (by decide) (fun _ => ?_) (fun h9 => absurd (by decide +kernel) h9)
  refine lv_iconst (v := 0) hx hb dX12_count_24 (by decide) ?_
  refine lv_iadd hx hb dX12_count_25 (tk_i (v := 0) (by decide +kernel) ?_)
  refine lv_istore_n (lv' := [(2, .int 0), (3, .int 5), (0, .ref o0), (1, .int 3)]) hx hb dX12_count_26 rfl hl (by decide) rfl (fun ls hl => ?_)
  refine lv_iinc (v := 6) (lv' := [(3, .int 6), (2, .int 0), (0, .ref o0), (1, .int 3)]) hx hb dX12_count_27 hl (k := 1) rfl (by decide +kernel) (by decide) rfl (fun ls hl => ?_)
  refine lv_goto (tgt := 4) hx hb dX12_count_30 (by decide) ?_
  refine lv_iload_n hx hb dX12_count_4 rfl (lv_at hl 0 rfl) ?_
  refine lv_bipush (v := 12) hx hb dX12_count_5 (by decide) ?_
  refine lv_icmp_ge (tgt := 33) hx hb dX12_count_7 (by decide) (fun h9 => absurd h9 (by decide +kernel)) (fun _ => ?_)
  refine lv_iload_n hx hb dX12_count_10 rfl (lv_at hl 1 rfl) ?_
  refine lv_aload_n hx hb dX12_count_11 rfl (lv_at hl 2 rfl) ?_
  refine va_get (D := (dC, dI)) (ci := 12) (v := .ref o1) (C := RX12) (T := TX12) (N := 29) hx hb hts iw_X12_count_X12 hown hK hP 0 rfl rfl 5 (by decide) (hts (.fieldLink RX12 16 "HolelessHouseModel" "rows" "[I") (by decide +kernel)) (fun _ h9 => h9) rfl dX12_count_12 ?_
  refine lv_iload_n hx hb dX12_count_15 rfl (lv_at hl 0 rfl) ?_
  refine va_iald hx hb hK hP 1 0 rfl rfl (vin (by decide +kernel)) dX12_count_16 (tk_i (v := (-9)) (by decide +kernel) ?_)
  refine lv_if_lt (tgt := 24) hx hb dX12_count_17 (by decide) (fun _ => ?_) (fun h9 => absurd (by decide +kernel) h9)
  refine lv_iconst (v := 0) hx hb dX12_count_24 (by decide) ?_
  refine lv_iadd hx hb dX12_count_25 (tk_i (v := 0) (by decide +kernel) ?_)
  refine lv_istore_n (lv' := [(2, .int 0), (3, .int 6), (0, .ref o0), (1, .int 3)]) hx hb dX12_count_26 rfl hl (by decide) rfl (fun ls hl => ?_)
  refine lv_iinc (v := 7) (lv' := [(3, .int 7), (2, .int 0), (0, .ref o0), (1, .int 3)]) hx hb dX12_count_27 hl (k := 1) rfl (by decide +kernel) (by decide) rfl (fun ls hl => ?_)
  refine lv_goto (tgt := 4) hx hb dX12_count_30 (by decide) ?_
  refine lv_iload_n hx hb dX12_count_4 rfl (lv_at hl 0 rfl) ?_
  refine lv_bipush (v := 12) hx hb dX12_count_5 (by decide) ?_
  refine lv_icmp_ge (tgt := 33) hx hb dX12_count_7 (by decide) (fun h9 => absurd h9 (by decide +kernel)) (fun _ => ?_)
  refine lv_iload_n hx hb dX12_count_10 rfl (lv_at hl 1 rfl) ?_
  refine lv_aload_n hx hb dX12_count_11 rfl (lv_at hl 2 rfl) ?_
  refine va_get (D := (dC, dI)) (ci := 12) (v := .ref o1) (C := RX12) (T := TX12) (N := 29) hx hb hts iw_X12_count_X12 hown hK hP 0 rfl rfl 5 (by decide) (hts (.fieldLink RX12 16 "HolelessHouseModel" "rows" "[I") (by decide +kernel)) (fun _ h9 => h9) rfl dX12_count_12 ?_
  refine lv_iload_n hx hb dX12_count_15 rfl (lv_at hl 0 rfl) ?_
  refine va_iald hx hb hK hP 1 0 rfl rfl (vin (by decide +kernel)) dX12_count_16 (tk_i (v := (-9)) (by decide +kernel) ?_)
  refine lv_if_lt (tgt := 24) hx hb dX12_count_17 (by decide) (fun _ => ?_) (fun h9 => absurd (by decide +kernel) h9)
  refine lv_iconst (v := 0) hx hb dX12_count_24 (by decide) ?_
  refine lv_iadd hx hb dX12_count_25 (tk_i (v := 0) (by decide +kernel) ?_)
  refine lv_istore_n (lv' := [(2, .int 0), (3, .int 7), (0, .ref o0), (1, .int 3)]) hx hb dX12_count_26 rfl hl (by decide) rfl (fun ls hl => ?_)
  refine lv_iinc (v := 8) (lv' := [(3, .int 8), (2, .int 0), (0, .ref o0), (1, .int 3)]) hx hb dX12_count_27 hl (k := 1) rfl (by decide +kernel) (by decide) rfl (fun ls hl => ?_)
  refine lv_goto (tgt := 4) hx hb dX12_count_30 (by decide) ?_
  refine lv_iload_n hx hb dX12_count_4 rfl (lv_at hl 0 rfl) ?_
  refine lv_bipush (v := 12) hx hb dX12_count_5 (by decide) ?_
  refine lv_icmp_ge (tgt := 33) hx hb dX12_count_7 (by decide) (fun h9 => absurd h9 (by decide +kernel)) (fun _ => ?_)
  refine lv_iload_n hx hb dX12_count_10 rfl (lv_at hl 1 rfl) ?_
  refine lv_aload_n hx hb dX12_count_11 rfl (lv_at hl 2 rfl) ?_
  refine va_get (D := (dC, dI)) (ci := 12) (v := .ref o1) (C := RX12) (T := TX12) (N := 29) hx hb hts iw_X12_count_X12 hown hK hP 0 rfl rfl 5 (by decide) (hts (.fieldLink RX12 16 "HolelessHouseModel" "rows" "[I") (by decide +kernel)) (fun _ h9 => h9) rfl dX12_count_12 ?_
  refine lv_iload_n hx hb dX12_count_15 rfl (lv_at hl 0 rfl) ?_
  refine va_iald hx hb hK hP 1 0 rfl rfl (vin (by decide +kernel)) dX12_count_16 (tk_i (v := (-9)) (by decide +kernel) ?_)
  refine lv_if_lt (tgt := 24) hx hb dX12_count_17 (by decide) (fun _ => ?_) (fun h9 => absurd (by decide +kernel) h9)
  refine lv_iconst (v := 0) hx hb dX12_count_24 (by decide) ?_
  refine lv_iadd hx hb dX12_count_25 (tk_i (v := 0) (by decide +kernel) ?_)
  refine lv_istore_n (lv' := [(2, .int 0), (3, .int 8), (0, .ref o0), (1, .int 3)]) hx hb dX12_count_26 rfl hl (by decide) rfl (fun ls hl => ?_)
  refine lv_iinc (v := 9) (lv' := [(3, .int 9), (2, .int 0), (0, .ref o0), (1, .int 3)]) hx hb dX12_count_27 hl (k := 1) rfl (by decide +kernel) (by decide) rfl (fun ls hl => ?_)
  refine lv_goto (tgt := 4) hx hb dX12_count_30 (by decide) ?_
  refine lv_iload_n hx hb dX12_count_4 rfl (lv_at hl 0 rfl) ?_
  refine lv_bipush (v := 12) hx hb dX12_count_5 (by decide) ?_
  refine lv_icmp_ge (tgt := 33) hx hb dX12_count_7 (by decide) (fun h9 => absurd h9 (by decide +kernel)) (fun _ => ?_)
  refine lv_iload_n hx hb dX12_count_10 rfl (lv_at hl 1 rfl) ?_
  refine lv_aload_n hx hb dX12_count_11 rfl (lv_at hl 2 rfl) ?_
  refine va_get (D := (dC, dI)) (ci := 12) (v := .ref o1) (C := RX12) (T := TX12) (N := 29) hx hb hts iw_X12_count_X12 hown hK hP 0 rfl rfl 5 (by decide) (hts (.fieldLink RX12 16 "HolelessHouseModel" "rows" "[I") (by decide +kernel)) (fun _ h9 => h9) rfl dX12_count_12 ?_
  refine lv_iload_n hx hb dX12_count_15 rfl (lv_at hl 0 rfl) ?_
  refine va_iald hx hb hK hP 1 0 rfl rfl (vin (by decide +kernel)) dX12_count_16 (tk_i (v := (-9)) (by decide +kernel) ?_)
  refine lv_if_lt (tgt := 24) hx hb dX12_count_17 (by decide) (fun _ => ?_) (fun h9 => absurd (by decide +kernel) h9)
  refine lv_iconst (v := 0) hx hb dX12_count_24 (by decide) ?_
  refine lv_iadd hx hb dX12_count_25 (tk_i (v := 0) (by decide +kernel) ?_)
  refine lv_istore_n (lv' := [(2, .int 0), (3, .int 9), (0, .ref o0), (1, .int 3)]) hx hb dX12_count_26 rfl hl (by decide) rfl (fun ls hl => ?_)
  refine lv_iinc (v := 10) (lv' := [(3, .int 10), (2, .int 0), (0, .ref o0), (1, .int 3)]) hx hb dX12_count_27 hl (k := 1) rfl (by decide +kernel) (by decide) rfl (fun ls hl => ?_)
  refine lv_goto (tgt := 4) hx hb dX12_count_30 (by decide) ?_
  refine lv_iload_n hx hb dX12_count_4 rfl (lv_at hl 0 rfl) ?_
  refine lv_bipush (v := 12) hx hb dX12_count_5 (by decide) ?_
  refine lv_icmp_ge (tgt := 33) hx hb dX12_count_7 (by decide) (fun h9 => absurd h9 (by decide +kernel)) (fun _ => ?_)
  refine lv_iload_n hx hb dX12_count_10 rfl (lv_at hl 1 rfl) ?_
  refine lv_aload_n hx hb dX12_count_11 rfl (lv_at hl 2 rfl) ?_
  refine va_get (D := (dC, dI)) (ci := 12) (v := .ref o1) (C := RX12) (T := TX12) (N := 29) hx hb hts iw_X12_count_X12 hown hK hP 0 rfl rfl 5 (by decide) (hts (.fieldLink RX12 16 "HolelessHouseModel" "rows" "[I") (by decide +kernel)) (fun _ h9 => h9) rfl dX12_count_12 ?_
  refine lv_iload_n hx hb dX12_count_15 rfl (lv_at hl 0 rfl) ?_
  refine va_iald hx hb hK hP 1 0 rfl rfl (vin (by decide +kernel)) dX12_count_16 (tk_i (v := (-9)) (by decide +kernel) ?_)
  refine lv_if_lt (tgt := 24) hx hb dX12_count_17 (by decide) (fun _ => ?_) (fun h9 => absurd (by decide +kernel) h9)
  refine lv_iconst (v := 0) hx hb dX12_count_24 (by decide) ?_
  refine lv_iadd hx hb dX12_count_25 (tk_i (v := 0) (by decide +kernel) ?_)
  refine lv_istore_n (lv' := [(2, .int 0), (3, .int 10), (0, .ref o0), (1, .int 3)]) hx hb dX12_count_26 rfl hl (by decide) rfl (fun ls hl => ?_)
  refine lv_iinc (v := 11) (lv' := [(3, .int 11), (2, .int 0), (0, .ref o0), (1, .int 3)]) hx hb dX12_count_27 hl (k := 1) rfl (by decide +kernel) (by decide) rfl (fun ls hl => ?_)
  refine lv_goto (tgt := 4) hx hb dX12_count_30 (by decide) ?_
  refine lv_iload_n hx hb dX12_count_4 rfl (lv_at hl 0 rfl) ?_
  refine lv_bipush (v := 12) hx hb dX12_count_5 (by decide) ?_
  refine lv_icmp_ge (tgt := 33) hx hb dX12_count_7 (by decide) (fun h9 => absurd h9 (by decide +kernel)) (fun _ => ?_)
  refine lv_iload_n hx hb dX12_count_10 rfl (lv_at hl 1 rfl) ?_
  refine lv_aload_n hx hb dX12_count_11 rfl (lv_at hl 2 rfl) ?_
  refine va_get (D := (dC, dI)) (ci := 12) (v := .ref o1) (C := RX12) (T := TX12) (N := 29) hx hb hts iw_X12_count_X12 hown hK hP 0 rfl rfl 5 (by decide) (hts (.fieldLink RX12 16 "HolelessHouseModel" "rows" "[I") (by decide +kernel)) (fun _ h9 => h9) rfl dX12_count_12 ?_
  refine lv_iload_n hx hb dX12_count_15 rfl (lv_at hl 0 rfl) ?_
  refine va_iald hx hb hK hP 1 0 rfl rfl (vin (by decide +kernel)) dX12_count_16 (tk_i (v := (-9)) (by decide +kernel) ?_)
  refine lv_if_lt (tgt := 24) hx hb dX12_count_17 (by decide) (fun _ => ?_) (fun h9 => absurd (by decide +kernel) h9)
  refine lv_iconst (v := 0) hx hb dX12_count_24 (by decide) ?_
  refine lv_iadd hx hb dX12_count_25 (tk_i (v := 0) (by decide +kernel) ?_)
  refine lv_istore_n (lv' := [(2, .int 0), (3, .int 11), (0, .ref o0), (1, .int 3)]) hx hb dX12_count_26 rfl hl (by decide) rfl (fun ls hl => ?_)
  refine lv_iinc (v := 12) (lv' := [(3, .int 12), (2, .int 0), (0, .ref o0), (1, .int 3)]) hx hb dX12_count_27 hl (k := 1) rfl (by decide +kernel) (by decide) rfl (fun ls hl => ?_)
  refine lv_goto (tgt := 4) hx hb dX12_count_30 (by decide) ?_
  refine lv_iload_n hx hb dX12_count_4 rfl (lv_at hl 0 rfl) ?_
  refine lv_bipush (v := 12) hx hb dX12_count_5 (by decide) ?_
  refine lv_icmp_ge (tgt := 33) hx hb dX12_count_7 (by decide) (fun _ => ?_) (fun h9 => absurd (by decide +kernel) h9)
  refine lv_iload_n hx hb dX12_count_33 rfl (lv_at hl 3 rfl) ?_
  refine lv_tableIn (off := 49) (tgt := 83) hx hb dX12_count_34 (by decide +kernel) (by decide +kernel) (by decide +kernel) (by decide) ?_
  refine lv_iload_n hx hb dX12_count_83 rfl (lv_at hl 1 rfl) ?_
  have hP9 := hP.sub (ws' := []) [] rfl
  have hD9 := hD.sub (ws' := []) [] (by decide) rfl
  exact W.iret (v := 0) hx hb hr (fun t ht hW => ⟨⟨0, (), rfl, rfl, by rw [ht]; exact hP9, va_K.moved hW.alike hK, hD9⟩, hS.F ht⟩) hS.2.2 dX12_count_84
theorem iw_X11_count_X6 : ∀ w ∈ wsX60, w ∈ wsX11_count := by decide +kernel
set_option maxHeartbeats 1000000 in
set_option maxRecDepth 100000 in
theorem kX11_count_6 (l : Launch) (dC : Nat → ClassId) (dI : Nat → Nat → Nat) (cI c2 : ClassId) (o0 : Nat) (o1 : Nat) (o2 : Nat) (o3 : Nat) (o4 : Nat) (o5 : Nat) (o6 : Nat) (o7 : Nat) (o8 : Nat) (o9 : Nat) (o10 : Nat) (o11 : Nat) (o12 : Nat) (o13 : Nat) (o14 : Nat) (o15 : Nat) (o16 : Nat) (sz : Nat) : Met l yX11_count wsX11_count ({ frames := 0, cells := 0, slots := 0, locals := 0 }) (va_Pc [.ref o0, .int 4] (wPre (dC, dI) [(cI, .int), (c2, .array .int)] [(o0, .inr (11, [.ref o2, .ref o3, .ref o1, .ref o4, .ref o5, .ref o6, .ref o7, .ref o8, .ref o9, .ref o10, .ref o11, .ref o12, .int 0])), (o1, .inr (6, [.ref o13, .ref o14, .ref o15, .ref o16, .int 0, .int 0, .int 0, .int 0, .int 0]))] sz)) (va_Qi (fun (r : Int32) (_ : Unit) => r = 0) (fun _ t => wPost (dC, dI) [(cI, .int), (c2, .array .int)] (va_A [(o0, .inr (11, [.ref o2, .ref o3, .ref o1, .ref o4, .ref o5, .ref o6, .ref o7, .ref o8, .ref o9, .ref o10, .ref o11, .ref o12, .int 0])), (o1, .inr (6, [.ref o13, .ref o14, .ref o15, .ref o16, .int 0, .int 0, .int 0, .int 0, .int 0]))] sz) [] t) (va_A [(o0, .inr (11, [.ref o2, .ref o3, .ref o1, .ref o4, .ref o5, .ref o6, .ref o7, .ref o8, .ref o9, .ref o10, .ref o11, .ref o12, .int 0])), (o1, .inr (6, [.ref o13, .ref o14, .ref o15, .ref o16, .int 0, .int 0, .int 0, .int 0, .int 0]))] sz)) 0 0 (va_A [(o0, .inr (11, [.ref o2, .ref o3, .ref o1, .ref o4, .ref o5, .ref o6, .ref o7, .ref o8, .ref o9, .ref o10, .ref o11, .ref o12, .int 0])), (o1, .inr (6, [.ref o13, .ref o14, .ref o15, .ref o16, .int 0, .int 0, .int 0, .int 0, .int 0]))] sz) := by
  refine Met.ofW (cc := cX11_count) (maxL := 2) (ret := (some .int)) (by decide) rfl ?_
  intro p e s m args below meth c s₁ B hml hv
  obtain ⟨rfl, hsz, hP, hK, hD0, hN⟩ := hv
  have hx := B.exec
  have hb := B.bytes
  have hr := B.returns
  have hts := atoms_spec (ws := wsX11_count) B.pre
  have hown : s.vm.findClass RX11 = some m.cls := findClass_of_methodNamed B.named
  have hlocks := B.notSynchronized
  subst hsz
  have hD := hD0.self (sz := s.heap.size)
  generalize hAe : va_A [(o0, .inr (11, [.ref o2, .ref o3, .ref o1, .ref o4, .ref o5, .ref o6, .ref o7, .ref o8, .ref o9, .ref o10, .ref o11, .ref o12, .int 0])), (o1, .inr (6, [.ref o13, .ref o14, .ref o15, .ref o16, .int 0, .int 0, .int 0, .int 0, .int 0]))] s.heap.size = A at hD ⊢
  have hA : ∀ q : Nat, s.heap.size ≤ q → A q := fun q h => by rw [← hAe]; exact Or.inr h
  have hS : va_S A s.heap s.heap [] := va_S.rf
  have hP : va_P (dC, dI) vwCl [(o0, .inr (11, [.ref o2, .ref o3, .ref o1, .ref o4, .ref o5, .ref o6, .ref o7, .ref o8, .ref o9, .ref o10, .ref o11, .ref o12, .int 0])), (o1, .inr (6, [.ref o13, .ref o14, .ref o15, .ref o16, .int 0, .int 0, .int 0, .int 0, .int 0]))] s.heap := hP
  have hl := lv_entry ([.ref o0, .int 4]) (n := 2) (Nat.le_of_ble_eq_true rfl)
  rw [lg_entry_eq]
  generalize (lg_sl ([.ref o0, .int 4]) ++ List.replicate (2 - (lg_sl ([.ref o0, .int 4])).length) Slot.unset).toArray = ls at hl ⊢
  have hl : lv_has ls 2 [(0, .ref o0), (1, .int 4)] := hl
  refine lv_iload_n hx hb dX11_count_0 rfl (lv_at hl 1 rfl) ?_
  refine lv_tableIn (off := 67) (tgt := 68) hx hb dX11_count_1 (by decide +kernel) (by decide +kernel) (by decide +kernel) (by decide) ?_
  refine lv_aload_n hx hb dX11_count_68 rfl (lv_at hl 0 rfl) ?_
  refine va_get (D := (dC, dI)) (ci := 11) (v := .ref o1) (C := RX11) (T := TX11) (N := 13) hx hb hts iw_X11_count_X11 hown hK hP 0 rfl rfl 2 (by decide) (hts (.fieldLink RX11 26 "HolelessHouse" "ordering" "LHolelessHouse$Ordering;") (by decide +kernel)) (fun _ h9 => h9) rfl dX11_count_69 ?_
  refine va_getN (D := (dC, dI)) (ci := 6) (v := .int 0) (C := RX6) (T := TX6) (N := 9) hx hb hts iw_X11_count_X6 hown hK hP 1 rfl rfl 4 (by decide) (hN.use ns_27) (fun _ h9 => h9) rfl dX11_count_72 ?_
  have hP9 := hP.sub (ws' := []) [] rfl
  have hD9 := hD.sub (ws' := []) [] (by decide) rfl
  exact W.iret (v := 0) hx hb hr (fun t ht hW => ⟨⟨0, (), rfl, rfl, by rw [ht]; exact hP9, va_K.moved hW.alike hK, hD9⟩, hS.F ht⟩) hS.2.2 dX11_count_75
set_option maxHeartbeats 1000000 in
set_option maxRecDepth 100000 in
theorem kX12_count_6 (l : Launch) (dC : Nat → ClassId) (dI : Nat → Nat → Nat) (cI c2 : ClassId) (o0 : Nat) (o1 : Nat) (o2 : Nat) (o3 : Nat) (o4 : Nat) (o5 : Nat) (o6 : Nat) (o7 : Nat) (o8 : Nat) (o9 : Nat) (o10 : Nat) (o11 : Nat) (o12 : Nat) (o13 : Nat) (o14 : Nat) (o15 : Nat) (o16 : Nat) (o17 : Nat) (o18 : Nat) (sz : Nat) : Met l yX12_count wsX12_count ({ frames := 0, cells := 0, slots := 0, locals := 0 }) (va_Pc [.ref o0, .int 4] (wPre (dC, dI) [(cI, .int), (c2, .array .int)] [(o0, .inr (12, [.int 0, .ref o2, .int 0, .ref o3, .int 0, .ref o1, .ref o4, .int 0, .ref o5, .int 0, .ref o6, .int (-9), .int 0, .int 0, .ref o7, .ref o8, .ref o9, .ref o10, .ref o11, .int 0, .ref o12, .ref o13, .ref o14, .int 0, .ref o15, .ref o16, .ref o17, .int 0, .ref o18])), (o1, .inl (cI, 12, .inl (fun _ => (-9))))] sz)) (va_Qi (fun (r : Int32) (_ : Unit) => r = 0) (fun _ t => wPost (dC, dI) [(cI, .int), (c2, .array .int)] (va_A [(o0, .inr (12, [.int 0, .ref o2, .int 0, .ref o3, .int 0, .ref o1, .ref o4, .int 0, .ref o5, .int 0, .ref o6, .int (-9), .int 0, .int 0, .ref o7, .ref o8, .ref o9, .ref o10, .ref o11, .int 0, .ref o12, .ref o13, .ref o14, .int 0, .ref o15, .ref o16, .ref o17, .int 0, .ref o18])), (o1, .inl (cI, 12, .inl (fun _ => (-9))))] sz) [] t) (va_A [(o0, .inr (12, [.int 0, .ref o2, .int 0, .ref o3, .int 0, .ref o1, .ref o4, .int 0, .ref o5, .int 0, .ref o6, .int (-9), .int 0, .int 0, .ref o7, .ref o8, .ref o9, .ref o10, .ref o11, .int 0, .ref o12, .ref o13, .ref o14, .int 0, .ref o15, .ref o16, .ref o17, .int 0, .ref o18])), (o1, .inl (cI, 12, .inl (fun _ => (-9))))] sz)) 0 0 (va_A [(o0, .inr (12, [.int 0, .ref o2, .int 0, .ref o3, .int 0, .ref o1, .ref o4, .int 0, .ref o5, .int 0, .ref o6, .int (-9), .int 0, .int 0, .ref o7, .ref o8, .ref o9, .ref o10, .ref o11, .int 0, .ref o12, .ref o13, .ref o14, .int 0, .ref o15, .ref o16, .ref o17, .int 0, .ref o18])), (o1, .inl (cI, 12, .inl (fun _ => (-9))))] sz) := by
  refine Met.ofW (cc := cX12_count) (maxL := 4) (ret := (some .int)) (by decide) rfl ?_
  intro p e s m args below meth c s₁ B hml hv
  obtain ⟨rfl, hsz, hP, hK, hD0, hN⟩ := hv
  have hx := B.exec
  have hb := B.bytes
  have hr := B.returns
  have hts := atoms_spec (ws := wsX12_count) B.pre
  have hown : s.vm.findClass RX12 = some m.cls := findClass_of_methodNamed B.named
  have hlocks := B.notSynchronized
  subst hsz
  have hD := hD0.self (sz := s.heap.size)
  generalize hAe : va_A [(o0, .inr (12, [.int 0, .ref o2, .int 0, .ref o3, .int 0, .ref o1, .ref o4, .int 0, .ref o5, .int 0, .ref o6, .int (-9), .int 0, .int 0, .ref o7, .ref o8, .ref o9, .ref o10, .ref o11, .int 0, .ref o12, .ref o13, .ref o14, .int 0, .ref o15, .ref o16, .ref o17, .int 0, .ref o18])), (o1, .inl (cI, 12, .inl (fun _ => (-9))))] s.heap.size = A at hD ⊢
  have hA : ∀ q : Nat, s.heap.size ≤ q → A q := fun q h => by rw [← hAe]; exact Or.inr h
  have hS : va_S A s.heap s.heap [] := va_S.rf
  have hP : va_P (dC, dI) vwCl [(o0, .inr (12, [.int 0, .ref o2, .int 0, .ref o3, .int 0, .ref o1, .ref o4, .int 0, .ref o5, .int 0, .ref o6, .int (-9), .int 0, .int 0, .ref o7, .ref o8, .ref o9, .ref o10, .ref o11, .int 0, .ref o12, .ref o13, .ref o14, .int 0, .ref o15, .ref o16, .ref o17, .int 0, .ref o18])), (o1, .inl (cI, 12, .inl (fun _ => (-9))))] s.heap := hP
  have hl := lv_entry ([.ref o0, .int 4]) (n := 4) (Nat.le_of_ble_eq_true rfl)
  rw [lg_entry_eq]
  generalize (lg_sl ([.ref o0, .int 4]) ++ List.replicate (4 - (lg_sl ([.ref o0, .int 4])).length) Slot.unset).toArray = ls at hl ⊢
  have hl : lv_has ls 4 [(0, .ref o0), (1, .int 4)] := hl
  refine lv_iconst (v := 0) hx hb dX12_count_0 (by decide) ?_
  refine lv_istore_n (lv' := [(2, .int 0), (0, .ref o0), (1, .int 4)]) hx hb dX12_count_1 rfl hl (by decide) rfl (fun ls hl => ?_)
  refine lv_iconst (v := 0) hx hb dX12_count_2 (by decide) ?_
  refine lv_istore_n (lv' := [(3, .int 0), (2, .int 0), (0, .ref o0), (1, .int 4)]) hx hb dX12_count_3 rfl hl (by decide) rfl (fun ls hl => ?_)
  refine lv_iload_n hx hb dX12_count_4 rfl (lv_at hl 0 rfl) ?_
  refine lv_bipush (v := 12) hx hb dX12_count_5 (by decide) ?_
  refine lv_icmp_ge (tgt := 33) hx hb dX12_count_7 (by decide) (fun h9 => absurd h9 (by decide +kernel)) (fun _ => ?_)
  refine lv_iload_n hx hb dX12_count_10 rfl (lv_at hl 1 rfl) ?_
  refine lv_aload_n hx hb dX12_count_11 rfl (lv_at hl 2 rfl) ?_
  refine va_get (D := (dC, dI)) (ci := 12) (v := .ref o1) (C := RX12) (T := TX12) (N := 29) hx hb hts iw_X12_count_X12 hown hK hP 0 rfl rfl 5 (by decide) (hts (.fieldLink RX12 16 "HolelessHouseModel" "rows" "[I") (by decide +kernel)) (fun _ h9 => h9) rfl dX12_count_12 ?_
  refine lv_iload_n hx hb dX12_count_15 rfl (lv_at hl 0 rfl) ?_
  refine va_iald hx hb hK hP 1 0 rfl rfl (vin (by decide +kernel)) dX12_count_16 (tk_i (v := (-9)) (by decide +kernel) ?_)
  refine lv_if_lt (tgt := 24) hx hb dX12_count_17 (by decide) (fun _ => ?_) (fun h9 => absurd (by decide +kernel) h9)
  refine lv_iconst (v := 0) hx hb dX12_count_24 (by decide) ?_
  refine lv_iadd hx hb dX12_count_25 (tk_i (v := 0) (by decide +kernel) ?_)
  refine lv_istore_n (lv' := [(2, .int 0), (3, .int 0), (0, .ref o0), (1, .int 4)]) hx hb dX12_count_26 rfl hl (by decide) rfl (fun ls hl => ?_)
  refine lv_iinc (v := 1) (lv' := [(3, .int 1), (2, .int 0), (0, .ref o0), (1, .int 4)]) hx hb dX12_count_27 hl (k := 1) rfl (by decide +kernel) (by decide) rfl (fun ls hl => ?_)
  refine lv_goto (tgt := 4) hx hb dX12_count_30 (by decide) ?_
  refine lv_iload_n hx hb dX12_count_4 rfl (lv_at hl 0 rfl) ?_
  refine lv_bipush (v := 12) hx hb dX12_count_5 (by decide) ?_
  refine lv_icmp_ge (tgt := 33) hx hb dX12_count_7 (by decide) (fun h9 => absurd h9 (by decide +kernel)) (fun _ => ?_)
  refine lv_iload_n hx hb dX12_count_10 rfl (lv_at hl 1 rfl) ?_
  refine lv_aload_n hx hb dX12_count_11 rfl (lv_at hl 2 rfl) ?_
  refine va_get (D := (dC, dI)) (ci := 12) (v := .ref o1) (C := RX12) (T := TX12) (N := 29) hx hb hts iw_X12_count_X12 hown hK hP 0 rfl rfl 5 (by decide) (hts (.fieldLink RX12 16 "HolelessHouseModel" "rows" "[I") (by decide +kernel)) (fun _ h9 => h9) rfl dX12_count_12 ?_
  refine lv_iload_n hx hb dX12_count_15 rfl (lv_at hl 0 rfl) ?_
  refine va_iald hx hb hK hP 1 0 rfl rfl (vin (by decide +kernel)) dX12_count_16 (tk_i (v := (-9)) (by decide +kernel) ?_)
  refine lv_if_lt (tgt := 24) hx hb dX12_count_17 (by decide) (fun _ => ?_) (fun h9 => absurd (by decide +kernel) h9)
  refine lv_iconst (v := 0) hx hb dX12_count_24 (by decide) ?_
  refine lv_iadd hx hb dX12_count_25 (tk_i (v := 0) (by decide +kernel) ?_)
  refine lv_istore_n (lv' := [(2, .int 0), (3, .int 1), (0, .ref o0), (1, .int 4)]) hx hb dX12_count_26 rfl hl (by decide) rfl (fun ls hl => ?_)
  refine lv_iinc (v := 2) (lv' := [(3, .int 2), (2, .int 0), (0, .ref o0), (1, .int 4)]) hx hb dX12_count_27 hl (k := 1) rfl (by decide +kernel) (by decide) rfl (fun ls hl => ?_)
  refine lv_goto (tgt := 4) hx hb dX12_count_30 (by decide) ?_
  refine lv_iload_n hx hb dX12_count_4 rfl (lv_at hl 0 rfl) ?_
  refine lv_bipush (v := 12) hx hb dX12_count_5 (by decide) ?_
  refine lv_icmp_ge (tgt := 33) hx hb dX12_count_7 (by decide) (fun h9 => absurd h9 (by decide +kernel)) (fun _ => ?_)
  refine lv_iload_n hx hb dX12_count_10 rfl (lv_at hl 1 rfl) ?_
  refine lv_aload_n hx hb dX12_count_11 rfl (lv_at hl 2 rfl) ?_
  refine va_get (D := (dC, dI)) (ci := 12) (v := .ref o1) (C := RX12) (T := TX12) (N := 29) hx hb hts iw_X12_count_X12 hown hK hP 0 rfl rfl 5 (by decide) (hts (.fieldLink RX12 16 "HolelessHouseModel" "rows" "[I") (by decide +kernel)) (fun _ h9 => h9) rfl dX12_count_12 ?_
  refine lv_iload_n hx hb dX12_count_15 rfl (lv_at hl 0 rfl) ?_
  refine va_iald hx hb hK hP 1 0 rfl rfl (vin (by decide +kernel)) dX12_count_16 (tk_i (v := (-9)) (by decide +kernel) ?_)
  refine lv_if_lt (tgt := 24) hx hb dX12_count_17 (by decide) (fun _ => ?_) (fun h9 => absurd (by decide +kernel) h9)
  refine lv_iconst (v := 0) hx hb dX12_count_24 (by decide) ?_
  refine lv_iadd hx hb dX12_count_25 (tk_i (v := 0) (by decide +kernel) ?_)
  refine lv_istore_n (lv' := [(2, .int 0), (3, .int 2), (0, .ref o0), (1, .int 4)]) hx hb dX12_count_26 rfl hl (by decide) rfl (fun ls hl => ?_)
  refine lv_iinc (v := 3) (lv' := [(3, .int 3), (2, .int 0), (0, .ref o0), (1, .int 4)]) hx hb dX12_count_27 hl (k := 1) rfl (by decide +kernel) (by decide) rfl (fun ls hl => ?_)
  refine lv_goto (tgt := 4) hx hb dX12_count_30 (by decide) ?_
  refine lv_iload_n hx hb dX12_count_4 rfl (lv_at hl 0 rfl) ?_
  refine lv_bipush (v := 12) hx hb dX12_count_5 (by decide) ?_
  refine lv_icmp_ge (tgt := 33) hx hb dX12_count_7 (by decide) (fun h9 => absurd h9 (by decide +kernel)) (fun _ => ?_)
  refine lv_iload_n hx hb dX12_count_10 rfl (lv_at hl 1 rfl) ?_
  refine lv_aload_n hx hb dX12_count_11 rfl (lv_at hl 2 rfl) ?_
  refine va_get (D := (dC, dI)) (ci := 12) (v := .ref o1) (C := RX12) (T := TX12) (N := 29) hx hb hts iw_X12_count_X12 hown hK hP 0 rfl rfl 5 (by decide) (hts (.fieldLink RX12 16 "HolelessHouseModel" "rows" "[I") (by decide +kernel)) (fun _ h9 => h9) rfl dX12_count_12 ?_
  refine lv_iload_n hx hb dX12_count_15 rfl (lv_at hl 0 rfl) ?_
  refine va_iald hx hb hK hP 1 0 rfl rfl (vin (by decide +kernel)) dX12_count_16 (tk_i (v := (-9)) (by decide +kernel) ?_)
  refine lv_if_lt (tgt := 24) hx hb dX12_count_17 (by decide) (fun _ => ?_) (fun h9 => absurd (by decide +kernel) h9)
  refine lv_iconst (v := 0) hx hb dX12_count_24 (by decide) ?_
  refine lv_iadd hx hb dX12_count_25 (tk_i (v := 0) (by decide +kernel) ?_)
  refine lv_istore_n (lv' := [(2, .int 0), (3, .int 3), (0, .ref o0), (1, .int 4)]) hx hb dX12_count_26 rfl hl (by decide) rfl (fun ls hl => ?_)
  refine lv_iinc (v := 4) (lv' := [(3, .int 4), (2, .int 0), (0, .ref o0), (1, .int 4)]) hx hb dX12_count_27 hl (k := 1) rfl (by decide +kernel) (by decide) rfl (fun ls hl => ?_)
  refine lv_goto (tgt := 4) hx hb dX12_count_30 (by decide) ?_
  refine lv_iload_n hx hb dX12_count_4 rfl (lv_at hl 0 rfl) ?_
  refine lv_bipush (v := 12) hx hb dX12_count_5 (by decide) ?_
  refine lv_icmp_ge (tgt := 33) hx hb dX12_count_7 (by decide) (fun h9 => absurd h9 (by decide +kernel)) (fun _ => ?_)
  refine lv_iload_n hx hb dX12_count_10 rfl (lv_at hl 1 rfl) ?_
  refine lv_aload_n hx hb dX12_count_11 rfl (lv_at hl 2 rfl) ?_
  refine va_get (D := (dC, dI)) (ci := 12) (v := .ref o1) (C := RX12) (T := TX12) (N := 29) hx hb hts iw_X12_count_X12 hown hK hP 0 rfl rfl 5 (by decide) (hts (.fieldLink RX12 16 "HolelessHouseModel" "rows" "[I") (by decide +kernel)) (fun _ h9 => h9) rfl dX12_count_12 ?_
  refine lv_iload_n hx hb dX12_count_15 rfl (lv_at hl 0 rfl) ?_
  refine va_iald hx hb hK hP 1 0 rfl rfl (vin (by decide +kernel)) dX12_count_16 (tk_i (v := (-9)) (by decide +kernel) ?_)
  refine lv_if_lt (tgt := 24) hx hb dX12_count_17 (by decide) (fun _ => ?_) (fun h9 => absurd (by decide +kernel) h9)
  refine lv_iconst (v := 0) hx hb dX12_count_24 (by decide) ?_
  refine lv_iadd hx hb dX12_count_25 (tk_i (v := 0) (by decide +kernel) ?_)
  refine lv_istore_n (lv' := [(2, .int 0), (3, .int 4), (0, .ref o0), (1, .int 4)]) hx hb dX12_count_26 rfl hl (by decide) rfl (fun ls hl => ?_)
  refine lv_iinc (v := 5) (lv' := [(3, .int 5), (2, .int 0), (0, .ref o0), (1, .int 4)]) hx hb dX12_count_27 hl (k := 1) rfl (by decide +kernel) (by decide) rfl (fun ls hl => ?_)
  refine lv_goto (tgt := 4) hx hb dX12_count_30 (by decide) ?_
  refine lv_iload_n hx hb dX12_count_4 rfl (lv_at hl 0 rfl) ?_
  refine lv_bipush (v := 12) hx hb dX12_count_5 (by decide) ?_
  refine lv_icmp_ge (tgt := 33) hx hb dX12_count_7 (by decide) (fun h9 => absurd h9 (by decide +kernel)) (fun _ => ?_)
  refine lv_iload_n hx hb dX12_count_10 rfl (lv_at hl 1 rfl) ?_
  refine lv_aload_n hx hb dX12_count_11 rfl (lv_at hl 2 rfl) ?_
  refine va_get (D := (dC, dI)) (ci := 12) (v := .ref o1) (C := RX12) (T := TX12) (N := 29) hx hb hts iw_X12_count_X12 hown hK hP 0 rfl rfl 5 (by decide) (hts (.fieldLink RX12 16 "HolelessHouseModel" "rows" "[I") (by decide +kernel)) (fun _ h9 => h9) rfl dX12_count_12 ?_
  refine lv_iload_n hx hb dX12_count_15 rfl (lv_at hl 0 rfl) ?_
  refine va_iald hx hb hK hP 1 0 rfl rfl (vin (by decide +kernel)) dX12_count_16 (tk_i (v := (-9)) (by decide +kernel) ?_)
  refine lv_if_lt (tgt := 24) hx hb dX12_count_17 (by decide) (fun _ => ?_) (fun h9 => absurd (by decide +kernel) h9)
  refine lv_iconst (v := 0) hx hb dX12_count_24 (by decide) ?_
  refine lv_iadd hx hb dX12_count_25 (tk_i (v := 0) (by decide +kernel) ?_)
  refine lv_istore_n (lv' := [(2, .int 0), (3, .int 5), (0, .ref o0), (1, .int 4)]) hx hb dX12_count_26 rfl hl (by decide) rfl (fun ls hl => ?_)
  refine lv_iinc (v := 6) (lv' := [(3, .int 6), (2, .int 0), (0, .ref o0), (1, .int 4)]) hx hb dX12_count_27 hl (k := 1) rfl (by decide +kernel) (by decide) rfl (fun ls hl => ?_)
  refine lv_goto (tgt := 4) hx hb dX12_count_30 (by decide) ?_
  refine lv_iload_n hx hb dX12_count_4 rfl (lv_at hl 0 rfl) ?_
  refine lv_bipush (v := 12) hx hb dX12_count_5 (by decide) ?_
  refine lv_icmp_ge (tgt := 33) hx hb dX12_count_7 (by decide) (fun h9 => absurd h9 (by decide +kernel)) (fun _ => ?_)
  refine lv_iload_n hx hb dX12_count_10 rfl (lv_at hl 1 rfl) ?_
  refine lv_aload_n hx hb dX12_count_11 rfl (lv_at hl 2 rfl) ?_
  refine va_get (D := (dC, dI)) (ci := 12) (v := .ref o1) (C := RX12) (T := TX12) (N := 29) hx hb hts iw_X12_count_X12 hown hK hP 0 rfl rfl 5 (by decide) (hts (.fieldLink RX12 16 "HolelessHouseModel" "rows" "[I") (by decide +kernel)) (fun _ h9 => h9) rfl dX12_count_12 ?_
  refine lv_iload_n hx hb dX12_count_15 rfl (lv_at hl 0 rfl) ?_
  refine va_iald hx hb hK hP 1 0 rfl rfl (vin (by decide +kernel)) dX12_count_16 (tk_i (v := (-9)) (by decide +kernel) ?_)
  refine lv_if_lt (tgt := 24) hx hb dX12_count_17 (by decide) (fun _ => ?_) (fun h9 => absurd (by decide +kernel) h9)
  refine lv_iconst (v := 0) hx hb dX12_count_24 (by decide) ?_
  refine lv_iadd hx hb dX12_count_25 (tk_i (v := 0) (by decide +kernel) ?_)
  refine lv_istore_n (lv' := [(2, .int 0), (3, .int 6), (0, .ref o0), (1, .int 4)]) hx hb dX12_count_26 rfl hl (by decide) rfl (fun ls hl => ?_)
  refine lv_iinc (v := 7) (lv' := [(3, .int 7), (2, .int 0), (0, .ref o0), (1, .int 4)]) hx hb dX12_count_27 hl (k := 1) rfl (by decide +kernel) (by decide) rfl (fun ls hl => ?_)
  refine lv_goto (tgt := 4) hx hb dX12_count_30 (by decide) ?_
  refine lv_iload_n hx hb dX12_count_4 rfl (lv_at hl 0 rfl) ?_
  refine lv_bipush (v := 12) hx hb dX12_count_5 (by decide) ?_
  refine lv_icmp_ge (tgt := 33) hx hb dX12_count_7 (by decide) (fun h9 => absurd h9 (by decide +kernel)) (fun _ => ?_)
  refine lv_iload_n hx hb dX12_count_10 rfl (lv_at hl 1 rfl) ?_
  refine lv_aload_n hx hb dX12_count_11 rfl (lv_at hl 2 rfl) ?_
  refine va_get (D := (dC, dI)) (ci := 12) (v := .ref o1) (C := RX12) (T := TX12) (N := 29) hx hb hts iw_X12_count_X12 hown hK hP 0 rfl rfl 5 (by decide) (hts (.fieldLink RX12 16 "HolelessHouseModel" "rows" "[I") (by decide +kernel)) (fun _ h9 => h9) rfl dX12_count_12 ?_
  refine lv_iload_n hx hb dX12_count_15 rfl (lv_at hl 0 rfl) ?_
  refine va_iald hx hb hK hP 1 0 rfl rfl (vin (by decide +kernel)) dX12_count_16 (tk_i (v := (-9)) (by decide +kernel) ?_)
  refine lv_if_lt (tgt := 24) hx hb dX12_count_17 (by decide) (fun _ => ?_) (fun h9 => absurd (by decide +kernel) h9)
  refine lv_iconst (v := 0) hx hb dX12_count_24 (by decide) ?_
  refine lv_iadd hx hb dX12_count_25 (tk_i (v := 0) (by decide +kernel) ?_)
  refine lv_istore_n (lv' := [(2, .int 0), (3, .int 7), (0, .ref o0), (1, .int 4)]) hx hb dX12_count_26 rfl hl (by decide) rfl (fun ls hl => ?_)
  refine lv_iinc (v := 8) (lv' := [(3, .int 8), (2, .int 0), (0, .ref o0), (1, .int 4)]) hx hb dX12_count_27 hl (k := 1) rfl (by decide +kernel) (by decide) rfl (fun ls hl => ?_)
  refine lv_goto (tgt := 4) hx hb dX12_count_30 (by decide) ?_
  refine lv_iload_n hx hb dX12_count_4 rfl (lv_at hl 0 rfl) ?_
  refine lv_bipush (v := 12) hx hb dX12_count_5 (by decide) ?_
  refine lv_icmp_ge (tgt := 33) hx hb dX12_count_7 (by decide) (fun h9 => absurd h9 (by decide +kernel)) (fun _ => ?_)
  refine lv_iload_n hx hb dX12_count_10 rfl (lv_at hl 1 rfl) ?_
  refine lv_aload_n hx hb dX12_count_11 rfl (lv_at hl 2 rfl) ?_
  refine va_get (D := (dC, dI)) (ci := 12) (v := .ref o1) (C := RX12) (T := TX12) (N := 29) hx hb hts iw_X12_count_X12 hown hK hP 0 rfl rfl 5 (by decide) (hts (.fieldLink RX12 16 "HolelessHouseModel" "rows" "[I") (by decide +kernel)) (fun _ h9 => h9) rfl dX12_count_12 ?_
  refine lv_iload_n hx hb dX12_count_15 rfl (lv_at hl 0 rfl) ?_
  refine va_iald hx hb hK hP 1 0 rfl rfl (vin (by decide +kernel)) dX12_count_16 (tk_i (v := (-9)) (by decide +kernel) ?_)
  refine lv_if_lt (tgt := 24) hx hb dX12_count_17 (by decide) (fun _ => ?_) (fun h9 => absurd (by decide +kernel) h9)
  refine lv_iconst (v := 0) hx hb dX12_count_24 (by decide) ?_
  refine lv_iadd hx hb dX12_count_25 (tk_i (v := 0) (by decide +kernel) ?_)
  refine lv_istore_n (lv' := [(2, .int 0), (3, .int 8), (0, .ref o0), (1, .int 4)]) hx hb dX12_count_26 rfl hl (by decide) rfl (fun ls hl => ?_)
  refine lv_iinc (v := 9) (lv' := [(3, .int 9), (2, .int 0), (0, .ref o0), (1, .int 4)]) hx hb dX12_count_27 hl (k := 1) rfl (by decide +kernel) (by decide) rfl (fun ls hl => ?_)
  refine lv_goto (tgt := 4) hx hb dX12_count_30 (by decide) ?_
  refine lv_iload_n hx hb dX12_count_4 rfl (lv_at hl 0 rfl) ?_
  refine lv_bipush (v := 12) hx hb dX12_count_5 (by decide) ?_
  refine lv_icmp_ge (tgt := 33) hx hb dX12_count_7 (by decide) (fun h9 => absurd h9 (by decide +kernel)) (fun _ => ?_)
  refine lv_iload_n hx hb dX12_count_10 rfl (lv_at hl 1 rfl) ?_
  refine lv_aload_n hx hb dX12_count_11 rfl (lv_at hl 2 rfl) ?_
  refine va_get (D := (dC, dI)) (ci := 12) (v := .ref o1) (C := RX12) (T := TX12) (N := 29) hx hb hts iw_X12_count_X12 hown hK hP 0 rfl rfl 5 (by decide) (hts (.fieldLink RX12 16 "HolelessHouseModel" "rows" "[I") (by decide +kernel)) (fun _ h9 => h9) rfl dX12_count_12 ?_
  refine lv_iload_n hx hb dX12_count_15 rfl (lv_at hl 0 rfl) ?_
  refine va_iald hx hb hK hP 1 0 rfl rfl (vin (by decide +kernel)) dX12_count_16 (tk_i (v := (-9)) (by decide +kernel) ?_)
  refine lv_if_lt (tgt := 24) hx hb dX12_count_17 (by decide) (fun _ => ?_) (fun h9 => absurd (by decide +kernel) h9)
  refine lv_iconst (v := 0) hx hb dX12_count_24 (by decide) ?_
  refine lv_iadd hx hb dX12_count_25 (tk_i (v := 0) (by decide +kernel) ?_)
  refine lv_istore_n (lv' := [(2, .int 0), (3, .int 9), (0, .ref o0), (1, .int 4)]) hx hb dX12_count_26 rfl hl (by decide) rfl (fun ls hl => ?_)
  refine lv_iinc (v := 10) (lv' := [(3, .int 10), (2, .int 0), (0, .ref o0), (1, .int 4)]) hx hb dX12_count_27 hl (k := 1) rfl (by decide +kernel) (by decide) rfl (fun ls hl => ?_)
  refine lv_goto (tgt := 4) hx hb dX12_count_30 (by decide) ?_
  refine lv_iload_n hx hb dX12_count_4 rfl (lv_at hl 0 rfl) ?_
  refine lv_bipush (v := 12) hx hb dX12_count_5 (by decide) ?_
  refine lv_icmp_ge (tgt := 33) hx hb dX12_count_7 (by decide) (fun h9 => absurd h9 (by decide +kernel)) (fun _ => ?_)
  refine lv_iload_n hx hb dX12_count_10 rfl (lv_at hl 1 rfl) ?_
  refine lv_aload_n hx hb dX12_count_11 rfl (lv_at hl 2 rfl) ?_
  refine va_get (D := (dC, dI)) (ci := 12) (v := .ref o1) (C := RX12) (T := TX12) (N := 29) hx hb hts iw_X12_count_X12 hown hK hP 0 rfl rfl 5 (by decide) (hts (.fieldLink RX12 16 "HolelessHouseModel" "rows" "[I") (by decide +kernel)) (fun _ h9 => h9) rfl dX12_count_12 ?_
  refine lv_iload_n hx hb dX12_count_15 rfl (lv_at hl 0 rfl) ?_
  refine va_iald hx hb hK hP 1 0 rfl rfl (vin (by decide +kernel)) dX12_count_16 (tk_i (v := (-9)) (by decide +kernel) ?_)
  refine lv_if_lt (tgt := 24) hx hb dX12_count_17 (by decide) (fun _ => ?_) (fun h9 => absurd (by decide +kernel) h9)
  refine lv_iconst (v := 0) hx hb dX12_count_24 (by decide) ?_
  refine lv_iadd hx hb dX12_count_25 (tk_i (v := 0) (by decide +kernel) ?_)
  refine lv_istore_n (lv' := [(2, .int 0), (3, .int 10), (0, .ref o0), (1, .int 4)]) hx hb dX12_count_26 rfl hl (by decide) rfl (fun ls hl => ?_)
  refine lv_iinc (v := 11) (lv' := [(3, .int 11), (2, .int 0), (0, .ref o0), (1, .int 4)]) hx hb dX12_count_27 hl (k := 1) rfl (by decide +kernel) (by decide) rfl (fun ls hl => ?_)
  refine lv_goto (tgt := 4) hx hb dX12_count_30 (by decide) ?_
  refine lv_iload_n hx hb dX12_count_4 rfl (lv_at hl 0 rfl) ?_
  refine lv_bipush (v := 12) hx hb dX12_count_5 (by decide) ?_
  refine lv_icmp_ge (tgt := 33) hx hb dX12_count_7 (by decide) (fun h9 => absurd h9 (by decide +kernel)) (fun _ => ?_)
  refine lv_iload_n hx hb dX12_count_10 rfl (lv_at hl 1 rfl) ?_
  refine lv_aload_n hx hb dX12_count_11 rfl (lv_at hl 2 rfl) ?_
  refine va_get (D := (dC, dI)) (ci := 12) (v := .ref o1) (C := RX12) (T := TX12) (N := 29) hx hb hts iw_X12_count_X12 hown hK hP 0 rfl rfl 5 (by decide) (hts (.fieldLink RX12 16 "HolelessHouseModel" "rows" "[I") (by decide +kernel)) (fun _ h9 => h9) rfl dX12_count_12 ?_
  refine lv_iload_n hx hb dX12_count_15 rfl (lv_at hl 0 rfl) ?_
  refine va_iald hx hb hK hP 1 0 rfl rfl (vin (by decide +kernel)) dX12_count_16 (tk_i (v := (-9)) (by decide +kernel) ?_)
  refine lv_if_lt (tgt := 24) hx hb dX12_count_17 (by decide) (fun _ => ?_) (fun h9 => absurd (by decide +kernel) h9)
  refine lv_iconst (v := 0) hx hb dX12_count_24 (by decide) ?_
  refine lv_iadd hx hb dX12_count_25 (tk_i (v := 0) (by decide +kernel) ?_)
  refine lv_istore_n (lv' := [(2, .int 0), (3, .int 11), (0, .ref o0), (1, .int 4)]) hx hb dX12_count_26 rfl hl (by decide) rfl (fun ls hl => ?_)
  refine lv_iinc (v := 12) (lv' := [(3, .int 12), (2, .int 0), (0, .ref o0), (1, .int 4)]) hx hb dX12_count_27 hl (k := 1) rfl (by decide +kernel) (by decide) rfl (fun ls hl => ?_)
  refine lv_goto (tgt := 4) hx hb dX12_count_30 (by decide) ?_
  refine lv_iload_n hx hb dX12_count_4 rfl (lv_at hl 0 rfl) ?_
  refine lv_bipush (v := 12) hx hb dX12_count_5 (by decide) ?_
  refine lv_icmp_ge (tgt := 33) hx hb dX12_count_7 (by decide) (fun _ => ?_) (fun h9 => absurd (by decide +kernel) h9)
  refine lv_iload_n hx hb dX12_count_33 rfl (lv_at hl 3 rfl) ?_
  refine lv_tableIn (off := 51) (tgt := 85) hx hb dX12_count_34 (by decide +kernel) (by decide +kernel) (by decide +kernel) (by decide) ?_
  refine lv_aload_n hx hb dX12_count_85 rfl (lv_at hl 2 rfl) ?_
  refine va_get (D := (dC, dI)) (ci := 12) (v := .int 0) (C := RX12) (T := TX12) (N := 29) hx hb hts iw_X12_count_X12 hown hK hP 0 rfl rfl 9 (by decide) (hts (.fieldLink RX12 80 "HolelessHouseModel" "drafted" "I") (by decide +kernel)) (fun _ h9 => h9) rfl dX12_count_86 ?_
  have hP9 := hP.sub (ws' := []) [] rfl
  have hD9 := hD.sub (ws' := []) [] (by decide) rfl
  exact W.iret (v := 0) hx hb hr (fun t ht hW => ⟨⟨0, (), rfl, rfl, by rw [ht]; exact hP9, va_K.moved hW.alike hK, hD9⟩, hS.F ht⟩) hS.2.2 dX12_count_89
set_option maxHeartbeats 1000000 in
set_option maxRecDepth 100000 in
theorem kX11_count_7 (l : Launch) (dC : Nat → ClassId) (dI : Nat → Nat → Nat) (cI c2 : ClassId) (o0 : Nat) (o1 : Nat) (o2 : Nat) (o3 : Nat) (o4 : Nat) (o5 : Nat) (o6 : Nat) (o7 : Nat) (o8 : Nat) (o9 : Nat) (o10 : Nat) (o11 : Nat) (o12 : Nat) (sz : Nat) (a1 : Int32) (a1_lo : 5 ≤ a1.toInt) (a1_hi : a1.toInt ≤ 2147483647) : Met l yX11_count wsX11_count ({ frames := 0, cells := 0, slots := 0, locals := 0 }) (va_Pc [.ref o0, .int a1] (wPre (dC, dI) [(cI, .int), (c2, .array .int)] [(o0, .inr (11, [.ref o1, .ref o2, .ref o3, .ref o4, .ref o5, .ref o6, .ref o7, .ref o8, .ref o9, .ref o10, .ref o11, .ref o12, .int 0]))] sz)) (va_Qi (fun (r : Int32) (_ : Unit) => r = (-1)) (fun _ t => wPost (dC, dI) [(cI, .int), (c2, .array .int)] (va_A [(o0, .inr (11, [.ref o1, .ref o2, .ref o3, .ref o4, .ref o5, .ref o6, .ref o7, .ref o8, .ref o9, .ref o10, .ref o11, .ref o12, .int 0]))] sz) [] t) (va_A [(o0, .inr (11, [.ref o1, .ref o2, .ref o3, .ref o4, .ref o5, .ref o6, .ref o7, .ref o8, .ref o9, .ref o10, .ref o11, .ref o12, .int 0]))] sz)) 0 0 (va_A [(o0, .inr (11, [.ref o1, .ref o2, .ref o3, .ref o4, .ref o5, .ref o6, .ref o7, .ref o8, .ref o9, .ref o10, .ref o11, .ref o12, .int 0]))] sz) := by
  refine Met.ofW (cc := cX11_count) (maxL := 2) (ret := (some .int)) (by decide) rfl ?_
  intro p e s m args below meth c s₁ B hml hv
  obtain ⟨rfl, hsz, hP, hK, hD0, hN⟩ := hv
  have hx := B.exec
  have hb := B.bytes
  have hr := B.returns
  have hts := atoms_spec (ws := wsX11_count) B.pre
  have hown : s.vm.findClass RX11 = some m.cls := findClass_of_methodNamed B.named
  have hlocks := B.notSynchronized
  subst hsz
  have hD := hD0.self (sz := s.heap.size)
  generalize hAe : va_A [(o0, .inr (11, [.ref o1, .ref o2, .ref o3, .ref o4, .ref o5, .ref o6, .ref o7, .ref o8, .ref o9, .ref o10, .ref o11, .ref o12, .int 0]))] s.heap.size = A at hD ⊢
  have hA : ∀ q : Nat, s.heap.size ≤ q → A q := fun q h => by rw [← hAe]; exact Or.inr h
  have hS : va_S A s.heap s.heap [] := va_S.rf
  have hP : va_P (dC, dI) vwCl [(o0, .inr (11, [.ref o1, .ref o2, .ref o3, .ref o4, .ref o5, .ref o6, .ref o7, .ref o8, .ref o9, .ref o10, .ref o11, .ref o12, .int 0]))] s.heap := hP
  have hl := lv_entry ([.ref o0, .int a1]) (n := 2) (Nat.le_of_ble_eq_true rfl)
  rw [lg_entry_eq]
  generalize (lg_sl ([.ref o0, .int a1]) ++ List.replicate (2 - (lg_sl ([.ref o0, .int a1])).length) Slot.unset).toArray = ls at hl ⊢
  have hl : lv_has ls 2 [(0, .ref o0), (1, .int a1)] := hl
  refine lv_iload_n hx hb dX11_count_0 rfl (lv_at hl 1 rfl) ?_
  refine lv_tableOut (tgt := 76) hx hb dX11_count_1 (by omega) (by decide) ?_
  refine lv_iconst (v := (-1)) hx hb dX11_count_76 (by decide) ?_
  have hP9 := hP.sub (ws' := []) [] rfl
  have hD9 := hD.sub (ws' := []) [] (by decide) rfl
  exact W.iret (v := (-1)) hx hb hr (fun t ht hW => ⟨⟨(-1), (), rfl, rfl, by rw [ht]; exact hP9, va_K.moved hW.alike hK, hD9⟩, hS.F ht⟩) hS.2.2 dX11_count_77
set_option maxHeartbeats 1000000 in
set_option maxRecDepth 100000 in
theorem kX12_count_7 (l : Launch) (dC : Nat → ClassId) (dI : Nat → Nat → Nat) (cI c2 : ClassId) (o0 : Nat) (o1 : Nat) (o2 : Nat) (o3 : Nat) (o4 : Nat) (o5 : Nat) (o6 : Nat) (o7 : Nat) (o8 : Nat) (o9 : Nat) (o10 : Nat) (o11 : Nat) (o12 : Nat) (o13 : Nat) (o14 : Nat) (o15 : Nat) (o16 : Nat) (o17 : Nat) (o18 : Nat) (sz : Nat) (a1 : Int32) (a1_lo : 5 ≤ a1.toInt) (a1_hi : a1.toInt ≤ 2147483647) : Met l yX12_count wsX12_count ({ frames := 0, cells := 0, slots := 0, locals := 0 }) (va_Pc [.ref o0, .int a1] (wPre (dC, dI) [(cI, .int), (c2, .array .int)] [(o0, .inr (12, [.int 0, .ref o2, .int 0, .ref o3, .int 0, .ref o1, .ref o4, .int 0, .ref o5, .int 0, .ref o6, .int (-9), .int 0, .int 0, .ref o7, .ref o8, .ref o9, .ref o10, .ref o11, .int 0, .ref o12, .ref o13, .ref o14, .int 0, .ref o15, .ref o16, .ref o17, .int 0, .ref o18])), (o1, .inl (cI, 12, .inl (fun _ => (-9))))] sz)) (va_Qi (fun (r : Int32) (_ : Unit) => r = (-1)) (fun _ t => wPost (dC, dI) [(cI, .int), (c2, .array .int)] (va_A [(o0, .inr (12, [.int 0, .ref o2, .int 0, .ref o3, .int 0, .ref o1, .ref o4, .int 0, .ref o5, .int 0, .ref o6, .int (-9), .int 0, .int 0, .ref o7, .ref o8, .ref o9, .ref o10, .ref o11, .int 0, .ref o12, .ref o13, .ref o14, .int 0, .ref o15, .ref o16, .ref o17, .int 0, .ref o18])), (o1, .inl (cI, 12, .inl (fun _ => (-9))))] sz) [] t) (va_A [(o0, .inr (12, [.int 0, .ref o2, .int 0, .ref o3, .int 0, .ref o1, .ref o4, .int 0, .ref o5, .int 0, .ref o6, .int (-9), .int 0, .int 0, .ref o7, .ref o8, .ref o9, .ref o10, .ref o11, .int 0, .ref o12, .ref o13, .ref o14, .int 0, .ref o15, .ref o16, .ref o17, .int 0, .ref o18])), (o1, .inl (cI, 12, .inl (fun _ => (-9))))] sz)) 0 0 (va_A [(o0, .inr (12, [.int 0, .ref o2, .int 0, .ref o3, .int 0, .ref o1, .ref o4, .int 0, .ref o5, .int 0, .ref o6, .int (-9), .int 0, .int 0, .ref o7, .ref o8, .ref o9, .ref o10, .ref o11, .int 0, .ref o12, .ref o13, .ref o14, .int 0, .ref o15, .ref o16, .ref o17, .int 0, .ref o18])), (o1, .inl (cI, 12, .inl (fun _ => (-9))))] sz) := by
  refine Met.ofW (cc := cX12_count) (maxL := 4) (ret := (some .int)) (by decide) rfl ?_
  intro p e s m args below meth c s₁ B hml hv
  obtain ⟨rfl, hsz, hP, hK, hD0, hN⟩ := hv
  have hx := B.exec
  have hb := B.bytes
  have hr := B.returns
  have hts := atoms_spec (ws := wsX12_count) B.pre
  have hown : s.vm.findClass RX12 = some m.cls := findClass_of_methodNamed B.named
  have hlocks := B.notSynchronized
  subst hsz
  have hD := hD0.self (sz := s.heap.size)
  generalize hAe : va_A [(o0, .inr (12, [.int 0, .ref o2, .int 0, .ref o3, .int 0, .ref o1, .ref o4, .int 0, .ref o5, .int 0, .ref o6, .int (-9), .int 0, .int 0, .ref o7, .ref o8, .ref o9, .ref o10, .ref o11, .int 0, .ref o12, .ref o13, .ref o14, .int 0, .ref o15, .ref o16, .ref o17, .int 0, .ref o18])), (o1, .inl (cI, 12, .inl (fun _ => (-9))))] s.heap.size = A at hD ⊢
  have hA : ∀ q : Nat, s.heap.size ≤ q → A q := fun q h => by rw [← hAe]; exact Or.inr h
  have hS : va_S A s.heap s.heap [] := va_S.rf
  have hP : va_P (dC, dI) vwCl [(o0, .inr (12, [.int 0, .ref o2, .int 0, .ref o3, .int 0, .ref o1, .ref o4, .int 0, .ref o5, .int 0, .ref o6, .int (-9), .int 0, .int 0, .ref o7, .ref o8, .ref o9, .ref o10, .ref o11, .int 0, .ref o12, .ref o13, .ref o14, .int 0, .ref o15, .ref o16, .ref o17, .int 0, .ref o18])), (o1, .inl (cI, 12, .inl (fun _ => (-9))))] s.heap := hP
  have hl := lv_entry ([.ref o0, .int a1]) (n := 4) (Nat.le_of_ble_eq_true rfl)
  rw [lg_entry_eq]
  generalize (lg_sl ([.ref o0, .int a1]) ++ List.replicate (4 - (lg_sl ([.ref o0, .int a1])).length) Slot.unset).toArray = ls at hl ⊢
  have hl : lv_has ls 4 [(0, .ref o0), (1, .int a1)] := hl
  refine lv_iconst (v := 0) hx hb dX12_count_0 (by decide) ?_
  refine lv_istore_n (lv' := [(2, .int 0), (0, .ref o0), (1, .int a1)]) hx hb dX12_count_1 rfl hl (by decide) rfl (fun ls hl => ?_)
  refine lv_iconst (v := 0) hx hb dX12_count_2 (by decide) ?_
  refine lv_istore_n (lv' := [(3, .int 0), (2, .int 0), (0, .ref o0), (1, .int a1)]) hx hb dX12_count_3 rfl hl (by decide) rfl (fun ls hl => ?_)
  refine lv_iload_n hx hb dX12_count_4 rfl (lv_at hl 0 rfl) ?_
  refine lv_bipush (v := 12) hx hb dX12_count_5 (by decide) ?_
  refine lv_icmp_ge (tgt := 33) hx hb dX12_count_7 (by decide) (fun h9 => absurd h9 (by decide +kernel)) (fun _ => ?_)
  refine lv_iload_n hx hb dX12_count_10 rfl (lv_at hl 1 rfl) ?_
  refine lv_aload_n hx hb dX12_count_11 rfl (lv_at hl 2 rfl) ?_
  refine va_get (D := (dC, dI)) (ci := 12) (v := .ref o1) (C := RX12) (T := TX12) (N := 29) hx hb hts iw_X12_count_X12 hown hK hP 0 rfl rfl 5 (by decide) (hts (.fieldLink RX12 16 "HolelessHouseModel" "rows" "[I") (by decide +kernel)) (fun _ h9 => h9) rfl dX12_count_12 ?_
  refine lv_iload_n hx hb dX12_count_15 rfl (lv_at hl 0 rfl) ?_
  refine va_iald hx hb hK hP 1 0 rfl rfl (vin (by decide +kernel)) dX12_count_16 (tk_i (v := (-9)) (by decide +kernel) ?_)
  refine lv_if_lt (tgt := 24) hx hb dX12_count_17 (by decide) (fun _ => ?_) (fun h9 => absurd (by decide +kernel) h9)
  refine lv_iconst (v := 0) hx hb dX12_count_24 (by decide) ?_
  refine lv_iadd hx hb dX12_count_25 (tk_i (v := 0) (by decide +kernel) ?_)
  refine lv_istore_n (lv' := [(2, .int 0), (3, .int 0), (0, .ref o0), (1, .int a1)]) hx hb dX12_count_26 rfl hl (by decide) rfl (fun ls hl => ?_)
  refine lv_iinc (v := 1) (lv' := [(3, .int 1), (2, .int 0), (0, .ref o0), (1, .int a1)]) hx hb dX12_count_27 hl (k := 1) rfl (by decide +kernel) (by decide) rfl (fun ls hl => ?_)
  refine lv_goto (tgt := 4) hx hb dX12_count_30 (by decide) ?_
  refine lv_iload_n hx hb dX12_count_4 rfl (lv_at hl 0 rfl) ?_
  refine lv_bipush (v := 12) hx hb dX12_count_5 (by decide) ?_
  refine lv_icmp_ge (tgt := 33) hx hb dX12_count_7 (by decide) (fun h9 => absurd h9 (by decide +kernel)) (fun _ => ?_)
  refine lv_iload_n hx hb dX12_count_10 rfl (lv_at hl 1 rfl) ?_
  refine lv_aload_n hx hb dX12_count_11 rfl (lv_at hl 2 rfl) ?_
  refine va_get (D := (dC, dI)) (ci := 12) (v := .ref o1) (C := RX12) (T := TX12) (N := 29) hx hb hts iw_X12_count_X12 hown hK hP 0 rfl rfl 5 (by decide) (hts (.fieldLink RX12 16 "HolelessHouseModel" "rows" "[I") (by decide +kernel)) (fun _ h9 => h9) rfl dX12_count_12 ?_
  refine lv_iload_n hx hb dX12_count_15 rfl (lv_at hl 0 rfl) ?_
  refine va_iald hx hb hK hP 1 0 rfl rfl (vin (by decide +kernel)) dX12_count_16 (tk_i (v := (-9)) (by decide +kernel) ?_)
  refine lv_if_lt (tgt := 24) hx hb dX12_count_17 (by decide) (fun _ => ?_) (fun h9 => absurd (by decide +kernel) h9)
  refine lv_iconst (v := 0) hx hb dX12_count_24 (by decide) ?_
  refine lv_iadd hx hb dX12_count_25 (tk_i (v := 0) (by decide +kernel) ?_)
  refine lv_istore_n (lv' := [(2, .int 0), (3, .int 1), (0, .ref o0), (1, .int a1)]) hx hb dX12_count_26 rfl hl (by decide) rfl (fun ls hl => ?_)
  refine lv_iinc (v := 2) (lv' := [(3, .int 2), (2, .int 0), (0, .ref o0), (1, .int a1)]) hx hb dX12_count_27 hl (k := 1) rfl (by decide +kernel) (by decide) rfl (fun ls hl => ?_)
  refine lv_goto (tgt := 4) hx hb dX12_count_30 (by decide) ?_
  refine lv_iload_n hx hb dX12_count_4 rfl (lv_at hl 0 rfl) ?_
  refine lv_bipush (v := 12) hx hb dX12_count_5 (by decide) ?_
  refine lv_icmp_ge (tgt := 33) hx hb dX12_count_7 (by decide) (fun h9 => absurd h9 (by decide +kernel)) (fun _ => ?_)
  refine lv_iload_n hx hb dX12_count_10 rfl (lv_at hl 1 rfl) ?_
  refine lv_aload_n hx hb dX12_count_11 rfl (lv_at hl 2 rfl) ?_
  refine va_get (D := (dC, dI)) (ci := 12) (v := .ref o1) (C := RX12) (T := TX12) (N := 29) hx hb hts iw_X12_count_X12 hown hK hP 0 rfl rfl 5 (by decide) (hts (.fieldLink RX12 16 "HolelessHouseModel" "rows" "[I") (by decide +kernel)) (fun _ h9 => h9) rfl dX12_count_12 ?_
  refine lv_iload_n hx hb dX12_count_15 rfl (lv_at hl 0 rfl) ?_
  refine va_iald hx hb hK hP 1 0 rfl rfl (vin (by decide +kernel)) dX12_count_16 (tk_i (v := (-9)) (by decide +kernel) ?_)
  refine lv_if_lt (tgt := 24) hx hb dX12_count_17 (by decide) (fun _ => ?_) (fun h9 => absurd (by decide +kernel) h9)
  refine lv_iconst (v := 0) hx hb dX12_count_24 (by decide) ?_
  refine lv_iadd hx hb dX12_count_25 (tk_i (v := 0) (by decide +kernel) ?_)
  refine lv_istore_n (lv' := [(2, .int 0), (3, .int 2), (0, .ref o0), (1, .int a1)]) hx hb dX12_count_26 rfl hl (by decide) rfl (fun ls hl => ?_)
  refine lv_iinc (v := 3) (lv' := [(3, .int 3), (2, .int 0), (0, .ref o0), (1, .int a1)]) hx hb dX12_count_27 hl (k := 1) rfl (by decide +kernel) (by decide) rfl (fun ls hl => ?_)
  refine lv_goto (tgt := 4) hx hb dX12_count_30 (by decide) ?_
  refine lv_iload_n hx hb dX12_count_4 rfl (lv_at hl 0 rfl) ?_
  refine lv_bipush (v := 12) hx hb dX12_count_5 (by decide) ?_
  refine lv_icmp_ge (tgt := 33) hx hb dX12_count_7 (by decide) (fun h9 => absurd h9 (by decide +kernel)) (fun _ => ?_)
  refine lv_iload_n hx hb dX12_count_10 rfl (lv_at hl 1 rfl) ?_
  refine lv_aload_n hx hb dX12_count_11 rfl (lv_at hl 2 rfl) ?_
  refine va_get (D := (dC, dI)) (ci := 12) (v := .ref o1) (C := RX12) (T := TX12) (N := 29) hx hb hts iw_X12_count_X12 hown hK hP 0 rfl rfl 5 (by decide) (hts (.fieldLink RX12 16 "HolelessHouseModel" "rows" "[I") (by decide +kernel)) (fun _ h9 => h9) rfl dX12_count_12 ?_
  refine lv_iload_n hx hb dX12_count_15 rfl (lv_at hl 0 rfl) ?_
  refine va_iald hx hb hK hP 1 0 rfl rfl (vin (by decide +kernel)) dX12_count_16 (tk_i (v := (-9)) (by decide +kernel) ?_)
  refine lv_if_lt (tgt := 24) hx hb dX12_count_17 (by decide) (fun _ => ?_) (fun h9 => absurd (by decide +kernel) h9)
  refine lv_iconst (v := 0) hx hb dX12_count_24 (by decide) ?_
  refine lv_iadd hx hb dX12_count_25 (tk_i (v := 0) (by decide +kernel) ?_)
  refine lv_istore_n (lv' := [(2, .int 0), (3, .int 3), (0, .ref o0), (1, .int a1)]) hx hb dX12_count_26 rfl hl (by decide) rfl (fun ls hl => ?_)
  refine lv_iinc (v := 4) (lv' := [(3, .int 4), (2, .int 0), (0, .ref o0), (1, .int a1)]) hx hb dX12_count_27 hl (k := 1) rfl (by decide +kernel) (by decide) rfl (fun ls hl => ?_)
  refine lv_goto (tgt := 4) hx hb dX12_count_30 (by decide) ?_
  refine lv_iload_n hx hb dX12_count_4 rfl (lv_at hl 0 rfl) ?_
  refine lv_bipush (v := 12) hx hb dX12_count_5 (by decide) ?_
  refine lv_icmp_ge (tgt := 33) hx hb dX12_count_7 (by decide) (fun h9 => absurd h9 (by decide +kernel)) (fun _ => ?_)
  refine lv_iload_n hx hb dX12_count_10 rfl (lv_at hl 1 rfl) ?_
  refine lv_aload_n hx hb dX12_count_11 rfl (lv_at hl 2 rfl) ?_
  refine va_get (D := (dC, dI)) (ci := 12) (v := .ref o1) (C := RX12) (T := TX12) (N := 29) hx hb hts iw_X12_count_X12 hown hK hP 0 rfl rfl 5 (by decide) (hts (.fieldLink RX12 16 "HolelessHouseModel" "rows" "[I") (by decide +kernel)) (fun _ h9 => h9) rfl dX12_count_12 ?_
  refine lv_iload_n hx hb dX12_count_15 rfl (lv_at hl 0 rfl) ?_
  refine va_iald hx hb hK hP 1 0 rfl rfl (vin (by decide +kernel)) dX12_count_16 (tk_i (v := (-9)) (by decide +kernel) ?_)
  refine lv_if_lt (tgt := 24) hx hb dX12_count_17 (by decide) (fun _ => ?_) (fun h9 => absurd (by decide +kernel) h9)
  refine lv_iconst (v := 0) hx hb dX12_count_24 (by decide) ?_
  refine lv_iadd hx hb dX12_count_25 (tk_i (v := 0) (by decide +kernel) ?_)
  refine lv_istore_n (lv' := [(2, .int 0), (3, .int 4), (0, .ref o0), (1, .int a1)]) hx hb dX12_count_26 rfl hl (by decide) rfl (fun ls hl => ?_)
  refine lv_iinc (v := 5) (lv' := [(3, .int 5), (2, .int 0), (0, .ref o0), (1, .int a1)]) hx hb dX12_count_27 hl (k := 1) rfl (by decide +kernel) (by decide) rfl (fun ls hl => ?_)
  refine lv_goto (tgt := 4) hx hb dX12_count_30 (by decide) ?_
  refine lv_iload_n hx hb dX12_count_4 rfl (lv_at hl 0 rfl) ?_
  refine lv_bipush (v := 12) hx hb dX12_count_5 (by decide) ?_
  refine lv_icmp_ge (tgt := 33) hx hb dX12_count_7 (by decide) (fun h9 => absurd h9 (by decide +kernel)) (fun _ => ?_)
  refine lv_iload_n hx hb dX12_count_10 rfl (lv_at hl 1 rfl) ?_
  refine lv_aload_n hx hb dX12_count_11 rfl (lv_at hl 2 rfl) ?_
  refine va_get (D := (dC, dI)) (ci := 12) (v := .ref o1) (C := RX12) (T := TX12) (N := 29) hx hb hts iw_X12_count_X12 hown hK hP 0 rfl rfl 5 (by decide) (hts (.fieldLink RX12 16 "HolelessHouseModel" "rows" "[I") (by decide +kernel)) (fun _ h9 => h9) rfl dX12_count_12 ?_
  refine lv_iload_n hx hb dX12_count_15 rfl (lv_at hl 0 rfl) ?_
  refine va_iald hx hb hK hP 1 0 rfl rfl (vin (by decide +kernel)) dX12_count_16 (tk_i (v := (-9)) (by decide +kernel) ?_)
  refine lv_if_lt (tgt := 24) hx hb dX12_count_17 (by decide) (fun _ => ?_) (fun h9 => absurd (by decide +kernel) h9)
  refine lv_iconst (v := 0) hx hb dX12_count_24 (by decide) ?_
  refine lv_iadd hx hb dX12_count_25 (tk_i (v := 0) (by decide +kernel) ?_)
  refine lv_istore_n (lv' := [(2, .int 0), (3, .int 5), (0, .ref o0), (1, .int a1)]) hx hb dX12_count_26 rfl hl (by decide) rfl (fun ls hl => ?_)
  refine lv_iinc (v := 6) (lv' := [(3, .int 6), (2, .int 0), (0, .ref o0), (1, .int a1)]) hx hb dX12_count_27 hl (k := 1) rfl (by decide +kernel) (by decide) rfl (fun ls hl => ?_)
  refine lv_goto (tgt := 4) hx hb dX12_count_30 (by decide) ?_
  refine lv_iload_n hx hb dX12_count_4 rfl (lv_at hl 0 rfl) ?_
  refine lv_bipush (v := 12) hx hb dX12_count_5 (by decide) ?_
  refine lv_icmp_ge (tgt := 33) hx hb dX12_count_7 (by decide) (fun h9 => absurd h9 (by decide +kernel)) (fun _ => ?_)
  refine lv_iload_n hx hb dX12_count_10 rfl (lv_at hl 1 rfl) ?_
  refine lv_aload_n hx hb dX12_count_11 rfl (lv_at hl 2 rfl) ?_
  refine va_get (D := (dC, dI)) (ci := 12) (v := .ref o1) (C := RX12) (T := TX12) (N := 29) hx hb hts iw_X12_count_X12 hown hK hP 0 rfl rfl 5 (by decide) (hts (.fieldLink RX12 16 "HolelessHouseModel" "rows" "[I") (by decide +kernel)) (fun _ h9 => h9) rfl dX12_count_12 ?_
  refine lv_iload_n hx hb dX12_count_15 rfl (lv_at hl 0 rfl) ?_
  refine va_iald hx hb hK hP 1 0 rfl rfl (vin (by decide +kernel)) dX12_count_16 (tk_i (v := (-9)) (by decide +kernel) ?_)
  refine lv_if_lt (tgt := 24) hx hb dX12_count_17 (by decide) (fun _ => ?_) (fun h9 => absurd (by decide +kernel) h9)
  refine lv_iconst (v := 0) hx hb dX12_count_24 (by decide) ?_
  refine lv_iadd hx hb dX12_count_25 (tk_i (v := 0) (by decide +kernel) ?_)
  refine lv_istore_n (lv' := [(2, .int 0), (3, .int 6), (0, .ref o0), (1, .int a1)]) hx hb dX12_count_26 rfl hl (by decide) rfl (fun ls hl => ?_)
  refine lv_iinc (v := 7) (lv' := [(3, .int 7), (2, .int 0), (0, .ref o0), (1, .int a1)]) hx hb dX12_count_27 hl (k := 1) rfl (by decide +kernel) (by decide) rfl (fun ls hl => ?_)
  refine lv_goto (tgt := 4) hx hb dX12_count_30 (by decide) ?_
  refine lv_iload_n hx hb dX12_count_4 rfl (lv_at hl 0 rfl) ?_
  refine lv_bipush (v := 12) hx hb dX12_count_5 (by decide) ?_
  refine lv_icmp_ge (tgt := 33) hx hb dX12_count_7 (by decide) (fun h9 => absurd h9 (by decide +kernel)) (fun _ => ?_)
  refine lv_iload_n hx hb dX12_count_10 rfl (lv_at hl 1 rfl) ?_
  refine lv_aload_n hx hb dX12_count_11 rfl (lv_at hl 2 rfl) ?_
  refine va_get (D := (dC, dI)) (ci := 12) (v := .ref o1) (C := RX12) (T := TX12) (N := 29) hx hb hts iw_X12_count_X12 hown hK hP 0 rfl rfl 5 (by decide) (hts (.fieldLink RX12 16 "HolelessHouseModel" "rows" "[I") (by decide +kernel)) (fun _ h9 => h9) rfl dX12_count_12 ?_
  refine lv_iload_n hx hb dX12_count_15 rfl (lv_at hl 0 rfl) ?_
  refine va_iald hx hb hK hP 1 0 rfl rfl (vin (by decide +kernel)) dX12_count_16 (tk_i (v := (-9)) (by decide +kernel) ?_)
  refine lv_if_lt (tgt := 24) hx hb dX12_count_17 (by decide) (fun _ => ?_) (fun h9 => absurd (by decide +kernel) h9)
  refine lv_iconst (v := 0) hx hb dX12_count_24 (by decide) ?_
  refine lv_iadd hx hb dX12_count_25 (tk_i (v := 0) (by decide +kernel) ?_)
  refine lv_istore_n (lv' := [(2, .int 0), (3, .int 7), (0, .ref o0), (1, .int a1)]) hx hb dX12_count_26 rfl hl (by decide) rfl (fun ls hl => ?_)
  refine lv_iinc (v := 8) (lv' := [(3, .int 8), (2, .int 0), (0, .ref o0), (1, .int a1)]) hx hb dX12_count_27 hl (k := 1) rfl (by decide +kernel) (by decide) rfl (fun ls hl => ?_)
  refine lv_goto (tgt := 4) hx hb dX12_count_30 (by decide) ?_
  refine lv_iload_n hx hb dX12_count_4 rfl (lv_at hl 0 rfl) ?_
  refine lv_bipush (v := 12) hx hb dX12_count_5 (by decide) ?_
  refine lv_icmp_ge (tgt := 33) hx hb dX12_count_7 (by decide) (fun h9 => absurd h9 (by decide +kernel)) (fun _ => ?_)
  refine lv_iload_n hx hb dX12_count_10 rfl (lv_at hl 1 rfl) ?_
  refine lv_aload_n hx hb dX12_count_11 rfl (lv_at hl 2 rfl) ?_
  refine va_get (D := (dC, dI)) (ci := 12) (v := .ref o1) (C := RX12) (T := TX12) (N := 29) hx hb hts iw_X12_count_X12 hown hK hP 0 rfl rfl 5 (by decide) (hts (.fieldLink RX12 16 "HolelessHouseModel" "rows" "[I") (by decide +kernel)) (fun _ h9 => h9) rfl dX12_count_12 ?_
  refine lv_iload_n hx hb dX12_count_15 rfl (lv_at hl 0 rfl) ?_
  refine va_iald hx hb hK hP 1 0 rfl rfl (vin (by decide +kernel)) dX12_count_16 (tk_i (v := (-9)) (by decide +kernel) ?_)
  refine lv_if_lt (tgt := 24) hx hb dX12_count_17 (by decide) (fun _ => ?_) (fun h9 => absurd (by decide +kernel) h9)
  refine lv_iconst (v := 0) hx hb dX12_count_24 (by decide) ?_
  refine lv_iadd hx hb dX12_count_25 (tk_i (v := 0) (by decide +kernel) ?_)
  refine lv_istore_n (lv' := [(2, .int 0), (3, .int 8), (0, .ref o0), (1, .int a1)]) hx hb dX12_count_26 rfl hl (by decide) rfl (fun ls hl => ?_)
  refine lv_iinc (v := 9) (lv' := [(3, .int 9), (2, .int 0), (0, .ref o0), (1, .int a1)]) hx hb dX12_count_27 hl (k := 1) rfl (by decide +kernel) (by decide) rfl (fun ls hl => ?_)
  refine lv_goto (tgt := 4) hx hb dX12_count_30 (by decide) ?_
  refine lv_iload_n hx hb dX12_count_4 rfl (lv_at hl 0 rfl) ?_
  refine lv_bipush (v := 12) hx hb dX12_count_5 (by decide) ?_
  refine lv_icmp_ge (tgt := 33) hx hb dX12_count_7 (by decide) (fun h9 => absurd h9 (by decide +kernel)) (fun _ => ?_)
  refine lv_iload_n hx hb dX12_count_10 rfl (lv_at hl 1 rfl) ?_
  refine lv_aload_n hx hb dX12_count_11 rfl (lv_at hl 2 rfl) ?_
  refine va_get (D := (dC, dI)) (ci := 12) (v := .ref o1) (C := RX12) (T := TX12) (N := 29) hx hb hts iw_X12_count_X12 hown hK hP 0 rfl rfl 5 (by decide) (hts (.fieldLink RX12 16 "HolelessHouseModel" "rows" "[I") (by decide +kernel)) (fun _ h9 => h9) rfl dX12_count_12 ?_
  refine lv_iload_n hx hb dX12_count_15 rfl (lv_at hl 0 rfl) ?_
  refine va_iald hx hb hK hP 1 0 rfl rfl (vin (by decide +kernel)) dX12_count_16 (tk_i (v := (-9)) (by decide +kernel) ?_)
  refine lv_if_lt (tgt := 24) hx hb dX12_count_17 (by decide) (fun _ => ?_) (fun h9 => absurd (by decide +kernel) h9)
  refine lv_iconst (v := 0) hx hb dX12_count_24 (by decide) ?_
  refine lv_iadd hx hb dX12_count_25 (tk_i (v := 0) (by decide +kernel) ?_)
  refine lv_istore_n (lv' := [(2, .int 0), (3, .int 9), (0, .ref o0), (1, .int a1)]) hx hb dX12_count_26 rfl hl (by decide) rfl (fun ls hl => ?_)
  refine lv_iinc (v := 10) (lv' := [(3, .int 10), (2, .int 0), (0, .ref o0), (1, .int a1)]) hx hb dX12_count_27 hl (k := 1) rfl (by decide +kernel) (by decide) rfl (fun ls hl => ?_)
  refine lv_goto (tgt := 4) hx hb dX12_count_30 (by decide) ?_
  refine lv_iload_n hx hb dX12_count_4 rfl (lv_at hl 0 rfl) ?_
  refine lv_bipush (v := 12) hx hb dX12_count_5 (by decide) ?_
  refine lv_icmp_ge (tgt := 33) hx hb dX12_count_7 (by decide) (fun h9 => absurd h9 (by decide +kernel)) (fun _ => ?_)
  refine lv_iload_n hx hb dX12_count_10 rfl (lv_at hl 1 rfl) ?_
  refine lv_aload_n hx hb dX12_count_11 rfl (lv_at hl 2 rfl) ?_
  refine va_get (D := (dC, dI)) (ci := 12) (v := .ref o1) (C := RX12) (T := TX12) (N := 29) hx hb hts iw_X12_count_X12 hown hK hP 0 rfl rfl 5 (by decide) (hts (.fieldLink RX12 16 "HolelessHouseModel" "rows" "[I") (by decide +kernel)) (fun _ h9 => h9) rfl dX12_count_12 ?_
  refine lv_iload_n hx hb dX12_count_15 rfl (lv_at hl 0 rfl) ?_
  refine va_iald hx hb hK hP 1 0 rfl rfl (vin (by decide +kernel)) dX12_count_16 (tk_i (v := (-9)) (by decide +kernel) ?_)
  refine lv_if_lt (tgt := 24) hx hb dX12_count_17 (by decide) (fun _ => ?_) (fun h9 => absurd (by decide +kernel) h9)
  refine lv_iconst (v := 0) hx hb dX12_count_24 (by decide) ?_
  refine lv_iadd hx hb dX12_count_25 (tk_i (v := 0) (by decide +kernel) ?_)
  refine lv_istore_n (lv' := [(2, .int 0), (3, .int 10), (0, .ref o0), (1, .int a1)]) hx hb dX12_count_26 rfl hl (by decide) rfl (fun ls hl => ?_)
  refine lv_iinc (v := 11) (lv' := [(3, .int 11), (2, .int 0), (0, .ref o0), (1, .int a1)]) hx hb dX12_count_27 hl (k := 1) rfl (by decide +kernel) (by decide) rfl (fun ls hl => ?_)
  refine lv_goto (tgt := 4) hx hb dX12_count_30 (by decide) ?_
  refine lv_iload_n hx hb dX12_count_4 rfl (lv_at hl 0 rfl) ?_
  refine lv_bipush (v := 12) hx hb dX12_count_5 (by decide) ?_
  refine lv_icmp_ge (tgt := 33) hx hb dX12_count_7 (by decide) (fun h9 => absurd h9 (by decide +kernel)) (fun _ => ?_)
  refine lv_iload_n hx hb dX12_count_10 rfl (lv_at hl 1 rfl) ?_
  refine lv_aload_n hx hb dX12_count_11 rfl (lv_at hl 2 rfl) ?_
  refine va_get (D := (dC, dI)) (ci := 12) (v := .ref o1) (C := RX12) (T := TX12) (N := 29) hx hb hts iw_X12_count_X12 hown hK hP 0 rfl rfl 5 (by decide) (hts (.fieldLink RX12 16 "HolelessHouseModel" "rows" "[I") (by decide +kernel)) (fun _ h9 => h9) rfl dX12_count_12 ?_
  refine lv_iload_n hx hb dX12_count_15 rfl (lv_at hl 0 rfl) ?_
  refine va_iald hx hb hK hP 1 0 rfl rfl (vin (by decide +kernel)) dX12_count_16 (tk_i (v := (-9)) (by decide +kernel) ?_)
  refine lv_if_lt (tgt := 24) hx hb dX12_count_17 (by decide) (fun _ => ?_) (fun h9 => absurd (by decide +kernel) h9)
  refine lv_iconst (v := 0) hx hb dX12_count_24 (by decide) ?_
  refine lv_iadd hx hb dX12_count_25 (tk_i (v := 0) (by decide +kernel) ?_)
  refine lv_istore_n (lv' := [(2, .int 0), (3, .int 11), (0, .ref o0), (1, .int a1)]) hx hb dX12_count_26 rfl hl (by decide) rfl (fun ls hl => ?_)
  refine lv_iinc (v := 12) (lv' := [(3, .int 12), (2, .int 0), (0, .ref o0), (1, .int a1)]) hx hb dX12_count_27 hl (k := 1) rfl (by decide +kernel) (by decide) rfl (fun ls hl => ?_)
  refine lv_goto (tgt := 4) hx hb dX12_count_30 (by decide) ?_
  refine lv_iload_n hx hb dX12_count_4 rfl (lv_at hl 0 rfl) ?_
  refine lv_bipush (v := 12) hx hb dX12_count_5 (by decide) ?_
  refine lv_icmp_ge (tgt := 33) hx hb dX12_count_7 (by decide) (fun _ => ?_) (fun h9 => absurd (by decide +kernel) h9)
  refine lv_iload_n hx hb dX12_count_33 rfl (lv_at hl 3 rfl) ?_
  refine lv_tableOut (tgt := 90) hx hb dX12_count_34 (by omega) (by decide) ?_
  refine lv_iconst (v := (-1)) hx hb dX12_count_90 (by decide) ?_
  have hP9 := hP.sub (ws' := []) [] rfl
  have hD9 := hD.sub (ws' := []) [] (by decide) rfl
  exact W.iret (v := (-1)) hx hb hr (fun t ht hW => ⟨⟨(-1), (), rfl, rfl, by rw [ht]; exact hP9, va_K.moved hW.alike hK, hD9⟩, hS.F ht⟩) hS.2.2 dX12_count_91
theorem iw_X11_finding_X11 : ∀ w ∈ wsX110, w ∈ wsX11_finding := by decide +kernel
set_option maxHeartbeats 1000000 in
set_option maxRecDepth 100000 in
theorem kX11_finding_1 (l : Launch) (dC : Nat → ClassId) (dI : Nat → Nat → Nat) (cI c2 : ClassId) (o0 : Nat) (o1 : Nat) (o2 : Nat) (o3 : Nat) (o4 : Nat) (o5 : Nat) (o6 : Nat) (o7 : Nat) (o8 : Nat) (o9 : Nat) (o10 : Nat) (o11 : Nat) (o12 : Nat) (sz : Nat) : Met l yX11_finding wsX11_finding ({ frames := 0, cells := 0, slots := 0, locals := 0 }) (va_Pc [.ref o0] (wPre (dC, dI) [(cI, .int), (c2, .array .int)] [(o0, .inr (11, [.ref o1, .ref o2, .ref o3, .ref o4, .ref o5, .ref o6, .ref o7, .ref o8, .ref o9, .ref o10, .ref o11, .ref o12, .int 0]))] sz)) (va_Qi (fun (r : Int32) (_ : Unit) => r = 0) (fun _ t => wPost (dC, dI) [(cI, .int), (c2, .array .int)] (va_A [(o0, .inr (11, [.ref o1, .ref o2, .ref o3, .ref o4, .ref o5, .ref o6, .ref o7, .ref o8, .ref o9, .ref o10, .ref o11, .ref o12, .int 0]))] sz) [] t) (va_A [(o0, .inr (11, [.ref o1, .ref o2, .ref o3, .ref o4, .ref o5, .ref o6, .ref o7, .ref o8, .ref o9, .ref o10, .ref o11, .ref o12, .int 0]))] sz)) 0 0 (va_A [(o0, .inr (11, [.ref o1, .ref o2, .ref o3, .ref o4, .ref o5, .ref o6, .ref o7, .ref o8, .ref o9, .ref o10, .ref o11, .ref o12, .int 0]))] sz) := by
  refine Met.ofW (cc := cX11_finding) (maxL := 1) (ret := (some .int)) (by decide) rfl ?_
  intro p e s m args below meth c s₁ B hml hv
  obtain ⟨rfl, hsz, hP, hK, hD0, hN⟩ := hv
  have hx := B.exec
  have hb := B.bytes
  have hr := B.returns
  have hts := atoms_spec (ws := wsX11_finding) B.pre
  have hown : s.vm.findClass RX11 = some m.cls := findClass_of_methodNamed B.named
  have hlocks := B.notSynchronized
  subst hsz
  have hD := hD0.self (sz := s.heap.size)
  generalize hAe : va_A [(o0, .inr (11, [.ref o1, .ref o2, .ref o3, .ref o4, .ref o5, .ref o6, .ref o7, .ref o8, .ref o9, .ref o10, .ref o11, .ref o12, .int 0]))] s.heap.size = A at hD ⊢
  have hA : ∀ q : Nat, s.heap.size ≤ q → A q := fun q h => by rw [← hAe]; exact Or.inr h
  have hS : va_S A s.heap s.heap [] := va_S.rf
  have hP : va_P (dC, dI) vwCl [(o0, .inr (11, [.ref o1, .ref o2, .ref o3, .ref o4, .ref o5, .ref o6, .ref o7, .ref o8, .ref o9, .ref o10, .ref o11, .ref o12, .int 0]))] s.heap := hP
  have hl := lv_entry ([.ref o0]) (n := 1) (Nat.le_of_ble_eq_true rfl)
  rw [lg_entry_eq]
  generalize (lg_sl ([.ref o0]) ++ List.replicate (1 - (lg_sl ([.ref o0])).length) Slot.unset).toArray = ls at hl ⊢
  have hl : lv_has ls 1 [(0, .ref o0)] := hl
  refine lv_aload_n hx hb dX11_finding_0 rfl (lv_at hl 0 rfl) ?_
  refine va_get (D := (dC, dI)) (ci := 11) (v := .int 0) (C := RX11) (T := TX11) (N := 13) hx hb hts iw_X11_finding_X11 hown hK hP 0 rfl rfl 12 (by decide) (hts (.fieldLink RX11 86 "HolelessHouse" "latest" "I") (by decide +kernel)) (fun _ h9 => h9) rfl dX11_finding_1 ?_
  have hP9 := hP.sub (ws' := []) [] rfl
  have hD9 := hD.sub (ws' := []) [] (by decide) rfl
  exact W.iret (v := 0) hx hb hr (fun t ht hW => ⟨⟨0, (), rfl, rfl, by rw [ht]; exact hP9, va_K.moved hW.alike hK, hD9⟩, hS.F ht⟩) hS.2.2 dX11_finding_4
theorem iw_X12_finding_X12 : ∀ w ∈ wsX120, w ∈ wsX12_finding := by decide +kernel
set_option maxHeartbeats 1000000 in
set_option maxRecDepth 100000 in
theorem kX12_finding_1 (l : Launch) (dC : Nat → ClassId) (dI : Nat → Nat → Nat) (cI c2 : ClassId) (o0 : Nat) (o1 : Nat) (o2 : Nat) (o3 : Nat) (o4 : Nat) (o5 : Nat) (o6 : Nat) (o7 : Nat) (o8 : Nat) (o9 : Nat) (o10 : Nat) (o11 : Nat) (o12 : Nat) (o13 : Nat) (o14 : Nat) (o15 : Nat) (o16 : Nat) (o17 : Nat) (o18 : Nat) (sz : Nat) : Met l yX12_finding wsX12_finding ({ frames := 0, cells := 0, slots := 0, locals := 0 }) (va_Pc [.ref o0] (wPre (dC, dI) [(cI, .int), (c2, .array .int)] [(o0, .inr (12, [.int 0, .ref o1, .int 0, .ref o2, .int 0, .ref o3, .ref o4, .int 0, .ref o5, .int 0, .ref o6, .int (-9), .int 0, .int 0, .ref o7, .ref o8, .ref o9, .ref o10, .ref o11, .int 0, .ref o12, .ref o13, .ref o14, .int 0, .ref o15, .ref o16, .ref o17, .int 0, .ref o18]))] sz)) (va_Qi (fun (r : Int32) (_ : Unit) => r = 0) (fun _ t => wPost (dC, dI) [(cI, .int), (c2, .array .int)] (va_A [(o0, .inr (12, [.int 0, .ref o1, .int 0, .ref o2, .int 0, .ref o3, .ref o4, .int 0, .ref o5, .int 0, .ref o6, .int (-9), .int 0, .int 0, .ref o7, .ref o8, .ref o9, .ref o10, .ref o11, .int 0, .ref o12, .ref o13, .ref o14, .int 0, .ref o15, .ref o16, .ref o17, .int 0, .ref o18]))] sz) [] t) (va_A [(o0, .inr (12, [.int 0, .ref o1, .int 0, .ref o2, .int 0, .ref o3, .ref o4, .int 0, .ref o5, .int 0, .ref o6, .int (-9), .int 0, .int 0, .ref o7, .ref o8, .ref o9, .ref o10, .ref o11, .int 0, .ref o12, .ref o13, .ref o14, .int 0, .ref o15, .ref o16, .ref o17, .int 0, .ref o18]))] sz)) 0 0 (va_A [(o0, .inr (12, [.int 0, .ref o1, .int 0, .ref o2, .int 0, .ref o3, .ref o4, .int 0, .ref o5, .int 0, .ref o6, .int (-9), .int 0, .int 0, .ref o7, .ref o8, .ref o9, .ref o10, .ref o11, .int 0, .ref o12, .ref o13, .ref o14, .int 0, .ref o15, .ref o16, .ref o17, .int 0, .ref o18]))] sz) := by
  refine Met.ofW (cc := cX12_finding) (maxL := 1) (ret := (some .int)) (by decide) rfl ?_
  intro p e s m args below meth c s₁ B hml hv
  obtain ⟨rfl, hsz, hP, hK, hD0, hN⟩ := hv
  have hx := B.exec
  have hb := B.bytes
  have hr := B.returns
  have hts := atoms_spec (ws := wsX12_finding) B.pre
  have hown : s.vm.findClass RX12 = some m.cls := findClass_of_methodNamed B.named
  have hlocks := B.notSynchronized
  subst hsz
  have hD := hD0.self (sz := s.heap.size)
  generalize hAe : va_A [(o0, .inr (12, [.int 0, .ref o1, .int 0, .ref o2, .int 0, .ref o3, .ref o4, .int 0, .ref o5, .int 0, .ref o6, .int (-9), .int 0, .int 0, .ref o7, .ref o8, .ref o9, .ref o10, .ref o11, .int 0, .ref o12, .ref o13, .ref o14, .int 0, .ref o15, .ref o16, .ref o17, .int 0, .ref o18]))] s.heap.size = A at hD ⊢
  have hA : ∀ q : Nat, s.heap.size ≤ q → A q := fun q h => by rw [← hAe]; exact Or.inr h
  have hS : va_S A s.heap s.heap [] := va_S.rf
  have hP : va_P (dC, dI) vwCl [(o0, .inr (12, [.int 0, .ref o1, .int 0, .ref o2, .int 0, .ref o3, .ref o4, .int 0, .ref o5, .int 0, .ref o6, .int (-9), .int 0, .int 0, .ref o7, .ref o8, .ref o9, .ref o10, .ref o11, .int 0, .ref o12, .ref o13, .ref o14, .int 0, .ref o15, .ref o16, .ref o17, .int 0, .ref o18]))] s.heap := hP
  have hl := lv_entry ([.ref o0]) (n := 1) (Nat.le_of_ble_eq_true rfl)
  rw [lg_entry_eq]
  generalize (lg_sl ([.ref o0]) ++ List.replicate (1 - (lg_sl ([.ref o0])).length) Slot.unset).toArray = ls at hl ⊢
  have hl : lv_has ls 1 [(0, .ref o0)] := hl
  refine lv_aload_n hx hb dX12_finding_0 rfl (lv_at hl 0 rfl) ?_
  refine va_get (D := (dC, dI)) (ci := 12) (v := .int 0) (C := RX12) (T := TX12) (N := 29) hx hb hts iw_X12_finding_X12 hown hK hP 0 rfl rfl 0 (by decide) (hts (.fieldLink RX12 70 "HolelessHouseModel" "finding" "I") (by decide +kernel)) (fun _ h9 => h9) rfl dX12_finding_1 ?_
  have hP9 := hP.sub (ws' := []) [] rfl
  have hD9 := hD.sub (ws' := []) [] (by decide) rfl
  exact W.iret (v := 0) hx hb hr (fun t ht hW => ⟨⟨0, (), rfl, rfl, by rw [ht]; exact hP9, va_K.moved hW.alike hK, hD9⟩, hS.F ht⟩) hS.2.2 dX12_finding_4
