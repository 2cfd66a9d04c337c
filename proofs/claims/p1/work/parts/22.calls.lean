theorem iw_X11_hole_X11 : ∀ w ∈ wsX110, w ∈ wsX11_hole := by decide +kernel
set_option maxHeartbeats 1000000 in
set_option maxRecDepth 100000 in
theorem kX11_hole_1 (l : Launch) (dC : Nat → ClassId) (dI : Nat → Nat → Nat) (cI c2 : ClassId) (o0 : Nat) (o1 : Nat) (o2 : Nat) (o3 : Nat) (o4 : Nat) (o5 : Nat) (g6 : Nat → Nat) (o7 : Nat) (o8 : Nat) (o9 : Nat) (o10 : Nat) (o11 : Nat) (o12 : Nat) (o13 : Nat) (o14 : Nat) (o15 : Nat) (o16 : Nat) (o17 : Nat) (sz : Nat) (a1 : Int32) (a1_lo : (-2147483648) ≤ a1.toInt) (a1_hi : a1.toInt ≤ (-1)) : Met l yX11_hole wsX11_hole ({ frames := 4, cells := 0, slots := 0, locals := 130 }) (va_Pc [.ref o0, .int a1] (wPre (dC, dI) [(cI, .int), (c2, .array .int)] [(o0, .inr (11, [.ref o2, .ref o7, .ref o8, .ref o1, .ref o9, .ref o10, .ref o11, .ref o12, .ref o13, .ref o14, .ref o15, .ref o16, .int 0])), (o1, .inr (9, [.ref o3, .ref o17, .int 0, .int (-1)])), (o2, .inr (4, [.ref o5, .int 0, .int 0])), (o3, .inr (3, [.ref o4, .int 0])), (o4, .inl (c2, 13, .inr (.inr (.inr (.inr (fun i => if i < 13 then some (g6 i) else none)))))), (o5, .inl (cI, 12, .inl (fun _ => 0))), (g6 0, .inl (cI, 12, .inl (fun _ => 0)))] sz)) (va_Qi (fun (r : Int32) (_ : Unit) => r = (-9)) (fun _ t => wPost (dC, dI) [(cI, .int), (c2, .array .int)] (va_A [(o0, .inr (11, [.ref o2, .ref o7, .ref o8, .ref o1, .ref o9, .ref o10, .ref o11, .ref o12, .ref o13, .ref o14, .ref o15, .ref o16, .int 0])), (o1, .inr (9, [.ref o3, .ref o17, .int 0, .int (-1)])), (o2, .inr (4, [.ref o5, .int 0, .int 0])), (o3, .inr (3, [.ref o4, .int 0])), (o4, .inl (c2, 13, .inr (.inr (.inr (.inr (fun i => if i < 13 then some (g6 i) else none)))))), (o5, .inl (cI, 12, .inl (fun _ => 0))), (g6 0, .inl (cI, 12, .inl (fun _ => 0)))] sz) [] t) (va_A [(o0, .inr (11, [.ref o2, .ref o7, .ref o8, .ref o1, .ref o9, .ref o10, .ref o11, .ref o12, .ref o13, .ref o14, .ref o15, .ref o16, .int 0])), (o1, .inr (9, [.ref o3, .ref o17, .int 0, .int (-1)])), (o2, .inr (4, [.ref o5, .int 0, .int 0])), (o3, .inr (3, [.ref o4, .int 0])), (o4, .inl (c2, 13, .inr (.inr (.inr (.inr (fun i => if i < 13 then some (g6 i) else none)))))), (o5, .inl (cI, 12, .inl (fun _ => 0))), (g6 0, .inl (cI, 12, .inl (fun _ => 0)))] sz)) 0 0 (va_A [(o0, .inr (11, [.ref o2, .ref o7, .ref o8, .ref o1, .ref o9, .ref o10, .ref o11, .ref o12, .ref o13, .ref o14, .ref o15, .ref o16, .int 0])), (o1, .inr (9, [.ref o3, .ref o17, .int 0, .int (-1)])), (o2, .inr (4, [.ref o5, .int 0, .int 0])), (o3, .inr (3, [.ref o4, .int 0])), (o4, .inl (c2, 13, .inr (.inr (.inr (.inr (fun i => if i < 13 then some (g6 i) else none)))))), (o5, .inl (cI, 12, .inl (fun _ => 0))), (g6 0, .inl (cI, 12, .inl (fun _ => 0)))] sz) := by
  refine Met.ofW (cc := cX11_hole) (maxL := 2) (ret := (some .int)) (by decide) rfl ?_
  intro p e s m args below meth c s₁ B hml hv
  obtain ⟨rfl, hsz, hP, hK, hD0, hN⟩ := hv
  have hx := B.exec
  have hb := B.bytes
  have hr := B.returns
  have hts := atoms_spec (ws := wsX11_hole) B.pre
  have hown : s.vm.findClass RX11 = some m.cls := findClass_of_methodNamed B.named
  have hlocks := B.notSynchronized
  subst hsz
  have hD := hD0.self (sz := s.heap.size)
  generalize hAe : va_A [(o0, .inr (11, [.ref o2, .ref o7, .ref o8, .ref o1, .ref o9, .ref o10, .ref o11, .ref o12, .ref o13, .ref o14, .ref o15, .ref o16, .int 0])), (o1, .inr (9, [.ref o3, .ref o17, .int 0, .int (-1)])), (o2, .inr (4, [.ref o5, .int 0, .int 0])), (o3, .inr (3, [.ref o4, .int 0])), (o4, .inl (c2, 13, .inr (.inr (.inr (.inr (fun i => if i < 13 then some (g6 i) else none)))))), (o5, .inl (cI, 12, .inl (fun _ => 0))), (g6 0, .inl (cI, 12, .inl (fun _ => 0)))] s.heap.size = A at hD ⊢
  have hA : ∀ q : Nat, s.heap.size ≤ q → A q := fun q h => by rw [← hAe]; exact Or.inr h
  have hS : va_S A s.heap s.heap [] := va_S.rf
  have hP : va_P (dC, dI) vwCl [(o0, .inr (11, [.ref o2, .ref o7, .ref o8, .ref o1, .ref o9, .ref o10, .ref o11, .ref o12, .ref o13, .ref o14, .ref o15, .ref o16, .int 0])), (o1, .inr (9, [.ref o3, .ref o17, .int 0, .int (-1)])), (o2, .inr (4, [.ref o5, .int 0, .int 0])), (o3, .inr (3, [.ref o4, .int 0])), (o4, .inl (c2, 13, .inr (.inr (.inr (.inr (fun i => if i < 13 then some (g6 i) else none)))))), (o5, .inl (cI, 12, .inl (fun _ => 0))), (g6 0, .inl (cI, 12, .inl (fun _ => 0)))] s.heap := hP
  have hl := lv_entry ([.ref o0, .int a1]) (n := 2) (Nat.le_of_ble_eq_true rfl)
  rw [lg_entry_eq]
  generalize (lg_sl ([.ref o0, .int a1]) ++ List.replicate (2 - (lg_sl ([.ref o0, .int a1])).length) Slot.unset).toArray = ls at hl ⊢
  have hl : lv_has ls 2 [(0, .ref o0), (1, .int a1)] := hl
  refine lv_aload_n hx hb dX11_hole_0 rfl (lv_at hl 0 rfl) ?_
  refine va_get (D := (dC, dI)) (ci := 11) (v := .ref o1) (C := RX11) (T := TX11) (N := 13) hx hb hts iw_X11_hole_X11 hown hK hP 0 rfl rfl 3 (by decide) (hts (.fieldLink RX11 33 "HolelessHouse" "ring" "LHolelessHouse$Ring;") (by decide +kernel)) (fun _ h9 => h9) rfl dX11_hole_1 ?_
  refine lv_aload_n hx hb dX11_hole_4 rfl (lv_at hl 0 rfl) ?_
  refine va_get (D := (dC, dI)) (ci := 11) (v := .ref o2) (C := RX11) (T := TX11) (N := 13) hx hb hts iw_X11_hole_X11 hown hK hP 0 rfl rfl 0 (by decide) (hts (.fieldLink RX11 10 "HolelessHouse" "graph" "LHolelessHouse$Graph;") (by decide +kernel)) (fun _ h9 => h9) rfl dX11_hole_5 ?_
  refine kcall_v (D := (dC, dI)) (S := Unit) (wc := [(o1, .inr (9, [.ref o3, .ref o17, .int 0, .int (-1)])), (o2, .inr (4, [.ref o5, .int 0, .int 0])), (o3, .inr (3, [.ref o4, .int 0])), (o4, .inl (c2, 13, .inr (.inr (.inr (.inr (fun i => if i < 13 then some (g6 i) else none)))))), (o5, .inl (cI, 12, .inl (fun _ => 0))), (g6 0, .inl (cI, 12, .inl (fun _ => 0)))]) (wr := [(o0, .inr (11, [.ref o2, .ref o7, .ref o8, .ref o1, .ref o9, .ref o10, .ref o11, .ref o12, .ref o13, .ref o14, .ref o15, .ref o16, .int 0]))]) (w1 := fun _ => [(o1, .inr (9, [.ref o3, .ref o17, .int 0, .int 0])), (o3, .inr (3, [.ref o4, .int 0])), (o4, .inl (c2, 13, .inr (.inr (.inr (.inr (fun i => if i < 13 then some (g6 i) else none)))))), (o5, .inl (cI, 12, .inl (fun _ => 0))), (g6 0, .inl (cI, 12, .inl (fun _ => 0))), (o2, .inr (4, [.ref o5, .int 0, .int 0]))]) (fun hPc hDc => va_runVN (As := [.ref o2]) (rest := []) ⟨hx, hb, hml, hown, hts⟩ (kX9_bring_1 l dC dI cI c2 o1 o2 o3 o4 o5 g6 o17 s.heap.size) ⟨va_cnB 1 hts gX11_hole_X9_bring_n123 rfl rfl rfl (hN.1 _ ns_71) (hts (.initialized RX9) (by decide +kernel)) (by decide +kernel) ⟨Nat.le_of_ble_eq_true rfl, Nat.le_of_ble_eq_true rfl⟩, (hts (.instanceMethod yX9_bring) (by decide +kernel)), (hts (.selects RX9 yX9_bring yX9_bring) (by decide +kernel))⟩ (pre_V hPc hK hDc hN (ci := 9) (q0 := 0) rfl rfl) rfl rfl hl.1 rfl (lv_room (Nat.le_of_ble_eq_true rfl)) dX11_hole_8 ⟨Nat.le_of_ble_eq_true rfl, Nat.le_of_ble_eq_true rfl⟩) hP hD hS hA [1, 2, 3, 4, 5, 6] [0] rfl rfl (by decide) (by decide) (by decide) (fun u H locs hP hD hS => ?_)
  have hP : va_P (dC, dI) vwCl [(o0, .inr (11, [.ref o2, .ref o7, .ref o8, .ref o1, .ref o9, .ref o10, .ref o11, .ref o12, .ref o13, .ref o14, .ref o15, .ref o16, .int 0])), (o1, .inr (9, [.ref o3, .ref o17, .int 0, .int 0])), (o3, .inr (3, [.ref o4, .int 0])), (o4, .inl (c2, 13, .inr (.inr (.inr (.inr (fun i => if i < 13 then some (g6 i) else none)))))), (o5, .inl (cI, 12, .inl (fun _ => 0))), (g6 0, .inl (cI, 12, .inl (fun _ => 0))), (o2, .inr (4, [.ref o5, .int 0, .int 0]))] H := hP
  have hD : va_D A [(o0, .inr (11, [.ref o2, .ref o7, .ref o8, .ref o1, .ref o9, .ref o10, .ref o11, .ref o12, .ref o13, .ref o14, .ref o15, .ref o16, .int 0])), (o1, .inr (9, [.ref o3, .ref o17, .int 0, .int 0])), (o3, .inr (3, [.ref o4, .int 0])), (o4, .inl (c2, 13, .inr (.inr (.inr (.inr (fun i => if i < 13 then some (g6 i) else none)))))), (o5, .inl (cI, 12, .inl (fun _ => 0))), (g6 0, .inl (cI, 12, .inl (fun _ => 0))), (o2, .inr (4, [.ref o5, .int 0, .int 0]))] := hD
  refine lv_iload_n hx hb dX11_hole_11 rfl (lv_at hl 1 rfl) ?_
  refine lv_if_lt (tgt := 38) hx hb dX11_hole_12 (by decide) (fun _ => ?_) (fun h9 => absurd (ib_lt (X := a1.toInt) (Y := 0) rfl (by decide +kernel) (by omega)) h9)
  refine lv_bipush (v := (-9)) hx hb dX11_hole_38 (by decide) ?_
  have hP9 := hP.sub (ws' := []) [] rfl
  have hD9 := hD.sub (ws' := []) [] (by decide) rfl
  exact W.iret (v := (-9)) hx hb hr (fun t ht hW => ⟨⟨(-9), (), rfl, rfl, by rw [ht]; exact hP9, va_K.moved hW.alike hK, hD9⟩, hS.F ht⟩) hS.2.2 dX11_hole_40
theorem iw_X12_findHole_X12 : ∀ w ∈ wsX120, w ∈ wsX12_findHole := by decide +kernel
set_option maxHeartbeats 1000000 in
set_option maxRecDepth 100000 in
theorem kX12_findHole_1 (l : Launch) (dC : Nat → ClassId) (dI : Nat → Nat → Nat) (cI c2 : ClassId) (o0 : Nat) (o1 : Nat) (o2 : Nat) (o3 : Nat) (o4 : Nat) (o5 : Nat) (o6 : Nat) (o7 : Nat) (o8 : Nat) (o9 : Nat) (o10 : Nat) (o11 : Nat) (o12 : Nat) (o13 : Nat) (o14 : Nat) (o15 : Nat) (o16 : Nat) (o17 : Nat) (o18 : Nat) (sz : Nat) : Met l yX12_findHole wsX12_findHole ({ frames := 0, cells := 0, slots := 0, locals := 0 }) (va_Pc [.ref o0] (wPre (dC, dI) [(cI, .int), (c2, .array .int)] [(o0, .inr (12, [.int 0, .ref o1, .int 0, .ref o2, .int 0, .ref o3, .ref o4, .int 0, .ref o5, .int 0, .ref o6, .int (-9), .int 0, .int 0, .ref o7, .ref o8, .ref o9, .ref o10, .ref o11, .int 0, .ref o12, .ref o13, .ref o14, .int 0, .ref o15, .ref o16, .ref o17, .int 0, .ref o18]))] sz)) (va_Qv (fun (_ : Unit) => True) (fun _ t => wPost (dC, dI) [(cI, .int), (c2, .array .int)] (va_A [(o0, .inr (12, [.int 0, .ref o1, .int 0, .ref o2, .int 0, .ref o3, .ref o4, .int 0, .ref o5, .int 0, .ref o6, .int (-9), .int 0, .int 0, .ref o7, .ref o8, .ref o9, .ref o10, .ref o11, .int 0, .ref o12, .ref o13, .ref o14, .int 0, .ref o15, .ref o16, .ref o17, .int 0, .ref o18]))] sz) [(o0, .inr (12, [.int 0, .ref o1, .int 0, .ref o2, .int 0, .ref o3, .ref o4, .int 0, .ref o5, .int 0, .ref o6, .int (-9), .int 0, .int 0, .ref o7, .ref o8, .ref o9, .ref o10, .ref o11, .int 0, .ref o12, .ref o13, .ref o14, .int 0, .ref o15, .ref o16, .ref o17, .int 0, .ref o18]))] t) (va_A [(o0, .inr (12, [.int 0, .ref o1, .int 0, .ref o2, .int 0, .ref o3, .ref o4, .int 0, .ref o5, .int 0, .ref o6, .int (-9), .int 0, .int 0, .ref o7, .ref o8, .ref o9, .ref o10, .ref o11, .int 0, .ref o12, .ref o13, .ref o14, .int 0, .ref o15, .ref o16, .ref o17, .int 0, .ref o18]))] sz)) 0 0 (va_A [(o0, .inr (12, [.int 0, .ref o1, .int 0, .ref o2, .int 0, .ref o3, .ref o4, .int 0, .ref o5, .int 0, .ref o6, .int (-9), .int 0, .int 0, .ref o7, .ref o8, .ref o9, .ref o10, .ref o11, .int 0, .ref o12, .ref o13, .ref o14, .int 0, .ref o15, .ref o16, .ref o17, .int 0, .ref o18]))] sz) := by
  refine Met.ofW (cc := cX12_findHole) (maxL := 3) (ret := none) (by decide) rfl ?_
  intro p e s m args below meth c s₁ B hml hv
  obtain ⟨rfl, hsz, hP, hK, hD0, hN⟩ := hv
  have hx := B.exec
  have hb := B.bytes
  have hr := B.returns
  have hts := atoms_spec (ws := wsX12_findHole) B.pre
  have hown : s.vm.findClass RX12 = some m.cls := findClass_of_methodNamed B.named
  have hlocks := B.notSynchronized
  subst hsz
  have hD := hD0.self (sz := s.heap.size)
  generalize hAe : va_A [(o0, .inr (12, [.int 0, .ref o1, .int 0, .ref o2, .int 0, .ref o3, .ref o4, .int 0, .ref o5, .int 0, .ref o6, .int (-9), .int 0, .int 0, .ref o7, .ref o8, .ref o9, .ref o10, .ref o11, .int 0, .ref o12, .ref o13, .ref o14, .int 0, .ref o15, .ref o16, .ref o17, .int 0, .ref o18]))] s.heap.size = A at hD ⊢
  have hA : ∀ q : Nat, s.heap.size ≤ q → A q := fun q h => by rw [← hAe]; exact Or.inr h
  have hS : va_S A s.heap s.heap [] := va_S.rf
  have hP : va_P (dC, dI) vwCl [(o0, .inr (12, [.int 0, .ref o1, .int 0, .ref o2, .int 0, .ref o3, .ref o4, .int 0, .ref o5, .int 0, .ref o6, .int (-9), .int 0, .int 0, .ref o7, .ref o8, .ref o9, .ref o10, .ref o11, .int 0, .ref o12, .ref o13, .ref o14, .int 0, .ref o15, .ref o16, .ref o17, .int 0, .ref o18]))] s.heap := hP
  have hl := lv_entry ([.ref o0]) (n := 3) (Nat.le_of_ble_eq_true rfl)
  rw [lg_entry_eq]
  generalize (lg_sl ([.ref o0]) ++ List.replicate (3 - (lg_sl ([.ref o0])).length) Slot.unset).toArray = ls at hl ⊢
  have hl : lv_has ls 3 [(0, .ref o0)] := hl
  refine lv_aload_n hx hb dX12_findHole_0 rfl (lv_at hl 0 rfl) ?_
  refine lv_iconst (v := 0) hx hb dX12_findHole_1 (by decide) ?_
  refine va_put (D := (dC, dI)) (ci := 12) (v := .int 0) (ty := .int) (C := RX12) (T := TX12) (N := 29) hx hb hts iw_X12_findHole_X12 tyX12 tyX12_ok nmX12 hown hK hP hD hS 0 rfl rfl 7 (by decide) (hts (.fieldLink RX12 122 "HolelessHouseModel" "ringSize" "I") (by decide +kernel)) (fun _ h9 => h9) rfl (by decide +kernel) rfl rfl (Nat.le_of_ble_eq_true rfl) dX12_findHole_2 (fun H locs hP hD hS => ?_)
  have hP : va_P (dC, dI) vwCl [(o0, .inr (12, [.int 0, .ref o1, .int 0, .ref o2, .int 0, .ref o3, .ref o4, .int 0, .ref o5, .int 0, .ref o6, .int (-9), .int 0, .int 0, .ref o7, .ref o8, .ref o9, .ref o10, .ref o11, .int 0, .ref o12, .ref o13, .ref o14, .int 0, .ref o15, .ref o16, .ref o17, .int 0, .ref o18]))] H := hP
  have hD : va_D A [(o0, .inr (12, [.int 0, .ref o1, .int 0, .ref o2, .int 0, .ref o3, .ref o4, .int 0, .ref o5, .int 0, .ref o6, .int (-9), .int 0, .int 0, .ref o7, .ref o8, .ref o9, .ref o10, .ref o11, .int 0, .ref o12, .ref o13, .ref o14, .int 0, .ref o15, .ref o16, .ref o17, .int 0, .ref o18]))] := hD
  refine lv_iconst (v := 4) hx hb dX12_findHole_5 (by decide) ?_
  refine lv_istore_n (lv' := [(1, .int 4), (0, .ref o0)]) hx hb dX12_findHole_6 rfl hl (by decide) rfl (fun ls hl => ?_)
  refine lv_iload_n hx hb dX12_findHole_7 rfl (lv_at hl 0 rfl) ?_
  refine lv_aload_n hx hb dX12_findHole_8 rfl (lv_at hl 1 rfl) ?_
  refine va_get (D := (dC, dI)) (ci := 12) (v := .int 0) (C := RX12) (T := TX12) (N := 29) hx hb hts iw_X12_findHole_X12 hown hK hP 0 rfl rfl 2 (by decide) (hts (.fieldLink RX12 73 "HolelessHouseModel" "n" "I") (by decide +kernel)) (fun _ h9 => h9) rfl dX12_findHole_9 ?_
  refine lv_icmp_gt (tgt := 59) hx hb dX12_findHole_12 (by decide) (fun _ => ?_) (fun h9 => absurd (by decide +kernel) h9)
  have hP9 := hP.sub (ws' := [(o0, .inr (12, [.int 0, .ref o1, .int 0, .ref o2, .int 0, .ref o3, .ref o4, .int 0, .ref o5, .int 0, .ref o6, .int (-9), .int 0, .int 0, .ref o7, .ref o8, .ref o9, .ref o10, .ref o11, .int 0, .ref o12, .ref o13, .ref o14, .int 0, .ref o15, .ref o16, .ref o17, .int 0, .ref o18]))]) [0] rfl
  have hD9 := hD.sub (ws' := [(o0, .inr (12, [.int 0, .ref o1, .int 0, .ref o2, .int 0, .ref o3, .ref o4, .int 0, .ref o5, .int 0, .ref o6, .int (-9), .int 0, .int 0, .ref o7, .ref o8, .ref o9, .ref o10, .ref o11, .int 0, .ref o12, .ref o13, .ref o14, .int 0, .ref o15, .ref o16, .ref o17, .int 0, .ref o18]))]) [0] (by decide) rfl
  exact W.vret hx hb hr (fun t ht hW => ⟨⟨(), rfl, trivial, by rw [ht]; exact hP9, va_K.moved hW.alike hK, hD9⟩, hS.F ht⟩) hS.2.2 dX12_findHole_59
theorem iw_X12_hole_X12 : ∀ w ∈ wsX120, w ∈ wsX12_hole := by decide +kernel
set_option maxHeartbeats 1000000 in
set_option maxRecDepth 100000 in
theorem kX12_hole_1 (l : Launch) (dC : Nat → ClassId) (dI : Nat → Nat → Nat) (cI c2 : ClassId) (o0 : Nat) (o1 : Nat) (o2 : Nat) (o3 : Nat) (o4 : Nat) (o5 : Nat) (o6 : Nat) (o7 : Nat) (o8 : Nat) (o9 : Nat) (o10 : Nat) (o11 : Nat) (o12 : Nat) (o13 : Nat) (o14 : Nat) (o15 : Nat) (o16 : Nat) (o17 : Nat) (o18 : Nat) (sz : Nat) (a1 : Int32) (a1_lo : (-2147483648) ≤ a1.toInt) (a1_hi : a1.toInt ≤ (-1)) : Met l yX12_hole wsX12_hole ({ frames := 1, cells := 0, slots := 0, locals := 22 }) (va_Pc [.ref o0, .int a1] (wPre (dC, dI) [(cI, .int), (c2, .array .int)] [(o0, .inr (12, [.int 0, .ref o1, .int 0, .ref o2, .int 0, .ref o3, .ref o4, .int 0, .ref o5, .int 0, .ref o6, .int (-9), .int 0, .int 0, .ref o7, .ref o8, .ref o9, .ref o10, .ref o11, .int 0, .ref o12, .ref o13, .ref o14, .int 0, .ref o15, .ref o16, .ref o17, .int 0, .ref o18]))] sz)) (va_Qi (fun (r : Int32) (_ : Unit) => r = (-9)) (fun _ t => wPost (dC, dI) [(cI, .int), (c2, .array .int)] (va_A [(o0, .inr (12, [.int 0, .ref o1, .int 0, .ref o2, .int 0, .ref o3, .ref o4, .int 0, .ref o5, .int 0, .ref o6, .int (-9), .int 0, .int 0, .ref o7, .ref o8, .ref o9, .ref o10, .ref o11, .int 0, .ref o12, .ref o13, .ref o14, .int 0, .ref o15, .ref o16, .ref o17, .int 0, .ref o18]))] sz) [] t) (va_A [(o0, .inr (12, [.int 0, .ref o1, .int 0, .ref o2, .int 0, .ref o3, .ref o4, .int 0, .ref o5, .int 0, .ref o6, .int (-9), .int 0, .int 0, .ref o7, .ref o8, .ref o9, .ref o10, .ref o11, .int 0, .ref o12, .ref o13, .ref o14, .int 0, .ref o15, .ref o16, .ref o17, .int 0, .ref o18]))] sz)) 0 0 (va_A [(o0, .inr (12, [.int 0, .ref o1, .int 0, .ref o2, .int 0, .ref o3, .ref o4, .int 0, .ref o5, .int 0, .ref o6, .int (-9), .int 0, .int 0, .ref o7, .ref o8, .ref o9, .ref o10, .ref o11, .int 0, .ref o12, .ref o13, .ref o14, .int 0, .ref o15, .ref o16, .ref o17, .int 0, .ref o18]))] sz) := by
  refine Met.ofW (cc := cX12_hole) (maxL := 2) (ret := (some .int)) (by decide) rfl ?_
  intro p e s m args below meth c s₁ B hml hv
  obtain ⟨rfl, hsz, hP, hK, hD0, hN⟩ := hv
  have hx := B.exec
  have hb := B.bytes
  have hr := B.returns
  have hts := atoms_spec (ws := wsX12_hole) B.pre
  have hown : s.vm.findClass RX12 = some m.cls := findClass_of_methodNamed B.named
  have hlocks := B.notSynchronized
  subst hsz
  have hD := hD0.self (sz := s.heap.size)
  generalize hAe : va_A [(o0, .inr (12, [.int 0, .ref o1, .int 0, .ref o2, .int 0, .ref o3, .ref o4, .int 0, .ref o5, .int 0, .ref o6, .int (-9), .int 0, .int 0, .ref o7, .ref o8, .ref o9, .ref o10, .ref o11, .int 0, .ref o12, .ref o13, .ref o14, .int 0, .ref o15, .ref o16, .ref o17, .int 0, .ref o18]))] s.heap.size = A at hD ⊢
  have hA : ∀ q : Nat, s.heap.size ≤ q → A q := fun q h => by rw [← hAe]; exact Or.inr h
  have hS : va_S A s.heap s.heap [] := va_S.rf
  have hP : va_P (dC, dI) vwCl [(o0, .inr (12, [.int 0, .ref o1, .int 0, .ref o2, .int 0, .ref o3, .ref o4, .int 0, .ref o5, .int 0, .ref o6, .int (-9), .int 0, .int 0, .ref o7, .ref o8, .ref o9, .ref o10, .ref o11, .int 0, .ref o12, .ref o13, .ref o14, .int 0, .ref o15, .ref o16, .ref o17, .int 0, .ref o18]))] s.heap := hP
  have hl := lv_entry ([.ref o0, .int a1]) (n := 2) (Nat.le_of_ble_eq_true rfl)
  rw [lg_entry_eq]
  generalize (lg_sl ([.ref o0, .int a1]) ++ List.replicate (2 - (lg_sl ([.ref o0, .int a1])).length) Slot.unset).toArray = ls at hl ⊢
  have hl : lv_has ls 2 [(0, .ref o0), (1, .int a1)] := hl
  refine lv_aload_n hx hb dX12_hole_0 rfl (lv_at hl 0 rfl) ?_
  refine kcall_v (D := (dC, dI)) (S := Unit) (wc := [(o0, .inr (12, [.int 0, .ref o1, .int 0, .ref o2, .int 0, .ref o3, .ref o4, .int 0, .ref o5, .int 0, .ref o6, .int (-9), .int 0, .int 0, .ref o7, .ref o8, .ref o9, .ref o10, .ref o11, .int 0, .ref o12, .ref o13, .ref o14, .int 0, .ref o15, .ref o16, .ref o17, .int 0, .ref o18]))]) (wr := []) (w1 := fun _ => [(o0, .inr (12, [.int 0, .ref o1, .int 0, .ref o2, .int 0, .ref o3, .ref o4, .int 0, .ref o5, .int 0, .ref o6, .int (-9), .int 0, .int 0, .ref o7, .ref o8, .ref o9, .ref o10, .ref o11, .int 0, .ref o12, .ref o13, .ref o14, .int 0, .ref o15, .ref o16, .ref o17, .int 0, .ref o18]))]) (fun hPc hDc => va_runV (As := []) (rest := []) ⟨hx, hb, hml, hown, hts⟩ (kX12_findHole_1 l dC dI cI c2 o0 o1 o2 o3 o4 o5 o6 o7 o8 o9 o10 o11 o12 o13 o14 o15 o16 o17 o18 s.heap.size) (cwV 0 hts gX12_hole_X12_findHole rfl rfl rfl (by decide +kernel) ⟨Nat.le_of_ble_eq_true rfl, Nat.le_of_ble_eq_true rfl⟩) (pre_V hPc hK hDc hN (ci := 12) (q0 := 0) rfl rfl) rfl rfl hl.1 rfl (lv_room (Nat.le_of_ble_eq_true rfl)) dX12_hole_1 ⟨Nat.le_of_ble_eq_true rfl, Nat.le_of_ble_eq_true rfl⟩) hP hD hS hA [0] [] rfl rfl (by decide) (by decide) (by decide) (fun u H locs hP hD hS => ?_)
  have hP : va_P (dC, dI) vwCl [(o0, .inr (12, [.int 0, .ref o1, .int 0, .ref o2, .int 0, .ref o3, .ref o4, .int 0, .ref o5, .int 0, .ref o6, .int (-9), .int 0, .int 0, .ref o7, .ref o8, .ref o9, .ref o10, .ref o11, .int 0, .ref o12, .ref o13, .ref o14, .int 0, .ref o15, .ref o16, .ref o17, .int 0, .ref o18]))] H := hP
  have hD : va_D A [(o0, .inr (12, [.int 0, .ref o1, .int 0, .ref o2, .int 0, .ref o3, .ref o4, .int 0, .ref o5, .int 0, .ref o6, .int (-9), .int 0, .int 0, .ref o7, .ref o8, .ref o9, .ref o10, .ref o11, .int 0, .ref o12, .ref o13, .ref o14, .int 0, .ref o15, .ref o16, .ref o17, .int 0, .ref o18]))] := hD
  refine lv_iload_n hx hb dX12_hole_4 rfl (lv_at hl 1 rfl) ?_
  refine lv_iconst (v := 0) hx hb dX12_hole_5 (by decide) ?_
  refine lv_aload_n hx hb dX12_hole_6 rfl (lv_at hl 0 rfl) ?_
  refine va_get (D := (dC, dI)) (ci := 12) (v := .int 0) (C := RX12) (T := TX12) (N := 29) hx hb hts iw_X12_hole_X12 hown hK hP 0 rfl rfl 7 (by decide) (hts (.fieldLink RX12 122 "HolelessHouseModel" "ringSize" "I") (by decide +kernel)) (fun _ h9 => h9) rfl dX12_hole_7 ?_
  refine lv_iconst (v := 1) hx hb dX12_hole_10 (by decide) ?_
  refine lv_isub hx hb dX12_hole_11 (tk_i (v := (-1)) (by decide +kernel) ?_)
  refine kcall_i (D := (dC, dI)) (S := Unit) (v := 0) (wc := []) (wr := [(o0, .inr (12, [.int 0, .ref o1, .int 0, .ref o2, .int 0, .ref o3, .ref o4, .int 0, .ref o5, .int 0, .ref o6, .int (-9), .int 0, .int 0, .ref o7, .ref o8, .ref o9, .ref o10, .ref o11, .int 0, .ref o12, .ref o13, .ref o14, .int 0, .ref o15, .ref o16, .ref o17, .int 0, .ref o18]))]) (w1 := fun _ => []) (fun hPc hDc => va_runS (As := [.int a1, .int 0, .int (-1)]) (rest := []) ⟨hx, hb, hml, hown, hts⟩ (kX12_in_4 l dC dI cI c2 H.size a1 (by omega) (by omega)) (va_cwS 3 hts gX12_hole_X12_in rfl rfl rfl (by decide +kernel) ⟨Nat.le_of_ble_eq_true rfl, Nat.le_of_ble_eq_true rfl⟩) (pre_S hPc hK hDc hN) rfl rfl hl.1 rfl (lv_room (Nat.le_of_ble_eq_true rfl)) dX12_hole_12 ⟨Nat.le_of_ble_eq_true rfl, Nat.le_of_ble_eq_true rfl⟩) hP hD hS hA [] [0] rfl rfl (by decide) (by decide) (by decide) (fun u H locs hP hD hS => ?_)
  have hP : va_P (dC, dI) vwCl [(o0, .inr (12, [.int 0, .ref o1, .int 0, .ref o2, .int 0, .ref o3, .ref o4, .int 0, .ref o5, .int 0, .ref o6, .int (-9), .int 0, .int 0, .ref o7, .ref o8, .ref o9, .ref o10, .ref o11, .int 0, .ref o12, .ref o13, .ref o14, .int 0, .ref o15, .ref o16, .ref o17, .int 0, .ref o18]))] H := hP
  have hD : va_D A [(o0, .inr (12, [.int 0, .ref o1, .int 0, .ref o2, .int 0, .ref o3, .ref o4, .int 0, .ref o5, .int 0, .ref o6, .int (-9), .int 0, .int 0, .ref o7, .ref o8, .ref o9, .ref o10, .ref o11, .int 0, .ref o12, .ref o13, .ref o14, .int 0, .ref o15, .ref o16, .ref o17, .int 0, .ref o18]))] := hD
  refine lv_if_eq (tgt := 27) hx hb dX12_hole_15 (by decide) (fun _ => ?_) (fun h9 => absurd (by decide +kernel) h9)
  refine lv_bipush (v := (-9)) hx hb dX12_hole_27 (by decide) ?_
  have hP9 := hP.sub (ws' := []) [] rfl
  have hD9 := hD.sub (ws' := []) [] (by decide) rfl
  exact W.iret (v := (-9)) hx hb hr (fun t ht hW => ⟨⟨(-9), (), rfl, rfl, by rw [ht]; exact hP9, va_K.moved hW.alike hK, hD9⟩, hS.F ht⟩) hS.2.2 dX12_hole_29
theorem iw_X11_hole_X9 : ∀ w ∈ wsX90, w ∈ wsX11_hole := by decide +kernel
set_option maxHeartbeats 1000000 in
set_option maxRecDepth 100000 in
theorem kX11_hole_2 (l : Launch) (dC : Nat → ClassId) (dI : Nat → Nat → Nat) (cI c2 : ClassId) (o0 : Nat) (o1 : Nat) (o2 : Nat) (o3 : Nat) (o4 : Nat) (o5 : Nat) (g6 : Nat → Nat) (o7 : Nat) (o8 : Nat) (o9 : Nat) (o10 : Nat) (o11 : Nat) (o12 : Nat) (o13 : Nat) (o14 : Nat) (o15 : Nat) (o16 : Nat) (o17 : Nat) (sz : Nat) (a1 : Int32) (a1_lo : 0 ≤ a1.toInt) (a1_hi : a1.toInt ≤ 2147483647) : Met l yX11_hole wsX11_hole ({ frames := 4, cells := 0, slots := 0, locals := 130 }) (va_Pc [.ref o0, .int a1] (wPre (dC, dI) [(cI, .int), (c2, .array .int)] [(o0, .inr (11, [.ref o2, .ref o7, .ref o8, .ref o1, .ref o9, .ref o10, .ref o11, .ref o12, .ref o13, .ref o14, .ref o15, .ref o16, .int 0])), (o1, .inr (9, [.ref o3, .ref o17, .int 0, .int (-1)])), (o2, .inr (4, [.ref o5, .int 0, .int 0])), (o3, .inr (3, [.ref o4, .int 0])), (o4, .inl (c2, 13, .inr (.inr (.inr (.inr (fun i => if i < 13 then some (g6 i) else none)))))), (o5, .inl (cI, 12, .inl (fun _ => 0))), (g6 0, .inl (cI, 12, .inl (fun _ => 0)))] sz)) (va_Qi (fun (r : Int32) (_ : Unit) => r = (-9)) (fun _ t => wPost (dC, dI) [(cI, .int), (c2, .array .int)] (va_A [(o0, .inr (11, [.ref o2, .ref o7, .ref o8, .ref o1, .ref o9, .ref o10, .ref o11, .ref o12, .ref o13, .ref o14, .ref o15, .ref o16, .int 0])), (o1, .inr (9, [.ref o3, .ref o17, .int 0, .int (-1)])), (o2, .inr (4, [.ref o5, .int 0, .int 0])), (o3, .inr (3, [.ref o4, .int 0])), (o4, .inl (c2, 13, .inr (.inr (.inr (.inr (fun i => if i < 13 then some (g6 i) else none)))))), (o5, .inl (cI, 12, .inl (fun _ => 0))), (g6 0, .inl (cI, 12, .inl (fun _ => 0)))] sz) [] t) (va_A [(o0, .inr (11, [.ref o2, .ref o7, .ref o8, .ref o1, .ref o9, .ref o10, .ref o11, .ref o12, .ref o13, .ref o14, .ref o15, .ref o16, .int 0])), (o1, .inr (9, [.ref o3, .ref o17, .int 0, .int (-1)])), (o2, .inr (4, [.ref o5, .int 0, .int 0])), (o3, .inr (3, [.ref o4, .int 0])), (o4, .inl (c2, 13, .inr (.inr (.inr (.inr (fun i => if i < 13 then some (g6 i) else none)))))), (o5, .inl (cI, 12, .inl (fun _ => 0))), (g6 0, .inl (cI, 12, .inl (fun _ => 0)))] sz)) 0 0 (va_A [(o0, .inr (11, [.ref o2, .ref o7, .ref o8, .ref o1, .ref o9, .ref o10, .ref o11, .ref o12, .ref o13, .ref o14, .ref o15, .ref o16, .int 0])), (o1, .inr (9, [.ref o3, .ref o17, .int 0, .int (-1)])), (o2, .inr (4, [.ref o5, .int 0, .int 0])), (o3, .inr (3, [.ref o4, .int 0])), (o4, .inl (c2, 13, .inr (.inr (.inr (.inr (fun i => if i < 13 then some (g6 i) else none)))))), (o5, .inl (cI, 12, .inl (fun _ => 0))), (g6 0, .inl (cI, 12, .inl (fun _ => 0)))] sz) := by
  refine Met.ofW (cc := cX11_hole) (maxL := 2) (ret := (some .int)) (by decide) rfl ?_
  intro p e s m args below meth c s₁ B hml hv
  obtain ⟨rfl, hsz, hP, hK, hD0, hN⟩ := hv
  have hx := B.exec
  have hb := B.bytes
  have hr := B.returns
  have hts := atoms_spec (ws := wsX11_hole) B.pre
  have hown : s.vm.findClass RX11 = some m.cls := findClass_of_methodNamed B.named
  have hlocks := B.notSynchronized
  subst hsz
  have hD := hD0.self (sz := s.heap.size)
  generalize hAe : va_A [(o0, .inr (11, [.ref o2, .ref o7, .ref o8, .ref o1, .ref o9, .ref o10, .ref o11, .ref o12, .ref o13, .ref o14, .ref o15, .ref o16, .int 0])), (o1, .inr (9, [.ref o3, .ref o17, .int 0, .int (-1)])), (o2, .inr (4, [.ref o5, .int 0, .int 0])), (o3, .inr (3, [.ref o4, .int 0])), (o4, .inl (c2, 13, .inr (.inr (.inr (.inr (fun i => if i < 13 then some (g6 i) else none)))))), (o5, .inl (cI, 12, .inl (fun _ => 0))), (g6 0, .inl (cI, 12, .inl (fun _ => 0)))] s.heap.size = A at hD ⊢
  have hA : ∀ q : Nat, s.heap.size ≤ q → A q := fun q h => by rw [← hAe]; exact Or.inr h
  have hS : va_S A s.heap s.heap [] := va_S.rf
  have hP : va_P (dC, dI) vwCl [(o0, .inr (11, [.ref o2, .ref o7, .ref o8, .ref o1, .ref o9, .ref o10, .ref o11, .ref o12, .ref o13, .ref o14, .ref o15, .ref o16, .int 0])), (o1, .inr (9, [.ref o3, .ref o17, .int 0, .int (-1)])), (o2, .inr (4, [.ref o5, .int 0, .int 0])), (o3, .inr (3, [.ref o4, .int 0])), (o4, .inl (c2, 13, .inr (.inr (.inr (.inr (fun i => if i < 13 then some (g6 i) else none)))))), (o5, .inl (cI, 12, .inl (fun _ => 0))), (g6 0, .inl (cI, 12, .inl (fun _ => 0)))] s.heap := hP
  have hl := lv_entry ([.ref o0, .int a1]) (n := 2) (Nat.le_of_ble_eq_true rfl)
  rw [lg_entry_eq]
  generalize (lg_sl ([.ref o0, .int a1]) ++ List.replicate (2 - (lg_sl ([.ref o0, .int a1])).length) Slot.unset).toArray = ls at hl ⊢
  have hl : lv_has ls 2 [(0, .ref o0), (1, .int a1)] := hl
  refine lv_aload_n hx hb dX11_hole_0 rfl (lv_at hl 0 rfl) ?_
  refine va_get (D := (dC, dI)) (ci := 11) (v := .ref o1) (C := RX11) (T := TX11) (N := 13) hx hb hts iw_X11_hole_X11 hown hK hP 0 rfl rfl 3 (by decide) (hts (.fieldLink RX11 33 "HolelessHouse" "ring" "LHolelessHouse$Ring;") (by decide +kernel)) (fun _ h9 => h9) rfl dX11_hole_1 ?_
  refine lv_aload_n hx hb dX11_hole_4 rfl (lv_at hl 0 rfl) ?_
  refine va_get (D := (dC, dI)) (ci := 11) (v := .ref o2) (C := RX11) (T := TX11) (N := 13) hx hb hts iw_X11_hole_X11 hown hK hP 0 rfl rfl 0 (by decide) (hts (.fieldLink RX11 10 "HolelessHouse" "graph" "LHolelessHouse$Graph;") (by decide +kernel)) (fun _ h9 => h9) rfl dX11_hole_5 ?_
  refine kcall_v (D := (dC, dI)) (S := Unit) (wc := [(o1, .inr (9, [.ref o3, .ref o17, .int 0, .int (-1)])), (o2, .inr (4, [.ref o5, .int 0, .int 0])), (o3, .inr (3, [.ref o4, .int 0])), (o4, .inl (c2, 13, .inr (.inr (.inr (.inr (fun i => if i < 13 then some (g6 i) else none)))))), (o5, .inl (cI, 12, .inl (fun _ => 0))), (g6 0, .inl (cI, 12, .inl (fun _ => 0)))]) (wr := [(o0, .inr (11, [.ref o2, .ref o7, .ref o8, .ref o1, .ref o9, .ref o10, .ref o11, .ref o12, .ref o13, .ref o14, .ref o15, .ref o16, .int 0]))]) (w1 := fun _ => [(o1, .inr (9, [.ref o3, .ref o17, .int 0, .int 0])), (o3, .inr (3, [.ref o4, .int 0])), (o4, .inl (c2, 13, .inr (.inr (.inr (.inr (fun i => if i < 13 then some (g6 i) else none)))))), (o5, .inl (cI, 12, .inl (fun _ => 0))), (g6 0, .inl (cI, 12, .inl (fun _ => 0))), (o2, .inr (4, [.ref o5, .int 0, .int 0]))]) (fun hPc hDc => va_runVN (As := [.ref o2]) (rest := []) ⟨hx, hb, hml, hown, hts⟩ (kX9_bring_1 l dC dI cI c2 o1 o2 o3 o4 o5 g6 o17 s.heap.size) ⟨va_cnB 1 hts gX11_hole_X9_bring_n123 rfl rfl rfl (hN.1 _ ns_71) (hts (.initialized RX9) (by decide +kernel)) (by decide +kernel) ⟨Nat.le_of_ble_eq_true rfl, Nat.le_of_ble_eq_true rfl⟩, (hts (.instanceMethod yX9_bring) (by decide +kernel)), (hts (.selects RX9 yX9_bring yX9_bring) (by decide +kernel))⟩ (pre_V hPc hK hDc hN (ci := 9) (q0 := 0) rfl rfl) rfl rfl hl.1 rfl (lv_room (Nat.le_of_ble_eq_true rfl)) dX11_hole_8 ⟨Nat.le_of_ble_eq_true rfl, Nat.le_of_ble_eq_true rfl⟩) hP hD hS hA [1, 2, 3, 4, 5, 6] [0] rfl rfl (by decide) (by decide) (by decide) (fun u H locs hP hD hS => ?_)
  have hP : va_P (dC, dI) vwCl [(o0, .inr (11, [.ref o2, .ref o7, .ref o8, .ref o1, .ref o9, .ref o10, .ref o11, .ref o12, .ref o13, .ref o14, .ref o15, .ref o16, .int 0])), (o1, .inr (9, [.ref o3, .ref o17, .int 0, .int 0])), (o3, .inr (3, [.ref o4, .int 0])), (o4, .inl (c2, 13, .inr (.inr (.inr (.inr (fun i => if i < 13 then some (g6 i) else none)))))), (o5, .inl (cI, 12, .inl (fun _ => 0))), (g6 0, .inl (cI, 12, .inl (fun _ => 0))), (o2, .inr (4, [.ref o5, .int 0, .int 0]))] H := hP
  have hD : va_D A [(o0, .inr (11, [.ref o2, .ref o7, .ref o8, .ref o1, .ref o9, .ref o10, .ref o11, .ref o12, .ref o13, .ref o14, .ref o15, .ref o16, .int 0])), (o1, .inr (9, [.ref o3, .ref o17, .int 0, .int 0])), (o3, .inr (3, [.ref o4, .int 0])), (o4, .inl (c2, 13, .inr (.inr (.inr (.inr (fun i => if i < 13 then some (g6 i) else none)))))), (o5, .inl (cI, 12, .inl (fun _ => 0))), (g6 0, .inl (cI, 12, .inl (fun _ => 0))), (o2, .inr (4, [.ref o5, .int 0, .int 0]))] := hD
  refine lv_iload_n hx hb dX11_hole_11 rfl (lv_at hl 1 rfl) ?_
  refine lv_if_lt (tgt := 38) hx hb dX11_hole_12 (by decide) (fun h9 => absurd h9 (ib_nlt (X := a1.toInt) (Y := 0) rfl (by decide +kernel) (by omega))) (fun _ => ?_)
  refine lv_iload_n hx hb dX11_hole_15 rfl (lv_at hl 1 rfl) ?_
  refine lv_aload_n hx hb dX11_hole_16 rfl (lv_at hl 0 rfl) ?_
  refine va_get (D := (dC, dI)) (ci := 11) (v := .ref o1) (C := RX11) (T := TX11) (N := 13) hx hb hts iw_X11_hole_X11 hown hK hP 0 rfl rfl 3 (by decide) (hts (.fieldLink RX11 33 "HolelessHouse" "ring" "LHolelessHouse$Ring;") (by decide +kernel)) (fun _ h9 => h9) rfl dX11_hole_17 ?_
  refine va_getN (D := (dC, dI)) (ci := 9) (v := .int 0) (C := RX9) (T := TX9) (N := 4) hx hb hts iw_X11_hole_X9 hown hK hP 1 rfl rfl 2 (by decide) (hN.use ns_32) (fun _ h9 => h9) rfl dX11_hole_20 ?_
  refine lv_icmp_ge (tgt := 38) hx hb dX11_hole_23 (by decide) (fun _ => ?_) (fun h9 => absurd (ib_le (X := 0) (Y := a1.toInt) (by decide +kernel) rfl (by omega)) h9)
  refine lv_bipush (v := (-9)) hx hb dX11_hole_38 (by decide) ?_
  have hP9 := hP.sub (ws' := []) [] rfl
  have hD9 := hD.sub (ws' := []) [] (by decide) rfl
  exact W.iret (v := (-9)) hx hb hr (fun t ht hW => ⟨⟨(-9), (), rfl, rfl, by rw [ht]; exact hP9, va_K.moved hW.alike hK, hD9⟩, hS.F ht⟩) hS.2.2 dX11_hole_40
set_option maxHeartbeats 1000000 in
set_option maxRecDepth 100000 in
theorem kX12_hole_2 (l : Launch) (dC : Nat → ClassId) (dI : Nat → Nat → Nat) (cI c2 : ClassId) (o0 : Nat) (o1 : Nat) (o2 : Nat) (o3 : Nat) (o4 : Nat) (o5 : Nat) (o6 : Nat) (o7 : Nat) (o8 : Nat) (o9 : Nat) (o10 : Nat) (o11 : Nat) (o12 : Nat) (o13 : Nat) (o14 : Nat) (o15 : Nat) (o16 : Nat) (o17 : Nat) (o18 : Nat) (sz : Nat) (a1 : Int32) (a1_lo : 0 ≤ a1.toInt) (a1_hi : a1.toInt ≤ 2147483647) : Met l yX12_hole wsX12_hole ({ frames := 1, cells := 0, slots := 0, locals := 22 }) (va_Pc [.ref o0, .int a1] (wPre (dC, dI) [(cI, .int), (c2, .array .int)] [(o0, .inr (12, [.int 0, .ref o1, .int 0, .ref o2, .int 0, .ref o3, .ref o4, .int 0, .ref o5, .int 0, .ref o6, .int (-9), .int 0, .int 0, .ref o7, .ref o8, .ref o9, .ref o10, .ref o11, .int 0, .ref o12, .ref o13, .ref o14, .int 0, .ref o15, .ref o16, .ref o17, .int 0, .ref o18]))] sz)) (va_Qi (fun (r : Int32) (_ : Unit) => r = (-9)) (fun _ t => wPost (dC, dI) [(cI, .int), (c2, .array .int)] (va_A [(o0, .inr (12, [.int 0, .ref o1, .int 0, .ref o2, .int 0, .ref o3, .ref o4, .int 0, .ref o5, .int 0, .ref o6, .int (-9), .int 0, .int 0, .ref o7, .ref o8, .ref o9, .ref o10, .ref o11, .int 0, .ref o12, .ref o13, .ref o14, .int 0, .ref o15, .ref o16, .ref o17, .int 0, .ref o18]))] sz) [] t) (va_A [(o0, .inr (12, [.int 0, .ref o1, .int 0, .ref o2, .int 0, .ref o3, .ref o4, .int 0, .ref o5, .int 0, .ref o6, .int (-9), .int 0, .int 0, .ref o7, .ref o8, .ref o9, .ref o10, .ref o11, .int 0, .ref o12, .ref o13, .ref o14, .int 0, .ref o15, .ref o16, .ref o17, .int 0, .ref o18]))] sz)) 0 0 (va_A [(o0, .inr (12, [.int 0, .ref o1, .int 0, .ref o2, .int 0, .ref o3, .ref o4, .int 0, .ref o5, .int 0, .ref o6, .int (-9), .int 0, .int 0, .ref o7, .ref o8, .ref o9, .ref o10, .ref o11, .int 0, .ref o12, .ref o13, .ref o14, .int 0, .ref o15, .ref o16, .ref o17, .int 0, .ref o18]))] sz) := by
  refine Met.ofW (cc := cX12_hole) (maxL := 2) (ret := (some .int)) (by decide) rfl ?_
  intro p e s m args below meth c s₁ B hml hv
  obtain ⟨rfl, hsz, hP, hK, hD0, hN⟩ := hv
  have hx := B.exec
  have hb := B.bytes
  have hr := B.returns
  have hts := atoms_spec (ws := wsX12_hole) B.pre
  have hown : s.vm.findClass RX12 = some m.cls := findClass_of_methodNamed B.named
  have hlocks := B.notSynchronized
  subst hsz
  have hD := hD0.self (sz := s.heap.size)
  generalize hAe : va_A [(o0, .inr (12, [.int 0, .ref o1, .int 0, .ref o2, .int 0, .ref o3, .ref o4, .int 0, .ref o5, .int 0, .ref o6, .int (-9), .int 0, .int 0, .ref o7, .ref o8, .ref o9, .ref o10, .ref o11, .int 0, .ref o12, .ref o13, .ref o14, .int 0, .ref o15, .ref o16, .ref o17, .int 0, .ref o18]))] s.heap.size = A at hD ⊢
  have hA : ∀ q : Nat, s.heap.size ≤ q → A q := fun q h => by rw [← hAe]; exact Or.inr h
  have hS : va_S A s.heap s.heap [] := va_S.rf
  have hP : va_P (dC, dI) vwCl [(o0, .inr (12, [.int 0, .ref o1, .int 0, .ref o2, .int 0, .ref o3, .ref o4, .int 0, .ref o5, .int 0, .ref o6, .int (-9), .int 0, .int 0, .ref o7, .ref o8, .ref o9, .ref o10, .ref o11, .int 0, .ref o12, .ref o13, .ref o14, .int 0, .ref o15, .ref o16, .ref o17, .int 0, .ref o18]))] s.heap := hP
  have hl := lv_entry ([.ref o0, .int a1]) (n := 2) (Nat.le_of_ble_eq_true rfl)
  rw [lg_entry_eq]
  generalize (lg_sl ([.ref o0, .int a1]) ++ List.replicate (2 - (lg_sl ([.ref o0, .int a1])).length) Slot.unset).toArray = ls at hl ⊢
  have hl : lv_has ls 2 [(0, .ref o0), (1, .int a1)] := hl
  refine lv_aload_n hx hb dX12_hole_0 rfl (lv_at hl 0 rfl) ?_
  refine kcall_v (D := (dC, dI)) (S := Unit) (wc := [(o0, .inr (12, [.int 0, .ref o1, .int 0, .ref o2, .int 0, .ref o3, .ref o4, .int 0, .ref o5, .int 0, .ref o6, .int (-9), .int 0, .int 0, .ref o7, .ref o8, .ref o9, .ref o10, .ref o11, .int 0, .ref o12, .ref o13, .ref o14, .int 0, .ref o15, .ref o16, .ref o17, .int 0, .ref o18]))]) (wr := []) (w1 := fun _ => [(o0, .inr (12, [.int 0, .ref o1, .int 0, .ref o2, .int 0, .ref o3, .ref o4, .int 0, .ref o5, .int 0, .ref o6, .int (-9), .int 0, .int 0, .ref o7, .ref o8, .ref o9, .ref o10, .ref o11, .int 0, .ref o12, .ref o13, .ref o14, .int 0, .ref o15, .ref o16, .ref o17, .int 0, .ref o18]))]) (fun hPc hDc => va_runV (As := []) (rest := []) ⟨hx, hb, hml, hown, hts⟩ (kX12_findHole_1 l dC dI cI c2 o0 o1 o2 o3 o4 o5 o6 o7 o8 o9 o10 o11 o12 o13 o14 o15 o16 o17 o18 s.heap.size) (cwV 0 hts gX12_hole_X12_findHole rfl rfl rfl (by decide +kernel) ⟨Nat.le_of_ble_eq_true rfl, Nat.le_of_ble_eq_true rfl⟩) (pre_V hPc hK hDc hN (ci := 12) (q0 := 0) rfl rfl) rfl rfl hl.1 rfl (lv_room (Nat.le_of_ble_eq_true rfl)) dX12_hole_1 ⟨Nat.le_of_ble_eq_true rfl, Nat.le_of_ble_eq_true rfl⟩) hP hD hS hA [0] [] rfl rfl (by decide) (by decide) (by decide) (fun u H locs hP hD hS => ?_)
  have hP : va_P (dC, dI) vwCl [(o0, .inr (12, [.int 0, .ref o1, .int 0, .ref o2, .int 0, .ref o3, .ref o4, .int 0, .ref o5, .int 0, .ref o6, .int (-9), .int 0, .int 0, .ref o7, .ref o8, .ref o9, .ref o10, .ref o11, .int 0, .ref o12, .ref o13, .ref o14, .int 0, .ref o15, .ref o16, .ref o17, .int 0, .ref o18]))] H := hP
  have hD : va_D A [(o0, .inr (12, [.int 0, .ref o1, .int 0, .ref o2, .int 0, .ref o3, .ref o4, .int 0, .ref o5, .int 0, .ref o6, .int (-9), .int 0, .int 0, .ref o7, .ref o8, .ref o9, .ref o10, .ref o11, .int 0, .ref o12, .ref o13, .ref o14, .int 0, .ref o15, .ref o16, .ref o17, .int 0, .ref o18]))] := hD
  refine lv_iload_n hx hb dX12_hole_4 rfl (lv_at hl 1 rfl) ?_
  refine lv_iconst (v := 0) hx hb dX12_hole_5 (by decide) ?_
  refine lv_aload_n hx hb dX12_hole_6 rfl (lv_at hl 0 rfl) ?_
  refine va_get (D := (dC, dI)) (ci := 12) (v := .int 0) (C := RX12) (T := TX12) (N := 29) hx hb hts iw_X12_hole_X12 hown hK hP 0 rfl rfl 7 (by decide) (hts (.fieldLink RX12 122 "HolelessHouseModel" "ringSize" "I") (by decide +kernel)) (fun _ h9 => h9) rfl dX12_hole_7 ?_
  refine lv_iconst (v := 1) hx hb dX12_hole_10 (by decide) ?_
  refine lv_isub hx hb dX12_hole_11 (tk_i (v := (-1)) (by decide +kernel) ?_)
  refine kcall_i (D := (dC, dI)) (S := Unit) (v := 0) (wc := []) (wr := [(o0, .inr (12, [.int 0, .ref o1, .int 0, .ref o2, .int 0, .ref o3, .ref o4, .int 0, .ref o5, .int 0, .ref o6, .int (-9), .int 0, .int 0, .ref o7, .ref o8, .ref o9, .ref o10, .ref o11, .int 0, .ref o12, .ref o13, .ref o14, .int 0, .ref o15, .ref o16, .ref o17, .int 0, .ref o18]))]) (w1 := fun _ => []) (fun hPc hDc => va_runS (As := [.int a1, .int 0, .int (-1)]) (rest := []) ⟨hx, hb, hml, hown, hts⟩ (kX12_in_5 l dC dI cI c2 H.size a1 (by omega) (by omega)) (va_cwS 3 hts gX12_hole_X12_in rfl rfl rfl (by decide +kernel) ⟨Nat.le_of_ble_eq_true rfl, Nat.le_of_ble_eq_true rfl⟩) (pre_S hPc hK hDc hN) rfl rfl hl.1 rfl (lv_room (Nat.le_of_ble_eq_true rfl)) dX12_hole_12 ⟨Nat.le_of_ble_eq_true rfl, Nat.le_of_ble_eq_true rfl⟩) hP hD hS hA [] [0] rfl rfl (by decide) (by decide) (by decide) (fun u H locs hP hD hS => ?_)
  have hP : va_P (dC, dI) vwCl [(o0, .inr (12, [.int 0, .ref o1, .int 0, .ref o2, .int 0, .ref o3, .ref o4, .int 0, .ref o5, .int 0, .ref o6, .int (-9), .int 0, .int 0, .ref o7, .ref o8, .ref o9, .ref o10, .ref o11, .int 0, .ref o12, .ref o13, .ref o14, .int 0, .ref o15, .ref o16, .ref o17, .int 0, .ref o18]))] H := hP
  have hD : va_D A [(o0, .inr (12, [.int 0, .ref o1, .int 0, .ref o2, .int 0, .ref o3, .ref o4, .int 0, .ref o5, .int 0, .ref o6, .int (-9), .int 0, .int 0, .ref o7, .ref o8, .ref o9, .ref o10, .ref o11, .int 0, .ref o12, .ref o13, .ref o14, .int 0, .ref o15, .ref o16, .ref o17, .int 0, .ref o18]))] := hD
  refine lv_if_eq (tgt := 27) hx hb dX12_hole_15 (by decide) (fun _ => ?_) (fun h9 => absurd (by decide +kernel) h9)
  refine lv_bipush (v := (-9)) hx hb dX12_hole_27 (by decide) ?_
  have hP9 := hP.sub (ws' := []) [] rfl
  have hD9 := hD.sub (ws' := []) [] (by decide) rfl
  exact W.iret (v := (-9)) hx hb hr (fun t ht hW => ⟨⟨(-9), (), rfl, rfl, by rw [ht]; exact hP9, va_K.moved hW.alike hK, hD9⟩, hS.F ht⟩) hS.2.2 dX12_hole_29
set_option maxHeartbeats 1000000 in
set_option maxRecDepth 100000 in
theorem kX4_restart_2 (l : Launch) (dC : Nat → ClassId) (dI : Nat → Nat → Nat) (cI c2 : ClassId) (o0 : Nat) (o1 : Nat) (sz : Nat) : Met l yX4_restart wsX4_restart ({ frames := 1, cells := 0, slots := 0, locals := 23 }) (va_Pc [.ref o0, .int 0] (wPre (dC, dI) [(cI, .int), (c2, .array .int)] [(o0, .inr (4, [.ref o1, .int 0, .int 0])), (o1, .inl (cI, 12, .inl (fun _ => 0)))] sz)) (va_Qv (fun (_ : Unit) => True) (fun _ t => wPost (dC, dI) [(cI, .int), (c2, .array .int)] (va_A [(o0, .inr (4, [.ref o1, .int 0, .int 0])), (o1, .inl (cI, 12, .inl (fun _ => 0)))] sz) [(o0, .inr (4, [.ref o1, .int 0, .int 1])), (o1, .inl (cI, 12, .inl (fun _ => 0)))] t) (va_A [(o0, .inr (4, [.ref o1, .int 0, .int 0])), (o1, .inl (cI, 12, .inl (fun _ => 0)))] sz)) 0 0 (va_A [(o0, .inr (4, [.ref o1, .int 0, .int 0])), (o1, .inl (cI, 12, .inl (fun _ => 0)))] sz) := by
  refine Met.ofW (cc := cX4_restart) (maxL := 2) (ret := none) (by decide) rfl ?_
  intro p e s m args below meth c s₁ B hml hv
  obtain ⟨rfl, hsz, hP, hK, hD0, hN⟩ := hv
  have hx := B.exec
  have hb := B.bytes
  have hr := B.returns
  have hts := atoms_spec (ws := wsX4_restart) B.pre
  have hown : s.vm.findClass RX4 = some m.cls := findClass_of_methodNamed B.named
  have hlocks := B.notSynchronized
  subst hsz
  have hD := hD0.self (sz := s.heap.size)
  generalize hAe : va_A [(o0, .inr (4, [.ref o1, .int 0, .int 0])), (o1, .inl (cI, 12, .inl (fun _ => 0)))] s.heap.size = A at hD ⊢
  have hA : ∀ q : Nat, s.heap.size ≤ q → A q := fun q h => by rw [← hAe]; exact Or.inr h
  have hS : va_S A s.heap s.heap [] := va_S.rf
  have hP : va_P (dC, dI) vwCl [(o0, .inr (4, [.ref o1, .int 0, .int 0])), (o1, .inl (cI, 12, .inl (fun _ => 0)))] s.heap := hP
  have hl := lv_entry ([.ref o0, .int 0]) (n := 2) (Nat.le_of_ble_eq_true rfl)
  rw [lg_entry_eq]
  generalize (lg_sl ([.ref o0, .int 0]) ++ List.replicate (2 - (lg_sl ([.ref o0, .int 0])).length) Slot.unset).toArray = ls at hl ⊢
  have hl : lv_has ls 2 [(0, .ref o0), (1, .int 0)] := hl
  refine lv_aload_n hx hb dX4_restart_0 rfl (lv_at hl 0 rfl) ?_
  refine lv_iload_n hx hb dX4_restart_1 rfl (lv_at hl 1 rfl) ?_
  refine va_put (D := (dC, dI)) (ci := 4) (v := .int 0) (ty := .int) (C := RX4) (T := TX4) (N := 3) hx hb hts iw_X4_restart_X4 tyX4 tyX4_ok nmX4 hown hK hP hD hS 0 rfl rfl 1 (by decide) (hts (.fieldLink RX4 15 "HolelessHouse$Graph" "size" "I") (by decide +kernel)) (fun _ h9 => h9) rfl (by decide +kernel) rfl rfl (Nat.le_of_ble_eq_true rfl) dX4_restart_2 (fun H locs hP hD hS => ?_)
  have hP : va_P (dC, dI) vwCl [(o0, .inr (4, [.ref o1, .int 0, .int 0])), (o1, .inl (cI, 12, .inl (fun _ => 0)))] H := hP
  have hD : va_D A [(o0, .inr (4, [.ref o1, .int 0, .int 0])), (o1, .inl (cI, 12, .inl (fun _ => 0)))] := hD
  refine lv_aload_n hx hb dX4_restart_5 rfl (lv_at hl 0 rfl) ?_
  refine va_get (D := (dC, dI)) (ci := 4) (v := .ref o1) (C := RX4) (T := TX4) (N := 3) hx hb hts iw_X4_restart_X4 hown hK hP 0 rfl rfl 0 (by decide) (hts (.fieldLink RX4 9 "HolelessHouse$Graph" "near" "[I") (by decide +kernel)) (fun _ h9 => h9) rfl dX4_restart_6 ?_
  refine lv_iconst (v := 0) hx hb dX4_restart_9 (by decide) ?_
  refine kcall_v (D := (dC, dI)) (S := Unit) (wc := [(o1, .inl (cI, 12, .inl (fun _ => 0)))]) (wr := [(o0, .inr (4, [.ref o1, .int 0, .int 0]))]) (w1 := fun _ => [(o1, .inl (cI, 12, .inl (fun _ => 0)))]) (fun hPc hDc => va_runS (As := [.ref o1, .int 0]) (rest := []) ⟨hx, hb, hml, hown, hts⟩ (kJ7_fill_53178_2 l dC dI cI c2 o1 H.size) (va_cwS 2 hts gX4_restart_J7_fill_53178 rfl rfl rfl (by decide +kernel) ⟨Nat.le_of_ble_eq_true rfl, Nat.le_of_ble_eq_true rfl⟩) (pre_S hPc hK hDc hN) rfl rfl hl.1 rfl (lv_room (Nat.le_of_ble_eq_true rfl)) dX4_restart_10 ⟨Nat.le_of_ble_eq_true rfl, Nat.le_of_ble_eq_true rfl⟩) hP hD hS hA [1] [0] rfl rfl (by decide) (by decide) (by decide) (fun u H locs hP hD hS => ?_)
  have hP : va_P (dC, dI) vwCl [(o0, .inr (4, [.ref o1, .int 0, .int 0])), (o1, .inl (cI, 12, .inl (fun _ => 0)))] H := hP
  have hD : va_D A [(o0, .inr (4, [.ref o1, .int 0, .int 0])), (o1, .inl (cI, 12, .inl (fun _ => 0)))] := hD
  refine lv_aload_n hx hb dX4_restart_13 rfl (lv_at hl 0 rfl) ?_
  refine lv_dup hx hb dX4_restart_14 rfl ?_
  refine va_get (D := (dC, dI)) (ci := 4) (v := .int 0) (C := RX4) (T := TX4) (N := 3) hx hb hts iw_X4_restart_X4 hown hK hP 0 rfl rfl 2 (by decide) (hts (.fieldLink RX4 19 "HolelessHouse$Graph" "version" "I") (by decide +kernel)) (fun _ h9 => h9) rfl dX4_restart_15 ?_
  refine lv_iconst (v := 1) hx hb dX4_restart_18 (by decide) ?_
  refine lv_iadd hx hb dX4_restart_19 (tk_i (v := 1) (by decide +kernel) ?_)
  refine va_put (D := (dC, dI)) (ci := 4) (v := .int 1) (ty := .int) (C := RX4) (T := TX4) (N := 3) hx hb hts iw_X4_restart_X4 tyX4 tyX4_ok nmX4 hown hK hP hD hS 0 rfl rfl 2 (by decide) (hts (.fieldLink RX4 19 "HolelessHouse$Graph" "version" "I") (by decide +kernel)) (fun _ h9 => h9) rfl (by decide +kernel) rfl rfl (Nat.le_of_ble_eq_true rfl) dX4_restart_20 (fun H locs hP hD hS => ?_)
  have hP : va_P (dC, dI) vwCl [(o0, .inr (4, [.ref o1, .int 0, .int 1])), (o1, .inl (cI, 12, .inl (fun _ => 0)))] H := hP
  have hD : va_D A [(o0, .inr (4, [.ref o1, .int 0, .int 1])), (o1, .inl (cI, 12, .inl (fun _ => 0)))] := hD
  have hP9 := hP.sub (ws' := [(o0, .inr (4, [.ref o1, .int 0, .int 1])), (o1, .inl (cI, 12, .inl (fun _ => 0)))]) [0, 1] rfl
  have hD9 := hD.sub (ws' := [(o0, .inr (4, [.ref o1, .int 0, .int 1])), (o1, .inl (cI, 12, .inl (fun _ => 0)))]) [0, 1] (by decide) rfl
  exact W.vret hx hb hr (fun t ht hW => ⟨⟨(), rfl, trivial, by rw [ht]; exact hP9, va_K.moved hW.alike hK, hD9⟩, hS.F ht⟩) hS.2.2 dX4_restart_23
set_option maxHeartbeats 1000000 in
set_option maxRecDepth 100000 in
theorem kX4_all_3 (l : Launch) (dC : Nat → ClassId) (dI : Nat → Nat → Nat) (cI c2 : ClassId) (o0 : Nat) (o1 : Nat) (sz : Nat) : Met l yX4_all wsX4_all ({ frames := 0, cells := 0, slots := 0, locals := 0 }) (va_Pc [.ref o0] (wPre (dC, dI) [(cI, .int), (c2, .array .int)] [(o0, .inr (4, [.ref o1, .int 0, .int 1]))] sz)) (va_Qi (fun (r : Int32) (_ : Unit) => r = 0) (fun _ t => wPost (dC, dI) [(cI, .int), (c2, .array .int)] (va_A [(o0, .inr (4, [.ref o1, .int 0, .int 1]))] sz) [(o0, .inr (4, [.ref o1, .int 0, .int 1]))] t) (va_A [(o0, .inr (4, [.ref o1, .int 0, .int 1]))] sz)) 0 0 (va_A [(o0, .inr (4, [.ref o1, .int 0, .int 1]))] sz) := by
  refine Met.ofW (cc := cX4_all) (maxL := 1) (ret := (some .int)) (by decide) rfl ?_
  intro p e s m args below meth c s₁ B hml hv
  obtain ⟨rfl, hsz, hP, hK, hD0, hN⟩ := hv
  have hx := B.exec
  have hb := B.bytes
  have hr := B.returns
  have hts := atoms_spec (ws := wsX4_all) B.pre
  have hown : s.vm.findClass RX4 = some m.cls := findClass_of_methodNamed B.named
  have hlocks := B.notSynchronized
  subst hsz
  have hD := hD0.self (sz := s.heap.size)
  generalize hAe : va_A [(o0, .inr (4, [.ref o1, .int 0, .int 1]))] s.heap.size = A at hD ⊢
  have hA : ∀ q : Nat, s.heap.size ≤ q → A q := fun q h => by rw [← hAe]; exact Or.inr h
  have hS : va_S A s.heap s.heap [] := va_S.rf
  have hP : va_P (dC, dI) vwCl [(o0, .inr (4, [.ref o1, .int 0, .int 1]))] s.heap := hP
  have hl := lv_entry ([.ref o0]) (n := 1) (Nat.le_of_ble_eq_true rfl)
  rw [lg_entry_eq]
  generalize (lg_sl ([.ref o0]) ++ List.replicate (1 - (lg_sl ([.ref o0])).length) Slot.unset).toArray = ls at hl ⊢
  have hl : lv_has ls 1 [(0, .ref o0)] := hl
  refine lv_iconst (v := 1) hx hb dX4_all_0 (by decide) ?_
  refine lv_aload_n hx hb dX4_all_1 rfl (lv_at hl 0 rfl) ?_
  refine va_get (D := (dC, dI)) (ci := 4) (v := .int 0) (C := RX4) (T := TX4) (N := 3) hx hb hts iw_X4_all_X4 hown hK hP 0 rfl rfl 1 (by decide) (hts (.fieldLink RX4 15 "HolelessHouse$Graph" "size" "I") (by decide +kernel)) (fun _ h9 => h9) rfl dX4_all_2 ?_
  refine lv_ishl hx hb dX4_all_5 (tk_i (v := 1) (by decide +kernel) ?_)
  refine lv_iconst (v := 1) hx hb dX4_all_6 (by decide) ?_
  refine lv_isub hx hb dX4_all_7 (tk_i (v := 0) (by decide +kernel) ?_)
  have hP9 := hP.sub (ws' := [(o0, .inr (4, [.ref o1, .int 0, .int 1]))]) [0] rfl
  have hD9 := hD.sub (ws' := [(o0, .inr (4, [.ref o1, .int 0, .int 1]))]) [0] (by decide) rfl
  exact W.iret (v := 0) hx hb hr (fun t ht hW => ⟨⟨0, (), rfl, rfl, by rw [ht]; exact hP9, va_K.moved hW.alike hK, hD9⟩, hS.F ht⟩) hS.2.2 dX4_all_8
set_option maxHeartbeats 1000000 in
set_option maxRecDepth 100000 in
theorem kX6_keepDrafted_2 (l : Launch) (dC : Nat → ClassId) (dI : Nat → Nat → Nat) (cI c2 : ClassId) (o0 : Nat) (o1 : Nat) (o2 : Nat) (o3 : Nat) (o4 : Nat) (sz : Nat) : Met l yX6_keepDrafted wsX6_keepDrafted ({ frames := 0, cells := 0, slots := 0, locals := 0 }) (va_Pc [.ref o0, .int 0] (wPre (dC, dI) [(cI, .int), (c2, .array .int)] [(o0, .inr (6, [.ref o1, .ref o2, .ref o3, .ref o4, .int 0, .int 0, .int 0, .int 0, .int 0]))] sz)) (va_Qv (fun (_ : Unit) => True) (fun _ t => wPost (dC, dI) [(cI, .int), (c2, .array .int)] (va_A [(o0, .inr (6, [.ref o1, .ref o2, .ref o3, .ref o4, .int 0, .int 0, .int 0, .int 0, .int 0]))] sz) [(o0, .inr (6, [.ref o1, .ref o2, .ref o3, .ref o4, .int 0, .int 0, .int 0, .int 0, .int 0]))] t) (va_A [(o0, .inr (6, [.ref o1, .ref o2, .ref o3, .ref o4, .int 0, .int 0, .int 0, .int 0, .int 0]))] sz)) 0 0 (va_A [(o0, .inr (6, [.ref o1, .ref o2, .ref o3, .ref o4, .int 0, .int 0, .int 0, .int 0, .int 0]))] sz) := by
  refine Met.ofW (cc := cX6_keepDrafted) (maxL := 4) (ret := none) (by decide) rfl ?_
  intro p e s m args below meth c s₁ B hml hv
  obtain ⟨rfl, hsz, hP, hK, hD0, hN⟩ := hv
  have hx := B.exec
  have hb := B.bytes
  have hr := B.returns
  have hts := atoms_spec (ws := wsX6_keepDrafted) B.pre
  have hown : s.vm.findClass RX6 = some m.cls := findClass_of_methodNamed B.named
  have hlocks := B.notSynchronized
  subst hsz
  have hD := hD0.self (sz := s.heap.size)
  generalize hAe : va_A [(o0, .inr (6, [.ref o1, .ref o2, .ref o3, .ref o4, .int 0, .int 0, .int 0, .int 0, .int 0]))] s.heap.size = A at hD ⊢
  have hA : ∀ q : Nat, s.heap.size ≤ q → A q := fun q h => by rw [← hAe]; exact Or.inr h
  have hS : va_S A s.heap s.heap [] := va_S.rf
  have hP : va_P (dC, dI) vwCl [(o0, .inr (6, [.ref o1, .ref o2, .ref o3, .ref o4, .int 0, .int 0, .int 0, .int 0, .int 0]))] s.heap := hP
  have hl := lv_entry ([.ref o0, .int 0]) (n := 4) (Nat.le_of_ble_eq_true rfl)
  rw [lg_entry_eq]
  generalize (lg_sl ([.ref o0, .int 0]) ++ List.replicate (4 - (lg_sl ([.ref o0, .int 0])).length) Slot.unset).toArray = ls at hl ⊢
  have hl : lv_has ls 4 [(0, .ref o0), (1, .int 0)] := hl
  refine lv_iconst (v := 0) hx hb dX6_keepDrafted_0 (by decide) ?_
  refine lv_istore_n (lv' := [(2, .int 0), (0, .ref o0), (1, .int 0)]) hx hb dX6_keepDrafted_1 rfl hl (by decide) rfl (fun ls hl => ?_)
  refine lv_iconst (v := 0) hx hb dX6_keepDrafted_2 (by decide) ?_
  refine lv_istore_n (lv' := [(3, .int 0), (2, .int 0), (0, .ref o0), (1, .int 0)]) hx hb dX6_keepDrafted_3 rfl hl (by decide) rfl (fun ls hl => ?_)
  refine lv_iload_n hx hb dX6_keepDrafted_4 rfl (lv_at hl 0 rfl) ?_
  refine lv_aload_n hx hb dX6_keepDrafted_5 rfl (lv_at hl 2 rfl) ?_
  refine va_get (D := (dC, dI)) (ci := 6) (v := .int 0) (C := RX6) (T := TX6) (N := 9) hx hb hts iw_X6_keepDrafted_X6 hown hK hP 0 rfl rfl 4 (by decide) (hts (.fieldLink RX6 32 "HolelessHouse$Ordering" "draftSize" "I") (by decide +kernel)) (fun _ h9 => h9) rfl dX6_keepDrafted_6 ?_
  refine lv_icmp_ge (tgt := 46) hx hb dX6_keepDrafted_9 (by decide) (fun _ => ?_) (fun h9 => absurd (by decide +kernel) h9)
  refine lv_aload_n hx hb dX6_keepDrafted_46 rfl (lv_at hl 2 rfl) ?_
  refine lv_iload_n hx hb dX6_keepDrafted_47 rfl (lv_at hl 1 rfl) ?_
  refine va_put (D := (dC, dI)) (ci := 6) (v := .int 0) (ty := .int) (C := RX6) (T := TX6) (N := 9) hx hb hts iw_X6_keepDrafted_X6 tyX6 tyX6_ok nmX6 hown hK hP hD hS 0 rfl rfl 4 (by decide) (hts (.fieldLink RX6 32 "HolelessHouse$Ordering" "draftSize" "I") (by decide +kernel)) (fun _ h9 => h9) rfl (by decide +kernel) rfl rfl (Nat.le_of_ble_eq_true rfl) dX6_keepDrafted_48 (fun H locs hP hD hS => ?_)
  have hP : va_P (dC, dI) vwCl [(o0, .inr (6, [.ref o1, .ref o2, .ref o3, .ref o4, .int 0, .int 0, .int 0, .int 0, .int 0]))] H := hP
  have hD : va_D A [(o0, .inr (6, [.ref o1, .ref o2, .ref o3, .ref o4, .int 0, .int 0, .int 0, .int 0, .int 0]))] := hD
  have hP9 := hP.sub (ws' := [(o0, .inr (6, [.ref o1, .ref o2, .ref o3, .ref o4, .int 0, .int 0, .int 0, .int 0, .int 0]))]) [0] rfl
  have hD9 := hD.sub (ws' := [(o0, .inr (6, [.ref o1, .ref o2, .ref o3, .ref o4, .int 0, .int 0, .int 0, .int 0, .int 0]))]) [0] (by decide) rfl
  exact W.vret hx hb hr (fun t ht hW => ⟨⟨(), rfl, trivial, by rw [ht]; exact hP9, va_K.moved hW.alike hK, hD9⟩, hS.F ht⟩) hS.2.2 dX6_keepDrafted_51
set_option maxHeartbeats 1000000 in
set_option maxRecDepth 100000 in
theorem kX11_startGraph_2 (l : Launch) (dC : Nat → ClassId) (dI : Nat → Nat → Nat) (cI c2 : ClassId) (o0 : Nat) (o1 : Nat) (o2 : Nat) (o3 : Nat) (o4 : Nat) (o5 : Nat) (o6 : Nat) (o7 : Nat) (o8 : Nat) (o9 : Nat) (o10 : Nat) (o11 : Nat) (o12 : Nat) (o13 : Nat) (o14 : Nat) (o15 : Nat) (o16 : Nat) (o17 : Nat) (sz : Nat) : Met l yX11_startGraph wsX11_startGraph ({ frames := 2, cells := 0, slots := 0, locals := 44 }) (va_Pc [.ref o0, .int 0] (wPre (dC, dI) [(cI, .int), (c2, .array .int)] [(o0, .inr (11, [.ref o1, .ref o4, .ref o3, .ref o5, .ref o6, .ref o7, .ref o8, .ref o9, .ref o10, .ref o11, .ref o12, .ref o13, .int 0])), (o1, .inr (4, [.ref o2, .int 0, .int 0])), (o2, .inl (cI, 12, .inl (fun _ => 0))), (o3, .inr (6, [.ref o14, .ref o15, .ref o16, .ref o17, .int 0, .int 0, .int 0, .int 0, .int 0]))] sz)) (va_Qv (fun (_ : Unit) => True) (fun _ t => wPost (dC, dI) [(cI, .int), (c2, .array .int)] (va_A [(o0, .inr (11, [.ref o1, .ref o4, .ref o3, .ref o5, .ref o6, .ref o7, .ref o8, .ref o9, .ref o10, .ref o11, .ref o12, .ref o13, .int 0])), (o1, .inr (4, [.ref o2, .int 0, .int 0])), (o2, .inl (cI, 12, .inl (fun _ => 0))), (o3, .inr (6, [.ref o14, .ref o15, .ref o16, .ref o17, .int 0, .int 0, .int 0, .int 0, .int 0]))] sz) [(o0, .inr (11, [.ref o1, .ref o4, .ref o3, .ref o5, .ref o6, .ref o7, .ref o8, .ref o9, .ref o10, .ref o11, .ref o12, .ref o13, .int 0])), (o2, .inl (cI, 12, .inl (fun _ => 0))), (o1, .inr (4, [.ref o2, .int 0, .int 1])), (o3, .inr (6, [.ref o14, .ref o15, .ref o16, .ref o17, .int 0, .int 0, .int 0, .int 0, .int 0]))] t) (va_A [(o0, .inr (11, [.ref o1, .ref o4, .ref o3, .ref o5, .ref o6, .ref o7, .ref o8, .ref o9, .ref o10, .ref o11, .ref o12, .ref o13, .int 0])), (o1, .inr (4, [.ref o2, .int 0, .int 0])), (o2, .inl (cI, 12, .inl (fun _ => 0))), (o3, .inr (6, [.ref o14, .ref o15, .ref o16, .ref o17, .int 0, .int 0, .int 0, .int 0, .int 0]))] sz)) 0 0 (va_A [(o0, .inr (11, [.ref o1, .ref o4, .ref o3, .ref o5, .ref o6, .ref o7, .ref o8, .ref o9, .ref o10, .ref o11, .ref o12, .ref o13, .int 0])), (o1, .inr (4, [.ref o2, .int 0, .int 0])), (o2, .inl (cI, 12, .inl (fun _ => 0))), (o3, .inr (6, [.ref o14, .ref o15, .ref o16, .ref o17, .int 0, .int 0, .int 0, .int 0, .int 0]))] sz) := by
  refine Met.ofW (cc := cX11_startGraph) (maxL := 2) (ret := none) (by decide) rfl ?_
  intro p e s m args below meth c s₁ B hml hv
  obtain ⟨rfl, hsz, hP, hK, hD0, hN⟩ := hv
  have hx := B.exec
  have hb := B.bytes
  have hr := B.returns
  have hts := atoms_spec (ws := wsX11_startGraph) B.pre
  have hown : s.vm.findClass RX11 = some m.cls := findClass_of_methodNamed B.named
  have hlocks := B.notSynchronized
  subst hsz
  have hD := hD0.self (sz := s.heap.size)
  generalize hAe : va_A [(o0, .inr (11, [.ref o1, .ref o4, .ref o3, .ref o5, .ref o6, .ref o7, .ref o8, .ref o9, .ref o10, .ref o11, .ref o12, .ref o13, .int 0])), (o1, .inr (4, [.ref o2, .int 0, .int 0])), (o2, .inl (cI, 12, .inl (fun _ => 0))), (o3, .inr (6, [.ref o14, .ref o15, .ref o16, .ref o17, .int 0, .int 0, .int 0, .int 0, .int 0]))] s.heap.size = A at hD ⊢
  have hA : ∀ q : Nat, s.heap.size ≤ q → A q := fun q h => by rw [← hAe]; exact Or.inr h
  have hS : va_S A s.heap s.heap [] := va_S.rf
  have hP : va_P (dC, dI) vwCl [(o0, .inr (11, [.ref o1, .ref o4, .ref o3, .ref o5, .ref o6, .ref o7, .ref o8, .ref o9, .ref o10, .ref o11, .ref o12, .ref o13, .int 0])), (o1, .inr (4, [.ref o2, .int 0, .int 0])), (o2, .inl (cI, 12, .inl (fun _ => 0))), (o3, .inr (6, [.ref o14, .ref o15, .ref o16, .ref o17, .int 0, .int 0, .int 0, .int 0, .int 0]))] s.heap := hP
  have hl := lv_entry ([.ref o0, .int 0]) (n := 2) (Nat.le_of_ble_eq_true rfl)
  rw [lg_entry_eq]
  generalize (lg_sl ([.ref o0, .int 0]) ++ List.replicate (2 - (lg_sl ([.ref o0, .int 0])).length) Slot.unset).toArray = ls at hl ⊢
  have hl : lv_has ls 2 [(0, .ref o0), (1, .int 0)] := hl
  refine lv_aload_n hx hb dX11_startGraph_0 rfl (lv_at hl 0 rfl) ?_
  refine va_get (D := (dC, dI)) (ci := 11) (v := .ref o1) (C := RX11) (T := TX11) (N := 13) hx hb hts iw_X11_startGraph_X11 hown hK hP 0 rfl rfl 0 (by decide) (hts (.fieldLink RX11 10 "HolelessHouse" "graph" "LHolelessHouse$Graph;") (by decide +kernel)) (fun _ h9 => h9) rfl dX11_startGraph_1 ?_
  refine lv_iload_n hx hb dX11_startGraph_4 rfl (lv_at hl 1 rfl) ?_
  refine kcall_v (D := (dC, dI)) (S := Unit) (wc := [(o1, .inr (4, [.ref o2, .int 0, .int 0])), (o2, .inl (cI, 12, .inl (fun _ => 0)))]) (wr := [(o0, .inr (11, [.ref o1, .ref o4, .ref o3, .ref o5, .ref o6, .ref o7, .ref o8, .ref o9, .ref o10, .ref o11, .ref o12, .ref o13, .int 0])), (o3, .inr (6, [.ref o14, .ref o15, .ref o16, .ref o17, .int 0, .int 0, .int 0, .int 0, .int 0]))]) (w1 := fun _ => [(o1, .inr (4, [.ref o2, .int 0, .int 1])), (o2, .inl (cI, 12, .inl (fun _ => 0)))]) (fun hPc hDc => va_runVN (As := [.int 0]) (rest := []) ⟨hx, hb, hml, hown, hts⟩ (kX4_restart_2 l dC dI cI c2 o1 o2 s.heap.size) ⟨va_cnB 1 hts gX11_startGraph_X4_restart_n290 rfl rfl rfl (hN.1 _ ns_61) (hts (.initialized RX4) (by decide +kernel)) (by decide +kernel) ⟨Nat.le_of_ble_eq_true rfl, Nat.le_of_ble_eq_true rfl⟩, (hts (.instanceMethod yX4_restart) (by decide +kernel)), (hts (.selects RX4 yX4_restart yX4_restart) (by decide +kernel))⟩ (pre_V hPc hK hDc hN (ci := 4) (q0 := 0) rfl rfl) rfl rfl hl.1 rfl (lv_room (Nat.le_of_ble_eq_true rfl)) dX11_startGraph_5 ⟨Nat.le_of_ble_eq_true rfl, Nat.le_of_ble_eq_true rfl⟩) hP hD hS hA [1, 2] [0, 3] rfl rfl (by decide) (by decide) (by decide) (fun u H locs hP hD hS => ?_)
  have hP : va_P (dC, dI) vwCl [(o0, .inr (11, [.ref o1, .ref o4, .ref o3, .ref o5, .ref o6, .ref o7, .ref o8, .ref o9, .ref o10, .ref o11, .ref o12, .ref o13, .int 0])), (o3, .inr (6, [.ref o14, .ref o15, .ref o16, .ref o17, .int 0, .int 0, .int 0, .int 0, .int 0])), (o1, .inr (4, [.ref o2, .int 0, .int 1])), (o2, .inl (cI, 12, .inl (fun _ => 0)))] H := hP
  have hD : va_D A [(o0, .inr (11, [.ref o1, .ref o4, .ref o3, .ref o5, .ref o6, .ref o7, .ref o8, .ref o9, .ref o10, .ref o11, .ref o12, .ref o13, .int 0])), (o3, .inr (6, [.ref o14, .ref o15, .ref o16, .ref o17, .int 0, .int 0, .int 0, .int 0, .int 0])), (o1, .inr (4, [.ref o2, .int 0, .int 1])), (o2, .inl (cI, 12, .inl (fun _ => 0)))] := hD
  refine lv_aload_n hx hb dX11_startGraph_8 rfl (lv_at hl 0 rfl) ?_
  refine va_get (D := (dC, dI)) (ci := 11) (v := .ref o3) (C := RX11) (T := TX11) (N := 13) hx hb hts iw_X11_startGraph_X11 hown hK hP 0 rfl rfl 2 (by decide) (hts (.fieldLink RX11 26 "HolelessHouse" "ordering" "LHolelessHouse$Ordering;") (by decide +kernel)) (fun _ h9 => h9) rfl dX11_startGraph_9 ?_
  refine kcall_v (D := (dC, dI)) (S := Unit) (wc := [(o3, .inr (6, [.ref o14, .ref o15, .ref o16, .ref o17, .int 0, .int 0, .int 0, .int 0, .int 0]))]) (wr := [(o0, .inr (11, [.ref o1, .ref o4, .ref o3, .ref o5, .ref o6, .ref o7, .ref o8, .ref o9, .ref o10, .ref o11, .ref o12, .ref o13, .int 0])), (o1, .inr (4, [.ref o2, .int 0, .int 1])), (o2, .inl (cI, 12, .inl (fun _ => 0)))]) (w1 := fun _ => [(o3, .inr (6, [.ref o14, .ref o15, .ref o16, .ref o17, .int 0, .int 0, .int 0, .int 0, .int 0]))]) (fun hPc hDc => va_runVN (As := []) (rest := []) ⟨hx, hb, hml, hown, hts⟩ (kX6_drop_1 l dC dI cI c2 o3 o14 o15 o16 o17 H.size) ⟨va_cnB 0 hts gX11_startGraph_X6_drop_n105 rfl rfl rfl (hN.1 _ ns_62) (hts (.initialized RX6) (by decide +kernel)) (by decide +kernel) ⟨Nat.le_of_ble_eq_true rfl, Nat.le_of_ble_eq_true rfl⟩, (hts (.instanceMethod yX6_drop) (by decide +kernel)), (hts (.selects RX6 yX6_drop yX6_drop) (by decide +kernel))⟩ (pre_V hPc hK hDc hN (ci := 6) (q0 := 0) rfl rfl) rfl rfl hl.1 rfl (lv_room (Nat.le_of_ble_eq_true rfl)) dX11_startGraph_12 ⟨Nat.le_of_ble_eq_true rfl, Nat.le_of_ble_eq_true rfl⟩) hP hD hS hA [1] [0, 2, 3] rfl rfl (by decide) (by decide) (by decide) (fun u H locs hP hD hS => ?_)
  have hP : va_P (dC, dI) vwCl [(o0, .inr (11, [.ref o1, .ref o4, .ref o3, .ref o5, .ref o6, .ref o7, .ref o8, .ref o9, .ref o10, .ref o11, .ref o12, .ref o13, .int 0])), (o1, .inr (4, [.ref o2, .int 0, .int 1])), (o2, .inl (cI, 12, .inl (fun _ => 0))), (o3, .inr (6, [.ref o14, .ref o15, .ref o16, .ref o17, .int 0, .int 0, .int 0, .int 0, .int 0]))] H := hP
  have hD : va_D A [(o0, .inr (11, [.ref o1, .ref o4, .ref o3, .ref o5, .ref o6, .ref o7, .ref o8, .ref o9, .ref o10, .ref o11, .ref o12, .ref o13, .int 0])), (o1, .inr (4, [.ref o2, .int 0, .int 1])), (o2, .inl (cI, 12, .inl (fun _ => 0))), (o3, .inr (6, [.ref o14, .ref o15, .ref o16, .ref o17, .int 0, .int 0, .int 0, .int 0, .int 0]))] := hD
  refine lv_aload_n hx hb dX11_startGraph_15 rfl (lv_at hl 0 rfl) ?_
  refine va_get (D := (dC, dI)) (ci := 11) (v := .ref o3) (C := RX11) (T := TX11) (N := 13) hx hb hts iw_X11_startGraph_X11 hown hK hP 0 rfl rfl 2 (by decide) (hts (.fieldLink RX11 26 "HolelessHouse" "ordering" "LHolelessHouse$Ordering;") (by decide +kernel)) (fun _ h9 => h9) rfl dX11_startGraph_16 ?_
  refine lv_aload_n hx hb dX11_startGraph_19 rfl (lv_at hl 0 rfl) ?_
  refine va_get (D := (dC, dI)) (ci := 11) (v := .ref o1) (C := RX11) (T := TX11) (N := 13) hx hb hts iw_X11_startGraph_X11 hown hK hP 0 rfl rfl 0 (by decide) (hts (.fieldLink RX11 10 "HolelessHouse" "graph" "LHolelessHouse$Graph;") (by decide +kernel)) (fun _ h9 => h9) rfl dX11_startGraph_20 ?_
  refine kcall_i (D := (dC, dI)) (S := Unit) (v := 0) (wc := [(o1, .inr (4, [.ref o2, .int 0, .int 1]))]) (wr := [(o0, .inr (11, [.ref o1, .ref o4, .ref o3, .ref o5, .ref o6, .ref o7, .ref o8, .ref o9, .ref o10, .ref o11, .ref o12, .ref o13, .int 0])), (o2, .inl (cI, 12, .inl (fun _ => 0))), (o3, .inr (6, [.ref o14, .ref o15, .ref o16, .ref o17, .int 0, .int 0, .int 0, .int 0, .int 0]))]) (w1 := fun _ => [(o1, .inr (4, [.ref o2, .int 0, .int 1]))]) (fun hPc hDc => va_runVN (As := []) (rest := [.ref o3]) ⟨hx, hb, hml, hown, hts⟩ (kX4_all_3 l dC dI cI c2 o1 o2 H.size) ⟨va_cnB 0 hts gX11_startGraph_X4_all_n164 rfl rfl rfl (hN.1 _ ns_63) (hts (.initialized RX4) (by decide +kernel)) (by decide +kernel) ⟨Nat.le_of_ble_eq_true rfl, Nat.le_of_ble_eq_true rfl⟩, (hts (.instanceMethod yX4_all) (by decide +kernel)), (hts (.selects RX4 yX4_all yX4_all) (by decide +kernel))⟩ (pre_V hPc hK hDc hN (ci := 4) (q0 := 0) rfl rfl) rfl rfl hl.1 rfl (lv_room (Nat.le_of_ble_eq_true rfl)) dX11_startGraph_23 ⟨Nat.le_of_ble_eq_true rfl, Nat.le_of_ble_eq_true rfl⟩) hP hD hS hA [1] [0, 2, 3] rfl rfl (by decide) (by decide) (by decide) (fun u H locs hP hD hS => ?_)
  have hP : va_P (dC, dI) vwCl [(o0, .inr (11, [.ref o1, .ref o4, .ref o3, .ref o5, .ref o6, .ref o7, .ref o8, .ref o9, .ref o10, .ref o11, .ref o12, .ref o13, .int 0])), (o2, .inl (cI, 12, .inl (fun _ => 0))), (o3, .inr (6, [.ref o14, .ref o15, .ref o16, .ref o17, .int 0, .int 0, .int 0, .int 0, .int 0])), (o1, .inr (4, [.ref o2, .int 0, .int 1]))] H := hP
  have hD : va_D A [(o0, .inr (11, [.ref o1, .ref o4, .ref o3, .ref o5, .ref o6, .ref o7, .ref o8, .ref o9, .ref o10, .ref o11, .ref o12, .ref o13, .int 0])), (o2, .inl (cI, 12, .inl (fun _ => 0))), (o3, .inr (6, [.ref o14, .ref o15, .ref o16, .ref o17, .int 0, .int 0, .int 0, .int 0, .int 0])), (o1, .inr (4, [.ref o2, .int 0, .int 1]))] := hD
  refine kcall_v (D := (dC, dI)) (S := Unit) (wc := [(o3, .inr (6, [.ref o14, .ref o15, .ref o16, .ref o17, .int 0, .int 0, .int 0, .int 0, .int 0]))]) (wr := [(o0, .inr (11, [.ref o1, .ref o4, .ref o3, .ref o5, .ref o6, .ref o7, .ref o8, .ref o9, .ref o10, .ref o11, .ref o12, .ref o13, .int 0])), (o2, .inl (cI, 12, .inl (fun _ => 0))), (o1, .inr (4, [.ref o2, .int 0, .int 1]))]) (w1 := fun _ => [(o3, .inr (6, [.ref o14, .ref o15, .ref o16, .ref o17, .int 0, .int 0, .int 0, .int 0, .int 0]))]) (fun hPc hDc => va_runVN (As := [.int 0]) (rest := []) ⟨hx, hb, hml, hown, hts⟩ (kX6_keepDrafted_2 l dC dI cI c2 o3 o14 o15 o16 o17 H.size) ⟨va_cnB 1 hts gX11_startGraph_X6_keepDrafted_n291 rfl rfl rfl (hN.1 _ ns_64) (hts (.initialized RX6) (by decide +kernel)) (by decide +kernel) ⟨Nat.le_of_ble_eq_true rfl, Nat.le_of_ble_eq_true rfl⟩, (hts (.instanceMethod yX6_keepDrafted) (by decide +kernel)), (hts (.selects RX6 yX6_keepDrafted yX6_keepDrafted) (by decide +kernel))⟩ (pre_V hPc hK hDc hN (ci := 6) (q0 := 0) rfl rfl) rfl rfl hl.1 rfl (lv_room (Nat.le_of_ble_eq_true rfl)) dX11_startGraph_26 ⟨Nat.le_of_ble_eq_true rfl, Nat.le_of_ble_eq_true rfl⟩) hP hD hS hA [2] [0, 1, 3] rfl rfl (by decide) (by decide) (by decide) (fun u H locs hP hD hS => ?_)
  have hP : va_P (dC, dI) vwCl [(o0, .inr (11, [.ref o1, .ref o4, .ref o3, .ref o5, .ref o6, .ref o7, .ref o8, .ref o9, .ref o10, .ref o11, .ref o12, .ref o13, .int 0])), (o2, .inl (cI, 12, .inl (fun _ => 0))), (o1, .inr (4, [.ref o2, .int 0, .int 1])), (o3, .inr (6, [.ref o14, .ref o15, .ref o16, .ref o17, .int 0, .int 0, .int 0, .int 0, .int 0]))] H := hP
  have hD : va_D A [(o0, .inr (11, [.ref o1, .ref o4, .ref o3, .ref o5, .ref o6, .ref o7, .ref o8, .ref o9, .ref o10, .ref o11, .ref o12, .ref o13, .int 0])), (o2, .inl (cI, 12, .inl (fun _ => 0))), (o1, .inr (4, [.ref o2, .int 0, .int 1])), (o3, .inr (6, [.ref o14, .ref o15, .ref o16, .ref o17, .int 0, .int 0, .int 0, .int 0, .int 0]))] := hD
  have hP9 := hP.sub (ws' := [(o0, .inr (11, [.ref o1, .ref o4, .ref o3, .ref o5, .ref o6, .ref o7, .ref o8, .ref o9, .ref o10, .ref o11, .ref o12, .ref o13, .int 0])), (o2, .inl (cI, 12, .inl (fun _ => 0))), (o1, .inr (4, [.ref o2, .int 0, .int 1])), (o3, .inr (6, [.ref o14, .ref o15, .ref o16, .ref o17, .int 0, .int 0, .int 0, .int 0, .int 0]))]) [0, 1, 2, 3] rfl
  have hD9 := hD.sub (ws' := [(o0, .inr (11, [.ref o1, .ref o4, .ref o3, .ref o5, .ref o6, .ref o7, .ref o8, .ref o9, .ref o10, .ref o11, .ref o12, .ref o13, .int 0])), (o2, .inl (cI, 12, .inl (fun _ => 0))), (o1, .inr (4, [.ref o2, .int 0, .int 1])), (o3, .inr (6, [.ref o14, .ref o15, .ref o16, .ref o17, .int 0, .int 0, .int 0, .int 0, .int 0]))]) [0, 1, 2, 3] (by decide) rfl
  exact W.vret hx hb hr (fun t ht hW => ⟨⟨(), rfl, trivial, by rw [ht]; exact hP9, va_K.moved hW.alike hK, hD9⟩, hS.F ht⟩) hS.2.2 dX11_startGraph_29
theorem iw_X11_fromTable_X10 : ∀ w ∈ wsX100, w ∈ wsX11_fromTable := by decide +kernel
theorem iw_X11_fromTable_X11 : ∀ w ∈ wsX110, w ∈ wsX11_fromTable := by decide +kernel
theorem iw_X11_fromTable_X4 : ∀ w ∈ wsX40, w ∈ wsX11_fromTable := by decide +kernel
set_option maxHeartbeats 1000000 in
set_option maxRecDepth 100000 in
theorem kX11_fromTable_1 (l : Launch) (dC : Nat → ClassId) (dI : Nat → Nat → Nat) (cI c2 : ClassId) (o0 : Nat) (o1 : Nat) (o2 : Nat) (o3 : Nat) (o4 : Nat) (o5 : Nat) (o6 : Nat) (o7 : Nat) (o8 : Nat) (o9 : Nat) (o10 : Nat) (o11 : Nat) (o12 : Nat) (o13 : Nat) (o14 : Nat) (o15 : Nat) (o16 : Nat) (o17 : Nat) (o18 : Nat) (sz : Nat) : Met l yX11_fromTable wsX11_fromTable ({ frames := 3, cells := 0, slots := 0, locals := 65 }) (va_Pc [.ref o0] (wPre (dC, dI) [(cI, .int), (c2, .array .int)] [(o0, .inr (11, [.ref o2, .ref o1, .ref o4, .ref o6, .ref o7, .ref o8, .ref o9, .ref o10, .ref o11, .ref o12, .ref o13, .ref o14, .int 0])), (o1, .inr (10, [.ref o5, .int 0, .int 0])), (o2, .inr (4, [.ref o3, .int 0, .int 0])), (o3, .inl (cI, 12, .inl (fun _ => 0))), (o4, .inr (6, [.ref o15, .ref o16, .ref o17, .ref o18, .int 0, .int 0, .int 0, .int 0, .int 0])), (o5, .inl (cI, 12, .inl (fun _ => (-1))))] sz)) (va_Qi (fun (r : Int32) (_ : Unit) => r = 0) (fun _ t => wPost (dC, dI) [(cI, .int), (c2, .array .int)] (va_A [(o0, .inr (11, [.ref o2, .ref o1, .ref o4, .ref o6, .ref o7, .ref o8, .ref o9, .ref o10, .ref o11, .ref o12, .ref o13, .ref o14, .int 0])), (o1, .inr (10, [.ref o5, .int 0, .int 0])), (o2, .inr (4, [.ref o3, .int 0, .int 0])), (o3, .inl (cI, 12, .inl (fun _ => 0))), (o4, .inr (6, [.ref o15, .ref o16, .ref o17, .ref o18, .int 0, .int 0, .int 0, .int 0, .int 0])), (o5, .inl (cI, 12, .inl (fun _ => (-1))))] sz) [] t) (va_A [(o0, .inr (11, [.ref o2, .ref o1, .ref o4, .ref o6, .ref o7, .ref o8, .ref o9, .ref o10, .ref o11, .ref o12, .ref o13, .ref o14, .int 0])), (o1, .inr (10, [.ref o5, .int 0, .int 0])), (o2, .inr (4, [.ref o3, .int 0, .int 0])), (o3, .inl (cI, 12, .inl (fun _ => 0))), (o4, .inr (6, [.ref o15, .ref o16, .ref o17, .ref o18, .int 0, .int 0, .int 0, .int 0, .int 0])), (o5, .inl (cI, 12, .inl (fun _ => (-1))))] sz)) 0 0 (va_A [(o0, .inr (11, [.ref o2, .ref o1, .ref o4, .ref o6, .ref o7, .ref o8, .ref o9, .ref o10, .ref o11, .ref o12, .ref o13, .ref o14, .int 0])), (o1, .inr (10, [.ref o5, .int 0, .int 0])), (o2, .inr (4, [.ref o3, .int 0, .int 0])), (o3, .inl (cI, 12, .inl (fun _ => 0))), (o4, .inr (6, [.ref o15, .ref o16, .ref o17, .ref o18, .int 0, .int 0, .int 0, .int 0, .int 0])), (o5, .inl (cI, 12, .inl (fun _ => (-1))))] sz) := by
  refine Met.ofW (cc := cX11_fromTable) (maxL := 2) (ret := (some .int)) (by decide) rfl ?_
  intro p e s m args below meth c s₁ B hml hv
  obtain ⟨rfl, hsz, hP, hK, hD0, hN⟩ := hv
  have hx := B.exec
  have hb := B.bytes
  have hr := B.returns
  have hts := atoms_spec (ws := wsX11_fromTable) B.pre
  have hown : s.vm.findClass RX11 = some m.cls := findClass_of_methodNamed B.named
  have hlocks := B.notSynchronized
  subst hsz
  have hD := hD0.self (sz := s.heap.size)
  generalize hAe : va_A [(o0, .inr (11, [.ref o2, .ref o1, .ref o4, .ref o6, .ref o7, .ref o8, .ref o9, .ref o10, .ref o11, .ref o12, .ref o13, .ref o14, .int 0])), (o1, .inr (10, [.ref o5, .int 0, .int 0])), (o2, .inr (4, [.ref o3, .int 0, .int 0])), (o3, .inl (cI, 12, .inl (fun _ => 0))), (o4, .inr (6, [.ref o15, .ref o16, .ref o17, .ref o18, .int 0, .int 0, .int 0, .int 0, .int 0])), (o5, .inl (cI, 12, .inl (fun _ => (-1))))] s.heap.size = A at hD ⊢
  have hA : ∀ q : Nat, s.heap.size ≤ q → A q := fun q h => by rw [← hAe]; exact Or.inr h
  have hS : va_S A s.heap s.heap [] := va_S.rf
  have hP : va_P (dC, dI) vwCl [(o0, .inr (11, [.ref o2, .ref o1, .ref o4, .ref o6, .ref o7, .ref o8, .ref o9, .ref o10, .ref o11, .ref o12, .ref o13, .ref o14, .int 0])), (o1, .inr (10, [.ref o5, .int 0, .int 0])), (o2, .inr (4, [.ref o3, .int 0, .int 0])), (o3, .inl (cI, 12, .inl (fun _ => 0))), (o4, .inr (6, [.ref o15, .ref o16, .ref o17, .ref o18, .int 0, .int 0, .int 0, .int 0, .int 0])), (o5, .inl (cI, 12, .inl (fun _ => (-1))))] s.heap := hP
  have hl := lv_entry ([.ref o0]) (n := 2) (Nat.le_of_ble_eq_true rfl)
  rw [lg_entry_eq]
  generalize (lg_sl ([.ref o0]) ++ List.replicate (2 - (lg_sl ([.ref o0])).length) Slot.unset).toArray = ls at hl ⊢
  have hl : lv_has ls 2 [(0, .ref o0)] := hl
  refine lv_aload_n hx hb dX11_fromTable_0 rfl (lv_at hl 0 rfl) ?_
  refine lv_aload_n hx hb dX11_fromTable_1 rfl (lv_at hl 0 rfl) ?_
  refine va_get (D := (dC, dI)) (ci := 11) (v := .ref o1) (C := RX11) (T := TX11) (N := 13) hx hb hts iw_X11_fromTable_X11 hown hK hP 0 rfl rfl 1 (by decide) (hts (.fieldLink RX11 19 "HolelessHouse" "table" "LHolelessHouse$Table;") (by decide +kernel)) (fun _ h9 => h9) rfl dX11_fromTable_2 ?_
  refine va_getN (D := (dC, dI)) (ci := 10) (v := .int 0) (C := RX10) (T := TX10) (N := 3) hx hb hts iw_X11_fromTable_X10 hown hK hP 1 rfl rfl 1 (by decide) (hN.use ns_22) (fun _ h9 => h9) rfl dX11_fromTable_5 ?_
  refine kcall_v (D := (dC, dI)) (S := Unit) (wc := [(o0, .inr (11, [.ref o2, .ref o1, .ref o4, .ref o6, .ref o7, .ref o8, .ref o9, .ref o10, .ref o11, .ref o12, .ref o13, .ref o14, .int 0])), (o2, .inr (4, [.ref o3, .int 0, .int 0])), (o3, .inl (cI, 12, .inl (fun _ => 0))), (o4, .inr (6, [.ref o15, .ref o16, .ref o17, .ref o18, .int 0, .int 0, .int 0, .int 0, .int 0]))]) (wr := [(o1, .inr (10, [.ref o5, .int 0, .int 0])), (o5, .inl (cI, 12, .inl (fun _ => (-1))))]) (w1 := fun _ => [(o0, .inr (11, [.ref o2, .ref o1, .ref o4, .ref o6, .ref o7, .ref o8, .ref o9, .ref o10, .ref o11, .ref o12, .ref o13, .ref o14, .int 0])), (o3, .inl (cI, 12, .inl (fun _ => 0))), (o2, .inr (4, [.ref o3, .int 0, .int 1])), (o4, .inr (6, [.ref o15, .ref o16, .ref o17, .ref o18, .int 0, .int 0, .int 0, .int 0, .int 0]))]) (fun hPc hDc => va_runV (As := [.int 0]) (rest := []) ⟨hx, hb, hml, hown, hts⟩ (kX11_startGraph_2 l dC dI cI c2 o0 o2 o3 o4 o1 o6 o7 o8 o9 o10 o11 o12 o13 o14 o15 o16 o17 o18 s.heap.size) (cwV 1 hts gX11_fromTable_X11_startGraph rfl rfl rfl (by decide +kernel) ⟨Nat.le_of_ble_eq_true rfl, Nat.le_of_ble_eq_true rfl⟩) (pre_V hPc hK hDc hN (ci := 11) (q0 := 0) rfl rfl) rfl rfl hl.1 rfl (lv_room (Nat.le_of_ble_eq_true rfl)) dX11_fromTable_8 ⟨Nat.le_of_ble_eq_true rfl, Nat.le_of_ble_eq_true rfl⟩) hP hD hS hA [0, 2, 3, 4] [1, 5] rfl rfl (by decide) (by decide) (by decide) (fun u H locs hP hD hS => ?_)
  have hP : va_P (dC, dI) vwCl [(o1, .inr (10, [.ref o5, .int 0, .int 0])), (o5, .inl (cI, 12, .inl (fun _ => (-1)))), (o0, .inr (11, [.ref o2, .ref o1, .ref o4, .ref o6, .ref o7, .ref o8, .ref o9, .ref o10, .ref o11, .ref o12, .ref o13, .ref o14, .int 0])), (o3, .inl (cI, 12, .inl (fun _ => 0))), (o2, .inr (4, [.ref o3, .int 0, .int 1])), (o4, .inr (6, [.ref o15, .ref o16, .ref o17, .ref o18, .int 0, .int 0, .int 0, .int 0, .int 0]))] H := hP
  have hD : va_D A [(o1, .inr (10, [.ref o5, .int 0, .int 0])), (o5, .inl (cI, 12, .inl (fun _ => (-1)))), (o0, .inr (11, [.ref o2, .ref o1, .ref o4, .ref o6, .ref o7, .ref o8, .ref o9, .ref o10, .ref o11, .ref o12, .ref o13, .ref o14, .int 0])), (o3, .inl (cI, 12, .inl (fun _ => 0))), (o2, .inr (4, [.ref o3, .int 0, .int 1])), (o4, .inr (6, [.ref o15, .ref o16, .ref o17, .ref o18, .int 0, .int 0, .int 0, .int 0, .int 0]))] := hD
  refine lv_iconst (v := 0) hx hb dX11_fromTable_11 (by decide) ?_
  refine lv_istore_n (lv' := [(1, .int 0), (0, .ref o0)]) hx hb dX11_fromTable_12 rfl hl (by decide) rfl (fun ls hl => ?_)
  refine lv_iload_n hx hb dX11_fromTable_13 rfl (lv_at hl 0 rfl) ?_
  refine lv_bipush (v := 12) hx hb dX11_fromTable_14 (by decide) ?_
  refine lv_icmp_ge (tgt := 54) hx hb dX11_fromTable_16 (by decide) (fun h9 => absurd h9 (by decide +kernel)) (fun _ => ?_)
  refine lv_aload_n hx hb dX11_fromTable_19 rfl (lv_at hl 1 rfl) ?_
  refine va_get (D := (dC, dI)) (ci := 11) (v := .ref o1) (C := RX11) (T := TX11) (N := 13) hx hb hts iw_X11_fromTable_X11 hown hK hP 2 rfl rfl 1 (by decide) (hts (.fieldLink RX11 19 "HolelessHouse" "table" "LHolelessHouse$Table;") (by decide +kernel)) (fun _ h9 => h9) rfl dX11_fromTable_20 ?_
  refine va_getN (D := (dC, dI)) (ci := 10) (v := .ref o5) (C := RX10) (T := TX10) (N := 3) hx hb hts iw_X11_fromTable_X10 hown hK hP 0 rfl rfl 0 (by decide) (hN.use ns_21) (fun _ h9 => h9) rfl dX11_fromTable_23 ?_
  refine lv_iload_n hx hb dX11_fromTable_26 rfl (lv_at hl 0 rfl) ?_
  refine va_iald hx hb hK hP 1 0 rfl rfl (vin (by decide +kernel)) dX11_fromTable_27 (tk_i (v := (-1)) (by decide +kernel) ?_)
  refine lv_iconst (v := (-1)) hx hb dX11_fromTable_28 (by decide) ?_
  refine lv_icmp_eq (tgt := 48) hx hb dX11_fromTable_29 (by decide) (fun _ => ?_) (fun h9 => absurd (by decide +kernel) h9)
  refine lv_iinc (v := 1) (lv' := [(1, .int 1), (0, .ref o0)]) hx hb dX11_fromTable_48 hl (k := 0) rfl (by decide +kernel) (by decide) rfl (fun ls hl => ?_)
  refine lv_goto (tgt := 13) hx hb dX11_fromTable_51 (by decide) ?_
  refine lv_iload_n hx hb dX11_fromTable_13 rfl (lv_at hl 0 rfl) ?_
  refine lv_bipush (v := 12) hx hb dX11_fromTable_14 (by decide) ?_
  refine lv_icmp_ge (tgt := 54) hx hb dX11_fromTable_16 (by decide) (fun h9 => absurd h9 (by decide +kernel)) (fun _ => ?_)
  refine lv_aload_n hx hb dX11_fromTable_19 rfl (lv_at hl 1 rfl) ?_
  refine va_get (D := (dC, dI)) (ci := 11) (v := .ref o1) (C := RX11) (T := TX11) (N := 13) hx hb hts iw_X11_fromTable_X11 hown hK hP 2 rfl rfl 1 (by decide) (hts (.fieldLink RX11 19 "HolelessHouse" "table" "LHolelessHouse$Table;") (by decide +kernel)) (fun _ h9 => h9) rfl dX11_fromTable_20 ?_
  refine va_getN (D := (dC, dI)) (ci := 10) (v := .ref o5) (C := RX10) (T := TX10) (N := 3) hx hb hts iw_X11_fromTable_X10 hown hK hP 0 rfl rfl 0 (by decide) (hN.use ns_21) (fun _ h9 => h9) rfl dX11_fromTable_23 ?_
  refine lv_iload_n hx hb dX11_fromTable_26 rfl (lv_at hl 0 rfl) ?_
  refine va_iald hx hb hK hP 1 0 rfl rfl (vin (by decide +kernel)) dX11_fromTable_27 (tk_i (v := (-1)) (by decide +kernel) ?_)
  refine lv_iconst (v := (-1)) hx hb dX11_fromTable_28 (by decide) ?_
  refine lv_icmp_eq (tgt := 48) hx hb dX11_fromTable_29 (by decide) (fun _ => ?_) (fun h9 => absurd (by decide +kernel) h9)
  refine lv_iinc (v := 2) (lv' := [(1, .int 2), (0, .ref o0)]) hx hb dX11_fromTable_48 hl (k := 0) rfl (by decide +kernel) (by decide) rfl (fun ls hl => ?_)
  refine lv_goto (tgt := 13) hx hb dX11_fromTable_51 (by decide) ?_
  refine lv_iload_n hx hb dX11_fromTable_13 rfl (lv_at hl 0 rfl) ?_
  refine lv_bipush (v := 12) hx hb dX11_fromTable_14 (by decide) ?_
  refine lv_icmp_ge (tgt := 54) hx hb dX11_fromTable_16 (by decide) (fun h9 => absurd h9 (by decide +kernel)) (fun _ => ?_)
  refine lv_aload_n hx hb dX11_fromTable_19 rfl (lv_at hl 1 rfl) ?_
  refine va_get (D := (dC, dI)) (ci := 11) (v := .ref o1) (C := RX11) (T := TX11) (N := 13) hx hb hts iw_X11_fromTable_X11 hown hK hP 2 rfl rfl 1 (by decide) (hts (.fieldLink RX11 19 "HolelessHouse" "table" "LHolelessHouse$Table;") (by decide +kernel)) (fun _ h9 => h9) rfl dX11_fromTable_20 ?_
  refine va_getN (D := (dC, dI)) (ci := 10) (v := .ref o5) (C := RX10) (T := TX10) (N := 3) hx hb hts iw_X11_fromTable_X10 hown hK hP 0 rfl rfl 0 (by decide) (hN.use ns_21) (fun _ h9 => h9) rfl dX11_fromTable_23 ?_
  refine lv_iload_n hx hb dX11_fromTable_26 rfl (lv_at hl 0 rfl) ?_
  refine va_iald hx hb hK hP 1 0 rfl rfl (vin (by decide +kernel)) dX11_fromTable_27 (tk_i (v := (-1)) (by decide +kernel) ?_)
  refine lv_iconst (v := (-1)) hx hb dX11_fromTable_28 (by decide) ?_
  refine lv_icmp_eq (tgt := 48) hx hb dX11_fromTable_29 (by decide) (fun _ => ?_) (fun h9 => absurd (by decide +kernel) h9)
  refine lv_iinc (v := 3) (lv' := [(1, .int 3), (0, .ref o0)]) hx hb dX11_fromTable_48 hl (k := 0) rfl (by decide +kernel) (by decide) rfl (fun ls hl => ?_)
  refine lv_goto (tgt := 13) hx hb dX11_fromTable_51 (by decide) ?_
  refine lv_iload_n hx hb dX11_fromTable_13 rfl (lv_at hl 0 rfl) ?_
  refine lv_bipush (v := 12) hx hb dX11_fromTable_14 (by decide) ?_
  refine lv_icmp_ge (tgt := 54) hx hb dX11_fromTable_16 (by decide) (fun h9 => absurd h9 (by decide +kernel)) (fun _ => ?_)
  refine lv_aload_n hx hb dX11_fromTable_19 rfl (lv_at hl 1 rfl) ?_
  refine va_get (D := (dC, dI)) (ci := 11) (v := .ref o1) (C := RX11) (T := TX11) (N := 13) hx hb hts iw_X11_fromTable_X11 hown hK hP 2 rfl rfl 1 (by decide) (hts (.fieldLink RX11 19 "HolelessHouse" "table" "LHolelessHouse$Table;") (by decide +kernel)) (fun _ h9 => h9) rfl dX11_fromTable_20 ?_
  refine va_getN (D := (dC, dI)) (ci := 10) (v := .ref o5) (C := RX10) (T := TX10) (N := 3) hx hb hts iw_X11_fromTable_X10 hown hK hP 0 rfl rfl 0 (by decide) (hN.use ns_21) (fun _ h9 => h9) rfl dX11_fromTable_23 ?_
  refine lv_iload_n hx hb dX11_fromTable_26 rfl (lv_at hl 0 rfl) ?_
  refine va_iald hx hb hK hP 1 0 rfl rfl (vin (by decide +kernel)) dX11_fromTable_27 (tk_i (v := (-1)) (by decide +kernel) ?_)
  refine lv_iconst (v := (-1)) hx hb dX11_fromTable_28 (by decide) ?_
  refine lv_icmp_eq (tgt := 48) hx hb dX11_fromTable_29 (by decide) (fun _ => ?_) (fun h9 => absurd (by decide +kernel) h9)
  refine lv_iinc (v := 4) (lv' := [(1, .int 4), (0, .ref o0)]) hx hb dX11_fromTable_48 hl (k := 0) rfl (by decide +kernel) (by decide) rfl (fun ls hl => ?_)
  refine lv_goto (tgt := 13) hx hb dX11_fromTable_51 (by decide) ?_
  refine lv_iload_n hx hb dX11_fromTable_13 rfl (lv_at hl 0 rfl) ?_
  refine lv_bipush (v := 12) hx hb dX11_fromTable_14 (by decide) ?_
  refine lv_icmp_ge (tgt := 54) hx hb dX11_fromTable_16 (by decide) (fun h9 => absurd h9 (by decide +kernel)) (fun _ => ?_)
  refine lv_aload_n hx hb dX11_fromTable_19 rfl (lv_at hl 1 rfl) ?_
  refine va_get (D := (dC, dI)) (ci := 11) (v := .ref o1) (C := RX11) (T := TX11) (N := 13) hx hb hts iw_X11_fromTable_X11 hown hK hP 2 rfl rfl 1 (by decide) (hts (.fieldLink RX11 19 "HolelessHouse" "table" "LHolelessHouse$Table;") (by decide +kernel)) (fun _ h9 => h9) rfl dX11_fromTable_20 ?_
  refine va_getN (D := (dC, dI)) (ci := 10) (v := .ref o5) (C := RX10) (T := TX10) (N := 3) hx hb hts iw_X11_fromTable_X10 hown hK hP 0 rfl rfl 0 (by decide) (hN.use ns_21) (fun _ h9 => h9) rfl dX11_fromTable_23 ?_
  refine lv_iload_n hx hb dX11_fromTable_26 rfl (lv_at hl 0 rfl) ?_
  refine va_iald hx hb hK hP 1 0 rfl rfl (vin (by decide +kernel)) dX11_fromTable_27 (tk_i (v := (-1)) (by decide +kernel) ?_)
  refine lv_iconst (v := (-1)) hx hb dX11_fromTable_28 (by decide) ?_
  refine lv_icmp_eq (tgt := 48) hx hb dX11_fromTable_29 (by decide) (fun _ => ?_) (fun h9 => absurd (by decide +kernel) h9)
  refine lv_iinc (v := 5) (lv' := [(1, .int 5), (0, .ref o0)]) hx hb dX11_fromTable_48 hl (k := 0) rfl (by decide +kernel) (by decide) rfl (fun ls hl => ?_)
  refine lv_goto (tgt := 13) hx hb dX11_fromTable_51 (by decide) ?_
  refine lv_iload_n hx hb dX11_fromTable_13 rfl (lv_at hl 0 rfl) ?_
  refine lv_bipush (v := 12) hx hb dX11_fromTable_14 (by decide) ?_
  refine lv_icmp_ge (tgt := 54) hx hb dX11_fromTable_16 (by decide) (fun h9 => absurd h9 (by decide +kernel)) (fun _ => ?_)
  refine lv_aload_n hx hb dX11_fromTable_19 rfl (lv_at hl 1 rfl) ?_
  refine va_get (D := (dC, dI)) (ci := 11) (v := .ref o1) (C := RX11) (T := TX11) (N := 13) hx hb hts iw_X11_fromTable_X11 hown hK hP 2 rfl rfl 1 (by decide) (hts (.fieldLink RX11 19 "HolelessHouse" "table" "LHolelessHouse$Table;") (by decide +kernel)) (fun _ h9 => h9) rfl dX11_fromTable_20 ?_
  refine va_getN (D := (dC, dI)) (ci := 10) (v := .ref o5) (C := RX10) (T := TX10) (N := 3) hx hb hts iw_X11_fromTable_X10 hown hK hP 0 rfl rfl 0 (by decide) (hN.use ns_21) (fun _ h9 => h9) rfl dX11_fromTable_23 ?_
  refine lv_iload_n hx hb dX11_fromTable_26 rfl (lv_at hl 0 rfl) ?_
  refine va_iald hx hb hK hP 1 0 rfl rfl (vin (by decide +kernel)) dX11_fromTable_27 (tk_i (v := (-1)) (by decide +kernel) ?_)
  refine lv_iconst (v := (-1)) hx hb dX11_fromTable_28 (by decide) ?_
  refine lv_icmp_eq (tgt := 48) hx hb dX11_fromTable_29 (by decide) (fun _ => ?_) (fun h9 => absurd (by decide +kernel) h9)
  refine lv_iinc (v := 6) (lv' := [(1, .int 6), (0, .ref o0)]) hx hb dX11_fromTable_48 hl (k := 0) rfl (by decide +kernel) (by decide) rfl (fun ls hl => ?_)
  refine lv_goto (tgt := 13) hx hb dX11_fromTable_51 (by decide) ?_
  refine lv_iload_n hx hb dX11_fromTable_13 rfl (lv_at hl 0 rfl) ?_
  refine lv_bipush (v := 12) hx hb dX11_fromTable_14 (by decide) ?_
  refine lv_icmp_ge (tgt := 54) hx hb dX11_fromTable_16 (by decide) (fun h9 => absurd h9 (by decide +kernel)) (fun _ => ?_)
  refine lv_aload_n hx hb dX11_fromTable_19 rfl (lv_at hl 1 rfl) ?_
  refine va_get (D := (dC, dI)) (ci := 11) (v := .ref o1) (C := RX11) (T := TX11) (N := 13) hx hb hts iw_X11_fromTable_X11 hown hK hP 2 rfl rfl 1 (by decide) (hts (.fieldLink RX11 19 "HolelessHouse" "table" "LHolelessHouse$Table;") (by decide +kernel)) (fun _ h9 => h9) rfl dX11_fromTable_20 ?_
  refine va_getN (D := (dC, dI)) (ci := 10) (v := .ref o5) (C := RX10) (T := TX10) (N := 3) hx hb hts iw_X11_fromTable_X10 hown hK hP 0 rfl rfl 0 (by decide) (hN.use ns_21) (fun _ h9 => h9) rfl dX11_fromTable_23 ?_
  refine lv_iload_n hx hb dX11_fromTable_26 rfl (lv_at hl 0 rfl) ?_
  refine va_iald hx hb hK hP 1 0 rfl rfl (vin (by decide +kernel)) dX11_fromTable_27 (tk_i (v := (-1)) (by decide +kernel) ?_)
  refine lv_iconst (v := (-1)) hx hb dX11_fromTable_28 (by decide) ?_
  refine lv_icmp_eq (tgt := 48) hx hb dX11_fromTable_29 (by decide) (fun _ => ?_) (fun h9 => absurd (by decide +kernel) h9)
  refine lv_iinc (v := 7) (lv' := [(1, .int 7), (0, .ref o0)]) hx hb dX11_fromTable_48 hl (k := 0) rfl (by decide +kernel) (by decide) rfl (fun ls hl => ?_)
  refine lv_goto (tgt := 13) hx hb dX11_fromTable_51 (by decide) ?_
  refine lv_iload_n hx hb dX11_fromTable_13 rfl (lv_at hl 0 rfl) ?_
  refine lv_bipush (v := 12) hx hb dX11_fromTable_14 (by decide) ?_
  refine lv_icmp_ge (tgt := 54) hx hb dX11_fromTable_16 (by decide) (fun h9 => absurd h9 (by decide +kernel)) (fun _ => ?_)
  refine lv_aload_n hx hb dX11_fromTable_19 rfl (lv_at hl 1 rfl) ?_
  refine va_get (D := (dC, dI)) (ci := 11) (v := .ref o1) (C := RX11) (T := TX11) (N := 13) hx hb hts iw_X11_fromTable_X11 hown hK hP 2 rfl rfl 1 (by decide) (hts (.fieldLink RX11 19 "HolelessHouse" "table" "LHolelessHouse$Table;") (by decide +kernel)) (fun _ h9 => h9) rfl dX11_fromTable_20 ?_
  refine va_getN (D := (dC, dI)) (ci := 10) (v := .ref o5) (C := RX10) (T := TX10) (N := 3) hx hb hts iw_X11_fromTable_X10 hown hK hP 0 rfl rfl 0 (by decide) (hN.use ns_21) (fun _ h9 => h9) rfl dX11_fromTable_23 ?_
  refine lv_iload_n hx hb dX11_fromTable_26 rfl (lv_at hl 0 rfl) ?_
  refine va_iald hx hb hK hP 1 0 rfl rfl (vin (by decide +kernel)) dX11_fromTable_27 (tk_i (v := (-1)) (by decide +kernel) ?_)
  refine lv_iconst (v := (-1)) hx hb dX11_fromTable_28 (by decide) ?_
  refine lv_icmp_eq (tgt := 48) hx hb dX11_fromTable_29 (by decide) (fun _ => ?_) (fun h9 => absurd (by decide +kernel) h9)
  refine lv_iinc (v := 8) (lv' := [(1, .int 8), (0, .ref o0)]) hx hb dX11_fromTable_48 hl (k := 0) rfl (by decide +kernel) (by decide) rfl (fun ls hl => ?_)
  refine lv_goto (tgt := 13) hx hb dX11_fromTable_51 (by decide) ?_
  refine lv_iload_n hx hb dX11_fromTable_13 rfl (lv_at hl 0 rfl) ?_
  refine lv_bipush (v := 12) hx hb dX11_fromTable_14 (by decide) ?_
  refine lv_icmp_ge (tgt := 54) hx hb dX11_fromTable_16 (by decide) (fun h9 => absurd h9 (by decide +kernel)) (fun _ => ?_)
  refine lv_aload_n hx hb dX11_fromTable_19 rfl (lv_at hl 1 rfl) ?_
  refine va_get (D := (dC, dI)) (ci := 11) (v := .ref o1) (C := RX11) (T := TX11) (N := 13) hx hb hts iw_X11_fromTable_X11 hown hK hP 2 rfl rfl 1 (by decide) (hts (.fieldLink RX11 19 "HolelessHouse" "table" "LHolelessHouse$Table;") (by decide +kernel)) (fun _ h9 => h9) rfl dX11_fromTable_20 ?_
  refine va_getN (D := (dC, dI)) (ci := 10) (v := .ref o5) (C := RX10) (T := TX10) (N := 3) hx hb hts iw_X11_fromTable_X10 hown hK hP 0 rfl rfl 0 (by decide) (hN.use ns_21) (fun _ h9 => h9) rfl dX11_fromTable_23 ?_
  refine lv_iload_n hx hb dX11_fromTable_26 rfl (lv_at hl 0 rfl) ?_
  refine va_iald hx hb hK hP 1 0 rfl rfl (vin (by decide +kernel)) dX11_fromTable_27 (tk_i (v := (-1)) (by decide +kernel) ?_)
  refine lv_iconst (v := (-1)) hx hb dX11_fromTable_28 (by decide) ?_
  refine lv_icmp_eq (tgt := 48) hx hb dX11_fromTable_29 (by decide) (fun _ => ?_) (fun h9 => absurd (by decide +kernel) h9)
  refine lv_iinc (v := 9) (lv' := [(1, .int 9), (0, .ref o0)]) hx hb dX11_fromTable_48 hl (k := 0) rfl (by decide +kernel) (by decide) rfl (fun ls hl => ?_)
  refine lv_goto (tgt := 13) hx hb dX11_fromTable_51 (by decide) ?_
  refine lv_iload_n hx hb dX11_fromTable_13 rfl (lv_at hl 0 rfl) ?_
  refine lv_bipush (v := 12) hx hb dX11_fromTable_14 (by decide) ?_
  refine lv_icmp_ge (tgt := 54) hx hb dX11_fromTable_16 (by decide) (fun h9 => absurd h9 (by decide +kernel)) (fun _ => ?_)
  refine lv_aload_n hx hb dX11_fromTable_19 rfl (lv_at hl 1 rfl) ?_
  refine va_get (D := (dC, dI)) (ci := 11) (v := .ref o1) (C := RX11) (T := TX11) (N := 13) hx hb hts iw_X11_fromTable_X11 hown hK hP 2 rfl rfl 1 (by decide) (hts (.fieldLink RX11 19 "HolelessHouse" "table" "LHolelessHouse$Table;") (by decide +kernel)) (fun _ h9 => h9) rfl dX11_fromTable_20 ?_
  refine va_getN (D := (dC, dI)) (ci := 10) (v := .ref o5) (C := RX10) (T := TX10) (N := 3) hx hb hts iw_X11_fromTable_X10 hown hK hP 0 rfl rfl 0 (by decide) (hN.use ns_21) (fun _ h9 => h9) rfl dX11_fromTable_23 ?_
  refine lv_iload_n hx hb dX11_fromTable_26 rfl (lv_at hl 0 rfl) ?_
  refine va_iald hx hb hK hP 1 0 rfl rfl (vin (by decide +kernel)) dX11_fromTable_27 (tk_i (v := (-1)) (by decide +kernel) ?_)
  refine lv_iconst (v := (-1)) hx hb dX11_fromTable_28 (by decide) ?_
  refine lv_icmp_eq (tgt := 48) hx hb dX11_fromTable_29 (by decide) (fun _ => ?_) (fun h9 => absurd (by decide +kernel) h9)
  refine lv_iinc (v := 10) (lv' := [(1, .int 10), (0, .ref o0)]) hx hb dX11_fromTable_48 hl (k := 0) rfl (by decide +kernel) (by decide) rfl (fun ls hl => ?_)
  refine lv_goto (tgt := 13) hx hb dX11_fromTable_51 (by decide) ?_
  refine lv_iload_n hx hb dX11_fromTable_13 rfl (lv_at hl 0 rfl) ?_
  refine lv_bipush (v := 12) hx hb dX11_fromTable_14 (by decide) ?_
  refine lv_icmp_ge (tgt := 54) hx hb dX11_fromTable_16 (by decide) (fun h9 => absurd h9 (by decide +kernel)) (fun _ => ?_)
  refine lv_aload_n hx hb dX11_fromTable_19 rfl (lv_at hl 1 rfl) ?_
  refine va_get (D := (dC, dI)) (ci := 11) (v := .ref o1) (C := RX11) (T := TX11) (N := 13) hx hb hts iw_X11_fromTable_X11 hown hK hP 2 rfl rfl 1 (by decide) (hts (.fieldLink RX11 19 "HolelessHouse" "table" "LHolelessHouse$Table;") (by decide +kernel)) (fun _ h9 => h9) rfl dX11_fromTable_20 ?_
  refine va_getN (D := (dC, dI)) (ci := 10) (v := .ref o5) (C := RX10) (T := TX10) (N := 3) hx hb hts iw_X11_fromTable_X10 hown hK hP 0 rfl rfl 0 (by decide) (hN.use ns_21) (fun _ h9 => h9) rfl dX11_fromTable_23 ?_
  refine lv_iload_n hx hb dX11_fromTable_26 rfl (lv_at hl 0 rfl) ?_
  refine va_iald hx hb hK hP 1 0 rfl rfl (vin (by decide +kernel)) dX11_fromTable_27 (tk_i (v := (-1)) (by decide +kernel) ?_)
  refine lv_iconst (v := (-1)) hx hb dX11_fromTable_28 (by decide) ?_
  refine lv_icmp_eq (tgt := 48) hx hb dX11_fromTable_29 (by decide) (fun _ => ?_) (fun h9 => absurd (by decide +kernel) h9)
  refine lv_iinc (v := 11) (lv' := [(1, .int 11), (0, .ref o0)]) hx hb dX11_fromTable_48 hl (k := 0) rfl (by decide +kernel) (by decide) rfl (fun ls hl => ?_)
  refine lv_goto (tgt := 13) hx hb dX11_fromTable_51 (by decide) ?_
  refine lv_iload_n hx hb dX11_fromTable_13 rfl (lv_at hl 0 rfl) ?_
  refine lv_bipush (v := 12) hx hb dX11_fromTable_14 (by decide) ?_
  refine lv_icmp_ge (tgt := 54) hx hb dX11_fromTable_16 (by decide) (fun h9 => absurd h9 (by decide +kernel)) (fun _ => ?_)
  refine lv_aload_n hx hb dX11_fromTable_19 rfl (lv_at hl 1 rfl) ?_
  refine va_get (D := (dC, dI)) (ci := 11) (v := .ref o1) (C := RX11) (T := TX11) (N := 13) hx hb hts iw_X11_fromTable_X11 hown hK hP 2 rfl rfl 1 (by decide) (hts (.fieldLink RX11 19 "HolelessHouse" "table" "LHolelessHouse$Table;") (by decide +kernel)) (fun _ h9 => h9) rfl dX11_fromTable_20 ?_
  refine va_getN (D := (dC, dI)) (ci := 10) (v := .ref o5) (C := RX10) (T := TX10) (N := 3) hx hb hts iw_X11_fromTable_X10 hown hK hP 0 rfl rfl 0 (by decide) (hN.use ns_21) (fun _ h9 => h9) rfl dX11_fromTable_23 ?_
  refine lv_iload_n hx hb dX11_fromTable_26 rfl (lv_at hl 0 rfl) ?_
  refine va_iald hx hb hK hP 1 0 rfl rfl (vin (by decide +kernel)) dX11_fromTable_27 (tk_i (v := (-1)) (by decide +kernel) ?_)
  refine lv_iconst (v := (-1)) hx hb dX11_fromTable_28 (by decide) ?_
  refine lv_icmp_eq (tgt := 48) hx hb dX11_fromTable_29 (by decide) (fun _ => ?_) (fun h9 => absurd (by decide +kernel) h9)
  refine lv_iinc (v := 12) (lv' := [(1, .int 12), (0, .ref o0)]) hx hb dX11_fromTable_48 hl (k := 0) rfl (by decide +kernel) (by decide) rfl (fun ls hl => ?_)
  refine lv_goto (tgt := 13) hx hb dX11_fromTable_51 (by decide) ?_
  refine lv_iload_n hx hb dX11_fromTable_13 rfl (lv_at hl 0 rfl) ?_
  refine lv_bipush (v := 12) hx hb dX11_fromTable_14 (by decide) ?_
  refine lv_icmp_ge (tgt := 54) hx hb dX11_fromTable_16 (by decide) (fun _ => ?_) (fun h9 => absurd (by decide +kernel) h9)
  refine lv_aload_n hx hb dX11_fromTable_54 rfl (lv_at hl 1 rfl) ?_
  refine va_get (D := (dC, dI)) (ci := 11) (v := .ref o2) (C := RX11) (T := TX11) (N := 13) hx hb hts iw_X11_fromTable_X11 hown hK hP 2 rfl rfl 0 (by decide) (hts (.fieldLink RX11 10 "HolelessHouse" "graph" "LHolelessHouse$Graph;") (by decide +kernel)) (fun _ h9 => h9) rfl dX11_fromTable_55 ?_
  refine va_getN (D := (dC, dI)) (ci := 4) (v := .int 0) (C := RX4) (T := TX4) (N := 3) hx hb hts iw_X11_fromTable_X4 hown hK hP 4 rfl rfl 1 (by decide) (hN.use ns_14) (fun _ h9 => h9) rfl dX11_fromTable_58 ?_
  have hP9 := hP.sub (ws' := []) [] rfl
  have hD9 := hD.sub (ws' := []) [] (by decide) rfl
  exact W.iret (v := 0) hx hb hr (fun t ht hW => ⟨⟨0, (), rfl, rfl, by rw [ht]; exact hP9, va_K.moved hW.alike hK, hD9⟩, hS.F ht⟩) hS.2.2 dX11_fromTable_61
set_option maxHeartbeats 1000000 in
set_option maxRecDepth 100000 in
theorem kX12_changed_2 (l : Launch) (dC : Nat → ClassId) (dI : Nat → Nat → Nat) (cI c2 : ClassId) (o0 : Nat) (o1 : Nat) (o2 : Nat) (o3 : Nat) (o4 : Nat) (o5 : Nat) (o6 : Nat) (o7 : Nat) (o8 : Nat) (o9 : Nat) (o10 : Nat) (o11 : Nat) (o12 : Nat) (o13 : Nat) (o14 : Nat) (o15 : Nat) (o16 : Nat) (o17 : Nat) (o18 : Nat) (sz : Nat) : Met l yX12_changed wsX12_changed ({ frames := 0, cells := 0, slots := 0, locals := 0 }) (va_Pc [.ref o0] (wPre (dC, dI) [(cI, .int), (c2, .array .int)] [(o0, .inr (12, [.int 0, .ref o1, .int 0, .ref o2, .int 0, .ref o3, .ref o4, .int 0, .ref o5, .int 0, .ref o6, .int (-9), .int 0, .int 0, .ref o7, .ref o8, .ref o9, .ref o10, .ref o11, .int 0, .ref o12, .ref o13, .ref o14, .int 0, .ref o15, .ref o16, .ref o17, .int 0, .ref o18]))] sz)) (va_Qv (fun (_ : Unit) => True) (fun _ t => wPost (dC, dI) [(cI, .int), (c2, .array .int)] (va_A [(o0, .inr (12, [.int 0, .ref o1, .int 0, .ref o2, .int 0, .ref o3, .ref o4, .int 0, .ref o5, .int 0, .ref o6, .int (-9), .int 0, .int 0, .ref o7, .ref o8, .ref o9, .ref o10, .ref o11, .int 0, .ref o12, .ref o13, .ref o14, .int 0, .ref o15, .ref o16, .ref o17, .int 0, .ref o18]))] sz) [(o0, .inr (12, [.int 0, .ref o1, .int 0, .ref o2, .int 0, .ref o3, .ref o4, .int 0, .ref o5, .int 0, .ref o6, .int (-9), .int 0, .int 0, .ref o7, .ref o8, .ref o9, .ref o10, .ref o11, .int 0, .ref o12, .ref o13, .ref o14, .int 0, .ref o15, .ref o16, .ref o17, .int 0, .ref o18]))] t) (va_A [(o0, .inr (12, [.int 0, .ref o1, .int 0, .ref o2, .int 0, .ref o3, .ref o4, .int 0, .ref o5, .int 0, .ref o6, .int (-9), .int 0, .int 0, .ref o7, .ref o8, .ref o9, .ref o10, .ref o11, .int 0, .ref o12, .ref o13, .ref o14, .int 0, .ref o15, .ref o16, .ref o17, .int 0, .ref o18]))] sz)) 0 0 (va_A [(o0, .inr (12, [.int 0, .ref o1, .int 0, .ref o2, .int 0, .ref o3, .ref o4, .int 0, .ref o5, .int 0, .ref o6, .int (-9), .int 0, .int 0, .ref o7, .ref o8, .ref o9, .ref o10, .ref o11, .int 0, .ref o12, .ref o13, .ref o14, .int 0, .ref o15, .ref o16, .ref o17, .int 0, .ref o18]))] sz) := by
  refine Met.ofW (cc := cX12_changed) (maxL := 1) (ret := none) (by decide) rfl ?_
  intro p e s m args below meth c s₁ B hml hv
  obtain ⟨rfl, hsz, hP, hK, hD0, hN⟩ := hv
  have hx := B.exec
  have hb := B.bytes
  have hr := B.returns
  have hts := atoms_spec (ws := wsX12_changed) B.pre
  have hown : s.vm.findClass RX12 = some m.cls := findClass_of_methodNamed B.named
  have hlocks := B.notSynchronized
  subst hsz
  have hD := hD0.self (sz := s.heap.size)
  generalize hAe : va_A [(o0, .inr (12, [.int 0, .ref o1, .int 0, .ref o2, .int 0, .ref o3, .ref o4, .int 0, .ref o5, .int 0, .ref o6, .int (-9), .int 0, .int 0, .ref o7, .ref o8, .ref o9, .ref o10, .ref o11, .int 0, .ref o12, .ref o13, .ref o14, .int 0, .ref o15, .ref o16, .ref o17, .int 0, .ref o18]))] s.heap.size = A at hD ⊢
  have hA : ∀ q : Nat, s.heap.size ≤ q → A q := fun q h => by rw [← hAe]; exact Or.inr h
  have hS : va_S A s.heap s.heap [] := va_S.rf
  have hP : va_P (dC, dI) vwCl [(o0, .inr (12, [.int 0, .ref o1, .int 0, .ref o2, .int 0, .ref o3, .ref o4, .int 0, .ref o5, .int 0, .ref o6, .int (-9), .int 0, .int 0, .ref o7, .ref o8, .ref o9, .ref o10, .ref o11, .int 0, .ref o12, .ref o13, .ref o14, .int 0, .ref o15, .ref o16, .ref o17, .int 0, .ref o18]))] s.heap := hP
  have hl := lv_entry ([.ref o0]) (n := 1) (Nat.le_of_ble_eq_true rfl)
  rw [lg_entry_eq]
  generalize (lg_sl ([.ref o0]) ++ List.replicate (1 - (lg_sl ([.ref o0])).length) Slot.unset).toArray = ls at hl ⊢
  have hl : lv_has ls 1 [(0, .ref o0)] := hl
  refine lv_aload_n hx hb dX12_changed_0 rfl (lv_at hl 0 rfl) ?_
  refine lv_bipush (v := (-9)) hx hb dX12_changed_1 (by decide) ?_
  refine va_put (D := (dC, dI)) (ci := 12) (v := .int (-9)) (ty := .int) (C := RX12) (T := TX12) (N := 29) hx hb hts iw_X12_changed_X12 tyX12 tyX12_ok nmX12 hown hK hP hD hS 0 rfl rfl 11 (by decide) (hts (.fieldLink RX12 28 "HolelessHouseModel" "ordered" "I") (by decide +kernel)) (fun _ h9 => h9) rfl (by decide +kernel) rfl rfl (Nat.le_of_ble_eq_true rfl) dX12_changed_3 (fun H locs hP hD hS => ?_)
  have hP : va_P (dC, dI) vwCl [(o0, .inr (12, [.int 0, .ref o1, .int 0, .ref o2, .int 0, .ref o3, .ref o4, .int 0, .ref o5, .int 0, .ref o6, .int (-9), .int 0, .int 0, .ref o7, .ref o8, .ref o9, .ref o10, .ref o11, .int 0, .ref o12, .ref o13, .ref o14, .int 0, .ref o15, .ref o16, .ref o17, .int 0, .ref o18]))] H := hP
  have hD : va_D A [(o0, .inr (12, [.int 0, .ref o1, .int 0, .ref o2, .int 0, .ref o3, .ref o4, .int 0, .ref o5, .int 0, .ref o6, .int (-9), .int 0, .int 0, .ref o7, .ref o8, .ref o9, .ref o10, .ref o11, .int 0, .ref o12, .ref o13, .ref o14, .int 0, .ref o15, .ref o16, .ref o17, .int 0, .ref o18]))] := hD
  have hP9 := hP.sub (ws' := [(o0, .inr (12, [.int 0, .ref o1, .int 0, .ref o2, .int 0, .ref o3, .ref o4, .int 0, .ref o5, .int 0, .ref o6, .int (-9), .int 0, .int 0, .ref o7, .ref o8, .ref o9, .ref o10, .ref o11, .int 0, .ref o12, .ref o13, .ref o14, .int 0, .ref o15, .ref o16, .ref o17, .int 0, .ref o18]))]) [0] rfl
  have hD9 := hD.sub (ws' := [(o0, .inr (12, [.int 0, .ref o1, .int 0, .ref o2, .int 0, .ref o3, .ref o4, .int 0, .ref o5, .int 0, .ref o6, .int (-9), .int 0, .int 0, .ref o7, .ref o8, .ref o9, .ref o10, .ref o11, .int 0, .ref o12, .ref o13, .ref o14, .int 0, .ref o15, .ref o16, .ref o17, .int 0, .ref o18]))]) [0] (by decide) rfl
  exact W.vret hx hb hr (fun t ht hW => ⟨⟨(), rfl, trivial, by rw [ht]; exact hP9, va_K.moved hW.alike hK, hD9⟩, hS.F ht⟩) hS.2.2 dX12_changed_6
theorem iw_X12_fromTable_X12 : ∀ w ∈ wsX120, w ∈ wsX12_fromTable := by decide +kernel
set_option maxHeartbeats 1000000 in
set_option maxRecDepth 100000 in
theorem kX12_fromTable_1 (l : Launch) (dC : Nat → ClassId) (dI : Nat → Nat → Nat) (cI c2 : ClassId) (o0 : Nat) (o1 : Nat) (o2 : Nat) (o3 : Nat) (o4 : Nat) (o5 : Nat) (o6 : Nat) (o7 : Nat) (o8 : Nat) (o9 : Nat) (o10 : Nat) (o11 : Nat) (o12 : Nat) (o13 : Nat) (o14 : Nat) (o15 : Nat) (o16 : Nat) (o17 : Nat) (o18 : Nat) (sz : Nat) : Met l yX12_fromTable wsX12_fromTable ({ frames := 1, cells := 0, slots := 0, locals := 20 }) (va_Pc [.ref o0] (wPre (dC, dI) [(cI, .int), (c2, .array .int)] [(o0, .inr (12, [.int 0, .ref o2, .int 0, .ref o1, .int 0, .ref o3, .ref o4, .int 0, .ref o5, .int 0, .ref o6, .int (-9), .int 0, .int 0, .ref o7, .ref o8, .ref o9, .ref o10, .ref o11, .int 0, .ref o12, .ref o13, .ref o14, .int 0, .ref o15, .ref o16, .ref o17, .int 0, .ref o18])), (o1, .inl (cI, 12, .inl (fun _ => 0)))] sz)) (va_Qi (fun (r : Int32) (_ : Unit) => r = 0) (fun _ t => wPost (dC, dI) [(cI, .int), (c2, .array .int)] (va_A [(o0, .inr (12, [.int 0, .ref o2, .int 0, .ref o1, .int 0, .ref o3, .ref o4, .int 0, .ref o5, .int 0, .ref o6, .int (-9), .int 0, .int 0, .ref o7, .ref o8, .ref o9, .ref o10, .ref o11, .int 0, .ref o12, .ref o13, .ref o14, .int 0, .ref o15, .ref o16, .ref o17, .int 0, .ref o18])), (o1, .inl (cI, 12, .inl (fun _ => 0)))] sz) [] t) (va_A [(o0, .inr (12, [.int 0, .ref o2, .int 0, .ref o1, .int 0, .ref o3, .ref o4, .int 0, .ref o5, .int 0, .ref o6, .int (-9), .int 0, .int 0, .ref o7, .ref o8, .ref o9, .ref o10, .ref o11, .int 0, .ref o12, .ref o13, .ref o14, .int 0, .ref o15, .ref o16, .ref o17, .int 0, .ref o18])), (o1, .inl (cI, 12, .inl (fun _ => 0)))] sz)) 0 0 (va_A [(o0, .inr (12, [.int 0, .ref o2, .int 0, .ref o1, .int 0, .ref o3, .ref o4, .int 0, .ref o5, .int 0, .ref o6, .int (-9), .int 0, .int 0, .ref o7, .ref o8, .ref o9, .ref o10, .ref o11, .int 0, .ref o12, .ref o13, .ref o14, .int 0, .ref o15, .ref o16, .ref o17, .int 0, .ref o18])), (o1, .inl (cI, 12, .inl (fun _ => 0)))] sz) := by
  refine Met.ofW (cc := cX12_fromTable) (maxL := 4) (ret := (some .int)) (by decide) rfl ?_
  intro p e s m args below meth c s₁ B hml hv
  obtain ⟨rfl, hsz, hP, hK, hD0, hN⟩ := hv
  have hx := B.exec
  have hb := B.bytes
  have hr := B.returns
  have hts := atoms_spec (ws := wsX12_fromTable) B.pre
  have hown : s.vm.findClass RX12 = some m.cls := findClass_of_methodNamed B.named
  have hlocks := B.notSynchronized
  subst hsz
  have hD := hD0.self (sz := s.heap.size)
  generalize hAe : va_A [(o0, .inr (12, [.int 0, .ref o2, .int 0, .ref o1, .int 0, .ref o3, .ref o4, .int 0, .ref o5, .int 0, .ref o6, .int (-9), .int 0, .int 0, .ref o7, .ref o8, .ref o9, .ref o10, .ref o11, .int 0, .ref o12, .ref o13, .ref o14, .int 0, .ref o15, .ref o16, .ref o17, .int 0, .ref o18])), (o1, .inl (cI, 12, .inl (fun _ => 0)))] s.heap.size = A at hD ⊢
  have hA : ∀ q : Nat, s.heap.size ≤ q → A q := fun q h => by rw [← hAe]; exact Or.inr h
  have hS : va_S A s.heap s.heap [] := va_S.rf
  have hP : va_P (dC, dI) vwCl [(o0, .inr (12, [.int 0, .ref o2, .int 0, .ref o1, .int 0, .ref o3, .ref o4, .int 0, .ref o5, .int 0, .ref o6, .int (-9), .int 0, .int 0, .ref o7, .ref o8, .ref o9, .ref o10, .ref o11, .int 0, .ref o12, .ref o13, .ref o14, .int 0, .ref o15, .ref o16, .ref o17, .int 0, .ref o18])), (o1, .inl (cI, 12, .inl (fun _ => 0)))] s.heap := hP
  have hl := lv_entry ([.ref o0]) (n := 4) (Nat.le_of_ble_eq_true rfl)
  rw [lg_entry_eq]
  generalize (lg_sl ([.ref o0]) ++ List.replicate (4 - (lg_sl ([.ref o0])).length) Slot.unset).toArray = ls at hl ⊢
  have hl : lv_has ls 4 [(0, .ref o0)] := hl
  refine lv_aload_n hx hb dX12_fromTable_0 rfl (lv_at hl 0 rfl) ?_
  refine lv_aload_n hx hb dX12_fromTable_1 rfl (lv_at hl 0 rfl) ?_
  refine va_get (D := (dC, dI)) (ci := 12) (v := .int 0) (C := RX12) (T := TX12) (N := 29) hx hb hts iw_X12_fromTable_X12 hown hK hP 0 rfl rfl 4 (by decide) (hts (.fieldLink RX12 128 "HolelessHouseModel" "columns" "I") (by decide +kernel)) (fun _ h9 => h9) rfl dX12_fromTable_2 ?_
  refine va_put (D := (dC, dI)) (ci := 12) (v := .int 0) (ty := .int) (C := RX12) (T := TX12) (N := 29) hx hb hts iw_X12_fromTable_X12 tyX12 tyX12_ok nmX12 hown hK hP hD hS 0 rfl rfl 2 (by decide) (hts (.fieldLink RX12 73 "HolelessHouseModel" "n" "I") (by decide +kernel)) (fun _ h9 => h9) rfl (by decide +kernel) rfl rfl (Nat.le_of_ble_eq_true rfl) dX12_fromTable_5 (fun H locs hP hD hS => ?_)
  have hP : va_P (dC, dI) vwCl [(o0, .inr (12, [.int 0, .ref o2, .int 0, .ref o1, .int 0, .ref o3, .ref o4, .int 0, .ref o5, .int 0, .ref o6, .int (-9), .int 0, .int 0, .ref o7, .ref o8, .ref o9, .ref o10, .ref o11, .int 0, .ref o12, .ref o13, .ref o14, .int 0, .ref o15, .ref o16, .ref o17, .int 0, .ref o18])), (o1, .inl (cI, 12, .inl (fun _ => 0)))] H := hP
  have hD : va_D A [(o0, .inr (12, [.int 0, .ref o2, .int 0, .ref o1, .int 0, .ref o3, .ref o4, .int 0, .ref o5, .int 0, .ref o6, .int (-9), .int 0, .int 0, .ref o7, .ref o8, .ref o9, .ref o10, .ref o11, .int 0, .ref o12, .ref o13, .ref o14, .int 0, .ref o15, .ref o16, .ref o17, .int 0, .ref o18])), (o1, .inl (cI, 12, .inl (fun _ => 0)))] := hD
  refine lv_iconst (v := 0) hx hb dX12_fromTable_8 (by decide) ?_
  refine lv_istore_n (lv' := [(1, .int 0), (0, .ref o0)]) hx hb dX12_fromTable_9 rfl hl (by decide) rfl (fun ls hl => ?_)
  refine lv_iload_n hx hb dX12_fromTable_10 rfl (lv_at hl 0 rfl) ?_
  refine lv_bipush (v := 12) hx hb dX12_fromTable_11 (by decide) ?_
  refine lv_icmp_ge (tgt := 29) hx hb dX12_fromTable_13 (by decide) (fun h9 => absurd h9 (by decide +kernel)) (fun _ => ?_)
  refine lv_aload_n hx hb dX12_fromTable_16 rfl (lv_at hl 1 rfl) ?_
  refine va_get (D := (dC, dI)) (ci := 12) (v := .ref o1) (C := RX12) (T := TX12) (N := 29) hx hb hts iw_X12_fromTable_X12 hown hK hP 0 rfl rfl 3 (by decide) (hts (.fieldLink RX12 13 "HolelessHouseModel" "near" "[I") (by decide +kernel)) (fun _ h9 => h9) rfl dX12_fromTable_17 ?_
  refine lv_iload_n hx hb dX12_fromTable_20 rfl (lv_at hl 0 rfl) ?_
  refine lv_iconst (v := 0) hx hb dX12_fromTable_21 (by decide) ?_
  refine va_iast hx hb hK hP hD hS 1 0 rfl rfl (vin (by decide +kernel)) dX12_fromTable_22 (fun H locs hP hD hS => ?_)
  have hP : va_P (dC, dI) vwCl [(o0, .inr (12, [.int 0, .ref o2, .int 0, .ref o1, .int 0, .ref o3, .ref o4, .int 0, .ref o5, .int 0, .ref o6, .int (-9), .int 0, .int 0, .ref o7, .ref o8, .ref o9, .ref o10, .ref o11, .int 0, .ref o12, .ref o13, .ref o14, .int 0, .ref o15, .ref o16, .ref o17, .int 0, .ref o18])), (o1, .inl (cI, 12, .inl (upd (fun _ => 0) (Int32.toNatClampNeg 0) 0)))] H := hP
  have hD : va_D A [(o0, .inr (12, [.int 0, .ref o2, .int 0, .ref o1, .int 0, .ref o3, .ref o4, .int 0, .ref o5, .int 0, .ref o6, .int (-9), .int 0, .int 0, .ref o7, .ref o8, .ref o9, .ref o10, .ref o11, .int 0, .ref o12, .ref o13, .ref o14, .int 0, .ref o15, .ref o16, .ref o17, .int 0, .ref o18])), (o1, .inl (cI, 12, .inl (upd (fun _ => 0) (Int32.toNatClampNeg 0) 0)))] := hD
  refine lv_iinc (v := 1) (lv' := [(1, .int 1), (0, .ref o0)]) hx hb dX12_fromTable_23 hl (k := 0) rfl (by decide +kernel) (by decide) rfl (fun ls hl => ?_)
  refine lv_goto (tgt := 10) hx hb dX12_fromTable_26 (by decide) ?_
  refine lv_iload_n hx hb dX12_fromTable_10 rfl (lv_at hl 0 rfl) ?_
  refine lv_bipush (v := 12) hx hb dX12_fromTable_11 (by decide) ?_
  refine lv_icmp_ge (tgt := 29) hx hb dX12_fromTable_13 (by decide) (fun h9 => absurd h9 (by decide +kernel)) (fun _ => ?_)
  refine lv_aload_n hx hb dX12_fromTable_16 rfl (lv_at hl 1 rfl) ?_
  refine va_get (D := (dC, dI)) (ci := 12) (v := .ref o1) (C := RX12) (T := TX12) (N := 29) hx hb hts iw_X12_fromTable_X12 hown hK hP 0 rfl rfl 3 (by decide) (hts (.fieldLink RX12 13 "HolelessHouseModel" "near" "[I") (by decide +kernel)) (fun _ h9 => h9) rfl dX12_fromTable_17 ?_
  refine lv_iload_n hx hb dX12_fromTable_20 rfl (lv_at hl 0 rfl) ?_
  refine lv_iconst (v := 0) hx hb dX12_fromTable_21 (by decide) ?_
  refine va_iast hx hb hK hP hD hS 1 0 rfl rfl (vin (by decide +kernel)) dX12_fromTable_22 (fun H locs hP hD hS => ?_)
  have hP : va_P (dC, dI) vwCl [(o0, .inr (12, [.int 0, .ref o2, .int 0, .ref o1, .int 0, .ref o3, .ref o4, .int 0, .ref o5, .int 0, .ref o6, .int (-9), .int 0, .int 0, .ref o7, .ref o8, .ref o9, .ref o10, .ref o11, .int 0, .ref o12, .ref o13, .ref o14, .int 0, .ref o15, .ref o16, .ref o17, .int 0, .ref o18])), (o1, .inl (cI, 12, .inl (upd (upd (fun _ => 0) (Int32.toNatClampNeg 0) 0) (Int32.toNatClampNeg 1) 0)))] H := hP
  have hD : va_D A [(o0, .inr (12, [.int 0, .ref o2, .int 0, .ref o1, .int 0, .ref o3, .ref o4, .int 0, .ref o5, .int 0, .ref o6, .int (-9), .int 0, .int 0, .ref o7, .ref o8, .ref o9, .ref o10, .ref o11, .int 0, .ref o12, .ref o13, .ref o14, .int 0, .ref o15, .ref o16, .ref o17, .int 0, .ref o18])), (o1, .inl (cI, 12, .inl (upd (upd (fun _ => 0) (Int32.toNatClampNeg 0) 0) (Int32.toNatClampNeg 1) 0)))] := hD
  refine lv_iinc (v := 2) (lv' := [(1, .int 2), (0, .ref o0)]) hx hb dX12_fromTable_23 hl (k := 0) rfl (by decide +kernel) (by decide) rfl (fun ls hl => ?_)
  refine lv_goto (tgt := 10) hx hb dX12_fromTable_26 (by decide) ?_
  refine lv_iload_n hx hb dX12_fromTable_10 rfl (lv_at hl 0 rfl) ?_
  refine lv_bipush (v := 12) hx hb dX12_fromTable_11 (by decide) ?_
  refine lv_icmp_ge (tgt := 29) hx hb dX12_fromTable_13 (by decide) (fun h9 => absurd h9 (by decide +kernel)) (fun _ => ?_)
  refine lv_aload_n hx hb dX12_fromTable_16 rfl (lv_at hl 1 rfl) ?_
  refine va_get (D := (dC, dI)) (ci := 12) (v := .ref o1) (C := RX12) (T := TX12) (N := 29) hx hb hts iw_X12_fromTable_X12 hown hK hP 0 rfl rfl 3 (by decide) (hts (.fieldLink RX12 13 "HolelessHouseModel" "near" "[I") (by decide +kernel)) (fun _ h9 => h9) rfl dX12_fromTable_17 ?_
  refine lv_iload_n hx hb dX12_fromTable_20 rfl (lv_at hl 0 rfl) ?_
  refine lv_iconst (v := 0) hx hb dX12_fromTable_21 (by decide) ?_
  refine va_iast hx hb hK hP hD hS 1 0 rfl rfl (vin (by decide +kernel)) dX12_fromTable_22 (fun H locs hP hD hS => ?_)
  have hP : va_P (dC, dI) vwCl [(o0, .inr (12, [.int 0, .ref o2, .int 0, .ref o1, .int 0, .ref o3, .ref o4, .int 0, .ref o5, .int 0, .ref o6, .int (-9), .int 0, .int 0, .ref o7, .ref o8, .ref o9, .ref o10, .ref o11, .int 0, .ref o12, .ref o13, .ref o14, .int 0, .ref o15, .ref o16, .ref o17, .int 0, .ref o18])), (o1, .inl (cI, 12, .inl (upd (upd (upd (fun _ => 0) (Int32.toNatClampNeg 0) 0) (Int32.toNatClampNeg 1) 0) (Int32.toNatClampNeg 2) 0)))] H := hP
  have hD : va_D A [(o0, .inr (12, [.int 0, .ref o2, .int 0, .ref o1, .int 0, .ref o3, .ref o4, .int 0, .ref o5, .int 0, .ref o6, .int (-9), .int 0, .int 0, .ref o7, .ref o8, .ref o9, .ref o10, .ref o11, .int 0, .ref o12, .ref o13, .ref o14, .int 0, .ref o15, .ref o16, .ref o17, .int 0, .ref o18])), (o1, .inl (cI, 12, .inl (upd (upd (upd (fun _ => 0) (Int32.toNatClampNeg 0) 0) (Int32.toNatClampNeg 1) 0) (Int32.toNatClampNeg 2) 0)))] := hD
  refine lv_iinc (v := 3) (lv' := [(1, .int 3), (0, .ref o0)]) hx hb dX12_fromTable_23 hl (k := 0) rfl (by decide +kernel) (by decide) rfl (fun ls hl => ?_)
  refine lv_goto (tgt := 10) hx hb dX12_fromTable_26 (by decide) ?_
  refine lv_iload_n hx hb dX12_fromTable_10 rfl (lv_at hl 0 rfl) ?_
  refine lv_bipush (v := 12) hx hb dX12_fromTable_11 (by decide) ?_
  refine lv_icmp_ge (tgt := 29) hx hb dX12_fromTable_13 (by decide) (fun h9 => absurd h9 (by decide +kernel)) (fun _ => ?_)
  refine lv_aload_n hx hb dX12_fromTable_16 rfl (lv_at hl 1 rfl) ?_
  refine va_get (D := (dC, dI)) (ci := 12) (v := .ref o1) (C := RX12) (T := TX12) (N := 29) hx hb hts iw_X12_fromTable_X12 hown hK hP 0 rfl rfl 3 (by decide) (hts (.fieldLink RX12 13 "HolelessHouseModel" "near" "[I") (by decide +kernel)) (fun _ h9 => h9) rfl dX12_fromTable_17 ?_
  refine lv_iload_n hx hb dX12_fromTable_20 rfl (lv_at hl 0 rfl) ?_
  refine lv_iconst (v := 0) hx hb dX12_fromTable_21 (by decide) ?_
  refine va_iast hx hb hK hP hD hS 1 0 rfl rfl (vin (by decide +kernel)) dX12_fromTable_22 (fun H locs hP hD hS => ?_)
  have hP : va_P (dC, dI) vwCl [(o0, .inr (12, [.int 0, .ref o2, .int 0, .ref o1, .int 0, .ref o3, .ref o4, .int 0, .ref o5, .int 0, .ref o6, .int (-9), .int 0, .int 0, .ref o7, .ref o8, .ref o9, .ref o10, .ref o11, .int 0, .ref o12, .ref o13, .ref o14, .int 0, .ref o15, .ref o16, .ref o17, .int 0, .ref o18])), (o1, .inl (cI, 12, .inl (upd (upd (upd (upd (fun _ => 0) (Int32.toNatClampNeg 0) 0) (Int32.toNatClampNeg 1) 0) (Int32.toNatClampNeg 2) 0) (Int32.toNatClampNeg 3) 0)))] H := hP
  have hD : va_D A [(o0, .inr (12, [.int 0, .ref o2, .int 0, .ref o1, .int 0, .ref o3, .ref o4, .int 0, .ref o5, .int 0, .ref o6, .int (-9), .int 0, .int 0, .ref o7, .ref o8, .ref o9, .ref o10, .ref o11, .int 0, .ref o12, .ref o13, .ref o14, .int 0, .ref o15, .ref o16, .ref o17, .int 0, .ref o18])), (o1, .inl (cI, 12, .inl (upd (upd (upd (upd (fun _ => 0) (Int32.toNatClampNeg 0) 0) (Int32.toNatClampNeg 1) 0) (Int32.toNatClampNeg 2) 0) (Int32.toNatClampNeg 3) 0)))] := hD
  refine lv_iinc (v := 4) (lv' := [(1, .int 4), (0, .ref o0)]) hx hb dX12_fromTable_23 hl (k := 0) rfl (by decide +kernel) (by decide) rfl (fun ls hl => ?_)
  refine lv_goto (tgt := 10) hx hb dX12_fromTable_26 (by decide) ?_
  refine lv_iload_n hx hb dX12_fromTable_10 rfl (lv_at hl 0 rfl) ?_
  refine lv_bipush (v := 12) hx hb dX12_fromTable_11 (by decide) ?_
  refine lv_icmp_ge (tgt := 29) hx hb dX12_fromTable_13 (by decide) (fun h9 => absurd h9 (by decide +kernel)) (fun _ => ?_)
  refine lv_aload_n hx hb dX12_fromTable_16 rfl (lv_at hl 1 rfl) ?_
  refine va_get (D := (dC, dI)) (ci := 12) (v := .ref o1) (C := RX12) (T := TX12) (N := 29) hx hb hts iw_X12_fromTable_X12 hown hK hP 0 rfl rfl 3 (by decide) (hts (.fieldLink RX12 13 "HolelessHouseModel" "near" "[I") (by decide +kernel)) (fun _ h9 => h9) rfl dX12_fromTable_17 ?_
  refine lv_iload_n hx hb dX12_fromTable_20 rfl (lv_at hl 0 rfl) ?_
  refine lv_iconst (v := 0) hx hb dX12_fromTable_21 (by decide) ?_
  refine va_iast hx hb hK hP hD hS 1 0 rfl rfl (vin (by decide +kernel)) dX12_fromTable_22 (fun H locs hP hD hS => ?_)
  have hP : va_P (dC, dI) vwCl [(o0, .inr (12, [.int 0, .ref o2, .int 0, .ref o1, .int 0, .ref o3, .ref o4, .int 0, .ref o5, .int 0, .ref o6, .int (-9), .int 0, .int 0, .ref o7, .ref o8, .ref o9, .ref o10, .ref o11, .int 0, .ref o12, .ref o13, .ref o14, .int 0, .ref o15, .ref o16, .ref o17, .int 0, .ref o18])), (o1, .inl (cI, 12, .inl (upd (upd (upd (upd (upd (fun _ => 0) (Int32.toNatClampNeg 0) 0) (Int32.toNatClampNeg 1) 0) (Int32.toNatClampNeg 2) 0) (Int32.toNatClampNeg 3) 0) (Int32.toNatClampNeg 4) 0)))] H := hP
  have hD : va_D A [(o0, .inr (12, [.int 0, .ref o2, .int 0, .ref o1, .int 0, .ref o3, .ref o4, .int 0, .ref o5, .int 0, .ref o6, .int (-9), .int 0, .int 0, .ref o7, .ref o8, .ref o9, .ref o10, .ref o11, .int 0, .ref o12, .ref o13, .ref o14, .int 0, .ref o15, .ref o16, .ref o17, .int 0, .ref o18])), (o1, .inl (cI, 12, .inl (upd (upd (upd (upd (upd (fun _ => 0) (Int32.toNatClampNeg 0) 0) (Int32.toNatClampNeg 1) 0) (Int32.toNatClampNeg 2) 0) (Int32.toNatClampNeg 3) 0) (Int32.toNatClampNeg 4) 0)))] := hD
  refine lv_iinc (v := 5) (lv' := [(1, .int 5), (0, .ref o0)]) hx hb dX12_fromTable_23 hl (k := 0) rfl (by decide +kernel) (by decide) rfl (fun ls hl => ?_)
  refine lv_goto (tgt := 10) hx hb dX12_fromTable_26 (by decide) ?_
  refine lv_iload_n hx hb dX12_fromTable_10 rfl (lv_at hl 0 rfl) ?_
  refine lv_bipush (v := 12) hx hb dX12_fromTable_11 (by decide) ?_
  refine lv_icmp_ge (tgt := 29) hx hb dX12_fromTable_13 (by decide) (fun h9 => absurd h9 (by decide +kernel)) (fun _ => ?_)
  refine lv_aload_n hx hb dX12_fromTable_16 rfl (lv_at hl 1 rfl) ?_
  refine va_get (D := (dC, dI)) (ci := 12) (v := .ref o1) (C := RX12) (T := TX12) (N := 29) hx hb hts iw_X12_fromTable_X12 hown hK hP 0 rfl rfl 3 (by decide) (hts (.fieldLink RX12 13 "HolelessHouseModel" "near" "[I") (by decide +kernel)) (fun _ h9 => h9) rfl dX12_fromTable_17 ?_
  refine lv_iload_n hx hb dX12_fromTable_20 rfl (lv_at hl 0 rfl) ?_
  refine lv_iconst (v := 0) hx hb dX12_fromTable_21 (by decide) ?_
  refine va_iast hx hb hK hP hD hS 1 0 rfl rfl (vin (by decide +kernel)) dX12_fromTable_22 (fun H locs hP hD hS => ?_)
  have hP : va_P (dC, dI) vwCl [(o0, .inr (12, [.int 0, .ref o2, .int 0, .ref o1, .int 0, .ref o3, .ref o4, .int 0, .ref o5, .int 0, .ref o6, .int (-9), .int 0, .int 0, .ref o7, .ref o8, .ref o9, .ref o10, .ref o11, .int 0, .ref o12, .ref o13, .ref o14, .int 0, .ref o15, .ref o16, .ref o17, .int 0, .ref o18])), (o1, .inl (cI, 12, .inl (upd (upd (upd (upd (upd (upd (fun _ => 0) (Int32.toNatClampNeg 0) 0) (Int32.toNatClampNeg 1) 0) (Int32.toNatClampNeg 2) 0) (Int32.toNatClampNeg 3) 0) (Int32.toNatClampNeg 4) 0) (Int32.toNatClampNeg 5) 0)))] H := hP
  have hD : va_D A [(o0, .inr (12, [.int 0, .ref o2, .int 0, .ref o1, .int 0, .ref o3, .ref o4, .int 0, .ref o5, .int 0, .ref o6, .int (-9), .int 0, .int 0, .ref o7, .ref o8, .ref o9, .ref o10, .ref o11, .int 0, .ref o12, .ref o13, .ref o14, .int 0, .ref o15, .ref o16, .ref o17, .int 0, .ref o18])), (o1, .inl (cI, 12, .inl (upd (upd (upd (upd (upd (upd (fun _ => 0) (Int32.toNatClampNeg 0) 0) (Int32.toNatClampNeg 1) 0) (Int32.toNatClampNeg 2) 0) (Int32.toNatClampNeg 3) 0) (Int32.toNatClampNeg 4) 0) (Int32.toNatClampNeg 5) 0)))] := hD
  refine lv_iinc (v := 6) (lv' := [(1, .int 6), (0, .ref o0)]) hx hb dX12_fromTable_23 hl (k := 0) rfl (by decide +kernel) (by decide) rfl (fun ls hl => ?_)
  refine lv_goto (tgt := 10) hx hb dX12_fromTable_26 (by decide) ?_
  refine lv_iload_n hx hb dX12_fromTable_10 rfl (lv_at hl 0 rfl) ?_
  refine lv_bipush (v := 12) hx hb dX12_fromTable_11 (by decide) ?_
  refine lv_icmp_ge (tgt := 29) hx hb dX12_fromTable_13 (by decide) (fun h9 => absurd h9 (by decide +kernel)) (fun _ => ?_)
  refine lv_aload_n hx hb dX12_fromTable_16 rfl (lv_at hl 1 rfl) ?_
  refine va_get (D := (dC, dI)) (ci := 12) (v := .ref o1) (C := RX12) (T := TX12) (N := 29) hx hb hts iw_X12_fromTable_X12 hown hK hP 0 rfl rfl 3 (by decide) (hts (.fieldLink RX12 13 "HolelessHouseModel" "near" "[I") (by decide +kernel)) (fun _ h9 => h9) rfl dX12_fromTable_17 ?_
  refine lv_iload_n hx hb dX12_fromTable_20 rfl (lv_at hl 0 rfl) ?_
  refine lv_iconst (v := 0) hx hb dX12_fromTable_21 (by decide) ?_
  refine va_iast hx hb hK hP hD hS 1 0 rfl rfl (vin (by decide +kernel)) dX12_fromTable_22 (fun H locs hP hD hS => ?_)
  have hP : va_P (dC, dI) vwCl [(o0, .inr (12, [.int 0, .ref o2, .int 0, .ref o1, .int 0, .ref o3, .ref o4, .int 0, .ref o5, .int 0, .ref o6, .int (-9), .int 0, .int 0, .ref o7, .ref o8, .ref o9, .ref o10, .ref o11, .int 0, .ref o12, .ref o13, .ref o14, .int 0, .ref o15, .ref o16, .ref o17, .int 0, .ref o18])), (o1, .inl (cI, 12, .inl (upd (upd (upd (upd (upd (upd (upd (fun _ => 0) (Int32.toNatClampNeg 0) 0) (Int32.toNatClampNeg 1) 0) (Int32.toNatClampNeg 2) 0) (Int32.toNatClampNeg 3) 0) (Int32.toNatClampNeg 4) 0) (Int32.toNatClampNeg 5) 0) (Int32.toNatClampNeg 6) 0)))] H := hP
  have hD : va_D A [(o0, .inr (12, [.int 0, .ref o2, .int 0, .ref o1, .int 0, .ref o3, .ref o4, .int 0, .ref o5, .int 0, .ref o6, .int (-9), .int 0, .int 0, .ref o7, .ref o8, .ref o9, .ref o10, .ref o11, .int 0, .ref o12, .ref o13, .ref o14, .int 0, .ref o15, .ref o16, .ref o17, .int 0, .ref o18])), (o1, .inl (cI, 12, .inl (upd (upd (upd (upd (upd (upd (upd (fun _ => 0) (Int32.toNatClampNeg 0) 0) (Int32.toNatClampNeg 1) 0) (Int32.toNatClampNeg 2) 0) (Int32.toNatClampNeg 3) 0) (Int32.toNatClampNeg 4) 0) (Int32.toNatClampNeg 5) 0) (Int32.toNatClampNeg 6) 0)))] := hD
  refine lv_iinc (v := 7) (lv' := [(1, .int 7), (0, .ref o0)]) hx hb dX12_fromTable_23 hl (k := 0) rfl (by decide +kernel) (by decide) rfl (fun ls hl => ?_)
  refine lv_goto (tgt := 10) hx hb dX12_fromTable_26 (by decide) ?_
  refine lv_iload_n hx hb dX12_fromTable_10 rfl (lv_at hl 0 rfl) ?_
  refine lv_bipush (v := 12) hx hb dX12_fromTable_11 (by decide) ?_
  refine lv_icmp_ge (tgt := 29) hx hb dX12_fromTable_13 (by decide) (fun h9 => absurd h9 (by decide +kernel)) (fun _ => ?_)
  refine lv_aload_n hx hb dX12_fromTable_16 rfl (lv_at hl 1 rfl) ?_
  refine va_get (D := (dC, dI)) (ci := 12) (v := .ref o1) (C := RX12) (T := TX12) (N := 29) hx hb hts iw_X12_fromTable_X12 hown hK hP 0 rfl rfl 3 (by decide) (hts (.fieldLink RX12 13 "HolelessHouseModel" "near" "[I") (by decide +kernel)) (fun _ h9 => h9) rfl dX12_fromTable_17 ?_
  refine lv_iload_n hx hb dX12_fromTable_20 rfl (lv_at hl 0 rfl) ?_
  refine lv_iconst (v := 0) hx hb dX12_fromTable_21 (by decide) ?_
  refine va_iast hx hb hK hP hD hS 1 0 rfl rfl (vin (by decide +kernel)) dX12_fromTable_22 (fun H locs hP hD hS => ?_)
  have hP : va_P (dC, dI) vwCl [(o0, .inr (12, [.int 0, .ref o2, .int 0, .ref o1, .int 0, .ref o3, .ref o4, .int 0, .ref o5, .int 0, .ref o6, .int (-9), .int 0, .int 0, .ref o7, .ref o8, .ref o9, .ref o10, .ref o11, .int 0, .ref o12, .ref o13, .ref o14, .int 0, .ref o15, .ref o16, .ref o17, .int 0, .ref o18])), (o1, .inl (cI, 12, .inl (upd (upd (upd (upd (upd (upd (upd (upd (fun _ => 0) (Int32.toNatClampNeg 0) 0) (Int32.toNatClampNeg 1) 0) (Int32.toNatClampNeg 2) 0) (Int32.toNatClampNeg 3) 0) (Int32.toNatClampNeg 4) 0) (Int32.toNatClampNeg 5) 0) (Int32.toNatClampNeg 6) 0) (Int32.toNatClampNeg 7) 0)))] H := hP
  have hD : va_D A [(o0, .inr (12, [.int 0, .ref o2, .int 0, .ref o1, .int 0, .ref o3, .ref o4, .int 0, .ref o5, .int 0, .ref o6, .int (-9), .int 0, .int 0, .ref o7, .ref o8, .ref o9, .ref o10, .ref o11, .int 0, .ref o12, .ref o13, .ref o14, .int 0, .ref o15, .ref o16, .ref o17, .int 0, .ref o18])), (o1, .inl (cI, 12, .inl (upd (upd (upd (upd (upd (upd (upd (upd (fun _ => 0) (Int32.toNatClampNeg 0) 0) (Int32.toNatClampNeg 1) 0) (Int32.toNatClampNeg 2) 0) (Int32.toNatClampNeg 3) 0) (Int32.toNatClampNeg 4) 0) (Int32.toNatClampNeg 5) 0) (Int32.toNatClampNeg 6) 0) (Int32.toNatClampNeg 7) 0)))] := hD
  refine lv_iinc (v := 8) (lv' := [(1, .int 8), (0, .ref o0)]) hx hb dX12_fromTable_23 hl (k := 0) rfl (by decide +kernel) (by decide) rfl (fun ls hl => ?_)
  refine lv_goto (tgt := 10) hx hb dX12_fromTable_26 (by decide) ?_
  refine lv_iload_n hx hb dX12_fromTable_10 rfl (lv_at hl 0 rfl) ?_
  refine lv_bipush (v := 12) hx hb dX12_fromTable_11 (by decide) ?_
  refine lv_icmp_ge (tgt := 29) hx hb dX12_fromTable_13 (by decide) (fun h9 => absurd h9 (by decide +kernel)) (fun _ => ?_)
  refine lv_aload_n hx hb dX12_fromTable_16 rfl (lv_at hl 1 rfl) ?_
  refine va_get (D := (dC, dI)) (ci := 12) (v := .ref o1) (C := RX12) (T := TX12) (N := 29) hx hb hts iw_X12_fromTable_X12 hown hK hP 0 rfl rfl 3 (by decide) (hts (.fieldLink RX12 13 "HolelessHouseModel" "near" "[I") (by decide +kernel)) (fun _ h9 => h9) rfl dX12_fromTable_17 ?_
  refine lv_iload_n hx hb dX12_fromTable_20 rfl (lv_at hl 0 rfl) ?_
  refine lv_iconst (v := 0) hx hb dX12_fromTable_21 (by decide) ?_
  refine va_iast hx hb hK hP hD hS 1 0 rfl rfl (vin (by decide +kernel)) dX12_fromTable_22 (fun H locs hP hD hS => ?_)
  have hP : va_P (dC, dI) vwCl [(o0, .inr (12, [.int 0, .ref o2, .int 0, .ref o1, .int 0, .ref o3, .ref o4, .int 0, .ref o5, .int 0, .ref o6, .int (-9), .int 0, .int 0, .ref o7, .ref o8, .ref o9, .ref o10, .ref o11, .int 0, .ref o12, .ref o13, .ref o14, .int 0, .ref o15, .ref o16, .ref o17, .int 0, .ref o18])), (o1, .inl (cI, 12, .inl (upd (upd (upd (upd (upd (upd (upd (upd (upd (fun _ => 0) (Int32.toNatClampNeg 0) 0) (Int32.toNatClampNeg 1) 0) (Int32.toNatClampNeg 2) 0) (Int32.toNatClampNeg 3) 0) (Int32.toNatClampNeg 4) 0) (Int32.toNatClampNeg 5) 0) (Int32.toNatClampNeg 6) 0) (Int32.toNatClampNeg 7) 0) (Int32.toNatClampNeg 8) 0)))] H := hP
  have hD : va_D A [(o0, .inr (12, [.int 0, .ref o2, .int 0, .ref o1, .int 0, .ref o3, .ref o4, .int 0, .ref o5, .int 0, .ref o6, .int (-9), .int 0, .int 0, .ref o7, .ref o8, .ref o9, .ref o10, .ref o11, .int 0, .ref o12, .ref o13, .ref o14, .int 0, .ref o15, .ref o16, .ref o17, .int 0, .ref o18])), (o1, .inl (cI, 12, .inl (upd (upd (upd (upd (upd (upd (upd (upd (upd (fun _ => 0) (Int32.toNatClampNeg 0) 0) (Int32.toNatClampNeg 1) 0) (Int32.toNatClampNeg 2) 0) (Int32.toNatClampNeg 3) 0) (Int32.toNatClampNeg 4) 0) (Int32.toNatClampNeg 5) 0) (Int32.toNatClampNeg 6) 0) (Int32.toNatClampNeg 7) 0) (Int32.toNatClampNeg 8) 0)))] := hD
  refine lv_iinc (v := 9) (lv' := [(1, .int 9), (0, .ref o0)]) hx hb dX12_fromTable_23 hl (k := 0) rfl (by decide +kernel) (by decide) rfl (fun ls hl => ?_)
  refine lv_goto (tgt := 10) hx hb dX12_fromTable_26 (by decide) ?_
  refine lv_iload_n hx hb dX12_fromTable_10 rfl (lv_at hl 0 rfl) ?_
  refine lv_bipush (v := 12) hx hb dX12_fromTable_11 (by decide) ?_
  refine lv_icmp_ge (tgt := 29) hx hb dX12_fromTable_13 (by decide) (fun h9 => absurd h9 (by decide +kernel)) (fun _ => ?_)
  refine lv_aload_n hx hb dX12_fromTable_16 rfl (lv_at hl 1 rfl) ?_
  refine va_get (D := (dC, dI)) (ci := 12) (v := .ref o1) (C := RX12) (T := TX12) (N := 29) hx hb hts iw_X12_fromTable_X12 hown hK hP 0 rfl rfl 3 (by decide) (hts (.fieldLink RX12 13 "HolelessHouseModel" "near" "[I") (by decide +kernel)) (fun _ h9 => h9) rfl dX12_fromTable_17 ?_
  refine lv_iload_n hx hb dX12_fromTable_20 rfl (lv_at hl 0 rfl) ?_
  refine lv_iconst (v := 0) hx hb dX12_fromTable_21 (by decide) ?_
  refine va_iast hx hb hK hP hD hS 1 0 rfl rfl (vin (by decide +kernel)) dX12_fromTable_22 (fun H locs hP hD hS => ?_)
  have hP : va_P (dC, dI) vwCl [(o0, .inr (12, [.int 0, .ref o2, .int 0, .ref o1, .int 0, .ref o3, .ref o4, .int 0, .ref o5, .int 0, .ref o6, .int (-9), .int 0, .int 0, .ref o7, .ref o8, .ref o9, .ref o10, .ref o11, .int 0, .ref o12, .ref o13, .ref o14, .int 0, .ref o15, .ref o16, .ref o17, .int 0, .ref o18])), (o1, .inl (cI, 12, .inl (upd (upd (upd (upd (upd (upd (upd (upd (upd (upd (fun _ => 0) (Int32.toNatClampNeg 0) 0) (Int32.toNatClampNeg 1) 0) (Int32.toNatClampNeg 2) 0) (Int32.toNatClampNeg 3) 0) (Int32.toNatClampNeg 4) 0) (Int32.toNatClampNeg 5) 0) (Int32.toNatClampNeg 6) 0) (Int32.toNatClampNeg 7) 0) (Int32.toNatClampNeg 8) 0) (Int32.toNatClampNeg 9) 0)))] H := hP
  have hD : va_D A [(o0, .inr (12, [.int 0, .ref o2, .int 0, .ref o1, .int 0, .ref o3, .ref o4, .int 0, .ref o5, .int 0, .ref o6, .int (-9), .int 0, .int 0, .ref o7, .ref o8, .ref o9, .ref o10, .ref o11, .int 0, .ref o12, .ref o13, .ref o14, .int 0, .ref o15, .ref o16, .ref o17, .int 0, .ref o18])), (o1, .inl (cI, 12, .inl (upd (upd (upd (upd (upd (upd (upd (upd (upd (upd (fun _ => 0) (Int32.toNatClampNeg 0) 0) (Int32.toNatClampNeg 1) 0) (Int32.toNatClampNeg 2) 0) (Int32.toNatClampNeg 3) 0) (Int32.toNatClampNeg 4) 0) (Int32.toNatClampNeg 5) 0) (Int32.toNatClampNeg 6) 0) (Int32.toNatClampNeg 7) 0) (Int32.toNatClampNeg 8) 0) (Int32.toNatClampNeg 9) 0)))] := hD
  refine lv_iinc (v := 10) (lv' := [(1, .int 10), (0, .ref o0)]) hx hb dX12_fromTable_23 hl (k := 0) rfl (by decide +kernel) (by decide) rfl (fun ls hl => ?_)
  refine lv_goto (tgt := 10) hx hb dX12_fromTable_26 (by decide) ?_
  refine lv_iload_n hx hb dX12_fromTable_10 rfl (lv_at hl 0 rfl) ?_
  refine lv_bipush (v := 12) hx hb dX12_fromTable_11 (by decide) ?_
  refine lv_icmp_ge (tgt := 29) hx hb dX12_fromTable_13 (by decide) (fun h9 => absurd h9 (by decide +kernel)) (fun _ => ?_)
  refine lv_aload_n hx hb dX12_fromTable_16 rfl (lv_at hl 1 rfl) ?_
  refine va_get (D := (dC, dI)) (ci := 12) (v := .ref o1) (C := RX12) (T := TX12) (N := 29) hx hb hts iw_X12_fromTable_X12 hown hK hP 0 rfl rfl 3 (by decide) (hts (.fieldLink RX12 13 "HolelessHouseModel" "near" "[I") (by decide +kernel)) (fun _ h9 => h9) rfl dX12_fromTable_17 ?_
  refine lv_iload_n hx hb dX12_fromTable_20 rfl (lv_at hl 0 rfl) ?_
  refine lv_iconst (v := 0) hx hb dX12_fromTable_21 (by decide) ?_
  refine va_iast hx hb hK hP hD hS 1 0 rfl rfl (vin (by decide +kernel)) dX12_fromTable_22 (fun H locs hP hD hS => ?_)
  have hP : va_P (dC, dI) vwCl [(o0, .inr (12, [.int 0, .ref o2, .int 0, .ref o1, .int 0, .ref o3, .ref o4, .int 0, .ref o5, .int 0, .ref o6, .int (-9), .int 0, .int 0, .ref o7, .ref o8, .ref o9, .ref o10, .ref o11, .int 0, .ref o12, .ref o13, .ref o14, .int 0, .ref o15, .ref o16, .ref o17, .int 0, .ref o18])), (o1, .inl (cI, 12, .inl (upd (upd (upd (upd (upd (upd (upd (upd (upd (upd (upd (fun _ => 0) (Int32.toNatClampNeg 0) 0) (Int32.toNatClampNeg 1) 0) (Int32.toNatClampNeg 2) 0) (Int32.toNatClampNeg 3) 0) (Int32.toNatClampNeg 4) 0) (Int32.toNatClampNeg 5) 0) (Int32.toNatClampNeg 6) 0) (Int32.toNatClampNeg 7) 0) (Int32.toNatClampNeg 8) 0) (Int32.toNatClampNeg 9) 0) (Int32.toNatClampNeg 10) 0)))] H := hP
  have hD : va_D A [(o0, .inr (12, [.int 0, .ref o2, .int 0, .ref o1, .int 0, .ref o3, .ref o4, .int 0, .ref o5, .int 0, .ref o6, .int (-9), .int 0, .int 0, .ref o7, .ref o8, .ref o9, .ref o10, .ref o11, .int 0, .ref o12, .ref o13, .ref o14, .int 0, .ref o15, .ref o16, .ref o17, .int 0, .ref o18])), (o1, .inl (cI, 12, .inl (upd (upd (upd (upd (upd (upd (upd (upd (upd (upd (upd (fun _ => 0) (Int32.toNatClampNeg 0) 0) (Int32.toNatClampNeg 1) 0) (Int32.toNatClampNeg 2) 0) (Int32.toNatClampNeg 3) 0) (Int32.toNatClampNeg 4) 0) (Int32.toNatClampNeg 5) 0) (Int32.toNatClampNeg 6) 0) (Int32.toNatClampNeg 7) 0) (Int32.toNatClampNeg 8) 0) (Int32.toNatClampNeg 9) 0) (Int32.toNatClampNeg 10) 0)))] := hD
  refine lv_iinc (v := 11) (lv' := [(1, .int 11), (0, .ref o0)]) hx hb dX12_fromTable_23 hl (k := 0) rfl (by decide +kernel) (by decide) rfl (fun ls hl => ?_)
  refine lv_goto (tgt := 10) hx hb dX12_fromTable_26 (by decide) ?_
  refine lv_iload_n hx hb dX12_fromTable_10 rfl (lv_at hl 0 rfl) ?_
  refine lv_bipush (v := 12) hx hb dX12_fromTable_11 (by decide) ?_
  refine lv_icmp_ge (tgt := 29) hx hb dX12_fromTable_13 (by decide) (fun h9 => absurd h9 (by decide +kernel)) (fun _ => ?_)
  refine lv_aload_n hx hb dX12_fromTable_16 rfl (lv_at hl 1 rfl) ?_
  refine va_get (D := (dC, dI)) (ci := 12) (v := .ref o1) (C := RX12) (T := TX12) (N := 29) hx hb hts iw_X12_fromTable_X12 hown hK hP 0 rfl rfl 3 (by decide) (hts (.fieldLink RX12 13 "HolelessHouseModel" "near" "[I") (by decide +kernel)) (fun _ h9 => h9) rfl dX12_fromTable_17 ?_
  refine lv_iload_n hx hb dX12_fromTable_20 rfl (lv_at hl 0 rfl) ?_
  refine lv_iconst (v := 0) hx hb dX12_fromTable_21 (by decide) ?_
  refine va_iast hx hb hK hP hD hS 1 0 rfl rfl (vin (by decide +kernel)) dX12_fromTable_22 (fun H locs hP hD hS => ?_)
  have hP : va_P (dC, dI) vwCl [(o0, .inr (12, [.int 0, .ref o2, .int 0, .ref o1, .int 0, .ref o3, .ref o4, .int 0, .ref o5, .int 0, .ref o6, .int (-9), .int 0, .int 0, .ref o7, .ref o8, .ref o9, .ref o10, .ref o11, .int 0, .ref o12, .ref o13, .ref o14, .int 0, .ref o15, .ref o16, .ref o17, .int 0, .ref o18])), (o1, .inl (cI, 12, .inl (upd (upd (upd (upd (upd (upd (upd (upd (upd (upd (upd (upd (fun _ => 0) (Int32.toNatClampNeg 0) 0) (Int32.toNatClampNeg 1) 0) (Int32.toNatClampNeg 2) 0) (Int32.toNatClampNeg 3) 0) (Int32.toNatClampNeg 4) 0) (Int32.toNatClampNeg 5) 0) (Int32.toNatClampNeg 6) 0) (Int32.toNatClampNeg 7) 0) (Int32.toNatClampNeg 8) 0) (Int32.toNatClampNeg 9) 0) (Int32.toNatClampNeg 10) 0) (Int32.toNatClampNeg 11) 0)))] H := hP
  have hD : va_D A [(o0, .inr (12, [.int 0, .ref o2, .int 0, .ref o1, .int 0, .ref o3, .ref o4, .int 0, .ref o5, .int 0, .ref o6, .int (-9), .int 0, .int 0, .ref o7, .ref o8, .ref o9, .ref o10, .ref o11, .int 0, .ref o12, .ref o13, .ref o14, .int 0, .ref o15, .ref o16, .ref o17, .int 0, .ref o18])), (o1, .inl (cI, 12, .inl (upd (upd (upd (upd (upd (upd (upd (upd (upd (upd (upd (upd (fun _ => 0) (Int32.toNatClampNeg 0) 0) (Int32.toNatClampNeg 1) 0) (Int32.toNatClampNeg 2) 0) (Int32.toNatClampNeg 3) 0) (Int32.toNatClampNeg 4) 0) (Int32.toNatClampNeg 5) 0) (Int32.toNatClampNeg 6) 0) (Int32.toNatClampNeg 7) 0) (Int32.toNatClampNeg 8) 0) (Int32.toNatClampNeg 9) 0) (Int32.toNatClampNeg 10) 0) (Int32.toNatClampNeg 11) 0)))] := hD
  refine lv_iinc (v := 12) (lv' := [(1, .int 12), (0, .ref o0)]) hx hb dX12_fromTable_23 hl (k := 0) rfl (by decide +kernel) (by decide) rfl (fun ls hl => ?_)
  refine lv_goto (tgt := 10) hx hb dX12_fromTable_26 (by decide) ?_
  refine lv_iload_n hx hb dX12_fromTable_10 rfl (lv_at hl 0 rfl) ?_
  refine lv_bipush (v := 12) hx hb dX12_fromTable_11 (by decide) ?_
  refine lv_icmp_ge (tgt := 29) hx hb dX12_fromTable_13 (by decide) (fun _ => ?_) (fun h9 => absurd (by decide +kernel) h9)
  refine lv_iconst (v := 0) hx hb dX12_fromTable_29 (by decide) ?_
  refine lv_istore_n (lv' := [(1, .int 0), (0, .ref o0)]) hx hb dX12_fromTable_30 rfl hl (by decide) rfl (fun ls hl => ?_)
  refine lv_iload_n hx hb dX12_fromTable_31 rfl (lv_at hl 0 rfl) ?_
  refine lv_bipush (v := 12) hx hb dX12_fromTable_32 (by decide) ?_
  refine lv_icmp_ge (tgt := 113) hx hb dX12_fromTable_34 (by decide) (fun h9 => absurd h9 (by decide +kernel)) (fun _ => ?_)
  refine lv_iconst (v := 0) hx hb dX12_fromTable_37 (by decide) ?_
  refine lv_istore_n (lv' := [(2, .int 0), (1, .int 0), (0, .ref o0)]) hx hb dX12_fromTable_38 rfl hl (by decide) rfl (fun ls hl => ?_)
  refine lv_iload_n hx hb dX12_fromTable_39 rfl (lv_at hl 0 rfl) ?_
  refine lv_aload_n hx hb dX12_fromTable_40 rfl (lv_at hl 2 rfl) ?_
  refine va_get (D := (dC, dI)) (ci := 12) (v := .int 0) (C := RX12) (T := TX12) (N := 29) hx hb hts iw_X12_fromTable_X12 hown hK hP 0 rfl rfl 2 (by decide) (hts (.fieldLink RX12 73 "HolelessHouseModel" "n" "I") (by decide +kernel)) (fun _ h9 => h9) rfl dX12_fromTable_41 ?_
  refine lv_icmp_ge (tgt := 107) hx hb dX12_fromTable_44 (by decide) (fun _ => ?_) (fun h9 => absurd (by decide +kernel) h9)
  refine lv_iinc (v := 1) (lv' := [(1, .int 1), (2, .int 0), (0, .ref o0)]) hx hb dX12_fromTable_107 hl (k := 1) rfl (by decide +kernel) (by decide) rfl (fun ls hl => ?_)
  refine lv_goto (tgt := 31) hx hb dX12_fromTable_110 (by decide) ?_
  refine lv_iload_n hx hb dX12_fromTable_31 rfl (lv_at hl 0 rfl) ?_
  refine lv_bipush (v := 12) hx hb dX12_fromTable_32 (by decide) ?_
  refine lv_icmp_ge (tgt := 113) hx hb dX12_fromTable_34 (by decide) (fun h9 => absurd h9 (by decide +kernel)) (fun _ => ?_)
  refine lv_iconst (v := 0) hx hb dX12_fromTable_37 (by decide) ?_
  refine lv_istore_n (lv' := [(2, .int 0), (1, .int 1), (0, .ref o0)]) hx hb dX12_fromTable_38 rfl hl (by decide) rfl (fun ls hl => ?_)
  refine lv_iload_n hx hb dX12_fromTable_39 rfl (lv_at hl 0 rfl) ?_
  refine lv_aload_n hx hb dX12_fromTable_40 rfl (lv_at hl 2 rfl) ?_
  refine va_get (D := (dC, dI)) (ci := 12) (v := .int 0) (C := RX12) (T := TX12) (N := 29) hx hb hts iw_X12_fromTable_X12 hown hK hP 0 rfl rfl 2 (by decide) (hts (.fieldLink RX12 73 "HolelessHouseModel" "n" "I") (by decide +kernel)) (fun _ h9 => h9) rfl dX12_fromTable_41 ?_
  refine lv_icmp_ge (tgt := 107) hx hb dX12_fromTable_44 (by decide) (fun _ => ?_) (fun h9 => absurd (by decide +kernel) h9)
  refine lv_iinc (v := 2) (lv' := [(1, .int 2), (2, .int 0), (0, .ref o0)]) hx hb dX12_fromTable_107 hl (k := 1) rfl (by decide +kernel) (by decide) rfl (fun ls hl => ?_)
  refine lv_goto (tgt := 31) hx hb dX12_fromTable_110 (by decide) ?_
  refine lv_iload_n hx hb dX12_fromTable_31 rfl (lv_at hl 0 rfl) ?_
  refine lv_bipush (v := 12) hx hb dX12_fromTable_32 (by decide) ?_
  refine lv_icmp_ge (tgt := 113) hx hb dX12_fromTable_34 (by decide) (fun h9 => absurd h9 (by decide +kernel)) (fun _ => ?_)
  refine lv_iconst (v := 0) hx hb dX12_fromTable_37 (by decide) ?_
  refine lv_istore_n (lv' := [(2, .int 0), (1, .int 2), (0, .ref o0)]) hx hb dX12_fromTable_38 rfl hl (by decide) rfl (fun ls hl => ?_)
  refine lv_iload_n hx hb dX12_fromTable_39 rfl (lv_at hl 0 rfl) ?_
  refine lv_aload_n hx hb dX12_fromTable_40 rfl (lv_at hl 2 rfl) ?_
  refine va_get (D := (dC, dI)) (ci := 12) (v := .int 0) (C := RX12) (T := TX12) (N := 29) hx hb hts iw_X12_fromTable_X12 hown hK hP 0 rfl rfl 2 (by decide) (hts (.fieldLink RX12 73 "HolelessHouseModel" "n" "I") (by decide +kernel)) (fun _ h9 => h9) rfl dX12_fromTable_41 ?_
  refine lv_icmp_ge (tgt := 107) hx hb dX12_fromTable_44 (by decide) (fun _ => ?_) (fun h9 => absurd (by decide +kernel) h9)
  refine lv_iinc (v := 3) (lv' := [(1, .int 3), (2, .int 0), (0, .ref o0)]) hx hb dX12_fromTable_107 hl (k := 1) rfl (by decide +kernel) (by decide) rfl (fun ls hl => ?_)
  refine lv_goto (tgt := 31) hx hb dX12_fromTable_110 (by decide) ?_
  refine lv_iload_n hx hb dX12_fromTable_31 rfl (lv_at hl 0 rfl) ?_
  refine lv_bipush (v := 12) hx hb dX12_fromTable_32 (by decide) ?_
  refine lv_icmp_ge (tgt := 113) hx hb dX12_fromTable_34 (by decide) (fun h9 => absurd h9 (by decide +kernel)) (fun _ => ?_)
  refine lv_iconst (v := 0) hx hb dX12_fromTable_37 (by decide) ?_
  refine lv_istore_n (lv' := [(2, .int 0), (1, .int 3), (0, .ref o0)]) hx hb dX12_fromTable_38 rfl hl (by decide) rfl (fun ls hl => ?_)
  refine lv_iload_n hx hb dX12_fromTable_39 rfl (lv_at hl 0 rfl) ?_
  refine lv_aload_n hx hb dX12_fromTable_40 rfl (lv_at hl 2 rfl) ?_
  refine va_get (D := (dC, dI)) (ci := 12) (v := .int 0) (C := RX12) (T := TX12) (N := 29) hx hb hts iw_X12_fromTable_X12 hown hK hP 0 rfl rfl 2 (by decide) (hts (.fieldLink RX12 73 "HolelessHouseModel" "n" "I") (by decide +kernel)) (fun _ h9 => h9) rfl dX12_fromTable_41 ?_
  refine lv_icmp_ge (tgt := 107) hx hb dX12_fromTable_44 (by decide) (fun _ => ?_) (fun h9 => absurd (by decide +kernel) h9)
  refine lv_iinc (v := 4) (lv' := [(1, .int 4), (2, .int 0), (0, .ref o0)]) hx hb dX12_fromTable_107 hl (k := 1) rfl (by decide +kernel) (by decide) rfl (fun ls hl => ?_)
  refine lv_goto (tgt := 31) hx hb dX12_fromTable_110 (by decide) ?_
  refine lv_iload_n hx hb dX12_fromTable_31 rfl (lv_at hl 0 rfl) ?_
  refine lv_bipush (v := 12) hx hb dX12_fromTable_32 (by decide) ?_
  refine lv_icmp_ge (tgt := 113) hx hb dX12_fromTable_34 (by decide) (fun h9 => absurd h9 (by decide +kernel)) (fun _ => ?_)
  refine lv_iconst (v := 0) hx hb dX12_fromTable_37 (by decide) ?_
  refine lv_istore_n (lv' := [(2, .int 0), (1, .int 4), (0, .ref o0)]) hx hb dX12_fromTable_38 rfl hl (by decide) rfl (fun ls hl => ?_)
  refine lv_iload_n hx hb dX12_fromTable_39 rfl (lv_at hl 0 rfl) ?_
  refine lv_aload_n hx hb dX12_fromTable_40 rfl (lv_at hl 2 rfl) ?_
  refine va_get (D := (dC, dI)) (ci := 12) (v := .int 0) (C := RX12) (T := TX12) (N := 29) hx hb hts iw_X12_fromTable_X12 hown hK hP 0 rfl rfl 2 (by decide) (hts (.fieldLink RX12 73 "HolelessHouseModel" "n" "I") (by decide +kernel)) (fun _ h9 => h9) rfl dX12_fromTable_41 ?_
  refine lv_icmp_ge (tgt := 107) hx hb dX12_fromTable_44 (by decide) (fun _ => ?_) (fun h9 => absurd (by decide +kernel) h9)
  refine lv_iinc (v := 5) (lv' := [(1, .int 5), (2, .int 0), (0, .ref o0)]) hx hb dX12_fromTable_107 hl (k := 1) rfl (by decide +kernel) (by decide) rfl (fun ls hl => ?_)
  refine lv_goto (tgt := 31) hx hb dX12_fromTable_110 (by decide) ?_
  refine lv_iload_n hx hb dX12_fromTable_31 rfl (lv_at hl 0 rfl) ?_
  refine lv_bipush (v := 12) hx hb dX12_fromTable_32 (by decide) ?_
  refine lv_icmp_ge (tgt := 113) hx hb dX12_fromTable_34 (by decide) (fun h9 => absurd h9 (by decide +kernel)) (fun _ => ?_)
  refine lv_iconst (v := 0) hx hb dX12_fromTable_37 (by decide) ?_
  refine lv_istore_n (lv' := [(2, .int 0), (1, .int 5), (0, .ref o0)]) hx hb dX12_fromTable_38 rfl hl (by decide) rfl (fun ls hl => ?_)
  refine lv_iload_n hx hb dX12_fromTable_39 rfl (lv_at hl 0 rfl) ?_
  refine lv_aload_n hx hb dX12_fromTable_40 rfl (lv_at hl 2 rfl) ?_
  refine va_get (D := (dC, dI)) (ci := 12) (v := .int 0) (C := RX12) (T := TX12) (N := 29) hx hb hts iw_X12_fromTable_X12 hown hK hP 0 rfl rfl 2 (by decide) (hts (.fieldLink RX12 73 "HolelessHouseModel" "n" "I") (by decide +kernel)) (fun _ h9 => h9) rfl dX12_fromTable_41 ?_
  refine lv_icmp_ge (tgt := 107) hx hb dX12_fromTable_44 (by decide) (fun _ => ?_) (fun h9 => absurd (by decide +kernel) h9)
  refine lv_iinc (v := 6) (lv' := [(1, .int 6), (2, .int 0), (0, .ref o0)]) hx hb dX12_fromTable_107 hl (k := 1) rfl (by decide +kernel) (by decide) rfl (fun ls hl => ?_)
  refine lv_goto (tgt := 31) hx hb dX12_fromTable_110 (by decide) ?_
  refine lv_iload_n hx hb dX12_fromTable_31 rfl (lv_at hl 0 rfl) ?_
  refine lv_bipush (v := 12) hx hb dX12_fromTable_32 (by decide) ?_
  refine lv_icmp_ge (tgt := 113) hx hb dX12_fromTable_34 (by decide) (fun h9 => absurd h9 (by decide +kernel)) (fun _ => ?_)
  refine lv_iconst (v := 0) hx hb dX12_fromTable_37 (by decide) ?_
  refine lv_istore_n (lv' := [(2, .int 0), (1, .int 6), (0, .ref o0)]) hx hb dX12_fromTable_38 rfl hl (by decide) rfl (fun ls hl => ?_)
  refine lv_iload_n hx hb dX12_fromTable_39 rfl (lv_at hl 0 rfl) ?_
  refine lv_aload_n hx hb dX12_fromTable_40 rfl (lv_at hl 2 rfl) ?_
  refine va_get (D := (dC, dI)) (ci := 12) (v := .int 0) (C := RX12) (T := TX12) (N := 29) hx hb hts iw_X12_fromTable_X12 hown hK hP 0 rfl rfl 2 (by decide) (hts (.fieldLink RX12 73 "HolelessHouseModel" "n" "I") (by decide +kernel)) (fun _ h9 => h9) rfl dX12_fromTable_41 ?_
  refine lv_icmp_ge (tgt := 107) hx hb dX12_fromTable_44 (by decide) (fun _ => ?_) (fun h9 => absurd (by decide +kernel) h9)
  refine lv_iinc (v := 7) (lv' := [(1, .int 7), (2, .int 0), (0, .ref o0)]) hx hb dX12_fromTable_107 hl (k := 1) rfl (by decide +kernel) (by decide) rfl (fun ls hl => ?_)
  refine lv_goto (tgt := 31) hx hb dX12_fromTable_110 (by decide) ?_
  refine lv_iload_n hx hb dX12_fromTable_31 rfl (lv_at hl 0 rfl) ?_
  refine lv_bipush (v := 12) hx hb dX12_fromTable_32 (by decide) ?_
  refine lv_icmp_ge (tgt := 113) hx hb dX12_fromTable_34 (by decide) (fun h9 => absurd h9 (by decide +kernel)) (fun _ => ?_)
  refine lv_iconst (v := 0) hx hb dX12_fromTable_37 (by decide) ?_
  refine lv_istore_n (lv' := [(2, .int 0), (1, .int 7), (0, .ref o0)]) hx hb dX12_fromTable_38 rfl hl (by decide) rfl (fun ls hl => ?_)
  refine lv_iload_n hx hb dX12_fromTable_39 rfl (lv_at hl 0 rfl) ?_
  refine lv_aload_n hx hb dX12_fromTable_40 rfl (lv_at hl 2 rfl) ?_
  refine va_get (D := (dC, dI)) (ci := 12) (v := .int 0) (C := RX12) (T := TX12) (N := 29) hx hb hts iw_X12_fromTable_X12 hown hK hP 0 rfl rfl 2 (by decide) (hts (.fieldLink RX12 73 "HolelessHouseModel" "n" "I") (by decide +kernel)) (fun _ h9 => h9) rfl dX12_fromTable_41 ?_
  refine lv_icmp_ge (tgt := 107) hx hb dX12_fromTable_44 (by decide) (fun _ => ?_) (fun h9 => absurd (by decide +kernel) h9)
  refine lv_iinc (v := 8) (lv' := [(1, .int 8), (2, .int 0), (0, .ref o0)]) hx hb dX12_fromTable_107 hl (k := 1) rfl (by decide +kernel) (by decide) rfl (fun ls hl => ?_)
  refine lv_goto (tgt := 31) hx hb dX12_fromTable_110 (by decide) ?_
  refine lv_iload_n hx hb dX12_fromTable_31 rfl (lv_at hl 0 rfl) ?_
  refine lv_bipush (v := 12) hx hb dX12_fromTable_32 (by decide) ?_
  refine lv_icmp_ge (tgt := 113) hx hb dX12_fromTable_34 (by decide) (fun h9 => absurd h9 (by decide +kernel)) (fun _ => ?_)
  refine lv_iconst (v := 0) hx hb dX12_fromTable_37 (by decide) ?_
  refine lv_istore_n (lv' := [(2, .int 0), (1, .int 8), (0, .ref o0)]) hx hb dX12_fromTable_38 rfl hl (by decide) rfl (fun ls hl => ?_)
  refine lv_iload_n hx hb dX12_fromTable_39 rfl (lv_at hl 0 rfl) ?_
  refine lv_aload_n hx hb dX12_fromTable_40 rfl (lv_at hl 2 rfl) ?_
  refine va_get (D := (dC, dI)) (ci := 12) (v := .int 0) (C := RX12) (T := TX12) (N := 29) hx hb hts iw_X12_fromTable_X12 hown hK hP 0 rfl rfl 2 (by decide) (hts (.fieldLink RX12 73 "HolelessHouseModel" "n" "I") (by decide +kernel)) (fun _ h9 => h9) rfl dX12_fromTable_41 ?_
  refine lv_icmp_ge (tgt := 107) hx hb dX12_fromTable_44 (by decide) (fun _ => ?_) (fun h9 => absurd (by decide +kernel) h9)
  refine lv_iinc (v := 9) (lv' := [(1, .int 9), (2, .int 0), (0, .ref o0)]) hx hb dX12_fromTable_107 hl (k := 1) rfl (by decide +kernel) (by decide) rfl (fun ls hl => ?_)
  refine lv_goto (tgt := 31) hx hb dX12_fromTable_110 (by decide) ?_
  refine lv_iload_n hx hb dX12_fromTable_31 rfl (lv_at hl 0 rfl) ?_
  refine lv_bipush (v := 12) hx hb dX12_fromTable_32 (by decide) ?_
  refine lv_icmp_ge (tgt := 113) hx hb dX12_fromTable_34 (by decide) (fun h9 => absurd h9 (by decide +kernel)) (fun _ => ?_)
  refine lv_iconst (v := 0) hx hb dX12_fromTable_37 (by decide) ?_
  refine lv_istore_n (lv' := [(2, .int 0), (1, .int 9), (0, .ref o0)]) hx hb dX12_fromTable_38 rfl hl (by decide) rfl (fun ls hl => ?_)
  refine lv_iload_n hx hb dX12_fromTable_39 rfl (lv_at hl 0 rfl) ?_
  refine lv_aload_n hx hb dX12_fromTable_40 rfl (lv_at hl 2 rfl) ?_
  refine va_get (D := (dC, dI)) (ci := 12) (v := .int 0) (C := RX12) (T := TX12) (N := 29) hx hb hts iw_X12_fromTable_X12 hown hK hP 0 rfl rfl 2 (by decide) (hts (.fieldLink RX12 73 "HolelessHouseModel" "n" "I") (by decide +kernel)) (fun _ h9 => h9) rfl dX12_fromTable_41 ?_
  refine lv_icmp_ge (tgt := 107) hx hb dX12_fromTable_44 (by decide) (fun _ => ?_) (fun h9 => absurd (by decide +kernel) h9)
  refine lv_iinc (v := 10) (lv' := [(1, .int 10), (2, .int 0), (0, .ref o0)]) hx hb dX12_fromTable_107 hl (k := 1) rfl (by decide +kernel) (by decide) rfl (fun ls hl => ?_)
  refine lv_goto (tgt := 31) hx hb dX12_fromTable_110 (by decide) ?_
  refine lv_iload_n hx hb dX12_fromTable_31 rfl (lv_at hl 0 rfl) ?_
  refine lv_bipush (v := 12) hx hb dX12_fromTable_32 (by decide) ?_
  refine lv_icmp_ge (tgt := 113) hx hb dX12_fromTable_34 (by decide) (fun h9 => absurd h9 (by decide +kernel)) (fun _ => ?_)
  refine lv_iconst (v := 0) hx hb dX12_fromTable_37 (by decide) ?_
  refine lv_istore_n (lv' := [(2, .int 0), (1, .int 10), (0, .ref o0)]) hx hb dX12_fromTable_38 rfl hl (by decide) rfl (fun ls hl => ?_)
  refine lv_iload_n hx hb dX12_fromTable_39 rfl (lv_at hl 0 rfl) ?_
  refine lv_aload_n hx hb dX12_fromTable_40 rfl (lv_at hl 2 rfl) ?_
  refine va_get (D := (dC, dI)) (ci := 12) (v := .int 0) (C := RX12) (T := TX12) (N := 29) hx hb hts iw_X12_fromTable_X12 hown hK hP 0 rfl rfl 2 (by decide) (hts (.fieldLink RX12 73 "HolelessHouseModel" "n" "I") (by decide +kernel)) (fun _ h9 => h9) rfl dX12_fromTable_41 ?_
  refine lv_icmp_ge (tgt := 107) hx hb dX12_fromTable_44 (by decide) (fun _ => ?_) (fun h9 => absurd (by decide +kernel) h9)
  refine lv_iinc (v := 11) (lv' := [(1, .int 11), (2, .int 0), (0, .ref o0)]) hx hb dX12_fromTable_107 hl (k := 1) rfl (by decide +kernel) (by decide) rfl (fun ls hl => ?_)
  refine lv_goto (tgt := 31) hx hb dX12_fromTable_110 (by decide) ?_
  refine lv_iload_n hx hb dX12_fromTable_31 rfl (lv_at hl 0 rfl) ?_
  refine lv_bipush (v := 12) hx hb dX12_fromTable_32 (by decide) ?_
  refine lv_icmp_ge (tgt := 113) hx hb dX12_fromTable_34 (by decide) (fun h9 => absurd h9 (by decide +kernel)) (fun _ => ?_)
  refine lv_iconst (v := 0) hx hb dX12_fromTable_37 (by decide) ?_
  refine lv_istore_n (lv' := [(2, .int 0), (1, .int 11), (0, .ref o0)]) hx hb dX12_fromTable_38 rfl hl (by decide) rfl (fun ls hl => ?_)
  refine lv_iload_n hx hb dX12_fromTable_39 rfl (lv_at hl 0 rfl) ?_
  refine lv_aload_n hx hb dX12_fromTable_40 rfl (lv_at hl 2 rfl) ?_
  refine va_get (D := (dC, dI)) (ci := 12) (v := .int 0) (C := RX12) (T := TX12) (N := 29) hx hb hts iw_X12_fromTable_X12 hown hK hP 0 rfl rfl 2 (by decide) (hts (.fieldLink RX12 73 "HolelessHouseModel" "n" "I") (by decide +kernel)) (fun _ h9 => h9) rfl dX12_fromTable_41 ?_
  refine lv_icmp_ge (tgt := 107) hx hb dX12_fromTable_44 (by decide) (fun _ => ?_) (fun h9 => absurd (by decide +kernel) h9)
  refine lv_iinc (v := 12) (lv' := [(1, .int 12), (2, .int 0), (0, .ref o0)]) hx hb dX12_fromTable_107 hl (k := 1) rfl (by decide +kernel) (by decide) rfl (fun ls hl => ?_)
  refine lv_goto (tgt := 31) hx hb dX12_fromTable_110 (by decide) ?_
  refine lv_iload_n hx hb dX12_fromTable_31 rfl (lv_at hl 0 rfl) ?_
  refine lv_bipush (v := 12) hx hb dX12_fromTable_32 (by decide) ?_
  refine lv_icmp_ge (tgt := 113) hx hb dX12_fromTable_34 (by decide) (fun _ => ?_) (fun h9 => absurd (by decide +kernel) h9)
  refine lv_aload_n hx hb dX12_fromTable_113 rfl (lv_at hl 2 rfl) ?_
  refine lv_iconst (v := 0) hx hb dX12_fromTable_114 (by decide) ?_
  refine va_put (D := (dC, dI)) (ci := 12) (v := .int 0) (ty := .int) (C := RX12) (T := TX12) (N := 29) hx hb hts iw_X12_fromTable_X12 tyX12 tyX12_ok nmX12 hown hK hP hD hS 0 rfl rfl 9 (by decide) (hts (.fieldLink RX12 80 "HolelessHouseModel" "drafted" "I") (by decide +kernel)) (fun _ h9 => h9) rfl (by decide +kernel) rfl rfl (Nat.le_of_ble_eq_true rfl) dX12_fromTable_115 (fun H locs hP hD hS => ?_)
  have hP : va_P (dC, dI) vwCl [(o0, .inr (12, [.int 0, .ref o2, .int 0, .ref o1, .int 0, .ref o3, .ref o4, .int 0, .ref o5, .int 0, .ref o6, .int (-9), .int 0, .int 0, .ref o7, .ref o8, .ref o9, .ref o10, .ref o11, .int 0, .ref o12, .ref o13, .ref o14, .int 0, .ref o15, .ref o16, .ref o17, .int 0, .ref o18])), (o1, .inl (cI, 12, .inl (upd (upd (upd (upd (upd (upd (upd (upd (upd (upd (upd (upd (fun _ => 0) (Int32.toNatClampNeg 0) 0) (Int32.toNatClampNeg 1) 0) (Int32.toNatClampNeg 2) 0) (Int32.toNatClampNeg 3) 0) (Int32.toNatClampNeg 4) 0) (Int32.toNatClampNeg 5) 0) (Int32.toNatClampNeg 6) 0) (Int32.toNatClampNeg 7) 0) (Int32.toNatClampNeg 8) 0) (Int32.toNatClampNeg 9) 0) (Int32.toNatClampNeg 10) 0) (Int32.toNatClampNeg 11) 0)))] H := hP
  have hD : va_D A [(o0, .inr (12, [.int 0, .ref o2, .int 0, .ref o1, .int 0, .ref o3, .ref o4, .int 0, .ref o5, .int 0, .ref o6, .int (-9), .int 0, .int 0, .ref o7, .ref o8, .ref o9, .ref o10, .ref o11, .int 0, .ref o12, .ref o13, .ref o14, .int 0, .ref o15, .ref o16, .ref o17, .int 0, .ref o18])), (o1, .inl (cI, 12, .inl (upd (upd (upd (upd (upd (upd (upd (upd (upd (upd (upd (upd (fun _ => 0) (Int32.toNatClampNeg 0) 0) (Int32.toNatClampNeg 1) 0) (Int32.toNatClampNeg 2) 0) (Int32.toNatClampNeg 3) 0) (Int32.toNatClampNeg 4) 0) (Int32.toNatClampNeg 5) 0) (Int32.toNatClampNeg 6) 0) (Int32.toNatClampNeg 7) 0) (Int32.toNatClampNeg 8) 0) (Int32.toNatClampNeg 9) 0) (Int32.toNatClampNeg 10) 0) (Int32.toNatClampNeg 11) 0)))] := hD
  refine lv_aload_n hx hb dX12_fromTable_118 rfl (lv_at hl 2 rfl) ?_
  refine kcall_v (D := (dC, dI)) (S := Unit) (wc := [(o0, .inr (12, [.int 0, .ref o2, .int 0, .ref o1, .int 0, .ref o3, .ref o4, .int 0, .ref o5, .int 0, .ref o6, .int (-9), .int 0, .int 0, .ref o7, .ref o8, .ref o9, .ref o10, .ref o11, .int 0, .ref o12, .ref o13, .ref o14, .int 0, .ref o15, .ref o16, .ref o17, .int 0, .ref o18]))]) (wr := [(o1, .inl (cI, 12, .inl (upd (upd (upd (upd (upd (upd (upd (upd (upd (upd (upd (upd (fun _ => 0) (Int32.toNatClampNeg 0) 0) (Int32.toNatClampNeg 1) 0) (Int32.toNatClampNeg 2) 0) (Int32.toNatClampNeg 3) 0) (Int32.toNatClampNeg 4) 0) (Int32.toNatClampNeg 5) 0) (Int32.toNatClampNeg 6) 0) (Int32.toNatClampNeg 7) 0) (Int32.toNatClampNeg 8) 0) (Int32.toNatClampNeg 9) 0) (Int32.toNatClampNeg 10) 0) (Int32.toNatClampNeg 11) 0)))]) (w1 := fun _ => [(o0, .inr (12, [.int 0, .ref o2, .int 0, .ref o1, .int 0, .ref o3, .ref o4, .int 0, .ref o5, .int 0, .ref o6, .int (-9), .int 0, .int 0, .ref o7, .ref o8, .ref o9, .ref o10, .ref o11, .int 0, .ref o12, .ref o13, .ref o14, .int 0, .ref o15, .ref o16, .ref o17, .int 0, .ref o18]))]) (fun hPc hDc => va_runV (As := []) (rest := []) ⟨hx, hb, hml, hown, hts⟩ (kX12_changed_2 l dC dI cI c2 o0 o2 o1 o3 o4 o5 o6 o7 o8 o9 o10 o11 o12 o13 o14 o15 o16 o17 o18 H.size) (cwV 0 hts gX12_fromTable_X12_changed rfl rfl rfl (by decide +kernel) ⟨Nat.le_of_ble_eq_true rfl, Nat.le_of_ble_eq_true rfl⟩) (pre_V hPc hK hDc hN (ci := 12) (q0 := 0) rfl rfl) rfl rfl hl.1 rfl (lv_room (Nat.le_of_ble_eq_true rfl)) dX12_fromTable_119 ⟨Nat.le_of_ble_eq_true rfl, Nat.le_of_ble_eq_true rfl⟩) hP hD hS hA [0] [1] rfl rfl (by decide) (by decide) (by decide) (fun u H locs hP hD hS => ?_)
  have hP : va_P (dC, dI) vwCl [(o1, .inl (cI, 12, .inl (upd (upd (upd (upd (upd (upd (upd (upd (upd (upd (upd (upd (fun _ => 0) (Int32.toNatClampNeg 0) 0) (Int32.toNatClampNeg 1) 0) (Int32.toNatClampNeg 2) 0) (Int32.toNatClampNeg 3) 0) (Int32.toNatClampNeg 4) 0) (Int32.toNatClampNeg 5) 0) (Int32.toNatClampNeg 6) 0) (Int32.toNatClampNeg 7) 0) (Int32.toNatClampNeg 8) 0) (Int32.toNatClampNeg 9) 0) (Int32.toNatClampNeg 10) 0) (Int32.toNatClampNeg 11) 0))), (o0, .inr (12, [.int 0, .ref o2, .int 0, .ref o1, .int 0, .ref o3, .ref o4, .int 0, .ref o5, .int 0, .ref o6, .int (-9), .int 0, .int 0, .ref o7, .ref o8, .ref o9, .ref o10, .ref o11, .int 0, .ref o12, .ref o13, .ref o14, .int 0, .ref o15, .ref o16, .ref o17, .int 0, .ref o18]))] H := hP
  have hD : va_D A [(o1, .inl (cI, 12, .inl (upd (upd (upd (upd (upd (upd (upd (upd (upd (upd (upd (upd (fun _ => 0) (Int32.toNatClampNeg 0) 0) (Int32.toNatClampNeg 1) 0) (Int32.toNatClampNeg 2) 0) (Int32.toNatClampNeg 3) 0) (Int32.toNatClampNeg 4) 0) (Int32.toNatClampNeg 5) 0) (Int32.toNatClampNeg 6) 0) (Int32.toNatClampNeg 7) 0) (Int32.toNatClampNeg 8) 0) (Int32.toNatClampNeg 9) 0) (Int32.toNatClampNeg 10) 0) (Int32.toNatClampNeg 11) 0))), (o0, .inr (12, [.int 0, .ref o2, .int 0, .ref o1, .int 0, .ref o3, .ref o4, .int 0, .ref o5, .int 0, .ref o6, .int (-9), .int 0, .int 0, .ref o7, .ref o8, .ref o9, .ref o10, .ref o11, .int 0, .ref o12, .ref o13, .ref o14, .int 0, .ref o15, .ref o16, .ref o17, .int 0, .ref o18]))] := hD
  refine lv_aload_n hx hb dX12_fromTable_122 rfl (lv_at hl 2 rfl) ?_
  refine va_get (D := (dC, dI)) (ci := 12) (v := .int 0) (C := RX12) (T := TX12) (N := 29) hx hb hts iw_X12_fromTable_X12 hown hK hP 1 rfl rfl 2 (by decide) (hts (.fieldLink RX12 73 "HolelessHouseModel" "n" "I") (by decide +kernel)) (fun _ h9 => h9) rfl dX12_fromTable_123 ?_
  have hP := P_arr hP 0 (fun _ => 0) rfl (by decide +kernel)
  have hD := D_arr (e := .inl (cI, 12, .inl (fun _ => 0))) hD 0 rfl
  have hP : va_P (dC, dI) vwCl [(o1, .inl (cI, 12, .inl (fun _ => 0))), (o0, .inr (12, [.int 0, .ref o2, .int 0, .ref o1, .int 0, .ref o3, .ref o4, .int 0, .ref o5, .int 0, .ref o6, .int (-9), .int 0, .int 0, .ref o7, .ref o8, .ref o9, .ref o10, .ref o11, .int 0, .ref o12, .ref o13, .ref o14, .int 0, .ref o15, .ref o16, .ref o17, .int 0, .ref o18]))] H := hP
  have hD : va_D A [(o1, .inl (cI, 12, .inl (fun _ => 0))), (o0, .inr (12, [.int 0, .ref o2, .int 0, .ref o1, .int 0, .ref o3, .ref o4, .int 0, .ref o5, .int 0, .ref o6, .int (-9), .int 0, .int 0, .ref o7, .ref o8, .ref o9, .ref o10, .ref o11, .int 0, .ref o12, .ref o13, .ref o14, .int 0, .ref o15, .ref o16, .ref o17, .int 0, .ref o18]))] := hD
  have hP9 := hP.sub (ws' := []) [] rfl
  have hD9 := hD.sub (ws' := []) [] (by decide) rfl
  exact W.iret (v := 0) hx hb hr (fun t ht hW => ⟨⟨0, (), rfl, rfl, by rw [ht]; exact hP9, va_K.moved hW.alike hK, hD9⟩, hS.F ht⟩) hS.2.2 dX12_fromTable_126
theorem iw_X4_invert_X4 : ∀ w ∈ wsX40, w ∈ wsX4_invert := by decide +kernel
set_option maxHeartbeats 1000000 in
set_option maxRecDepth 100000 in
theorem kX4_invert_1 (l : Launch) (dC : Nat → ClassId) (dI : Nat → Nat → Nat) (cI c2 : ClassId) (o0 : Nat) (o1 : Nat) (sz : Nat) : Met l yX4_invert wsX4_invert ({ frames := 0, cells := 0, slots := 0, locals := 0 }) (va_Pc [.ref o0] (wPre (dC, dI) [(cI, .int), (c2, .array .int)] [(o0, .inr (4, [.ref o1, .int 0, .int 0]))] sz)) (va_Qv (fun (_ : Unit) => True) (fun _ t => wPost (dC, dI) [(cI, .int), (c2, .array .int)] (va_A [(o0, .inr (4, [.ref o1, .int 0, .int 0]))] sz) [(o0, .inr (4, [.ref o1, .int 0, .int 1]))] t) (va_A [(o0, .inr (4, [.ref o1, .int 0, .int 0]))] sz)) 0 0 (va_A [(o0, .inr (4, [.ref o1, .int 0, .int 0]))] sz) := by
  refine Met.ofW (cc := cX4_invert) (maxL := 2) (ret := none) (by decide) rfl ?_
  intro p e s m args below meth c s₁ B hml hv
  obtain ⟨rfl, hsz, hP, hK, hD0, hN⟩ := hv
  have hx := B.exec
  have hb := B.bytes
  have hr := B.returns
  have hts := atoms_spec (ws := wsX4_invert) B.pre
  have hown : s.vm.findClass RX4 = some m.cls := findClass_of_methodNamed B.named
  have hlocks := B.notSynchronized
  subst hsz
  have hD := hD0.self (sz := s.heap.size)
  generalize hAe : va_A [(o0, .inr (4, [.ref o1, .int 0, .int 0]))] s.heap.size = A at hD ⊢
  have hA : ∀ q : Nat, s.heap.size ≤ q → A q := fun q h => by rw [← hAe]; exact Or.inr h
  have hS : va_S A s.heap s.heap [] := va_S.rf
  have hP : va_P (dC, dI) vwCl [(o0, .inr (4, [.ref o1, .int 0, .int 0]))] s.heap := hP
  have hl := lv_entry ([.ref o0]) (n := 2) (Nat.le_of_ble_eq_true rfl)
  rw [lg_entry_eq]
  generalize (lg_sl ([.ref o0]) ++ List.replicate (2 - (lg_sl ([.ref o0])).length) Slot.unset).toArray = ls at hl ⊢
  have hl : lv_has ls 2 [(0, .ref o0)] := hl
  refine lv_iconst (v := 0) hx hb dX4_invert_0 (by decide) ?_
  refine lv_istore_n (lv' := [(1, .int 0), (0, .ref o0)]) hx hb dX4_invert_1 rfl hl (by decide) rfl (fun ls hl => ?_)
  refine lv_iload_n hx hb dX4_invert_2 rfl (lv_at hl 0 rfl) ?_
  refine lv_aload_n hx hb dX4_invert_3 rfl (lv_at hl 1 rfl) ?_
  refine va_get (D := (dC, dI)) (ci := 4) (v := .int 0) (C := RX4) (T := TX4) (N := 3) hx hb hts iw_X4_invert_X4 hown hK hP 0 rfl rfl 1 (by decide) (hts (.fieldLink RX4 15 "HolelessHouse$Graph" "size" "I") (by decide +kernel)) (fun _ h9 => h9) rfl dX4_invert_4 ?_
  refine lv_icmp_ge (tgt := 41) hx hb dX4_invert_7 (by decide) (fun _ => ?_) (fun h9 => absurd (by decide +kernel) h9)
  refine lv_aload_n hx hb dX4_invert_41 rfl (lv_at hl 1 rfl) ?_
  refine lv_dup hx hb dX4_invert_42 rfl ?_
  refine va_get (D := (dC, dI)) (ci := 4) (v := .int 0) (C := RX4) (T := TX4) (N := 3) hx hb hts iw_X4_invert_X4 hown hK hP 0 rfl rfl 2 (by decide) (hts (.fieldLink RX4 19 "HolelessHouse$Graph" "version" "I") (by decide +kernel)) (fun _ h9 => h9) rfl dX4_invert_43 ?_
  refine lv_iconst (v := 1) hx hb dX4_invert_46 (by decide) ?_
  refine lv_iadd hx hb dX4_invert_47 (tk_i (v := 1) (by decide +kernel) ?_)
  refine va_put (D := (dC, dI)) (ci := 4) (v := .int 1) (ty := .int) (C := RX4) (T := TX4) (N := 3) hx hb hts iw_X4_invert_X4 tyX4 tyX4_ok nmX4 hown hK hP hD hS 0 rfl rfl 2 (by decide) (hts (.fieldLink RX4 19 "HolelessHouse$Graph" "version" "I") (by decide +kernel)) (fun _ h9 => h9) rfl (by decide +kernel) rfl rfl (Nat.le_of_ble_eq_true rfl) dX4_invert_48 (fun H locs hP hD hS => ?_)
  have hP : va_P (dC, dI) vwCl [(o0, .inr (4, [.ref o1, .int 0, .int 1]))] H := hP
  have hD : va_D A [(o0, .inr (4, [.ref o1, .int 0, .int 1]))] := hD
  have hP9 := hP.sub (ws' := [(o0, .inr (4, [.ref o1, .int 0, .int 1]))]) [0] rfl
  have hD9 := hD.sub (ws' := [(o0, .inr (4, [.ref o1, .int 0, .int 1]))]) [0] (by decide) rfl
  exact W.vret hx hb hr (fun t ht hW => ⟨⟨(), rfl, trivial, by rw [ht]; exact hP9, va_K.moved hW.alike hK, hD9⟩, hS.F ht⟩) hS.2.2 dX4_invert_51
theorem iw_X4_pairs_X4 : ∀ w ∈ wsX40, w ∈ wsX4_pairs := by decide +kernel
set_option maxHeartbeats 1000000 in
set_option maxRecDepth 100000 in
theorem kX4_pairs_1 (l : Launch) (dC : Nat → ClassId) (dI : Nat → Nat → Nat) (cI c2 : ClassId) (o0 : Nat) (o1 : Nat) (sz : Nat) : Met l yX4_pairs wsX4_pairs ({ frames := 0, cells := 0, slots := 0, locals := 0 }) (va_Pc [.ref o0] (wPre (dC, dI) [(cI, .int), (c2, .array .int)] [(o0, .inr (4, [.ref o1, .int 0, .int 1]))] sz)) (va_Qi (fun (r : Int32) (_ : Unit) => r = 0) (fun _ t => wPost (dC, dI) [(cI, .int), (c2, .array .int)] (va_A [(o0, .inr (4, [.ref o1, .int 0, .int 1]))] sz) [(o0, .inr (4, [.ref o1, .int 0, .int 1]))] t) (va_A [(o0, .inr (4, [.ref o1, .int 0, .int 1]))] sz)) 0 0 (va_A [(o0, .inr (4, [.ref o1, .int 0, .int 1]))] sz) := by
  refine Met.ofW (cc := cX4_pairs) (maxL := 3) (ret := (some .int)) (by decide) rfl ?_
  intro p e s m args below meth c s₁ B hml hv
  obtain ⟨rfl, hsz, hP, hK, hD0, hN⟩ := hv
  have hx := B.exec
  have hb := B.bytes
  have hr := B.returns
  have hts := atoms_spec (ws := wsX4_pairs) B.pre
  have hown : s.vm.findClass RX4 = some m.cls := findClass_of_methodNamed B.named
  have hlocks := B.notSynchronized
  subst hsz
  have hD := hD0.self (sz := s.heap.size)
  generalize hAe : va_A [(o0, .inr (4, [.ref o1, .int 0, .int 1]))] s.heap.size = A at hD ⊢
  have hA : ∀ q : Nat, s.heap.size ≤ q → A q := fun q h => by rw [← hAe]; exact Or.inr h
  have hS : va_S A s.heap s.heap [] := va_S.rf
  have hP : va_P (dC, dI) vwCl [(o0, .inr (4, [.ref o1, .int 0, .int 1]))] s.heap := hP
  have hl := lv_entry ([.ref o0]) (n := 3) (Nat.le_of_ble_eq_true rfl)
  rw [lg_entry_eq]
  generalize (lg_sl ([.ref o0]) ++ List.replicate (3 - (lg_sl ([.ref o0])).length) Slot.unset).toArray = ls at hl ⊢
  have hl : lv_has ls 3 [(0, .ref o0)] := hl
  refine lv_iconst (v := 0) hx hb dX4_pairs_0 (by decide) ?_
  refine lv_istore_n (lv' := [(1, .int 0), (0, .ref o0)]) hx hb dX4_pairs_1 rfl hl (by decide) rfl (fun ls hl => ?_)
  refine lv_iconst (v := 0) hx hb dX4_pairs_2 (by decide) ?_
  refine lv_istore_n (lv' := [(2, .int 0), (1, .int 0), (0, .ref o0)]) hx hb dX4_pairs_3 rfl hl (by decide) rfl (fun ls hl => ?_)
  refine lv_iload_n hx hb dX4_pairs_4 rfl (lv_at hl 0 rfl) ?_
  refine lv_aload_n hx hb dX4_pairs_5 rfl (lv_at hl 2 rfl) ?_
  refine va_get (D := (dC, dI)) (ci := 4) (v := .int 0) (C := RX4) (T := TX4) (N := 3) hx hb hts iw_X4_pairs_X4 hown hK hP 0 rfl rfl 1 (by decide) (hts (.fieldLink RX4 15 "HolelessHouse$Graph" "size" "I") (by decide +kernel)) (fun _ h9 => h9) rfl dX4_pairs_6 ?_
  refine lv_icmp_ge (tgt := 30) hx hb dX4_pairs_9 (by decide) (fun _ => ?_) (fun h9 => absurd (by decide +kernel) h9)
  refine lv_iload_n hx hb dX4_pairs_30 rfl (lv_at hl 1 rfl) ?_
  refine lv_iconst (v := 2) hx hb dX4_pairs_31 (by decide) ?_
  refine lv_idiv hx hb dX4_pairs_32 (by decide +kernel) (tk_i (v := 0) (by decide +kernel) ?_)
  have hP9 := hP.sub (ws' := [(o0, .inr (4, [.ref o1, .int 0, .int 1]))]) [0] rfl
  have hD9 := hD.sub (ws' := [(o0, .inr (4, [.ref o1, .int 0, .int 1]))]) [0] (by decide) rfl
  exact W.iret (v := 0) hx hb hr (fun t ht hW => ⟨⟨0, (), rfl, rfl, by rw [ht]; exact hP9, va_K.moved hW.alike hK, hD9⟩, hS.F ht⟩) hS.2.2 dX4_pairs_33
theorem iw_X11_turn_X11 : ∀ w ∈ wsX110, w ∈ wsX11_turn := by decide +kernel
set_option maxHeartbeats 1000000 in
set_option maxRecDepth 100000 in
theorem kX11_turn_1 (l : Launch) (dC : Nat → ClassId) (dI : Nat → Nat → Nat) (cI c2 : ClassId) (o0 : Nat) (o1 : Nat) (o2 : Nat) (o3 : Nat) (o4 : Nat) (o5 : Nat) (o6 : Nat) (o7 : Nat) (o8 : Nat) (o9 : Nat) (o10 : Nat) (o11 : Nat) (o12 : Nat) (o13 : Nat) (o14 : Nat) (o15 : Nat) (o16 : Nat) (o17 : Nat) (sz : Nat) : Met l yX11_turn wsX11_turn ({ frames := 1, cells := 0, slots := 0, locals := 22 }) (va_Pc [.ref o0] (wPre (dC, dI) [(cI, .int), (c2, .array .int)] [(o0, .inr (11, [.ref o1, .ref o3, .ref o2, .ref o4, .ref o5, .ref o6, .ref o7, .ref o8, .ref o9, .ref o10, .ref o11, .ref o12, .int 0])), (o1, .inr (4, [.ref o13, .int 0, .int 0])), (o2, .inr (6, [.ref o14, .ref o15, .ref o16, .ref o17, .int 0, .int 0, .int 0, .int 0, .int 0]))] sz)) (va_Qi (fun (r : Int32) (_ : Unit) => r = 0) (fun _ t => wPost (dC, dI) [(cI, .int), (c2, .array .int)] (va_A [(o0, .inr (11, [.ref o1, .ref o3, .ref o2, .ref o4, .ref o5, .ref o6, .ref o7, .ref o8, .ref o9, .ref o10, .ref o11, .ref o12, .int 0])), (o1, .inr (4, [.ref o13, .int 0, .int 0])), (o2, .inr (6, [.ref o14, .ref o15, .ref o16, .ref o17, .int 0, .int 0, .int 0, .int 0, .int 0]))] sz) [] t) (va_A [(o0, .inr (11, [.ref o1, .ref o3, .ref o2, .ref o4, .ref o5, .ref o6, .ref o7, .ref o8, .ref o9, .ref o10, .ref o11, .ref o12, .int 0])), (o1, .inr (4, [.ref o13, .int 0, .int 0])), (o2, .inr (6, [.ref o14, .ref o15, .ref o16, .ref o17, .int 0, .int 0, .int 0, .int 0, .int 0]))] sz)) 0 0 (va_A [(o0, .inr (11, [.ref o1, .ref o3, .ref o2, .ref o4, .ref o5, .ref o6, .ref o7, .ref o8, .ref o9, .ref o10, .ref o11, .ref o12, .int 0])), (o1, .inr (4, [.ref o13, .int 0, .int 0])), (o2, .inr (6, [.ref o14, .ref o15, .ref o16, .ref o17, .int 0, .int 0, .int 0, .int 0, .int 0]))] sz) := by
  refine Met.ofW (cc := cX11_turn) (maxL := 1) (ret := (some .int)) (by decide) rfl ?_
  intro p e s m args below meth c s₁ B hml hv
  obtain ⟨rfl, hsz, hP, hK, hD0, hN⟩ := hv
  have hx := B.exec
  have hb := B.bytes
  have hr := B.returns
  have hts := atoms_spec (ws := wsX11_turn) B.pre
  have hown : s.vm.findClass RX11 = some m.cls := findClass_of_methodNamed B.named
  have hlocks := B.notSynchronized
  subst hsz
  have hD := hD0.self (sz := s.heap.size)
  generalize hAe : va_A [(o0, .inr (11, [.ref o1, .ref o3, .ref o2, .ref o4, .ref o5, .ref o6, .ref o7, .ref o8, .ref o9, .ref o10, .ref o11, .ref o12, .int 0])), (o1, .inr (4, [.ref o13, .int 0, .int 0])), (o2, .inr (6, [.ref o14, .ref o15, .ref o16, .ref o17, .int 0, .int 0, .int 0, .int 0, .int 0]))] s.heap.size = A at hD ⊢
  have hA : ∀ q : Nat, s.heap.size ≤ q → A q := fun q h => by rw [← hAe]; exact Or.inr h
  have hS : va_S A s.heap s.heap [] := va_S.rf
  have hP : va_P (dC, dI) vwCl [(o0, .inr (11, [.ref o1, .ref o3, .ref o2, .ref o4, .ref o5, .ref o6, .ref o7, .ref o8, .ref o9, .ref o10, .ref o11, .ref o12, .int 0])), (o1, .inr (4, [.ref o13, .int 0, .int 0])), (o2, .inr (6, [.ref o14, .ref o15, .ref o16, .ref o17, .int 0, .int 0, .int 0, .int 0, .int 0]))] s.heap := hP
  have hl := lv_entry ([.ref o0]) (n := 1) (Nat.le_of_ble_eq_true rfl)
  rw [lg_entry_eq]
  generalize (lg_sl ([.ref o0]) ++ List.replicate (1 - (lg_sl ([.ref o0])).length) Slot.unset).toArray = ls at hl ⊢
  have hl : lv_has ls 1 [(0, .ref o0)] := hl
  refine lv_aload_n hx hb dX11_turn_0 rfl (lv_at hl 0 rfl) ?_
  refine va_get (D := (dC, dI)) (ci := 11) (v := .ref o1) (C := RX11) (T := TX11) (N := 13) hx hb hts iw_X11_turn_X11 hown hK hP 0 rfl rfl 0 (by decide) (hts (.fieldLink RX11 10 "HolelessHouse" "graph" "LHolelessHouse$Graph;") (by decide +kernel)) (fun _ h9 => h9) rfl dX11_turn_1 ?_
  refine kcall_v (D := (dC, dI)) (S := Unit) (wc := [(o1, .inr (4, [.ref o13, .int 0, .int 0]))]) (wr := [(o0, .inr (11, [.ref o1, .ref o3, .ref o2, .ref o4, .ref o5, .ref o6, .ref o7, .ref o8, .ref o9, .ref o10, .ref o11, .ref o12, .int 0])), (o2, .inr (6, [.ref o14, .ref o15, .ref o16, .ref o17, .int 0, .int 0, .int 0, .int 0, .int 0]))]) (w1 := fun _ => [(o1, .inr (4, [.ref o13, .int 0, .int 1]))]) (fun hPc hDc => va_runVN (As := []) (rest := []) ⟨hx, hb, hml, hown, hts⟩ (kX4_invert_1 l dC dI cI c2 o1 o13 s.heap.size) ⟨va_cnB 0 hts gX11_turn_X4_invert_n145 rfl rfl rfl (hN.1 _ ns_78) (hts (.initialized RX4) (by decide +kernel)) (by decide +kernel) ⟨Nat.le_of_ble_eq_true rfl, Nat.le_of_ble_eq_true rfl⟩, (hts (.instanceMethod yX4_invert) (by decide +kernel)), (hts (.selects RX4 yX4_invert yX4_invert) (by decide +kernel))⟩ (pre_V hPc hK hDc hN (ci := 4) (q0 := 0) rfl rfl) rfl rfl hl.1 rfl (lv_room (Nat.le_of_ble_eq_true rfl)) dX11_turn_4 ⟨Nat.le_of_ble_eq_true rfl, Nat.le_of_ble_eq_true rfl⟩) hP hD hS hA [1] [0, 2] rfl rfl (by decide) (by decide) (by decide) (fun u H locs hP hD hS => ?_)
  have hP : va_P (dC, dI) vwCl [(o0, .inr (11, [.ref o1, .ref o3, .ref o2, .ref o4, .ref o5, .ref o6, .ref o7, .ref o8, .ref o9, .ref o10, .ref o11, .ref o12, .int 0])), (o2, .inr (6, [.ref o14, .ref o15, .ref o16, .ref o17, .int 0, .int 0, .int 0, .int 0, .int 0])), (o1, .inr (4, [.ref o13, .int 0, .int 1]))] H := hP
  have hD : va_D A [(o0, .inr (11, [.ref o1, .ref o3, .ref o2, .ref o4, .ref o5, .ref o6, .ref o7, .ref o8, .ref o9, .ref o10, .ref o11, .ref o12, .int 0])), (o2, .inr (6, [.ref o14, .ref o15, .ref o16, .ref o17, .int 0, .int 0, .int 0, .int 0, .int 0])), (o1, .inr (4, [.ref o13, .int 0, .int 1]))] := hD
  refine lv_aload_n hx hb dX11_turn_7 rfl (lv_at hl 0 rfl) ?_
  refine va_get (D := (dC, dI)) (ci := 11) (v := .ref o2) (C := RX11) (T := TX11) (N := 13) hx hb hts iw_X11_turn_X11 hown hK hP 0 rfl rfl 2 (by decide) (hts (.fieldLink RX11 26 "HolelessHouse" "ordering" "LHolelessHouse$Ordering;") (by decide +kernel)) (fun _ h9 => h9) rfl dX11_turn_8 ?_
  refine kcall_v (D := (dC, dI)) (S := Unit) (wc := [(o2, .inr (6, [.ref o14, .ref o15, .ref o16, .ref o17, .int 0, .int 0, .int 0, .int 0, .int 0]))]) (wr := [(o0, .inr (11, [.ref o1, .ref o3, .ref o2, .ref o4, .ref o5, .ref o6, .ref o7, .ref o8, .ref o9, .ref o10, .ref o11, .ref o12, .int 0])), (o1, .inr (4, [.ref o13, .int 0, .int 1]))]) (w1 := fun _ => [(o2, .inr (6, [.ref o14, .ref o15, .ref o16, .ref o17, .int 0, .int 0, .int 0, .int 0, .int 0]))]) (fun hPc hDc => va_runVN (As := []) (rest := []) ⟨hx, hb, hml, hown, hts⟩ (kX6_drop_1 l dC dI cI c2 o2 o14 o15 o16 o17 H.size) ⟨va_cnB 0 hts gX11_turn_X6_drop_n105 rfl rfl rfl (hN.1 _ ns_62) (hts (.initialized RX6) (by decide +kernel)) (by decide +kernel) ⟨Nat.le_of_ble_eq_true rfl, Nat.le_of_ble_eq_true rfl⟩, (hts (.instanceMethod yX6_drop) (by decide +kernel)), (hts (.selects RX6 yX6_drop yX6_drop) (by decide +kernel))⟩ (pre_V hPc hK hDc hN (ci := 6) (q0 := 0) rfl rfl) rfl rfl hl.1 rfl (lv_room (Nat.le_of_ble_eq_true rfl)) dX11_turn_11 ⟨Nat.le_of_ble_eq_true rfl, Nat.le_of_ble_eq_true rfl⟩) hP hD hS hA [1] [0, 2] rfl rfl (by decide) (by decide) (by decide) (fun u H locs hP hD hS => ?_)
  have hP : va_P (dC, dI) vwCl [(o0, .inr (11, [.ref o1, .ref o3, .ref o2, .ref o4, .ref o5, .ref o6, .ref o7, .ref o8, .ref o9, .ref o10, .ref o11, .ref o12, .int 0])), (o1, .inr (4, [.ref o13, .int 0, .int 1])), (o2, .inr (6, [.ref o14, .ref o15, .ref o16, .ref o17, .int 0, .int 0, .int 0, .int 0, .int 0]))] H := hP
  have hD : va_D A [(o0, .inr (11, [.ref o1, .ref o3, .ref o2, .ref o4, .ref o5, .ref o6, .ref o7, .ref o8, .ref o9, .ref o10, .ref o11, .ref o12, .int 0])), (o1, .inr (4, [.ref o13, .int 0, .int 1])), (o2, .inr (6, [.ref o14, .ref o15, .ref o16, .ref o17, .int 0, .int 0, .int 0, .int 0, .int 0]))] := hD
  refine lv_aload_n hx hb dX11_turn_14 rfl (lv_at hl 0 rfl) ?_
  refine va_get (D := (dC, dI)) (ci := 11) (v := .ref o1) (C := RX11) (T := TX11) (N := 13) hx hb hts iw_X11_turn_X11 hown hK hP 0 rfl rfl 0 (by decide) (hts (.fieldLink RX11 10 "HolelessHouse" "graph" "LHolelessHouse$Graph;") (by decide +kernel)) (fun _ h9 => h9) rfl dX11_turn_15 ?_
  refine kcall_i (D := (dC, dI)) (S := Unit) (v := 0) (wc := [(o1, .inr (4, [.ref o13, .int 0, .int 1]))]) (wr := [(o0, .inr (11, [.ref o1, .ref o3, .ref o2, .ref o4, .ref o5, .ref o6, .ref o7, .ref o8, .ref o9, .ref o10, .ref o11, .ref o12, .int 0])), (o2, .inr (6, [.ref o14, .ref o15, .ref o16, .ref o17, .int 0, .int 0, .int 0, .int 0, .int 0]))]) (w1 := fun _ => [(o1, .inr (4, [.ref o13, .int 0, .int 1]))]) (fun hPc hDc => va_runVN (As := []) (rest := []) ⟨hx, hb, hml, hown, hts⟩ (kX4_pairs_1 l dC dI cI c2 o1 o13 H.size) ⟨va_cnB 0 hts gX11_turn_X4_pairs_n148 rfl rfl rfl (hN.1 _ ns_79) (hts (.initialized RX4) (by decide +kernel)) (by decide +kernel) ⟨Nat.le_of_ble_eq_true rfl, Nat.le_of_ble_eq_true rfl⟩, (hts (.instanceMethod yX4_pairs) (by decide +kernel)), (hts (.selects RX4 yX4_pairs yX4_pairs) (by decide +kernel))⟩ (pre_V hPc hK hDc hN (ci := 4) (q0 := 0) rfl rfl) rfl rfl hl.1 rfl (lv_room (Nat.le_of_ble_eq_true rfl)) dX11_turn_18 ⟨Nat.le_of_ble_eq_true rfl, Nat.le_of_ble_eq_true rfl⟩) hP hD hS hA [1] [0, 2] rfl rfl (by decide) (by decide) (by decide) (fun u H locs hP hD hS => ?_)
  have hP : va_P (dC, dI) vwCl [(o0, .inr (11, [.ref o1, .ref o3, .ref o2, .ref o4, .ref o5, .ref o6, .ref o7, .ref o8, .ref o9, .ref o10, .ref o11, .ref o12, .int 0])), (o2, .inr (6, [.ref o14, .ref o15, .ref o16, .ref o17, .int 0, .int 0, .int 0, .int 0, .int 0])), (o1, .inr (4, [.ref o13, .int 0, .int 1]))] H := hP
  have hD : va_D A [(o0, .inr (11, [.ref o1, .ref o3, .ref o2, .ref o4, .ref o5, .ref o6, .ref o7, .ref o8, .ref o9, .ref o10, .ref o11, .ref o12, .int 0])), (o2, .inr (6, [.ref o14, .ref o15, .ref o16, .ref o17, .int 0, .int 0, .int 0, .int 0, .int 0])), (o1, .inr (4, [.ref o13, .int 0, .int 1]))] := hD
  have hP9 := hP.sub (ws' := []) [] rfl
  have hD9 := hD.sub (ws' := []) [] (by decide) rfl
  exact W.iret (v := 0) hx hb hr (fun t ht hW => ⟨⟨0, (), rfl, rfl, by rw [ht]; exact hP9, va_K.moved hW.alike hK, hD9⟩, hS.F ht⟩) hS.2.2 dX11_turn_21
