set_option maxHeartbeats 1000000 in
set_option maxRecDepth 100000 in
theorem kX11_rule_1 (l : Launch) (dC : Nat → ClassId) (dI : Nat → Nat → Nat) (cI c2 : ClassId) (o0 : Nat) (o1 : Nat) (o2 : Nat) (o3 : Nat) (o4 : Nat) (o5 : Nat) (o6 : Nat) (o7 : Nat) (o8 : Nat) (o9 : Nat) (o10 : Nat) (o11 : Nat) (o12 : Nat) (sz : Nat) (a1 : Int32) (a1_lo : (-2147483648) ≤ a1.toInt) (a1_hi : a1.toInt ≤ (-1)) : Met l yX11_rule wsX11_rule ({ frames := 0, cells := 0, slots := 0, locals := 0 }) (va_Pc [.ref o0, .int a1] (wPre (dC, dI) [(cI, .int), (c2, .array .int)] [(o0, .inr (11, [.ref o1, .ref o2, .ref o3, .ref o4, .ref o5, .ref o6, .ref o7, .ref o8, .ref o9, .ref o10, .ref o11, .ref o12, .int 0]))] sz)) (va_Qi (fun (r : Int32) (_ : Unit) => r = (-1)) (fun _ t => wPost (dC, dI) [(cI, .int), (c2, .array .int)] (va_A [(o0, .inr (11, [.ref o1, .ref o2, .ref o3, .ref o4, .ref o5, .ref o6, .ref o7, .ref o8, .ref o9, .ref o10, .ref o11, .ref o12, .int 0]))] sz) [] t) (va_A [(o0, .inr (11, [.ref o1, .ref o2, .ref o3, .ref o4, .ref o5, .ref o6, .ref o7, .ref o8, .ref o9, .ref o10, .ref o11, .ref o12, .int 0]))] sz)) 0 0 (va_A [(o0, .inr (11, [.ref o1, .ref o2, .ref o3, .ref o4, .ref o5, .ref o6, .ref o7, .ref o8, .ref o9, .ref o10, .ref o11, .ref o12, .int 0]))] sz) := by
  refine Met.ofW (cc := cX11_rule) (maxL := 2) (ret := (some .int)) (by decide) rfl ?_
  intro p e s m args below meth c s₁ B hml hv
  obtain ⟨rfl, hsz, hP, hK, hD0, hN⟩ := hv
  have hx := B.exec
  have hb := B.bytes
  have hr := B.returns
  have hts := atoms_spec (ws := wsX11_rule) B.pre
  have hown : s.vm.findClass RX11 = some m.cls := findClass_of_methodNamed B.named
  have hlocks := B.notSynchronized
  subst hsz
  have hD := hD0.self (sz := s.heap.size)
  generalize hAe : va_A [(o0, .inr (11, [.ref o1, .ref o2, .ref o3, .ref o4, .ref o5, .ref o6, .ref o7, .ref o8, .ref o9, .ref o10, .ref o11, .ref o12, .int 0]))] s.heap.size = A at hD ⊢
  have hA : ∀ q : Nat, s.heap.size ≤ q → A q := fun q h => by rw [← hAe]; exact Or.inr h
  have hS : va_S A s.heap s.heap [] := va_S.rf
  have hP : va_P (dC, dI) vwCl [(o0, .inr (11, [.ref o1, .ref o2, .ref o3, .ref o4, .ref o5, .ref o6, .ref o7, .ref o8, .ref o9, .ref o10, .ref o11, .ref o12, .int 0]))] s.heap := hP
  have hl := lv_entry ([.ref o0, .int a1]) (n := 2) (Nat.le_of_ble_eq_true rfl)
  rw [lg_entry_eq]
  generalize (lg_sl ([.ref o0, .int a1]) ++ List.replicate (2 - (lg_sl ([.ref o0, .int a1])).length) Slot.unset).toArray = ls at hl ⊢
  have hl : lv_has ls 2 [(0, .ref o0), (1, .int a1)] := hl
  refine lv_iload_n hx hb dX11_rule_0 rfl (lv_at hl 1 rfl) ?_
  refine lv_if_lt (tgt := 9) hx hb dX11_rule_1 (by decide) (fun _ => ?_) (fun h9 => absurd (ib_lt (X := a1.toInt) (Y := 0) rfl (by decide +kernel) (by omega)) h9)
  refine lv_iconst (v := (-1)) hx hb dX11_rule_9 (by decide) ?_
  have hP9 := hP.sub (ws' := []) [] rfl
  have hD9 := hD.sub (ws' := []) [] (by decide) rfl
  exact W.iret (v := (-1)) hx hb hr (fun t ht hW => ⟨⟨(-1), (), rfl, rfl, by rw [ht]; exact hP9, va_K.moved hW.alike hK, hD9⟩, hS.F ht⟩) hS.2.2 dX11_rule_10
set_option maxHeartbeats 1000000 in
set_option maxRecDepth 100000 in
theorem kX12_in_6 (l : Launch) (dC : Nat → ClassId) (dI : Nat → Nat → Nat) (cI c2 : ClassId) (sz : Nat) (a1 : Int32) (a1_lo : (-2147483648) ≤ a1.toInt) (a1_hi : a1.toInt ≤ (-1)) : Met l yX12_in wsX12_in ({ frames := 0, cells := 0, slots := 0, locals := 0 }) (va_Pc [.int a1, .int 0, .int 2] (wPre (dC, dI) [(cI, .int), (c2, .array .int)] [] sz)) (va_Qi (fun (r : Int32) (_ : Unit) => r = 0) (fun _ t => wPost (dC, dI) [(cI, .int), (c2, .array .int)] (va_A [] sz) [] t) (va_A [] sz)) 0 0 (va_A [] sz) := by
  refine Met.ofW (cc := cX12_in) (maxL := 3) (ret := (some .boolean)) (by decide) rfl ?_
  intro p e s m args below meth c s₁ B hml hv
  obtain ⟨rfl, hsz, hP, hK, hD0, hN⟩ := hv
  have hx := B.exec
  have hb := B.bytes
  have hr := B.returns
  have hts := atoms_spec (ws := wsX12_in) B.pre
  have hown : s.vm.findClass RX12 = some m.cls := findClass_of_methodNamed B.named
  have hlocks := B.notSynchronized
  subst hsz
  have hD := hD0.self (sz := s.heap.size)
  generalize hAe : va_A [] s.heap.size = A at hD ⊢
  have hA : ∀ q : Nat, s.heap.size ≤ q → A q := fun q h => by rw [← hAe]; exact Or.inr h
  have hS : va_S A s.heap s.heap [] := va_S.rf
  have hP : va_P (dC, dI) vwCl [] s.heap := hP
  have hl := lv_entry ([.int a1, .int 0, .int 2]) (n := 3) (Nat.le_of_ble_eq_true rfl)
  rw [lg_entry_eq]
  generalize (lg_sl ([.int a1, .int 0, .int 2]) ++ List.replicate (3 - (lg_sl ([.int a1, .int 0, .int 2])).length) Slot.unset).toArray = ls at hl ⊢
  have hl : lv_has ls 3 [(0, .int a1), (1, .int 0), (2, .int 2)] := hl
  refine lv_iload_n hx hb dX12_in_0 rfl (lv_at hl 0 rfl) ?_
  refine lv_iload_n hx hb dX12_in_1 rfl (lv_at hl 1 rfl) ?_
  refine lv_icmp_lt (tgt := 14) hx hb dX12_in_2 (by decide) (fun _ => ?_) (fun h9 => absurd (ib_lt (X := a1.toInt) (Y := 0) rfl (by decide +kernel) (by omega)) h9)
  refine lv_iconst (v := 0) hx hb dX12_in_14 (by decide) ?_
  have hP9 := hP.sub (ws' := []) [] rfl
  have hD9 := hD.sub (ws' := []) [] (by decide) rfl
  exact W.zret (v := 0) (ty := .boolean) hx hb hr rfl (fun t ht hW => ⟨⟨0, (), rfl, rfl, by rw [ht]; exact hP9, va_K.moved hW.alike hK, hD9⟩, hS.F ht⟩) hS.2.2 dX12_in_15
set_option maxHeartbeats 1000000 in
set_option maxRecDepth 100000 in
theorem kX12_rule_1 (l : Launch) (dC : Nat → ClassId) (dI : Nat → Nat → Nat) (cI c2 : ClassId) (o0 : Nat) (o1 : Nat) (o2 : Nat) (o3 : Nat) (o4 : Nat) (o5 : Nat) (o6 : Nat) (o7 : Nat) (o8 : Nat) (o9 : Nat) (o10 : Nat) (o11 : Nat) (o12 : Nat) (o13 : Nat) (o14 : Nat) (o15 : Nat) (o16 : Nat) (o17 : Nat) (o18 : Nat) (sz : Nat) (a1 : Int32) (a1_lo : (-2147483648) ≤ a1.toInt) (a1_hi : a1.toInt ≤ (-1)) : Met l yX12_rule wsX12_rule ({ frames := 1, cells := 0, slots := 0, locals := 22 }) (va_Pc [.ref o0, .int a1] (wPre (dC, dI) [(cI, .int), (c2, .array .int)] [(o0, .inr (12, [.int 0, .ref o1, .int 0, .ref o2, .int 0, .ref o3, .ref o4, .int 0, .ref o5, .int 0, .ref o6, .int (-9), .int 0, .int 0, .ref o7, .ref o8, .ref o9, .ref o10, .ref o11, .int 0, .ref o12, .ref o13, .ref o14, .int 0, .ref o15, .ref o16, .ref o17, .int 0, .ref o18]))] sz)) (va_Qi (fun (r : Int32) (_ : Unit) => r = (-1)) (fun _ t => wPost (dC, dI) [(cI, .int), (c2, .array .int)] (va_A [(o0, .inr (12, [.int 0, .ref o1, .int 0, .ref o2, .int 0, .ref o3, .ref o4, .int 0, .ref o5, .int 0, .ref o6, .int (-9), .int 0, .int 0, .ref o7, .ref o8, .ref o9, .ref o10, .ref o11, .int 0, .ref o12, .ref o13, .ref o14, .int 0, .ref o15, .ref o16, .ref o17, .int 0, .ref o18]))] sz) [] t) (va_A [(o0, .inr (12, [.int 0, .ref o1, .int 0, .ref o2, .int 0, .ref o3, .ref o4, .int 0, .ref o5, .int 0, .ref o6, .int (-9), .int 0, .int 0, .ref o7, .ref o8, .ref o9, .ref o10, .ref o11, .int 0, .ref o12, .ref o13, .ref o14, .int 0, .ref o15, .ref o16, .ref o17, .int 0, .ref o18]))] sz)) 0 0 (va_A [(o0, .inr (12, [.int 0, .ref o1, .int 0, .ref o2, .int 0, .ref o3, .ref o4, .int 0, .ref o5, .int 0, .ref o6, .int (-9), .int 0, .int 0, .ref o7, .ref o8, .ref o9, .ref o10, .ref o11, .int 0, .ref o12, .ref o13, .ref o14, .int 0, .ref o15, .ref o16, .ref o17, .int 0, .ref o18]))] sz) := by
  refine Met.ofW (cc := cX12_rule) (maxL := 5) (ret := (some .int)) (by decide) rfl ?_
  intro p e s m args below meth c s₁ B hml hv
  obtain ⟨rfl, hsz, hP, hK, hD0, hN⟩ := hv
  have hx := B.exec
  have hb := B.bytes
  have hr := B.returns
  have hts := atoms_spec (ws := wsX12_rule) B.pre
  have hown : s.vm.findClass RX12 = some m.cls := findClass_of_methodNamed B.named
  have hlocks := B.notSynchronized
  subst hsz
  have hD := hD0.self (sz := s.heap.size)
  generalize hAe : va_A [(o0, .inr (12, [.int 0, .ref o1, .int 0, .ref o2, .int 0, .ref o3, .ref o4, .int 0, .ref o5, .int 0, .ref o6, .int (-9), .int 0, .int 0, .ref o7, .ref o8, .ref o9, .ref o10, .ref o11, .int 0, .ref o12, .ref o13, .ref o14, .int 0, .ref o15, .ref o16, .ref o17, .int 0, .ref o18]))] s.heap.size = A at hD ⊢
  have hA : ∀ q : Nat, s.heap.size ≤ q → A q := fun q h => by rw [← hAe]; exact Or.inr h
  have hS : va_S A s.heap s.heap [] := va_S.rf
  have hP : va_P (dC, dI) vwCl [(o0, .inr (12, [.int 0, .ref o1, .int 0, .ref o2, .int 0, .ref o3, .ref o4, .int 0, .ref o5, .int 0, .ref o6, .int (-9), .int 0, .int 0, .ref o7, .ref o8, .ref o9, .ref o10, .ref o11, .int 0, .ref o12, .ref o13, .ref o14, .int 0, .ref o15, .ref o16, .ref o17, .int 0, .ref o18]))] s.heap := hP
  have hl := lv_entry ([.ref o0, .int a1]) (n := 5) (Nat.le_of_ble_eq_true rfl)
  rw [lg_entry_eq]
  generalize (lg_sl ([.ref o0, .int a1]) ++ List.replicate (5 - (lg_sl ([.ref o0, .int a1])).length) Slot.unset).toArray = ls at hl ⊢
  have hl : lv_has ls 5 [(0, .ref o0), (1, .int a1)] := hl
  refine lv_iload_n hx hb dX12_rule_0 rfl (lv_at hl 1 rfl) ?_
  refine lv_iconst (v := 0) hx hb dX12_rule_1 (by decide) ?_
  refine lv_iconst (v := 2) hx hb dX12_rule_2 (by decide) ?_
  refine kcall_i (D := (dC, dI)) (S := Unit) (v := 0) (wc := []) (wr := [(o0, .inr (12, [.int 0, .ref o1, .int 0, .ref o2, .int 0, .ref o3, .ref o4, .int 0, .ref o5, .int 0, .ref o6, .int (-9), .int 0, .int 0, .ref o7, .ref o8, .ref o9, .ref o10, .ref o11, .int 0, .ref o12, .ref o13, .ref o14, .int 0, .ref o15, .ref o16, .ref o17, .int 0, .ref o18]))]) (w1 := fun _ => []) (fun hPc hDc => va_runS (As := [.int a1, .int 0, .int 2]) (rest := []) ⟨hx, hb, hml, hown, hts⟩ (kX12_in_6 l dC dI cI c2 s.heap.size a1 (by omega) (by omega)) (va_cwS 3 hts gX12_rule_X12_in rfl rfl rfl (by decide +kernel) ⟨Nat.le_of_ble_eq_true rfl, Nat.le_of_ble_eq_true rfl⟩) (pre_S hPc hK hDc hN) rfl rfl hl.1 rfl (lv_room (Nat.le_of_ble_eq_true rfl)) dX12_rule_3 ⟨Nat.le_of_ble_eq_true rfl, Nat.le_of_ble_eq_true rfl⟩) hP hD hS hA [] [0] rfl rfl (by decide) (by decide) (by decide) (fun u H locs hP hD hS => ?_)
  have hP : va_P (dC, dI) vwCl [(o0, .inr (12, [.int 0, .ref o1, .int 0, .ref o2, .int 0, .ref o3, .ref o4, .int 0, .ref o5, .int 0, .ref o6, .int (-9), .int 0, .int 0, .ref o7, .ref o8, .ref o9, .ref o10, .ref o11, .int 0, .ref o12, .ref o13, .ref o14, .int 0, .ref o15, .ref o16, .ref o17, .int 0, .ref o18]))] H := hP
  have hD : va_D A [(o0, .inr (12, [.int 0, .ref o1, .int 0, .ref o2, .int 0, .ref o3, .ref o4, .int 0, .ref o5, .int 0, .ref o6, .int (-9), .int 0, .int 0, .ref o7, .ref o8, .ref o9, .ref o10, .ref o11, .int 0, .ref o12, .ref o13, .ref o14, .int 0, .ref o15, .ref o16, .ref o17, .int 0, .ref o18]))] := hD
  refine lv_if_ne (tgt := 11) hx hb dX12_rule_6 (by decide) (fun h9 => absurd (by decide +kernel) h9) (fun _ => ?_)
  refine lv_iconst (v := (-1)) hx hb dX12_rule_9 (by decide) ?_
  have hP9 := hP.sub (ws' := []) [] rfl
  have hD9 := hD.sub (ws' := []) [] (by decide) rfl
  exact W.iret (v := (-1)) hx hb hr (fun t ht hW => ⟨⟨(-1), (), rfl, rfl, by rw [ht]; exact hP9, va_K.moved hW.alike hK, hD9⟩, hS.F ht⟩) hS.2.2 dX12_rule_10
theorem iw_X6_followRule_X6 : ∀ w ∈ wsX60, w ∈ wsX6_followRule := by decide +kernel
set_option maxHeartbeats 1000000 in
set_option maxRecDepth 100000 in
theorem kX6_followRule_1 (l : Launch) (dC : Nat → ClassId) (dI : Nat → Nat → Nat) (cI c2 : ClassId) (o0 : Nat) (o1 : Nat) (o2 : Nat) (o3 : Nat) (o4 : Nat) (g5 : Nat → Nat) (o6 : Nat) (o7 : Nat) (o8 : Nat) (sz : Nat) (a1 : Int32) (a1_lo : 0 ≤ a1.toInt) (a1_hi : a1.toInt ≤ 2) : Met l yX6_followRule wsX6_followRule ({ frames := 3, cells := 0, slots := 0, locals := 106 }) (va_Pc [.ref o0, .ref o1, .int a1] (wPre (dC, dI) [(cI, .int), (c2, .array .int)] [(o0, .inr (6, [.ref o2, .ref o6, .ref o7, .ref o8, .int 0, .int 0, .int 0, .int 0, .int 0])), (o2, .inr (3, [.ref o3, .int 0])), (o1, .inr (4, [.ref o4, .int 0, .int 0])), (o3, .inl (c2, 13, .inr (.inr (.inr (.inr (fun i => if i < 13 then some (g5 i) else none)))))), (o4, .inl (cI, 12, .inl (fun _ => 0))), (g5 0, .inl (cI, 12, .inl (fun _ => 0)))] sz)) (va_Qv (fun (_ : Unit) => True) (fun _ t => wPost (dC, dI) [(cI, .int), (c2, .array .int)] (va_A [(o0, .inr (6, [.ref o2, .ref o6, .ref o7, .ref o8, .int 0, .int 0, .int 0, .int 0, .int 0])), (o2, .inr (3, [.ref o3, .int 0])), (o1, .inr (4, [.ref o4, .int 0, .int 0])), (o3, .inl (c2, 13, .inr (.inr (.inr (.inr (fun i => if i < 13 then some (g5 i) else none)))))), (o4, .inl (cI, 12, .inl (fun _ => 0))), (g5 0, .inl (cI, 12, .inl (fun _ => 0)))] sz) [(o0, .inr (6, [.ref o2, .ref o6, .ref o7, .ref o8, .int 0, .int 0, .int 1, .int 0, .int 0])), (o2, .inr (3, [.ref o3, .int 0])), (o3, .inl (c2, 13, .inr (.inr (.inr (.inr (fun i => if i < 13 then some (g5 i) else none)))))), (o4, .inl (cI, 12, .inl (fun _ => 0))), (g5 0, .inl (cI, 12, .inl (fun _ => 0))), (o1, .inr (4, [.ref o4, .int 0, .int 0]))] t) (va_A [(o0, .inr (6, [.ref o2, .ref o6, .ref o7, .ref o8, .int 0, .int 0, .int 0, .int 0, .int 0])), (o2, .inr (3, [.ref o3, .int 0])), (o1, .inr (4, [.ref o4, .int 0, .int 0])), (o3, .inl (c2, 13, .inr (.inr (.inr (.inr (fun i => if i < 13 then some (g5 i) else none)))))), (o4, .inl (cI, 12, .inl (fun _ => 0))), (g5 0, .inl (cI, 12, .inl (fun _ => 0)))] sz)) 0 0 (va_A [(o0, .inr (6, [.ref o2, .ref o6, .ref o7, .ref o8, .int 0, .int 0, .int 0, .int 0, .int 0])), (o2, .inr (3, [.ref o3, .int 0])), (o1, .inr (4, [.ref o4, .int 0, .int 0])), (o3, .inl (c2, 13, .inr (.inr (.inr (.inr (fun i => if i < 13 then some (g5 i) else none)))))), (o4, .inl (cI, 12, .inl (fun _ => 0))), (g5 0, .inl (cI, 12, .inl (fun _ => 0)))] sz) := by
  refine Met.ofW (cc := cX6_followRule) (maxL := 6) (ret := none) (by decide) rfl ?_
  intro p e s m args below meth c s₁ B hml hv
  obtain ⟨rfl, hsz, hP, hK, hD0, hN⟩ := hv
  have hx := B.exec
  have hb := B.bytes
  have hr := B.returns
  have hts := atoms_spec (ws := wsX6_followRule) B.pre
  have hown : s.vm.findClass RX6 = some m.cls := findClass_of_methodNamed B.named
  have hlocks := B.notSynchronized
  subst hsz
  have hD := hD0.self (sz := s.heap.size)
  generalize hAe : va_A [(o0, .inr (6, [.ref o2, .ref o6, .ref o7, .ref o8, .int 0, .int 0, .int 0, .int 0, .int 0])), (o2, .inr (3, [.ref o3, .int 0])), (o1, .inr (4, [.ref o4, .int 0, .int 0])), (o3, .inl (c2, 13, .inr (.inr (.inr (.inr (fun i => if i < 13 then some (g5 i) else none)))))), (o4, .inl (cI, 12, .inl (fun _ => 0))), (g5 0, .inl (cI, 12, .inl (fun _ => 0)))] s.heap.size = A at hD ⊢
  have hA : ∀ q : Nat, s.heap.size ≤ q → A q := fun q h => by rw [← hAe]; exact Or.inr h
  have hS : va_S A s.heap s.heap [] := va_S.rf
  have hP : va_P (dC, dI) vwCl [(o0, .inr (6, [.ref o2, .ref o6, .ref o7, .ref o8, .int 0, .int 0, .int 0, .int 0, .int 0])), (o2, .inr (3, [.ref o3, .int 0])), (o1, .inr (4, [.ref o4, .int 0, .int 0])), (o3, .inl (c2, 13, .inr (.inr (.inr (.inr (fun i => if i < 13 then some (g5 i) else none)))))), (o4, .inl (cI, 12, .inl (fun _ => 0))), (g5 0, .inl (cI, 12, .inl (fun _ => 0)))] s.heap := hP
  have hl := lv_entry ([.ref o0, .ref o1, .int a1]) (n := 6) (Nat.le_of_ble_eq_true rfl)
  rw [lg_entry_eq]
  generalize (lg_sl ([.ref o0, .ref o1, .int a1]) ++ List.replicate (6 - (lg_sl ([.ref o0, .ref o1, .int a1])).length) Slot.unset).toArray = ls at hl ⊢
  have hl : lv_has ls 6 [(0, .ref o0), (1, .ref o1), (2, .int a1)] := hl
  refine lv_aload_n hx hb dX6_followRule_0 rfl (lv_at hl 0 rfl) ?_
  refine lv_aload_n hx hb dX6_followRule_1 rfl (lv_at hl 1 rfl) ?_
  refine kcall_v (D := (dC, dI)) (S := Unit) (wc := [(o0, .inr (6, [.ref o2, .ref o6, .ref o7, .ref o8, .int 0, .int 0, .int 0, .int 0, .int 0])), (o2, .inr (3, [.ref o3, .int 0])), (o1, .inr (4, [.ref o4, .int 0, .int 0])), (o3, .inl (c2, 13, .inr (.inr (.inr (.inr (fun i => if i < 13 then some (g5 i) else none)))))), (o4, .inl (cI, 12, .inl (fun _ => 0))), (g5 0, .inl (cI, 12, .inl (fun _ => 0)))]) (wr := []) (w1 := fun _ => [(o0, .inr (6, [.ref o2, .ref o6, .ref o7, .ref o8, .int 0, .int 0, .int 1, .int 0, .int 0])), (o1, .inr (4, [.ref o4, .int 0, .int 0])), (o2, .inr (3, [.ref o3, .int 0])), (o3, .inl (c2, 13, .inr (.inr (.inr (.inr (fun i => if i < 13 then some (g5 i) else none)))))), (o4, .inl (cI, 12, .inl (fun _ => 0))), (g5 0, .inl (cI, 12, .inl (fun _ => 0)))]) (fun hPc hDc => va_runV (As := [.ref o1]) (rest := []) ⟨hx, hb, hml, hown, hts⟩ (kX6_begin_1 l dC dI cI c2 o0 o1 o2 o3 o4 g5 o6 o7 o8 s.heap.size) (cwV 1 hts gX6_followRule_X6_begin rfl rfl rfl (by decide +kernel) ⟨Nat.le_of_ble_eq_true rfl, Nat.le_of_ble_eq_true rfl⟩) (pre_V hPc hK hDc hN (ci := 6) (q0 := 0) rfl rfl) rfl rfl hl.1 rfl (lv_room (Nat.le_of_ble_eq_true rfl)) dX6_followRule_2 ⟨Nat.le_of_ble_eq_true rfl, Nat.le_of_ble_eq_true rfl⟩) hP hD hS hA [0, 1, 2, 3, 4, 5] [] rfl rfl (by decide) (by decide) (by decide) (fun u H locs hP hD hS => ?_)
  have hP : va_P (dC, dI) vwCl [(o0, .inr (6, [.ref o2, .ref o6, .ref o7, .ref o8, .int 0, .int 0, .int 1, .int 0, .int 0])), (o1, .inr (4, [.ref o4, .int 0, .int 0])), (o2, .inr (3, [.ref o3, .int 0])), (o3, .inl (c2, 13, .inr (.inr (.inr (.inr (fun i => if i < 13 then some (g5 i) else none)))))), (o4, .inl (cI, 12, .inl (fun _ => 0))), (g5 0, .inl (cI, 12, .inl (fun _ => 0)))] H := hP
  have hD : va_D A [(o0, .inr (6, [.ref o2, .ref o6, .ref o7, .ref o8, .int 0, .int 0, .int 1, .int 0, .int 0])), (o1, .inr (4, [.ref o4, .int 0, .int 0])), (o2, .inr (3, [.ref o3, .int 0])), (o3, .inl (c2, 13, .inr (.inr (.inr (.inr (fun i => if i < 13 then some (g5 i) else none)))))), (o4, .inl (cI, 12, .inl (fun _ => 0))), (g5 0, .inl (cI, 12, .inl (fun _ => 0)))] := hD
  refine lv_aload_n hx hb dX6_followRule_5 rfl (lv_at hl 1 rfl) ?_
  refine kcall_i (D := (dC, dI)) (S := Unit) (v := 0) (wc := [(o1, .inr (4, [.ref o4, .int 0, .int 0]))]) (wr := [(o0, .inr (6, [.ref o2, .ref o6, .ref o7, .ref o8, .int 0, .int 0, .int 1, .int 0, .int 0])), (o2, .inr (3, [.ref o3, .int 0])), (o3, .inl (c2, 13, .inr (.inr (.inr (.inr (fun i => if i < 13 then some (g5 i) else none)))))), (o4, .inl (cI, 12, .inl (fun _ => 0))), (g5 0, .inl (cI, 12, .inl (fun _ => 0)))]) (w1 := fun _ => [(o1, .inr (4, [.ref o4, .int 0, .int 0]))]) (fun hPc hDc => va_runVN (As := []) (rest := []) ⟨hx, hb, hml, hown, hts⟩ (kX4_all_2 l dC dI cI c2 o1 o4 H.size) ⟨va_cnB 0 hts gX6_followRule_X4_all_n85 rfl rfl rfl (hN.1 _ ns_89) (hts (.initialized RX4) (by decide +kernel)) (by decide +kernel) ⟨Nat.le_of_ble_eq_true rfl, Nat.le_of_ble_eq_true rfl⟩, (hts (.instanceMethod yX4_all) (by decide +kernel)), (hts (.selects RX4 yX4_all yX4_all) (by decide +kernel))⟩ (pre_V hPc hK hDc hN (ci := 4) (q0 := 0) rfl rfl) rfl rfl hl.1 rfl (lv_room (Nat.le_of_ble_eq_true rfl)) dX6_followRule_6 ⟨Nat.le_of_ble_eq_true rfl, Nat.le_of_ble_eq_true rfl⟩) hP hD hS hA [1] [0, 2, 3, 4, 5] rfl rfl (by decide) (by decide) (by decide) (fun u H locs hP hD hS => ?_)
  have hP : va_P (dC, dI) vwCl [(o0, .inr (6, [.ref o2, .ref o6, .ref o7, .ref o8, .int 0, .int 0, .int 1, .int 0, .int 0])), (o2, .inr (3, [.ref o3, .int 0])), (o3, .inl (c2, 13, .inr (.inr (.inr (.inr (fun i => if i < 13 then some (g5 i) else none)))))), (o4, .inl (cI, 12, .inl (fun _ => 0))), (g5 0, .inl (cI, 12, .inl (fun _ => 0))), (o1, .inr (4, [.ref o4, .int 0, .int 0]))] H := hP
  have hD : va_D A [(o0, .inr (6, [.ref o2, .ref o6, .ref o7, .ref o8, .int 0, .int 0, .int 1, .int 0, .int 0])), (o2, .inr (3, [.ref o3, .int 0])), (o3, .inl (c2, 13, .inr (.inr (.inr (.inr (fun i => if i < 13 then some (g5 i) else none)))))), (o4, .inl (cI, 12, .inl (fun _ => 0))), (g5 0, .inl (cI, 12, .inl (fun _ => 0))), (o1, .inr (4, [.ref o4, .int 0, .int 0]))] := hD
  refine lv_istore_n (lv' := [(3, .int 0), (0, .ref o0), (1, .ref o1), (2, .int a1)]) hx hb dX6_followRule_9 rfl hl (by decide) rfl (fun ls hl => ?_)
  refine lv_iconst (v := 0) hx hb dX6_followRule_10 (by decide) ?_
  refine lv_istore (lv' := [(4, .int 0), (3, .int 0), (0, .ref o0), (1, .ref o1), (2, .int a1)]) hx hb dX6_followRule_11 hl (by decide) rfl (fun ls hl => ?_)
  refine lv_iload hx hb dX6_followRule_13 (lv_at hl 0 rfl) ?_
  refine lv_aload_n hx hb dX6_followRule_15 rfl (lv_at hl 2 rfl) ?_
  refine va_get (D := (dC, dI)) (ci := 6) (v := .int 0) (C := RX6) (T := TX6) (N := 9) hx hb hts iw_X6_followRule_X6 hown hK hP 0 rfl rfl 5 (by decide) (hts (.fieldLink RX6 36 "HolelessHouse$Ordering" "size" "I") (by decide +kernel)) (fun _ h9 => h9) rfl dX6_followRule_16 ?_
  refine lv_icmp_ge (tgt := 58) hx hb dX6_followRule_19 (by decide) (fun _ => ?_) (fun h9 => absurd (by decide +kernel) h9)
  have hP9 := hP.sub (ws' := [(o0, .inr (6, [.ref o2, .ref o6, .ref o7, .ref o8, .int 0, .int 0, .int 1, .int 0, .int 0])), (o2, .inr (3, [.ref o3, .int 0])), (o3, .inl (c2, 13, .inr (.inr (.inr (.inr (fun i => if i < 13 then some (g5 i) else none)))))), (o4, .inl (cI, 12, .inl (fun _ => 0))), (g5 0, .inl (cI, 12, .inl (fun _ => 0))), (o1, .inr (4, [.ref o4, .int 0, .int 0]))]) [0, 1, 2, 3, 4, 5] rfl
  have hD9 := hD.sub (ws' := [(o0, .inr (6, [.ref o2, .ref o6, .ref o7, .ref o8, .int 0, .int 0, .int 1, .int 0, .int 0])), (o2, .inr (3, [.ref o3, .int 0])), (o3, .inl (c2, 13, .inr (.inr (.inr (.inr (fun i => if i < 13 then some (g5 i) else none)))))), (o4, .inl (cI, 12, .inl (fun _ => 0))), (g5 0, .inl (cI, 12, .inl (fun _ => 0))), (o1, .inr (4, [.ref o4, .int 0, .int 0]))]) [0, 1, 2, 3, 4, 5] (by decide) rfl
  exact W.vret hx hb hr (fun t ht hW => ⟨⟨(), rfl, trivial, by rw [ht]; exact hP9, va_K.moved hW.alike hK, hD9⟩, hS.F ht⟩) hS.2.2 dX6_followRule_58
theorem iw_X11_rule_X11 : ∀ w ∈ wsX110, w ∈ wsX11_rule := by decide +kernel
theorem iw_X11_rule_X6 : ∀ w ∈ wsX60, w ∈ wsX11_rule := by decide +kernel
set_option maxHeartbeats 1000000 in
set_option maxRecDepth 100000 in
theorem kX11_rule_2 (l : Launch) (dC : Nat → ClassId) (dI : Nat → Nat → Nat) (cI c2 : ClassId) (o0 : Nat) (o1 : Nat) (o2 : Nat) (o3 : Nat) (o4 : Nat) (o5 : Nat) (g6 : Nat → Nat) (o7 : Nat) (o8 : Nat) (o9 : Nat) (o10 : Nat) (o11 : Nat) (o12 : Nat) (o13 : Nat) (o14 : Nat) (o15 : Nat) (o16 : Nat) (o17 : Nat) (o18 : Nat) (o19 : Nat) (sz : Nat) (a1 : Int32) (a1_lo : 0 ≤ a1.toInt) (a1_hi : a1.toInt ≤ 2) : Met l yX11_rule wsX11_rule ({ frames := 4, cells := 0, slots := 0, locals := 131 }) (va_Pc [.ref o0, .int a1] (wPre (dC, dI) [(cI, .int), (c2, .array .int)] [(o0, .inr (11, [.ref o3, .ref o7, .ref o1, .ref o8, .ref o9, .ref o10, .ref o11, .ref o12, .ref o13, .ref o14, .ref o15, .ref o16, .int 0])), (o1, .inr (6, [.ref o2, .ref o17, .ref o18, .ref o19, .int 0, .int 0, .int 0, .int 0, .int 0])), (o2, .inr (3, [.ref o4, .int 0])), (o3, .inr (4, [.ref o5, .int 0, .int 0])), (o4, .inl (c2, 13, .inr (.inr (.inr (.inr (fun i => if i < 13 then some (g6 i) else none)))))), (o5, .inl (cI, 12, .inl (fun _ => 0))), (g6 0, .inl (cI, 12, .inl (fun _ => 0)))] sz)) (va_Qi (fun (r : Int32) (_ : Unit) => r = 0) (fun _ t => wPost (dC, dI) [(cI, .int), (c2, .array .int)] (va_A [(o0, .inr (11, [.ref o3, .ref o7, .ref o1, .ref o8, .ref o9, .ref o10, .ref o11, .ref o12, .ref o13, .ref o14, .ref o15, .ref o16, .int 0])), (o1, .inr (6, [.ref o2, .ref o17, .ref o18, .ref o19, .int 0, .int 0, .int 0, .int 0, .int 0])), (o2, .inr (3, [.ref o4, .int 0])), (o3, .inr (4, [.ref o5, .int 0, .int 0])), (o4, .inl (c2, 13, .inr (.inr (.inr (.inr (fun i => if i < 13 then some (g6 i) else none)))))), (o5, .inl (cI, 12, .inl (fun _ => 0))), (g6 0, .inl (cI, 12, .inl (fun _ => 0)))] sz) [] t) (va_A [(o0, .inr (11, [.ref o3, .ref o7, .ref o1, .ref o8, .ref o9, .ref o10, .ref o11, .ref o12, .ref o13, .ref o14, .ref o15, .ref o16, .int 0])), (o1, .inr (6, [.ref o2, .ref o17, .ref o18, .ref o19, .int 0, .int 0, .int 0, .int 0, .int 0])), (o2, .inr (3, [.ref o4, .int 0])), (o3, .inr (4, [.ref o5, .int 0, .int 0])), (o4, .inl (c2, 13, .inr (.inr (.inr (.inr (fun i => if i < 13 then some (g6 i) else none)))))), (o5, .inl (cI, 12, .inl (fun _ => 0))), (g6 0, .inl (cI, 12, .inl (fun _ => 0)))] sz)) 0 0 (va_A [(o0, .inr (11, [.ref o3, .ref o7, .ref o1, .ref o8, .ref o9, .ref o10, .ref o11, .ref o12, .ref o13, .ref o14, .ref o15, .ref o16, .int 0])), (o1, .inr (6, [.ref o2, .ref o17, .ref o18, .ref o19, .int 0, .int 0, .int 0, .int 0, .int 0])), (o2, .inr (3, [.ref o4, .int 0])), (o3, .inr (4, [.ref o5, .int 0, .int 0])), (o4, .inl (c2, 13, .inr (.inr (.inr (.inr (fun i => if i < 13 then some (g6 i) else none)))))), (o5, .inl (cI, 12, .inl (fun _ => 0))), (g6 0, .inl (cI, 12, .inl (fun _ => 0)))] sz) := by
  refine Met.ofW (cc := cX11_rule) (maxL := 2) (ret := (some .int)) (by decide) rfl ?_
  intro p e s m args below meth c s₁ B hml hv
  obtain ⟨rfl, hsz, hP, hK, hD0, hN⟩ := hv
  have hx := B.exec
  have hb := B.bytes
  have hr := B.returns
  have hts := atoms_spec (ws := wsX11_rule) B.pre
  have hown : s.vm.findClass RX11 = some m.cls := findClass_of_methodNamed B.named
  have hlocks := B.notSynchronized
  subst hsz
  have hD := hD0.self (sz := s.heap.size)
  generalize hAe : va_A [(o0, .inr (11, [.ref o3, .ref o7, .ref o1, .ref o8, .ref o9, .ref o10, .ref o11, .ref o12, .ref o13, .ref o14, .ref o15, .ref o16, .int 0])), (o1, .inr (6, [.ref o2, .ref o17, .ref o18, .ref o19, .int 0, .int 0, .int 0, .int 0, .int 0])), (o2, .inr (3, [.ref o4, .int 0])), (o3, .inr (4, [.ref o5, .int 0, .int 0])), (o4, .inl (c2, 13, .inr (.inr (.inr (.inr (fun i => if i < 13 then some (g6 i) else none)))))), (o5, .inl (cI, 12, .inl (fun _ => 0))), (g6 0, .inl (cI, 12, .inl (fun _ => 0)))] s.heap.size = A at hD ⊢
  have hA : ∀ q : Nat, s.heap.size ≤ q → A q := fun q h => by rw [← hAe]; exact Or.inr h
  have hS : va_S A s.heap s.heap [] := va_S.rf
  have hP : va_P (dC, dI) vwCl [(o0, .inr (11, [.ref o3, .ref o7, .ref o1, .ref o8, .ref o9, .ref o10, .ref o11, .ref o12, .ref o13, .ref o14, .ref o15, .ref o16, .int 0])), (o1, .inr (6, [.ref o2, .ref o17, .ref o18, .ref o19, .int 0, .int 0, .int 0, .int 0, .int 0])), (o2, .inr (3, [.ref o4, .int 0])), (o3, .inr (4, [.ref o5, .int 0, .int 0])), (o4, .inl (c2, 13, .inr (.inr (.inr (.inr (fun i => if i < 13 then some (g6 i) else none)))))), (o5, .inl (cI, 12, .inl (fun _ => 0))), (g6 0, .inl (cI, 12, .inl (fun _ => 0)))] s.heap := hP
  have hl := lv_entry ([.ref o0, .int a1]) (n := 2) (Nat.le_of_ble_eq_true rfl)
  rw [lg_entry_eq]
  generalize (lg_sl ([.ref o0, .int a1]) ++ List.replicate (2 - (lg_sl ([.ref o0, .int a1])).length) Slot.unset).toArray = ls at hl ⊢
  have hl : lv_has ls 2 [(0, .ref o0), (1, .int a1)] := hl
  refine lv_iload_n hx hb dX11_rule_0 rfl (lv_at hl 1 rfl) ?_
  refine lv_if_lt (tgt := 9) hx hb dX11_rule_1 (by decide) (fun h9 => absurd h9 (ib_nlt (X := a1.toInt) (Y := 0) rfl (by decide +kernel) (by omega))) (fun _ => ?_)
  refine lv_iload_n hx hb dX11_rule_4 rfl (lv_at hl 1 rfl) ?_
  refine lv_iconst (v := 2) hx hb dX11_rule_5 (by decide) ?_
  refine lv_icmp_le (tgt := 11) hx hb dX11_rule_6 (by decide) (fun _ => ?_) (fun h9 => absurd (ib_le (X := a1.toInt) (Y := 2) rfl (by decide +kernel) (by omega)) h9)
  refine lv_aload_n hx hb dX11_rule_11 rfl (lv_at hl 0 rfl) ?_
  refine va_get (D := (dC, dI)) (ci := 11) (v := .ref o1) (C := RX11) (T := TX11) (N := 13) hx hb hts iw_X11_rule_X11 hown hK hP 0 rfl rfl 2 (by decide) (hts (.fieldLink RX11 26 "HolelessHouse" "ordering" "LHolelessHouse$Ordering;") (by decide +kernel)) (fun _ h9 => h9) rfl dX11_rule_12 ?_
  refine lv_aload_n hx hb dX11_rule_15 rfl (lv_at hl 0 rfl) ?_
  refine va_get (D := (dC, dI)) (ci := 11) (v := .ref o3) (C := RX11) (T := TX11) (N := 13) hx hb hts iw_X11_rule_X11 hown hK hP 0 rfl rfl 0 (by decide) (hts (.fieldLink RX11 10 "HolelessHouse" "graph" "LHolelessHouse$Graph;") (by decide +kernel)) (fun _ h9 => h9) rfl dX11_rule_16 ?_
  refine lv_iload_n hx hb dX11_rule_19 rfl (lv_at hl 1 rfl) ?_
  refine kcall_v (D := (dC, dI)) (S := Unit) (wc := [(o1, .inr (6, [.ref o2, .ref o17, .ref o18, .ref o19, .int 0, .int 0, .int 0, .int 0, .int 0])), (o2, .inr (3, [.ref o4, .int 0])), (o3, .inr (4, [.ref o5, .int 0, .int 0])), (o4, .inl (c2, 13, .inr (.inr (.inr (.inr (fun i => if i < 13 then some (g6 i) else none)))))), (o5, .inl (cI, 12, .inl (fun _ => 0))), (g6 0, .inl (cI, 12, .inl (fun _ => 0)))]) (wr := [(o0, .inr (11, [.ref o3, .ref o7, .ref o1, .ref o8, .ref o9, .ref o10, .ref o11, .ref o12, .ref o13, .ref o14, .ref o15, .ref o16, .int 0]))]) (w1 := fun _ => [(o1, .inr (6, [.ref o2, .ref o17, .ref o18, .ref o19, .int 0, .int 0, .int 1, .int 0, .int 0])), (o2, .inr (3, [.ref o4, .int 0])), (o4, .inl (c2, 13, .inr (.inr (.inr (.inr (fun i => if i < 13 then some (g6 i) else none)))))), (o5, .inl (cI, 12, .inl (fun _ => 0))), (g6 0, .inl (cI, 12, .inl (fun _ => 0))), (o3, .inr (4, [.ref o5, .int 0, .int 0]))]) (fun hPc hDc => va_runVN (As := [.ref o3, .int a1]) (rest := []) ⟨hx, hb, hml, hown, hts⟩ (kX6_followRule_1 l dC dI cI c2 o1 o3 o2 o4 o5 g6 o17 o18 o19 s.heap.size a1 (by omega) (by omega)) ⟨va_cnB 2 hts gX11_rule_X6_followRule_n173 rfl rfl rfl (hN.1 _ ns_88) (hts (.initialized RX6) (by decide +kernel)) (by decide +kernel) ⟨Nat.le_of_ble_eq_true rfl, Nat.le_of_ble_eq_true rfl⟩, (hts (.instanceMethod yX6_followRule) (by decide +kernel)), (hts (.selects RX6 yX6_followRule yX6_followRule) (by decide +kernel))⟩ (pre_V hPc hK hDc hN (ci := 6) (q0 := 0) rfl rfl) rfl rfl hl.1 rfl (lv_room (Nat.le_of_ble_eq_true rfl)) dX11_rule_20 ⟨Nat.le_of_ble_eq_true rfl, Nat.le_of_ble_eq_true rfl⟩) hP hD hS hA [1, 2, 3, 4, 5, 6] [0] rfl rfl (by decide) (by decide) (by decide) (fun u H locs hP hD hS => ?_)
  have hP : va_P (dC, dI) vwCl [(o0, .inr (11, [.ref o3, .ref o7, .ref o1, .ref o8, .ref o9, .ref o10, .ref o11, .ref o12, .ref o13, .ref o14, .ref o15, .ref o16, .int 0])), (o1, .inr (6, [.ref o2, .ref o17, .ref o18, .ref o19, .int 0, .int 0, .int 1, .int 0, .int 0])), (o2, .inr (3, [.ref o4, .int 0])), (o4, .inl (c2, 13, .inr (.inr (.inr (.inr (fun i => if i < 13 then some (g6 i) else none)))))), (o5, .inl (cI, 12, .inl (fun _ => 0))), (g6 0, .inl (cI, 12, .inl (fun _ => 0))), (o3, .inr (4, [.ref o5, .int 0, .int 0]))] H := hP
  have hD : va_D A [(o0, .inr (11, [.ref o3, .ref o7, .ref o1, .ref o8, .ref o9, .ref o10, .ref o11, .ref o12, .ref o13, .ref o14, .ref o15, .ref o16, .int 0])), (o1, .inr (6, [.ref o2, .ref o17, .ref o18, .ref o19, .int 0, .int 0, .int 1, .int 0, .int 0])), (o2, .inr (3, [.ref o4, .int 0])), (o4, .inl (c2, 13, .inr (.inr (.inr (.inr (fun i => if i < 13 then some (g6 i) else none)))))), (o5, .inl (cI, 12, .inl (fun _ => 0))), (g6 0, .inl (cI, 12, .inl (fun _ => 0))), (o3, .inr (4, [.ref o5, .int 0, .int 0]))] := hD
  refine lv_aload_n hx hb dX11_rule_23 rfl (lv_at hl 0 rfl) ?_
  refine va_get (D := (dC, dI)) (ci := 11) (v := .ref o1) (C := RX11) (T := TX11) (N := 13) hx hb hts iw_X11_rule_X11 hown hK hP 0 rfl rfl 2 (by decide) (hts (.fieldLink RX11 26 "HolelessHouse" "ordering" "LHolelessHouse$Ordering;") (by decide +kernel)) (fun _ h9 => h9) rfl dX11_rule_24 ?_
  refine va_getN (D := (dC, dI)) (ci := 6) (v := .int 0) (C := RX6) (T := TX6) (N := 9) hx hb hts iw_X11_rule_X6 hown hK hP 1 rfl rfl 7 (by decide) (hN.use ns_29) (fun _ h9 => h9) rfl dX11_rule_27 ?_
  have hP9 := hP.sub (ws' := []) [] rfl
  have hD9 := hD.sub (ws' := []) [] (by decide) rfl
  exact W.iret (v := 0) hx hb hr (fun t ht hW => ⟨⟨0, (), rfl, rfl, by rw [ht]; exact hP9, va_K.moved hW.alike hK, hD9⟩, hS.F ht⟩) hS.2.2 dX11_rule_30
set_option maxHeartbeats 1000000 in
set_option maxRecDepth 100000 in
theorem kX12_in_7 (l : Launch) (dC : Nat → ClassId) (dI : Nat → Nat → Nat) (cI c2 : ClassId) (sz : Nat) (a1 : Int32) (a1_lo : 0 ≤ a1.toInt) (a1_hi : a1.toInt ≤ 2) : Met l yX12_in wsX12_in ({ frames := 0, cells := 0, slots := 0, locals := 0 }) (va_Pc [.int a1, .int 0, .int 2] (wPre (dC, dI) [(cI, .int), (c2, .array .int)] [] sz)) (va_Qi (fun (r : Int32) (_ : Unit) => r = 1) (fun _ t => wPost (dC, dI) [(cI, .int), (c2, .array .int)] (va_A [] sz) [] t) (va_A [] sz)) 0 0 (va_A [] sz) := by
  refine Met.ofW (cc := cX12_in) (maxL := 3) (ret := (some .boolean)) (by decide) rfl ?_
  intro p e s m args below meth c s₁ B hml hv
  obtain ⟨rfl, hsz, hP, hK, hD0, hN⟩ := hv
  have hx := B.exec
  have hb := B.bytes
  have hr := B.returns
  have hts := atoms_spec (ws := wsX12_in) B.pre
  have hown : s.vm.findClass RX12 = some m.cls := findClass_of_methodNamed B.named
  have hlocks := B.notSynchronized
  subst hsz
  have hD := hD0.self (sz := s.heap.size)
  generalize hAe : va_A [] s.heap.size = A at hD ⊢
  have hA : ∀ q : Nat, s.heap.size ≤ q → A q := fun q h => by rw [← hAe]; exact Or.inr h
  have hS : va_S A s.heap s.heap [] := va_S.rf
  have hP : va_P (dC, dI) vwCl [] s.heap := hP
  have hl := lv_entry ([.int a1, .int 0, .int 2]) (n := 3) (Nat.le_of_ble_eq_true rfl)
  rw [lg_entry_eq]
  generalize (lg_sl ([.int a1, .int 0, .int 2]) ++ List.replicate (3 - (lg_sl ([.int a1, .int 0, .int 2])).length) Slot.unset).toArray = ls at hl ⊢
  have hl : lv_has ls 3 [(0, .int a1), (1, .int 0), (2, .int 2)] := hl
  refine lv_iload_n hx hb dX12_in_0 rfl (lv_at hl 0 rfl) ?_
  refine lv_iload_n hx hb dX12_in_1 rfl (lv_at hl 1 rfl) ?_
  refine lv_icmp_lt (tgt := 14) hx hb dX12_in_2 (by decide) (fun h9 => absurd h9 (ib_nlt (X := a1.toInt) (Y := 0) rfl (by decide +kernel) (by omega))) (fun _ => ?_)
  refine lv_iload_n hx hb dX12_in_5 rfl (lv_at hl 0 rfl) ?_
  refine lv_iload_n hx hb dX12_in_6 rfl (lv_at hl 2 rfl) ?_
  refine lv_icmp_gt (tgt := 14) hx hb dX12_in_7 (by decide) (fun h9 => absurd h9 (ib_nlt (X := 2) (Y := a1.toInt) (by decide +kernel) rfl (by omega))) (fun _ => ?_)
  refine lv_iconst (v := 1) hx hb dX12_in_10 (by decide) ?_
  refine lv_goto (tgt := 15) hx hb dX12_in_11 (by decide) ?_
  have hP9 := hP.sub (ws' := []) [] rfl
  have hD9 := hD.sub (ws' := []) [] (by decide) rfl
  exact W.zret (v := 1) (ty := .boolean) hx hb hr rfl (fun t ht hW => ⟨⟨1, (), rfl, rfl, by rw [ht]; exact hP9, va_K.moved hW.alike hK, hD9⟩, hS.F ht⟩) hS.2.2 dX12_in_15
set_option maxHeartbeats 1000000 in
set_option maxRecDepth 100000 in
theorem kX12_all_2 (l : Launch) (dC : Nat → ClassId) (dI : Nat → Nat → Nat) (cI c2 : ClassId) (o0 : Nat) (o1 : Nat) (o2 : Nat) (o3 : Nat) (o4 : Nat) (o5 : Nat) (o6 : Nat) (o7 : Nat) (o8 : Nat) (o9 : Nat) (o10 : Nat) (o11 : Nat) (o12 : Nat) (o13 : Nat) (o14 : Nat) (o15 : Nat) (o16 : Nat) (o17 : Nat) (o18 : Nat) (sz : Nat) : Met l yX12_all wsX12_all ({ frames := 0, cells := 0, slots := 0, locals := 0 }) (va_Pc [.ref o0] (wPre (dC, dI) [(cI, .int), (c2, .array .int)] [(o0, .inr (12, [.int 0, .ref o1, .int 0, .ref o2, .int 0, .ref o3, .ref o4, .int 0, .ref o5, .int 0, .ref o6, .int 0, .int 0, .int 0, .ref o7, .ref o8, .ref o9, .ref o10, .ref o11, .int 0, .ref o12, .ref o13, .ref o14, .int 0, .ref o15, .ref o16, .ref o17, .int 0, .ref o18]))] sz)) (va_Qi (fun (r : Int32) (_ : Unit) => r = 0) (fun _ t => wPost (dC, dI) [(cI, .int), (c2, .array .int)] (va_A [(o0, .inr (12, [.int 0, .ref o1, .int 0, .ref o2, .int 0, .ref o3, .ref o4, .int 0, .ref o5, .int 0, .ref o6, .int 0, .int 0, .int 0, .ref o7, .ref o8, .ref o9, .ref o10, .ref o11, .int 0, .ref o12, .ref o13, .ref o14, .int 0, .ref o15, .ref o16, .ref o17, .int 0, .ref o18]))] sz) [(o0, .inr (12, [.int 0, .ref o1, .int 0, .ref o2, .int 0, .ref o3, .ref o4, .int 0, .ref o5, .int 0, .ref o6, .int 0, .int 0, .int 0, .ref o7, .ref o8, .ref o9, .ref o10, .ref o11, .int 0, .ref o12, .ref o13, .ref o14, .int 0, .ref o15, .ref o16, .ref o17, .int 0, .ref o18]))] t) (va_A [(o0, .inr (12, [.int 0, .ref o1, .int 0, .ref o2, .int 0, .ref o3, .ref o4, .int 0, .ref o5, .int 0, .ref o6, .int 0, .int 0, .int 0, .ref o7, .ref o8, .ref o9, .ref o10, .ref o11, .int 0, .ref o12, .ref o13, .ref o14, .int 0, .ref o15, .ref o16, .ref o17, .int 0, .ref o18]))] sz)) 0 0 (va_A [(o0, .inr (12, [.int 0, .ref o1, .int 0, .ref o2, .int 0, .ref o3, .ref o4, .int 0, .ref o5, .int 0, .ref o6, .int 0, .int 0, .int 0, .ref o7, .ref o8, .ref o9, .ref o10, .ref o11, .int 0, .ref o12, .ref o13, .ref o14, .int 0, .ref o15, .ref o16, .ref o17, .int 0, .ref o18]))] sz) := by
  refine Met.ofW (cc := cX12_all) (maxL := 1) (ret := (some .int)) (by decide) rfl ?_
  intro p e s m args below meth c s₁ B hml hv
  obtain ⟨rfl, hsz, hP, hK, hD0, hN⟩ := hv
  have hx := B.exec
  have hb := B.bytes
  have hr := B.returns
  have hts := atoms_spec (ws := wsX12_all) B.pre
  have hown : s.vm.findClass RX12 = some m.cls := findClass_of_methodNamed B.named
  have hlocks := B.notSynchronized
  subst hsz
  have hD := hD0.self (sz := s.heap.size)
  generalize hAe : va_A [(o0, .inr (12, [.int 0, .ref o1, .int 0, .ref o2, .int 0, .ref o3, .ref o4, .int 0, .ref o5, .int 0, .ref o6, .int 0, .int 0, .int 0, .ref o7, .ref o8, .ref o9, .ref o10, .ref o11, .int 0, .ref o12, .ref o13, .ref o14, .int 0, .ref o15, .ref o16, .ref o17, .int 0, .ref o18]))] s.heap.size = A at hD ⊢
  have hA : ∀ q : Nat, s.heap.size ≤ q → A q := fun q h => by rw [← hAe]; exact Or.inr h
  have hS : va_S A s.heap s.heap [] := va_S.rf
  have hP : va_P (dC, dI) vwCl [(o0, .inr (12, [.int 0, .ref o1, .int 0, .ref o2, .int 0, .ref o3, .ref o4, .int 0, .ref o5, .int 0, .ref o6, .int 0, .int 0, .int 0, .ref o7, .ref o8, .ref o9, .ref o10, .ref o11, .int 0, .ref o12, .ref o13, .ref o14, .int 0, .ref o15, .ref o16, .ref o17, .int 0, .ref o18]))] s.heap := hP
  have hl := lv_entry ([.ref o0]) (n := 1) (Nat.le_of_ble_eq_true rfl)
  rw [lg_entry_eq]
  generalize (lg_sl ([.ref o0]) ++ List.replicate (1 - (lg_sl ([.ref o0])).length) Slot.unset).toArray = ls at hl ⊢
  have hl : lv_has ls 1 [(0, .ref o0)] := hl
  refine lv_iconst (v := 1) hx hb dX12_all_0 (by decide) ?_
  refine lv_aload_n hx hb dX12_all_1 rfl (lv_at hl 0 rfl) ?_
  refine va_get (D := (dC, dI)) (ci := 12) (v := .int 0) (C := RX12) (T := TX12) (N := 29) hx hb hts iw_X12_all_X12 hown hK hP 0 rfl rfl 2 (by decide) (hts (.fieldLink RX12 73 "HolelessHouseModel" "n" "I") (by decide +kernel)) (fun _ h9 => h9) rfl dX12_all_2 ?_
  refine lv_ishl hx hb dX12_all_5 (tk_i (v := 1) (by decide +kernel) ?_)
  refine lv_iconst (v := 1) hx hb dX12_all_6 (by decide) ?_
  refine lv_isub hx hb dX12_all_7 (tk_i (v := 0) (by decide +kernel) ?_)
  have hP9 := hP.sub (ws' := [(o0, .inr (12, [.int 0, .ref o1, .int 0, .ref o2, .int 0, .ref o3, .ref o4, .int 0, .ref o5, .int 0, .ref o6, .int 0, .int 0, .int 0, .ref o7, .ref o8, .ref o9, .ref o10, .ref o11, .int 0, .ref o12, .ref o13, .ref o14, .int 0, .ref o15, .ref o16, .ref o17, .int 0, .ref o18]))]) [0] rfl
  have hD9 := hD.sub (ws' := [(o0, .inr (12, [.int 0, .ref o1, .int 0, .ref o2, .int 0, .ref o3, .ref o4, .int 0, .ref o5, .int 0, .ref o6, .int 0, .int 0, .int 0, .ref o7, .ref o8, .ref o9, .ref o10, .ref o11, .int 0, .ref o12, .ref o13, .ref o14, .int 0, .ref o15, .ref o16, .ref o17, .int 0, .ref o18]))]) [0] (by decide) rfl
  exact W.iret (v := 0) hx hb hr (fun t ht hW => ⟨⟨0, (), rfl, rfl, by rw [ht]; exact hP9, va_K.moved hW.alike hK, hD9⟩, hS.F ht⟩) hS.2.2 dX12_all_8
theorem iw_X12_rule_X12 : ∀ w ∈ wsX120, w ∈ wsX12_rule := by decide +kernel
set_option maxHeartbeats 1000000 in
set_option maxRecDepth 100000 in
theorem kX12_rule_2 (l : Launch) (dC : Nat → ClassId) (dI : Nat → Nat → Nat) (cI c2 : ClassId) (o0 : Nat) (o1 : Nat) (o2 : Nat) (o3 : Nat) (o4 : Nat) (o5 : Nat) (o6 : Nat) (o7 : Nat) (o8 : Nat) (o9 : Nat) (o10 : Nat) (o11 : Nat) (o12 : Nat) (o13 : Nat) (o14 : Nat) (o15 : Nat) (o16 : Nat) (o17 : Nat) (o18 : Nat) (sz : Nat) (a1 : Int32) (a1_lo : 0 ≤ a1.toInt) (a1_hi : a1.toInt ≤ 2) : Met l yX12_rule wsX12_rule ({ frames := 1, cells := 0, slots := 0, locals := 22 }) (va_Pc [.ref o0, .int a1] (wPre (dC, dI) [(cI, .int), (c2, .array .int)] [(o0, .inr (12, [.int 0, .ref o4, .int 0, .ref o1, .int 0, .ref o5, .ref o6, .int 0, .ref o7, .int 0, .ref o8, .int (-9), .int 0, .int 0, .ref o2, .ref o3, .ref o9, .ref o10, .ref o11, .int 0, .ref o12, .ref o13, .ref o14, .int 0, .ref o15, .ref o16, .ref o17, .int 0, .ref o18])), (o1, .inl (cI, 12, .inl (fun _ => 0))), (o2, .inl (cI, 12, .inl (fun _ => 0))), (o3, .inl (cI, 12, .inl (fun _ => 0)))] sz)) (va_Qi (fun (r : Int32) (_ : Unit) => r = 0) (fun _ t => wPost (dC, dI) [(cI, .int), (c2, .array .int)] (va_A [(o0, .inr (12, [.int 0, .ref o4, .int 0, .ref o1, .int 0, .ref o5, .ref o6, .int 0, .ref o7, .int 0, .ref o8, .int (-9), .int 0, .int 0, .ref o2, .ref o3, .ref o9, .ref o10, .ref o11, .int 0, .ref o12, .ref o13, .ref o14, .int 0, .ref o15, .ref o16, .ref o17, .int 0, .ref o18])), (o1, .inl (cI, 12, .inl (fun _ => 0))), (o2, .inl (cI, 12, .inl (fun _ => 0))), (o3, .inl (cI, 12, .inl (fun _ => 0)))] sz) [] t) (va_A [(o0, .inr (12, [.int 0, .ref o4, .int 0, .ref o1, .int 0, .ref o5, .ref o6, .int 0, .ref o7, .int 0, .ref o8, .int (-9), .int 0, .int 0, .ref o2, .ref o3, .ref o9, .ref o10, .ref o11, .int 0, .ref o12, .ref o13, .ref o14, .int 0, .ref o15, .ref o16, .ref o17, .int 0, .ref o18])), (o1, .inl (cI, 12, .inl (fun _ => 0))), (o2, .inl (cI, 12, .inl (fun _ => 0))), (o3, .inl (cI, 12, .inl (fun _ => 0)))] sz)) 0 0 (va_A [(o0, .inr (12, [.int 0, .ref o4, .int 0, .ref o1, .int 0, .ref o5, .ref o6, .int 0, .ref o7, .int 0, .ref o8, .int (-9), .int 0, .int 0, .ref o2, .ref o3, .ref o9, .ref o10, .ref o11, .int 0, .ref o12, .ref o13, .ref o14, .int 0, .ref o15, .ref o16, .ref o17, .int 0, .ref o18])), (o1, .inl (cI, 12, .inl (fun _ => 0))), (o2, .inl (cI, 12, .inl (fun _ => 0))), (o3, .inl (cI, 12, .inl (fun _ => 0)))] sz) := by
  refine Met.ofW (cc := cX12_rule) (maxL := 5) (ret := (some .int)) (by decide) rfl ?_
  intro p e s m args below meth c s₁ B hml hv
  obtain ⟨rfl, hsz, hP, hK, hD0, hN⟩ := hv
  have hx := B.exec
  have hb := B.bytes
  have hr := B.returns
  have hts := atoms_spec (ws := wsX12_rule) B.pre
  have hown : s.vm.findClass RX12 = some m.cls := findClass_of_methodNamed B.named
  have hlocks := B.notSynchronized
  subst hsz
  have hD := hD0.self (sz := s.heap.size)
  generalize hAe : va_A [(o0, .inr (12, [.int 0, .ref o4, .int 0, .ref o1, .int 0, .ref o5, .ref o6, .int 0, .ref o7, .int 0, .ref o8, .int (-9), .int 0, .int 0, .ref o2, .ref o3, .ref o9, .ref o10, .ref o11, .int 0, .ref o12, .ref o13, .ref o14, .int 0, .ref o15, .ref o16, .ref o17, .int 0, .ref o18])), (o1, .inl (cI, 12, .inl (fun _ => 0))), (o2, .inl (cI, 12, .inl (fun _ => 0))), (o3, .inl (cI, 12, .inl (fun _ => 0)))] s.heap.size = A at hD ⊢
  have hA : ∀ q : Nat, s.heap.size ≤ q → A q := fun q h => by rw [← hAe]; exact Or.inr h
  have hS : va_S A s.heap s.heap [] := va_S.rf
  have hP : va_P (dC, dI) vwCl [(o0, .inr (12, [.int 0, .ref o4, .int 0, .ref o1, .int 0, .ref o5, .ref o6, .int 0, .ref o7, .int 0, .ref o8, .int (-9), .int 0, .int 0, .ref o2, .ref o3, .ref o9, .ref o10, .ref o11, .int 0, .ref o12, .ref o13, .ref o14, .int 0, .ref o15, .ref o16, .ref o17, .int 0, .ref o18])), (o1, .inl (cI, 12, .inl (fun _ => 0))), (o2, .inl (cI, 12, .inl (fun _ => 0))), (o3, .inl (cI, 12, .inl (fun _ => 0)))] s.heap := hP
  have hl := lv_entry ([.ref o0, .int a1]) (n := 5) (Nat.le_of_ble_eq_true rfl)
  rw [lg_entry_eq]
  generalize (lg_sl ([.ref o0, .int a1]) ++ List.replicate (5 - (lg_sl ([.ref o0, .int a1])).length) Slot.unset).toArray = ls at hl ⊢
  have hl : lv_has ls 5 [(0, .ref o0), (1, .int a1)] := hl
  refine lv_iload_n hx hb dX12_rule_0 rfl (lv_at hl 1 rfl) ?_
  refine lv_iconst (v := 0) hx hb dX12_rule_1 (by decide) ?_
  refine lv_iconst (v := 2) hx hb dX12_rule_2 (by decide) ?_
  refine kcall_i (D := (dC, dI)) (S := Unit) (v := 1) (wc := []) (wr := [(o0, .inr (12, [.int 0, .ref o4, .int 0, .ref o1, .int 0, .ref o5, .ref o6, .int 0, .ref o7, .int 0, .ref o8, .int (-9), .int 0, .int 0, .ref o2, .ref o3, .ref o9, .ref o10, .ref o11, .int 0, .ref o12, .ref o13, .ref o14, .int 0, .ref o15, .ref o16, .ref o17, .int 0, .ref o18])), (o1, .inl (cI, 12, .inl (fun _ => 0))), (o2, .inl (cI, 12, .inl (fun _ => 0))), (o3, .inl (cI, 12, .inl (fun _ => 0)))]) (w1 := fun _ => []) (fun hPc hDc => va_runS (As := [.int a1, .int 0, .int 2]) (rest := []) ⟨hx, hb, hml, hown, hts⟩ (kX12_in_7 l dC dI cI c2 s.heap.size a1 (by omega) (by omega)) (va_cwS 3 hts gX12_rule_X12_in rfl rfl rfl (by decide +kernel) ⟨Nat.le_of_ble_eq_true rfl, Nat.le_of_ble_eq_true rfl⟩) (pre_S hPc hK hDc hN) rfl rfl hl.1 rfl (lv_room (Nat.le_of_ble_eq_true rfl)) dX12_rule_3 ⟨Nat.le_of_ble_eq_true rfl, Nat.le_of_ble_eq_true rfl⟩) hP hD hS hA [] [0, 1, 2, 3] rfl rfl (by decide) (by decide) (by decide) (fun u H locs hP hD hS => ?_)
  have hP : va_P (dC, dI) vwCl [(o0, .inr (12, [.int 0, .ref o4, .int 0, .ref o1, .int 0, .ref o5, .ref o6, .int 0, .ref o7, .int 0, .ref o8, .int (-9), .int 0, .int 0, .ref o2, .ref o3, .ref o9, .ref o10, .ref o11, .int 0, .ref o12, .ref o13, .ref o14, .int 0, .ref o15, .ref o16, .ref o17, .int 0, .ref o18])), (o1, .inl (cI, 12, .inl (fun _ => 0))), (o2, .inl (cI, 12, .inl (fun _ => 0))), (o3, .inl (cI, 12, .inl (fun _ => 0)))] H := hP
  have hD : va_D A [(o0, .inr (12, [.int 0, .ref o4, .int 0, .ref o1, .int 0, .ref o5, .ref o6, .int 0, .ref o7, .int 0, .ref o8, .int (-9), .int 0, .int 0, .ref o2, .ref o3, .ref o9, .ref o10, .ref o11, .int 0, .ref o12, .ref o13, .ref o14, .int 0, .ref o15, .ref o16, .ref o17, .int 0, .ref o18])), (o1, .inl (cI, 12, .inl (fun _ => 0))), (o2, .inl (cI, 12, .inl (fun _ => 0))), (o3, .inl (cI, 12, .inl (fun _ => 0)))] := hD
  refine lv_if_ne (tgt := 11) hx hb dX12_rule_6 (by decide) (fun _ => ?_) (fun h9 => absurd h9 (by decide +kernel))
  refine lv_aload_n hx hb dX12_rule_11 rfl (lv_at hl 0 rfl) ?_
  refine kcall_v (D := (dC, dI)) (S := Unit) (wc := [(o0, .inr (12, [.int 0, .ref o4, .int 0, .ref o1, .int 0, .ref o5, .ref o6, .int 0, .ref o7, .int 0, .ref o8, .int (-9), .int 0, .int 0, .ref o2, .ref o3, .ref o9, .ref o10, .ref o11, .int 0, .ref o12, .ref o13, .ref o14, .int 0, .ref o15, .ref o16, .ref o17, .int 0, .ref o18])), (o1, .inl (cI, 12, .inl (fun _ => 0))), (o2, .inl (cI, 12, .inl (fun _ => 0))), (o3, .inl (cI, 12, .inl (fun _ => 0)))]) (wr := []) (w1 := fun _ => [(o0, .inr (12, [.int 0, .ref o4, .int 0, .ref o1, .int 0, .ref o5, .ref o6, .int 0, .ref o7, .int 0, .ref o8, .int 0, .int 0, .int 0, .ref o2, .ref o3, .ref o9, .ref o10, .ref o11, .int 0, .ref o12, .ref o13, .ref o14, .int 0, .ref o15, .ref o16, .ref o17, .int 0, .ref o18])), (o1, .inl (cI, 12, .inl (fun _ => 0))), (o2, .inl (cI, 12, .inl (fun _ => 0))), (o3, .inl (cI, 12, .inl (fun _ => 0)))]) (fun hPc hDc => va_runV (As := []) (rest := []) ⟨hx, hb, hml, hown, hts⟩ (kX12_beginOrder_1 l dC dI cI c2 o0 o1 o2 o3 o4 o5 o6 o7 o8 o9 o10 o11 o12 o13 o14 o15 o16 o17 o18 H.size) (cwV 0 hts gX12_rule_X12_beginOrder rfl rfl rfl (by decide +kernel) ⟨Nat.le_of_ble_eq_true rfl, Nat.le_of_ble_eq_true rfl⟩) (pre_V hPc hK hDc hN (ci := 12) (q0 := 0) rfl rfl) rfl rfl hl.1 rfl (lv_room (Nat.le_of_ble_eq_true rfl)) dX12_rule_12 ⟨Nat.le_of_ble_eq_true rfl, Nat.le_of_ble_eq_true rfl⟩) hP hD hS hA [0, 1, 2, 3] [] rfl rfl (by decide) (by decide) (by decide) (fun u H locs hP hD hS => ?_)
  have hP : va_P (dC, dI) vwCl [(o0, .inr (12, [.int 0, .ref o4, .int 0, .ref o1, .int 0, .ref o5, .ref o6, .int 0, .ref o7, .int 0, .ref o8, .int 0, .int 0, .int 0, .ref o2, .ref o3, .ref o9, .ref o10, .ref o11, .int 0, .ref o12, .ref o13, .ref o14, .int 0, .ref o15, .ref o16, .ref o17, .int 0, .ref o18])), (o1, .inl (cI, 12, .inl (fun _ => 0))), (o2, .inl (cI, 12, .inl (fun _ => 0))), (o3, .inl (cI, 12, .inl (fun _ => 0)))] H := hP
  have hD : va_D A [(o0, .inr (12, [.int 0, .ref o4, .int 0, .ref o1, .int 0, .ref o5, .ref o6, .int 0, .ref o7, .int 0, .ref o8, .int 0, .int 0, .int 0, .ref o2, .ref o3, .ref o9, .ref o10, .ref o11, .int 0, .ref o12, .ref o13, .ref o14, .int 0, .ref o15, .ref o16, .ref o17, .int 0, .ref o18])), (o1, .inl (cI, 12, .inl (fun _ => 0))), (o2, .inl (cI, 12, .inl (fun _ => 0))), (o3, .inl (cI, 12, .inl (fun _ => 0)))] := hD
  refine lv_aload_n hx hb dX12_rule_15 rfl (lv_at hl 0 rfl) ?_
  refine kcall_i (D := (dC, dI)) (S := Unit) (v := 0) (wc := [(o0, .inr (12, [.int 0, .ref o4, .int 0, .ref o1, .int 0, .ref o5, .ref o6, .int 0, .ref o7, .int 0, .ref o8, .int 0, .int 0, .int 0, .ref o2, .ref o3, .ref o9, .ref o10, .ref o11, .int 0, .ref o12, .ref o13, .ref o14, .int 0, .ref o15, .ref o16, .ref o17, .int 0, .ref o18]))]) (wr := [(o1, .inl (cI, 12, .inl (fun _ => 0))), (o2, .inl (cI, 12, .inl (fun _ => 0))), (o3, .inl (cI, 12, .inl (fun _ => 0)))]) (w1 := fun _ => [(o0, .inr (12, [.int 0, .ref o4, .int 0, .ref o1, .int 0, .ref o5, .ref o6, .int 0, .ref o7, .int 0, .ref o8, .int 0, .int 0, .int 0, .ref o2, .ref o3, .ref o9, .ref o10, .ref o11, .int 0, .ref o12, .ref o13, .ref o14, .int 0, .ref o15, .ref o16, .ref o17, .int 0, .ref o18]))]) (fun hPc hDc => va_runV (As := []) (rest := []) ⟨hx, hb, hml, hown, hts⟩ (kX12_all_2 l dC dI cI c2 o0 o4 o1 o5 o6 o7 o8 o2 o3 o9 o10 o11 o12 o13 o14 o15 o16 o17 o18 H.size) (cwV 0 hts gX12_rule_X12_all rfl rfl rfl (by decide +kernel) ⟨Nat.le_of_ble_eq_true rfl, Nat.le_of_ble_eq_true rfl⟩) (pre_V hPc hK hDc hN (ci := 12) (q0 := 0) rfl rfl) rfl rfl hl.1 rfl (lv_room (Nat.le_of_ble_eq_true rfl)) dX12_rule_16 ⟨Nat.le_of_ble_eq_true rfl, Nat.le_of_ble_eq_true rfl⟩) hP hD hS hA [0] [1, 2, 3] rfl rfl (by decide) (by decide) (by decide) (fun u H locs hP hD hS => ?_)
  have hP : va_P (dC, dI) vwCl [(o1, .inl (cI, 12, .inl (fun _ => 0))), (o2, .inl (cI, 12, .inl (fun _ => 0))), (o3, .inl (cI, 12, .inl (fun _ => 0))), (o0, .inr (12, [.int 0, .ref o4, .int 0, .ref o1, .int 0, .ref o5, .ref o6, .int 0, .ref o7, .int 0, .ref o8, .int 0, .int 0, .int 0, .ref o2, .ref o3, .ref o9, .ref o10, .ref o11, .int 0, .ref o12, .ref o13, .ref o14, .int 0, .ref o15, .ref o16, .ref o17, .int 0, .ref o18]))] H := hP
  have hD : va_D A [(o1, .inl (cI, 12, .inl (fun _ => 0))), (o2, .inl (cI, 12, .inl (fun _ => 0))), (o3, .inl (cI, 12, .inl (fun _ => 0))), (o0, .inr (12, [.int 0, .ref o4, .int 0, .ref o1, .int 0, .ref o5, .ref o6, .int 0, .ref o7, .int 0, .ref o8, .int 0, .int 0, .int 0, .ref o2, .ref o3, .ref o9, .ref o10, .ref o11, .int 0, .ref o12, .ref o13, .ref o14, .int 0, .ref o15, .ref o16, .ref o17, .int 0, .ref o18]))] := hD
  refine lv_istore_n (lv' := [(2, .int 0), (0, .ref o0), (1, .int a1)]) hx hb dX12_rule_19 rfl hl (by decide) rfl (fun ls hl => ?_)
  refine lv_iload_n hx hb dX12_rule_20 rfl (lv_at hl 0 rfl) ?_
  refine lv_if_eq (tgt := 93) hx hb dX12_rule_21 (by decide) (fun _ => ?_) (fun h9 => absurd (by decide +kernel) h9)
  refine lv_aload_n hx hb dX12_rule_93 rfl (lv_at hl 1 rfl) ?_
  refine va_get (D := (dC, dI)) (ci := 12) (v := .int 0) (C := RX12) (T := TX12) (N := 29) hx hb hts iw_X12_rule_X12 hown hK hP 3 rfl rfl 12 (by decide) (hts (.fieldLink RX12 134 "HolelessHouseModel" "orderFill" "I") (by decide +kernel)) (fun _ h9 => h9) rfl dX12_rule_94 ?_
  have hP9 := hP.sub (ws' := []) [] rfl
  have hD9 := hD.sub (ws' := []) [] (by decide) rfl
  exact W.iret (v := 0) hx hb hr (fun t ht hW => ⟨⟨0, (), rfl, rfl, by rw [ht]; exact hP9, va_K.moved hW.alike hK, hD9⟩, hS.F ht⟩) hS.2.2 dX12_rule_97
set_option maxHeartbeats 1000000 in
set_option maxRecDepth 100000 in
theorem kX11_rule_3 (l : Launch) (dC : Nat → ClassId) (dI : Nat → Nat → Nat) (cI c2 : ClassId) (o0 : Nat) (o1 : Nat) (o2 : Nat) (o3 : Nat) (o4 : Nat) (o5 : Nat) (o6 : Nat) (o7 : Nat) (o8 : Nat) (o9 : Nat) (o10 : Nat) (o11 : Nat) (o12 : Nat) (sz : Nat) (a1 : Int32) (a1_lo : 3 ≤ a1.toInt) (a1_hi : a1.toInt ≤ 2147483647) : Met l yX11_rule wsX11_rule ({ frames := 0, cells := 0, slots := 0, locals := 0 }) (va_Pc [.ref o0, .int a1] (wPre (dC, dI) [(cI, .int), (c2, .array .int)] [(o0, .inr (11, [.ref o1, .ref o2, .ref o3, .ref o4, .ref o5, .ref o6, .ref o7, .ref o8, .ref o9, .ref o10, .ref o11, .ref o12, .int 0]))] sz)) (va_Qi (fun (r : Int32) (_ : Unit) => r = (-1)) (fun _ t => wPost (dC, dI) [(cI, .int), (c2, .array .int)] (va_A [(o0, .inr (11, [.ref o1, .ref o2, .ref o3, .ref o4, .ref o5, .ref o6, .ref o7, .ref o8, .ref o9, .ref o10, .ref o11, .ref o12, .int 0]))] sz) [] t) (va_A [(o0, .inr (11, [.ref o1, .ref o2, .ref o3, .ref o4, .ref o5, .ref o6, .ref o7, .ref o8, .ref o9, .ref o10, .ref o11, .ref o12, .int 0]))] sz)) 0 0 (va_A [(o0, .inr (11, [.ref o1, .ref o2, .ref o3, .ref o4, .ref o5, .ref o6, .ref o7, .ref o8, .ref o9, .ref o10, .ref o11, .ref o12, .int 0]))] sz) := by
  refine Met.ofW (cc := cX11_rule) (maxL := 2) (ret := (some .int)) (by decide) rfl ?_
  intro p e s m args below meth c s₁ B hml hv
  obtain ⟨rfl, hsz, hP, hK, hD0, hN⟩ := hv
  have hx := B.exec
  have hb := B.bytes
  have hr := B.returns
  have hts := atoms_spec (ws := wsX11_rule) B.pre
  have hown : s.vm.findClass RX11 = some m.cls := findClass_of_methodNamed B.named
  have hlocks := B.notSynchronized
  subst hsz
  have hD := hD0.self (sz := s.heap.size)
  generalize hAe : va_A [(o0, .inr (11, [.ref o1, .ref o2, .ref o3, .ref o4, .ref o5, .ref o6, .ref o7, .ref o8, .ref o9, .ref o10, .ref o11, .ref o12, .int 0]))] s.heap.size = A at hD ⊢
  have hA : ∀ q : Nat, s.heap.size ≤ q → A q := fun q h => by rw [← hAe]; exact Or.inr h
  have hS : va_S A s.heap s.heap [] := va_S.rf
  have hP : va_P (dC, dI) vwCl [(o0, .inr (11, [.ref o1, .ref o2, .ref o3, .ref o4, .ref o5, .ref o6, .ref o7, .ref o8, .ref o9, .ref o10, .ref o11, .ref o12, .int 0]))] s.heap := hP
  have hl := lv_entry ([.ref o0, .int a1]) (n := 2) (Nat.le_of_ble_eq_true rfl)
  rw [lg_entry_eq]
  generalize (lg_sl ([.ref o0, .int a1]) ++ List.replicate (2 - (lg_sl ([.ref o0, .int a1])).length) Slot.unset).toArray = ls at hl ⊢
  have hl : lv_has ls 2 [(0, .ref o0), (1, .int a1)] := hl
  refine lv_iload_n hx hb dX11_rule_0 rfl (lv_at hl 1 rfl) ?_
  refine lv_if_lt (tgt := 9) hx hb dX11_rule_1 (by decide) (fun h9 => absurd h9 (ib_nlt (X := a1.toInt) (Y := 0) rfl (by decide +kernel) (by omega))) (fun _ => ?_)
  refine lv_iload_n hx hb dX11_rule_4 rfl (lv_at hl 1 rfl) ?_
  refine lv_iconst (v := 2) hx hb dX11_rule_5 (by decide) ?_
  refine lv_icmp_le (tgt := 11) hx hb dX11_rule_6 (by decide) (fun h9 => absurd h9 (ib_nle (X := a1.toInt) (Y := 2) rfl (by decide +kernel) (by omega))) (fun _ => ?_)
  refine lv_iconst (v := (-1)) hx hb dX11_rule_9 (by decide) ?_
  have hP9 := hP.sub (ws' := []) [] rfl
  have hD9 := hD.sub (ws' := []) [] (by decide) rfl
  exact W.iret (v := (-1)) hx hb hr (fun t ht hW => ⟨⟨(-1), (), rfl, rfl, by rw [ht]; exact hP9, va_K.moved hW.alike hK, hD9⟩, hS.F ht⟩) hS.2.2 dX11_rule_10
set_option maxHeartbeats 1000000 in
set_option maxRecDepth 100000 in
theorem kX12_in_8 (l : Launch) (dC : Nat → ClassId) (dI : Nat → Nat → Nat) (cI c2 : ClassId) (sz : Nat) (a1 : Int32) (a1_lo : 3 ≤ a1.toInt) (a1_hi : a1.toInt ≤ 2147483647) : Met l yX12_in wsX12_in ({ frames := 0, cells := 0, slots := 0, locals := 0 }) (va_Pc [.int a1, .int 0, .int 2] (wPre (dC, dI) [(cI, .int), (c2, .array .int)] [] sz)) (va_Qi (fun (r : Int32) (_ : Unit) => r = 0) (fun _ t => wPost (dC, dI) [(cI, .int), (c2, .array .int)] (va_A [] sz) [] t) (va_A [] sz)) 0 0 (va_A [] sz) := by
  refine Met.ofW (cc := cX12_in) (maxL := 3) (ret := (some .boolean)) (by decide) rfl ?_
  intro p e s m args below meth c s₁ B hml hv
  obtain ⟨rfl, hsz, hP, hK, hD0, hN⟩ := hv
  have hx := B.exec
  have hb := B.bytes
  have hr := B.returns
  have hts := atoms_spec (ws := wsX12_in) B.pre
  have hown : s.vm.findClass RX12 = some m.cls := findClass_of_methodNamed B.named
  have hlocks := B.notSynchronized
  subst hsz
  have hD := hD0.self (sz := s.heap.size)
  generalize hAe : va_A [] s.heap.size = A at hD ⊢
  have hA : ∀ q : Nat, s.heap.size ≤ q → A q := fun q h => by rw [← hAe]; exact Or.inr h
  have hS : va_S A s.heap s.heap [] := va_S.rf
  have hP : va_P (dC, dI) vwCl [] s.heap := hP
  have hl := lv_entry ([.int a1, .int 0, .int 2]) (n := 3) (Nat.le_of_ble_eq_true rfl)
  rw [lg_entry_eq]
  generalize (lg_sl ([.int a1, .int 0, .int 2]) ++ List.replicate (3 - (lg_sl ([.int a1, .int 0, .int 2])).length) Slot.unset).toArray = ls at hl ⊢
  have hl : lv_has ls 3 [(0, .int a1), (1, .int 0), (2, .int 2)] := hl
  refine lv_iload_n hx hb dX12_in_0 rfl (lv_at hl 0 rfl) ?_
  refine lv_iload_n hx hb dX12_in_1 rfl (lv_at hl 1 rfl) ?_
  refine lv_icmp_lt (tgt := 14) hx hb dX12_in_2 (by decide) (fun h9 => absurd h9 (ib_nlt (X := a1.toInt) (Y := 0) rfl (by decide +kernel) (by omega))) (fun _ => ?_)
  refine lv_iload_n hx hb dX12_in_5 rfl (lv_at hl 0 rfl) ?_
  refine lv_iload_n hx hb dX12_in_6 rfl (lv_at hl 2 rfl) ?_
  refine lv_icmp_gt (tgt := 14) hx hb dX12_in_7 (by decide) (fun _ => ?_) (fun h9 => absurd (ib_lt (X := 2) (Y := a1.toInt) (by decide +kernel) rfl (by omega)) h9)
  refine lv_iconst (v := 0) hx hb dX12_in_14 (by decide) ?_
  have hP9 := hP.sub (ws' := []) [] rfl
  have hD9 := hD.sub (ws' := []) [] (by decide) rfl
  exact W.zret (v := 0) (ty := .boolean) hx hb hr rfl (fun t ht hW => ⟨⟨0, (), rfl, rfl, by rw [ht]; exact hP9, va_K.moved hW.alike hK, hD9⟩, hS.F ht⟩) hS.2.2 dX12_in_15
set_option maxHeartbeats 1000000 in
set_option maxRecDepth 100000 in
theorem kX12_rule_3 (l : Launch) (dC : Nat → ClassId) (dI : Nat → Nat → Nat) (cI c2 : ClassId) (o0 : Nat) (o1 : Nat) (o2 : Nat) (o3 : Nat) (o4 : Nat) (o5 : Nat) (o6 : Nat) (o7 : Nat) (o8 : Nat) (o9 : Nat) (o10 : Nat) (o11 : Nat) (o12 : Nat) (o13 : Nat) (o14 : Nat) (o15 : Nat) (o16 : Nat) (o17 : Nat) (o18 : Nat) (sz : Nat) (a1 : Int32) (a1_lo : 3 ≤ a1.toInt) (a1_hi : a1.toInt ≤ 2147483647) : Met l yX12_rule wsX12_rule ({ frames := 1, cells := 0, slots := 0, locals := 22 }) (va_Pc [.ref o0, .int a1] (wPre (dC, dI) [(cI, .int), (c2, .array .int)] [(o0, .inr (12, [.int 0, .ref o1, .int 0, .ref o2, .int 0, .ref o3, .ref o4, .int 0, .ref o5, .int 0, .ref o6, .int (-9), .int 0, .int 0, .ref o7, .ref o8, .ref o9, .ref o10, .ref o11, .int 0, .ref o12, .ref o13, .ref o14, .int 0, .ref o15, .ref o16, .ref o17, .int 0, .ref o18]))] sz)) (va_Qi (fun (r : Int32) (_ : Unit) => r = (-1)) (fun _ t => wPost (dC, dI) [(cI, .int), (c2, .array .int)] (va_A [(o0, .inr (12, [.int 0, .ref o1, .int 0, .ref o2, .int 0, .ref o3, .ref o4, .int 0, .ref o5, .int 0, .ref o6, .int (-9), .int 0, .int 0, .ref o7, .ref o8, .ref o9, .ref o10, .ref o11, .int 0, .ref o12, .ref o13, .ref o14, .int 0, .ref o15, .ref o16, .ref o17, .int 0, .ref o18]))] sz) [] t) (va_A [(o0, .inr (12, [.int 0, .ref o1, .int 0, .ref o2, .int 0, .ref o3, .ref o4, .int 0, .ref o5, .int 0, .ref o6, .int (-9), .int 0, .int 0, .ref o7, .ref o8, .ref o9, .ref o10, .ref o11, .int 0, .ref o12, .ref o13, .ref o14, .int 0, .ref o15, .ref o16, .ref o17, .int 0, .ref o18]))] sz)) 0 0 (va_A [(o0, .inr (12, [.int 0, .ref o1, .int 0, .ref o2, .int 0, .ref o3, .ref o4, .int 0, .ref o5, .int 0, .ref o6, .int (-9), .int 0, .int 0, .ref o7, .ref o8, .ref o9, .ref o10, .ref o11, .int 0, .ref o12, .ref o13, .ref o14, .int 0, .ref o15, .ref o16, .ref o17, .int 0, .ref o18]))] sz) := by
  refine Met.ofW (cc := cX12_rule) (maxL := 5) (ret := (some .int)) (by decide) rfl ?_
  intro p e s m args below meth c s₁ B hml hv
  obtain ⟨rfl, hsz, hP, hK, hD0, hN⟩ := hv
  have hx := B.exec
  have hb := B.bytes
  have hr := B.returns
  have hts := atoms_spec (ws := wsX12_rule) B.pre
  have hown : s.vm.findClass RX12 = some m.cls := findClass_of_methodNamed B.named
  have hlocks := B.notSynchronized
  subst hsz
  have hD := hD0.self (sz := s.heap.size)
  generalize hAe : va_A [(o0, .inr (12, [.int 0, .ref o1, .int 0, .ref o2, .int 0, .ref o3, .ref o4, .int 0, .ref o5, .int 0, .ref o6, .int (-9), .int 0, .int 0, .ref o7, .ref o8, .ref o9, .ref o10, .ref o11, .int 0, .ref o12, .ref o13, .ref o14, .int 0, .ref o15, .ref o16, .ref o17, .int 0, .ref o18]))] s.heap.size = A at hD ⊢
  have hA : ∀ q : Nat, s.heap.size ≤ q → A q := fun q h => by rw [← hAe]; exact Or.inr h
  have hS : va_S A s.heap s.heap [] := va_S.rf
  have hP : va_P (dC, dI) vwCl [(o0, .inr (12, [.int 0, .ref o1, .int 0, .ref o2, .int 0, .ref o3, .ref o4, .int 0, .ref o5, .int 0, .ref o6, .int (-9), .int 0, .int 0, .ref o7, .ref o8, .ref o9, .ref o10, .ref o11, .int 0, .ref o12, .ref o13, .ref o14, .int 0, .ref o15, .ref o16, .ref o17, .int 0, .ref o18]))] s.heap := hP
  have hl := lv_entry ([.ref o0, .int a1]) (n := 5) (Nat.le_of_ble_eq_true rfl)
  rw [lg_entry_eq]
  generalize (lg_sl ([.ref o0, .int a1]) ++ List.replicate (5 - (lg_sl ([.ref o0, .int a1])).length) Slot.unset).toArray = ls at hl ⊢
  have hl : lv_has ls 5 [(0, .ref o0), (1, .int a1)] := hl
  refine lv_iload_n hx hb dX12_rule_0 rfl (lv_at hl 1 rfl) ?_
  refine lv_iconst (v := 0) hx hb dX12_rule_1 (by decide) ?_
  refine lv_iconst (v := 2) hx hb dX12_rule_2 (by decide) ?_
  refine kcall_i (D := (dC, dI)) (S := Unit) (v := 0) (wc := []) (wr := [(o0, .inr (12, [.int 0, .ref o1, .int 0, .ref o2, .int 0, .ref o3, .ref o4, .int 0, .ref o5, .int 0, .ref o6, .int (-9), .int 0, .int 0, .ref o7, .ref o8, .ref o9, .ref o10, .ref o11, .int 0, .ref o12, .ref o13, .ref o14, .int 0, .ref o15, .ref o16, .ref o17, .int 0, .ref o18]))]) (w1 := fun _ => []) (fun hPc hDc => va_runS (As := [.int a1, .int 0, .int 2]) (rest := []) ⟨hx, hb, hml, hown, hts⟩ (kX12_in_8 l dC dI cI c2 s.heap.size a1 (by omega) (by omega)) (va_cwS 3 hts gX12_rule_X12_in rfl rfl rfl (by decide +kernel) ⟨Nat.le_of_ble_eq_true rfl, Nat.le_of_ble_eq_true rfl⟩) (pre_S hPc hK hDc hN) rfl rfl hl.1 rfl (lv_room (Nat.le_of_ble_eq_true rfl)) dX12_rule_3 ⟨Nat.le_of_ble_eq_true rfl, Nat.le_of_ble_eq_true rfl⟩) hP hD hS hA [] [0] rfl rfl (by decide) (by decide) (by decide) (fun u H locs hP hD hS => ?_)
  have hP : va_P (dC, dI) vwCl [(o0, .inr (12, [.int 0, .ref o1, .int 0, .ref o2, .int 0, .ref o3, .ref o4, .int 0, .ref o5, .int 0, .ref o6, .int (-9), .int 0, .int 0, .ref o7, .ref o8, .ref o9, .ref o10, .ref o11, .int 0, .ref o12, .ref o13, .ref o14, .int 0, .ref o15, .ref o16, .ref o17, .int 0, .ref o18]))] H := hP
  have hD : va_D A [(o0, .inr (12, [.int 0, .ref o1, .int 0, .ref o2, .int 0, .ref o3, .ref o4, .int 0, .ref o5, .int 0, .ref o6, .int (-9), .int 0, .int 0, .ref o7, .ref o8, .ref o9, .ref o10, .ref o11, .int 0, .ref o12, .ref o13, .ref o14, .int 0, .ref o15, .ref o16, .ref o17, .int 0, .ref o18]))] := hD
  refine lv_if_ne (tgt := 11) hx hb dX12_rule_6 (by decide) (fun h9 => absurd (by decide +kernel) h9) (fun _ => ?_)
  refine lv_iconst (v := (-1)) hx hb dX12_rule_9 (by decide) ?_
  have hP9 := hP.sub (ws' := []) [] rfl
  have hD9 := hD.sub (ws' := []) [] (by decide) rfl
  exact W.iret (v := (-1)) hx hb hr (fun t ht hW => ⟨⟨(-1), (), rfl, rfl, by rw [ht]; exact hP9, va_K.moved hW.alike hK, hD9⟩, hS.F ht⟩) hS.2.2 dX12_rule_10
set_option maxHeartbeats 1000000 in
set_option maxRecDepth 100000 in
theorem kX11_least_1 (l : Launch) (dC : Nat → ClassId) (dI : Nat → Nat → Nat) (cI c2 : ClassId) (o0 : Nat) (o1 : Nat) (o2 : Nat) (o3 : Nat) (o4 : Nat) (o5 : Nat) (o6 : Nat) (o7 : Nat) (o8 : Nat) (o9 : Nat) (o10 : Nat) (o11 : Nat) (o12 : Nat) (sz : Nat) (a1 : Int32) (a1_lo : (-2147483648) ≤ a1.toInt) (a1_hi : a1.toInt ≤ (-1)) : Met l yX11_least wsX11_least ({ frames := 0, cells := 0, slots := 0, locals := 0 }) (va_Pc [.ref o0, .int a1] (wPre (dC, dI) [(cI, .int), (c2, .array .int)] [(o0, .inr (11, [.ref o1, .ref o2, .ref o3, .ref o4, .ref o5, .ref o6, .ref o7, .ref o8, .ref o9, .ref o10, .ref o11, .ref o12, .int 0]))] sz)) (va_Qi (fun (r : Int32) (_ : Unit) => r = (-1)) (fun _ t => wPost (dC, dI) [(cI, .int), (c2, .array .int)] (va_A [(o0, .inr (11, [.ref o1, .ref o2, .ref o3, .ref o4, .ref o5, .ref o6, .ref o7, .ref o8, .ref o9, .ref o10, .ref o11, .ref o12, .int 0]))] sz) [] t) (va_A [(o0, .inr (11, [.ref o1, .ref o2, .ref o3, .ref o4, .ref o5, .ref o6, .ref o7, .ref o8, .ref o9, .ref o10, .ref o11, .ref o12, .int 0]))] sz)) 0 0 (va_A [(o0, .inr (11, [.ref o1, .ref o2, .ref o3, .ref o4, .ref o5, .ref o6, .ref o7, .ref o8, .ref o9, .ref o10, .ref o11, .ref o12, .int 0]))] sz) := by
  refine Met.ofW (cc := cX11_least) (maxL := 2) (ret := (some .int)) (by decide) rfl ?_
  intro p e s m args below meth c s₁ B hml hv
  obtain ⟨rfl, hsz, hP, hK, hD0, hN⟩ := hv
  have hx := B.exec
  have hb := B.bytes
  have hr := B.returns
  have hts := atoms_spec (ws := wsX11_least) B.pre
  have hown : s.vm.findClass RX11 = some m.cls := findClass_of_methodNamed B.named
  have hlocks := B.notSynchronized
  subst hsz
  have hD := hD0.self (sz := s.heap.size)
  generalize hAe : va_A [(o0, .inr (11, [.ref o1, .ref o2, .ref o3, .ref o4, .ref o5, .ref o6, .ref o7, .ref o8, .ref o9, .ref o10, .ref o11, .ref o12, .int 0]))] s.heap.size = A at hD ⊢
  have hA : ∀ q : Nat, s.heap.size ≤ q → A q := fun q h => by rw [← hAe]; exact Or.inr h
  have hS : va_S A s.heap s.heap [] := va_S.rf
  have hP : va_P (dC, dI) vwCl [(o0, .inr (11, [.ref o1, .ref o2, .ref o3, .ref o4, .ref o5, .ref o6, .ref o7, .ref o8, .ref o9, .ref o10, .ref o11, .ref o12, .int 0]))] s.heap := hP
  have hl := lv_entry ([.ref o0, .int a1]) (n := 2) (Nat.le_of_ble_eq_true rfl)
  rw [lg_entry_eq]
  generalize (lg_sl ([.ref o0, .int a1]) ++ List.replicate (2 - (lg_sl ([.ref o0, .int a1])).length) Slot.unset).toArray = ls at hl ⊢
  have hl : lv_has ls 2 [(0, .ref o0), (1, .int a1)] := hl
  refine lv_iload_n hx hb dX11_least_0 rfl (lv_at hl 1 rfl) ?_
  refine lv_if_eq (tgt := 11) hx hb dX11_least_1 (by decide) (fun h9 => absurd h9 (ib_ne (X := a1.toInt) (Y := 0) rfl (by decide +kernel) (by omega))) (fun _ => ?_)
  refine lv_iload_n hx hb dX11_least_4 rfl (lv_at hl 1 rfl) ?_
  refine lv_iconst (v := 1) hx hb dX11_least_5 (by decide) ?_
  refine lv_icmp_eq (tgt := 11) hx hb dX11_least_6 (by decide) (fun h9 => absurd h9 (ib_ne (X := a1.toInt) (Y := 1) rfl (by decide +kernel) (by omega))) (fun _ => ?_)
  refine lv_iconst (v := (-1)) hx hb dX11_least_9 (by decide) ?_
  have hP9 := hP.sub (ws' := []) [] rfl
  have hD9 := hD.sub (ws' := []) [] (by decide) rfl
  exact W.iret (v := (-1)) hx hb hr (fun t ht hW => ⟨⟨(-1), (), rfl, rfl, by rw [ht]; exact hP9, va_K.moved hW.alike hK, hD9⟩, hS.F ht⟩) hS.2.2 dX11_least_10
set_option maxHeartbeats 1000000 in
set_option maxRecDepth 100000 in
theorem kX12_in_9 (l : Launch) (dC : Nat → ClassId) (dI : Nat → Nat → Nat) (cI c2 : ClassId) (sz : Nat) (a1 : Int32) (a1_lo : (-2147483648) ≤ a1.toInt) (a1_hi : a1.toInt ≤ (-1)) : Met l yX12_in wsX12_in ({ frames := 0, cells := 0, slots := 0, locals := 0 }) (va_Pc [.int a1, .int 0, .int 1] (wPre (dC, dI) [(cI, .int), (c2, .array .int)] [] sz)) (va_Qi (fun (r : Int32) (_ : Unit) => r = 0) (fun _ t => wPost (dC, dI) [(cI, .int), (c2, .array .int)] (va_A [] sz) [] t) (va_A [] sz)) 0 0 (va_A [] sz) := by
  refine Met.ofW (cc := cX12_in) (maxL := 3) (ret := (some .boolean)) (by decide) rfl ?_
  intro p e s m args below meth c s₁ B hml hv
  obtain ⟨rfl, hsz, hP, hK, hD0, hN⟩ := hv
  have hx := B.exec
  have hb := B.bytes
  have hr := B.returns
  have hts := atoms_spec (ws := wsX12_in) B.pre
  have hown : s.vm.findClass RX12 = some m.cls := findClass_of_methodNamed B.named
  have hlocks := B.notSynchronized
  subst hsz
  have hD := hD0.self (sz := s.heap.size)
  generalize hAe : va_A [] s.heap.size = A at hD ⊢
  have hA : ∀ q : Nat, s.heap.size ≤ q → A q := fun q h => by rw [← hAe]; exact Or.inr h
  have hS : va_S A s.heap s.heap [] := va_S.rf
  have hP : va_P (dC, dI) vwCl [] s.heap := hP
  have hl := lv_entry ([.int a1, .int 0, .int 1]) (n := 3) (Nat.le_of_ble_eq_true rfl)
  rw [lg_entry_eq]
  generalize (lg_sl ([.int a1, .int 0, .int 1]) ++ List.replicate (3 - (lg_sl ([.int a1, .int 0, .int 1])).length) Slot.unset).toArray = ls at hl ⊢
  have hl : lv_has ls 3 [(0, .int a1), (1, .int 0), (2, .int 1)] := hl
  refine lv_iload_n hx hb dX12_in_0 rfl (lv_at hl 0 rfl) ?_
  refine lv_iload_n hx hb dX12_in_1 rfl (lv_at hl 1 rfl) ?_
  refine lv_icmp_lt (tgt := 14) hx hb dX12_in_2 (by decide) (fun _ => ?_) (fun h9 => absurd (ib_lt (X := a1.toInt) (Y := 0) rfl (by decide +kernel) (by omega)) h9)
  refine lv_iconst (v := 0) hx hb dX12_in_14 (by decide) ?_
  have hP9 := hP.sub (ws' := []) [] rfl
  have hD9 := hD.sub (ws' := []) [] (by decide) rfl
  exact W.zret (v := 0) (ty := .boolean) hx hb hr rfl (fun t ht hW => ⟨⟨0, (), rfl, rfl, by rw [ht]; exact hP9, va_K.moved hW.alike hK, hD9⟩, hS.F ht⟩) hS.2.2 dX12_in_15
set_option maxHeartbeats 1000000 in
set_option maxRecDepth 100000 in
theorem kX12_least_1 (l : Launch) (dC : Nat → ClassId) (dI : Nat → Nat → Nat) (cI c2 : ClassId) (o0 : Nat) (o1 : Nat) (o2 : Nat) (o3 : Nat) (o4 : Nat) (o5 : Nat) (o6 : Nat) (o7 : Nat) (o8 : Nat) (o9 : Nat) (o10 : Nat) (o11 : Nat) (o12 : Nat) (o13 : Nat) (o14 : Nat) (o15 : Nat) (o16 : Nat) (o17 : Nat) (o18 : Nat) (sz : Nat) (a1 : Int32) (a1_lo : (-2147483648) ≤ a1.toInt) (a1_hi : a1.toInt ≤ (-1)) : Met l yX12_least wsX12_least ({ frames := 1, cells := 0, slots := 0, locals := 22 }) (va_Pc [.ref o0, .int a1] (wPre (dC, dI) [(cI, .int), (c2, .array .int)] [(o0, .inr (12, [.int 0, .ref o1, .int 0, .ref o2, .int 0, .ref o3, .ref o4, .int 0, .ref o5, .int 0, .ref o6, .int (-9), .int 0, .int 0, .ref o7, .ref o8, .ref o9, .ref o10, .ref o11, .int 0, .ref o12, .ref o13, .ref o14, .int 0, .ref o15, .ref o16, .ref o17, .int 0, .ref o18]))] sz)) (va_Qi (fun (r : Int32) (_ : Unit) => r = (-1)) (fun _ t => wPost (dC, dI) [(cI, .int), (c2, .array .int)] (va_A [(o0, .inr (12, [.int 0, .ref o1, .int 0, .ref o2, .int 0, .ref o3, .ref o4, .int 0, .ref o5, .int 0, .ref o6, .int (-9), .int 0, .int 0, .ref o7, .ref o8, .ref o9, .ref o10, .ref o11, .int 0, .ref o12, .ref o13, .ref o14, .int 0, .ref o15, .ref o16, .ref o17, .int 0, .ref o18]))] sz) [] t) (va_A [(o0, .inr (12, [.int 0, .ref o1, .int 0, .ref o2, .int 0, .ref o3, .ref o4, .int 0, .ref o5, .int 0, .ref o6, .int (-9), .int 0, .int 0, .ref o7, .ref o8, .ref o9, .ref o10, .ref o11, .int 0, .ref o12, .ref o13, .ref o14, .int 0, .ref o15, .ref o16, .ref o17, .int 0, .ref o18]))] sz)) 0 0 (va_A [(o0, .inr (12, [.int 0, .ref o1, .int 0, .ref o2, .int 0, .ref o3, .ref o4, .int 0, .ref o5, .int 0, .ref o6, .int (-9), .int 0, .int 0, .ref o7, .ref o8, .ref o9, .ref o10, .ref o11, .int 0, .ref o12, .ref o13, .ref o14, .int 0, .ref o15, .ref o16, .ref o17, .int 0, .ref o18]))] sz) := by
  refine Met.ofW (cc := cX12_least) (maxL := 5) (ret := (some .int)) (by decide) rfl ?_
  intro p e s m args below meth c s₁ B hml hv
  obtain ⟨rfl, hsz, hP, hK, hD0, hN⟩ := hv
  have hx := B.exec
  have hb := B.bytes
  have hr := B.returns
  have hts := atoms_spec (ws := wsX12_least) B.pre
  have hown : s.vm.findClass RX12 = some m.cls := findClass_of_methodNamed B.named
  have hlocks := B.notSynchronized
  subst hsz
  have hD := hD0.self (sz := s.heap.size)
  generalize hAe : va_A [(o0, .inr (12, [.int 0, .ref o1, .int 0, .ref o2, .int 0, .ref o3, .ref o4, .int 0, .ref o5, .int 0, .ref o6, .int (-9), .int 0, .int 0, .ref o7, .ref o8, .ref o9, .ref o10, .ref o11, .int 0, .ref o12, .ref o13, .ref o14, .int 0, .ref o15, .ref o16, .ref o17, .int 0, .ref o18]))] s.heap.size = A at hD ⊢
  have hA : ∀ q : Nat, s.heap.size ≤ q → A q := fun q h => by rw [← hAe]; exact Or.inr h
  have hS : va_S A s.heap s.heap [] := va_S.rf
  have hP : va_P (dC, dI) vwCl [(o0, .inr (12, [.int 0, .ref o1, .int 0, .ref o2, .int 0, .ref o3, .ref o4, .int 0, .ref o5, .int 0, .ref o6, .int (-9), .int 0, .int 0, .ref o7, .ref o8, .ref o9, .ref o10, .ref o11, .int 0, .ref o12, .ref o13, .ref o14, .int 0, .ref o15, .ref o16, .ref o17, .int 0, .ref o18]))] s.heap := hP
  have hl := lv_entry ([.ref o0, .int a1]) (n := 5) (Nat.le_of_ble_eq_true rfl)
  rw [lg_entry_eq]
  generalize (lg_sl ([.ref o0, .int a1]) ++ List.replicate (5 - (lg_sl ([.ref o0, .int a1])).length) Slot.unset).toArray = ls at hl ⊢
  have hl : lv_has ls 5 [(0, .ref o0), (1, .int a1)] := hl
  refine lv_iload_n hx hb dX12_least_0 rfl (lv_at hl 1 rfl) ?_
  refine lv_iconst (v := 0) hx hb dX12_least_1 (by decide) ?_
  refine lv_iconst (v := 1) hx hb dX12_least_2 (by decide) ?_
  refine kcall_i (D := (dC, dI)) (S := Unit) (v := 0) (wc := []) (wr := [(o0, .inr (12, [.int 0, .ref o1, .int 0, .ref o2, .int 0, .ref o3, .ref o4, .int 0, .ref o5, .int 0, .ref o6, .int (-9), .int 0, .int 0, .ref o7, .ref o8, .ref o9, .ref o10, .ref o11, .int 0, .ref o12, .ref o13, .ref o14, .int 0, .ref o15, .ref o16, .ref o17, .int 0, .ref o18]))]) (w1 := fun _ => []) (fun hPc hDc => va_runS (As := [.int a1, .int 0, .int 1]) (rest := []) ⟨hx, hb, hml, hown, hts⟩ (kX12_in_9 l dC dI cI c2 s.heap.size a1 (by omega) (by omega)) (va_cwS 3 hts gX12_least_X12_in rfl rfl rfl (by decide +kernel) ⟨Nat.le_of_ble_eq_true rfl, Nat.le_of_ble_eq_true rfl⟩) (pre_S hPc hK hDc hN) rfl rfl hl.1 rfl (lv_room (Nat.le_of_ble_eq_true rfl)) dX12_least_3 ⟨Nat.le_of_ble_eq_true rfl, Nat.le_of_ble_eq_true rfl⟩) hP hD hS hA [] [0] rfl rfl (by decide) (by decide) (by decide) (fun u H locs hP hD hS => ?_)
  have hP : va_P (dC, dI) vwCl [(o0, .inr (12, [.int 0, .ref o1, .int 0, .ref o2, .int 0, .ref o3, .ref o4, .int 0, .ref o5, .int 0, .ref o6, .int (-9), .int 0, .int 0, .ref o7, .ref o8, .ref o9, .ref o10, .ref o11, .int 0, .ref o12, .ref o13, .ref o14, .int 0, .ref o15, .ref o16, .ref o17, .int 0, .ref o18]))] H := hP
  have hD : va_D A [(o0, .inr (12, [.int 0, .ref o1, .int 0, .ref o2, .int 0, .ref o3, .ref o4, .int 0, .ref o5, .int 0, .ref o6, .int (-9), .int 0, .int 0, .ref o7, .ref o8, .ref o9, .ref o10, .ref o11, .int 0, .ref o12, .ref o13, .ref o14, .int 0, .ref o15, .ref o16, .ref o17, .int 0, .ref o18]))] := hD
  refine lv_if_ne (tgt := 11) hx hb dX12_least_6 (by decide) (fun h9 => absurd (by decide +kernel) h9) (fun _ => ?_)
  refine lv_iconst (v := (-1)) hx hb dX12_least_9 (by decide) ?_
  have hP9 := hP.sub (ws' := []) [] rfl
  have hD9 := hD.sub (ws' := []) [] (by decide) rfl
  exact W.iret (v := (-1)) hx hb hr (fun t ht hW => ⟨⟨(-1), (), rfl, rfl, by rw [ht]; exact hP9, va_K.moved hW.alike hK, hD9⟩, hS.F ht⟩) hS.2.2 dX12_least_10
set_option maxHeartbeats 1000000 in
set_option maxRecDepth 100000 in
theorem kJ7_rangeCheck_23922_1 (l : Launch) (dC : Nat → ClassId) (dI : Nat → Nat → Nat) (cI c2 : ClassId) (sz : Nat) : Met l yJ7_rangeCheck_23922 wsJ7_rangeCheck_23922 ({ frames := 0, cells := 0, slots := 0, locals := 0 }) (va_Pc [.int 4096, .int 0, .int 1] (wPre (dC, dI) [(cI, .int), (c2, .array .int)] [] sz)) (va_Qv (fun (_ : Unit) => True) (fun _ t => wPost (dC, dI) [(cI, .int), (c2, .array .int)] (va_A [] sz) [] t) (va_A [] sz)) 0 0 (va_A [] sz) := by
  refine Met.ofW (cc := cJ7_rangeCheck_23922) (maxL := 3) (ret := none) (by decide) rfl ?_
  intro p e s m args below meth c s₁ B hml hv
  obtain ⟨rfl, hsz, hP, hK, hD0, hN⟩ := hv
  have hx := B.exec
  have hb := B.bytes
  have hr := B.returns
  have hts := atoms_spec (ws := wsJ7_rangeCheck_23922) B.pre
  have hown : s.vm.findClass RJ7 = some m.cls := findClass_of_methodNamed B.named
  have hlocks := B.notSynchronized
  subst hsz
  have hD := hD0.self (sz := s.heap.size)
  generalize hAe : va_A [] s.heap.size = A at hD ⊢
  have hA : ∀ q : Nat, s.heap.size ≤ q → A q := fun q h => by rw [← hAe]; exact Or.inr h
  have hS : va_S A s.heap s.heap [] := va_S.rf
  have hP : va_P (dC, dI) vwCl [] s.heap := hP
  have hl := lv_entry ([.int 4096, .int 0, .int 1]) (n := 3) (Nat.le_of_ble_eq_true rfl)
  rw [lg_entry_eq]
  generalize (lg_sl ([.int 4096, .int 0, .int 1]) ++ List.replicate (3 - (lg_sl ([.int 4096, .int 0, .int 1])).length) Slot.unset).toArray = ls at hl ⊢
  have hl : lv_has ls 3 [(0, .int 4096), (1, .int 0), (2, .int 1)] := hl
  refine lv_iload_n hx hb dJ7_rangeCheck_23922_0 rfl (lv_at hl 1 rfl) ?_
  refine lv_iload_n hx hb dJ7_rangeCheck_23922_1 rfl (lv_at hl 2 rfl) ?_
  refine lv_icmp_le (tgt := 46) hx hb dJ7_rangeCheck_23922_2 (by decide) (fun _ => ?_) (fun h9 => absurd (by decide +kernel) h9)
  refine lv_iload_n hx hb dJ7_rangeCheck_23922_46 rfl (lv_at hl 1 rfl) ?_
  refine lv_if_ge (tgt := 59) hx hb dJ7_rangeCheck_23922_47 (by decide) (fun _ => ?_) (fun h9 => absurd (by decide +kernel) h9)
  refine lv_iload_n hx hb dJ7_rangeCheck_23922_59 rfl (lv_at hl 2 rfl) ?_
  refine lv_iload_n hx hb dJ7_rangeCheck_23922_60 rfl (lv_at hl 0 rfl) ?_
  refine lv_icmp_le (tgt := 73) hx hb dJ7_rangeCheck_23922_61 (by decide) (fun _ => ?_) (fun h9 => absurd (by decide +kernel) h9)
  have hP9 := hP.sub (ws' := []) [] rfl
  have hD9 := hD.sub (ws' := []) [] (by decide) rfl
  exact W.vret hx hb hr (fun t ht hW => ⟨⟨(), rfl, trivial, by rw [ht]; exact hP9, va_K.moved hW.alike hK, hD9⟩, hS.F ht⟩) hS.2.2 dJ7_rangeCheck_23922_73
set_option maxHeartbeats 1000000 in
set_option maxRecDepth 100000 in
theorem kJ7_fill_fda19_1 (l : Launch) (dC : Nat → ClassId) (dI : Nat → Nat → Nat) (cI c2 : ClassId) (o0 : Nat) (sz : Nat) : Met l yJ7_fill_fda19 wsJ7_fill_fda19 ({ frames := 1, cells := 0, slots := 0, locals := 22 }) (va_Pc [.ref o0, .int 0, .int 1, .int (-1)] (wPre (dC, dI) [(cI, .int), (c2, .array .int)] [(o0, .inl (cI, 4096, .inl (fun _ => 0)))] sz)) (va_Qv (fun (_ : Unit) => True) (fun _ t => wPost (dC, dI) [(cI, .int), (c2, .array .int)] (va_A [(o0, .inl (cI, 4096, .inl (fun _ => 0)))] sz) [(o0, .inl (cI, 4096, .inl (upd (fun _ => 0) (Int32.toNatClampNeg 0) (-1))))] t) (va_A [(o0, .inl (cI, 4096, .inl (fun _ => 0)))] sz)) 0 0 (va_A [(o0, .inl (cI, 4096, .inl (fun _ => 0)))] sz) := by
  refine Met.ofW (cc := cJ7_fill_fda19) (maxL := 5) (ret := none) (by decide) rfl ?_
  intro p e s m args below meth c s₁ B hml hv
  obtain ⟨rfl, hsz, hP, hK, hD0, hN⟩ := hv
  have hx := B.exec
  have hb := B.bytes
  have hr := B.returns
  have hts := atoms_spec (ws := wsJ7_fill_fda19) B.pre
  have hown : s.vm.findClass RJ7 = some m.cls := findClass_of_methodNamed B.named
  have hlocks := B.notSynchronized
  subst hsz
  have hD := hD0.self (sz := s.heap.size)
  generalize hAe : va_A [(o0, .inl (cI, 4096, .inl (fun _ => 0)))] s.heap.size = A at hD ⊢
  have hA : ∀ q : Nat, s.heap.size ≤ q → A q := fun q h => by rw [← hAe]; exact Or.inr h
  have hS : va_S A s.heap s.heap [] := va_S.rf
  have hP : va_P (dC, dI) vwCl [(o0, .inl (cI, 4096, .inl (fun _ => 0)))] s.heap := hP
  have hl := lv_entry ([.ref o0, .int 0, .int 1, .int (-1)]) (n := 5) (Nat.le_of_ble_eq_true rfl)
  rw [lg_entry_eq]
  generalize (lg_sl ([.ref o0, .int 0, .int 1, .int (-1)]) ++ List.replicate (5 - (lg_sl ([.ref o0, .int 0, .int 1, .int (-1)])).length) Slot.unset).toArray = ls at hl ⊢
  have hl : lv_has ls 5 [(0, .ref o0), (1, .int 0), (2, .int 1), (3, .int (-1))] := hl
  refine lv_aload_n hx hb dJ7_fill_fda19_0 rfl (lv_at hl 0 rfl) ?_
  refine va_alen (v := 4096) hx hb hK hP 0 0 rfl rfl (by decide +kernel) dJ7_fill_fda19_1 ?_
  refine lv_iload_n hx hb dJ7_fill_fda19_2 rfl (lv_at hl 1 rfl) ?_
  refine lv_iload_n hx hb dJ7_fill_fda19_3 rfl (lv_at hl 2 rfl) ?_
  refine kcall_v (D := (dC, dI)) (S := Unit) (wc := []) (wr := [(o0, .inl (cI, 4096, .inl (fun _ => 0)))]) (w1 := fun _ => []) (fun hPc hDc => va_runS (As := [.int 4096, .int 0, .int 1]) (rest := []) ⟨hx, hb, hml, hown, hts⟩ (kJ7_rangeCheck_23922_1 l dC dI cI c2 s.heap.size) (va_cwS 3 hts gJ7_fill_fda19_J7_rangeCheck_23922 rfl rfl rfl (by decide +kernel) ⟨Nat.le_of_ble_eq_true rfl, Nat.le_of_ble_eq_true rfl⟩) (pre_S hPc hK hDc hN) rfl rfl hl.1 rfl (lv_room (Nat.le_of_ble_eq_true rfl)) dJ7_fill_fda19_4 ⟨Nat.le_of_ble_eq_true rfl, Nat.le_of_ble_eq_true rfl⟩) hP hD hS hA [] [0] rfl rfl (by decide) (by decide) (by decide) (fun u H locs hP hD hS => ?_)
  have hP : va_P (dC, dI) vwCl [(o0, .inl (cI, 4096, .inl (fun _ => 0)))] H := hP
  have hD : va_D A [(o0, .inl (cI, 4096, .inl (fun _ => 0)))] := hD
  refine lv_iload_n hx hb dJ7_fill_fda19_7 rfl (lv_at hl 1 rfl) ?_
  refine lv_istore (lv' := [(4, .int 0), (0, .ref o0), (1, .int 0), (2, .int 1), (3, .int (-1))]) hx hb dJ7_fill_fda19_8 hl (by decide) rfl (fun ls hl => ?_)
  refine lv_iload hx hb dJ7_fill_fda19_10 (lv_at hl 0 rfl) ?_
  refine lv_iload_n hx hb dJ7_fill_fda19_12 rfl (lv_at hl 3 rfl) ?_
  refine lv_icmp_ge (tgt := 27) hx hb dJ7_fill_fda19_13 (by decide) (fun h9 => absurd h9 (by decide +kernel)) (fun _ => ?_)
  refine lv_aload_n hx hb dJ7_fill_fda19_16 rfl (lv_at hl 1 rfl) ?_
  refine lv_iload hx hb dJ7_fill_fda19_17 (lv_at hl 0 rfl) ?_
  refine lv_iload_n hx hb dJ7_fill_fda19_19 rfl (lv_at hl 4 rfl) ?_
  refine va_iast hx hb hK hP hD hS 0 0 rfl rfl (vin (by decide +kernel)) dJ7_fill_fda19_20 (fun H locs hP hD hS => ?_)
  have hP : va_P (dC, dI) vwCl [(o0, .inl (cI, 4096, .inl (upd (fun _ => 0) (Int32.toNatClampNeg 0) (-1))))] H := hP
  have hD : va_D A [(o0, .inl (cI, 4096, .inl (upd (fun _ => 0) (Int32.toNatClampNeg 0) (-1))))] := hD
  refine lv_iinc (v := 1) (lv' := [(4, .int 1), (0, .ref o0), (1, .int 0), (2, .int 1), (3, .int (-1))]) hx hb dJ7_fill_fda19_21 hl (k := 0) rfl (by decide +kernel) (by decide) rfl (fun ls hl => ?_)
  refine lv_goto (tgt := 10) hx hb dJ7_fill_fda19_24 (by decide) ?_
  refine lv_iload hx hb dJ7_fill_fda19_10 (lv_at hl 0 rfl) ?_
  refine lv_iload_n hx hb dJ7_fill_fda19_12 rfl (lv_at hl 3 rfl) ?_
  refine lv_icmp_ge (tgt := 27) hx hb dJ7_fill_fda19_13 (by decide) (fun _ => ?_) (fun h9 => absurd (by decide +kernel) h9)
  have hP9 := hP.sub (ws' := [(o0, .inl (cI, 4096, .inl (upd (fun _ => 0) (Int32.toNatClampNeg 0) (-1))))]) [0] rfl
  have hD9 := hD.sub (ws' := [(o0, .inl (cI, 4096, .inl (upd (fun _ => 0) (Int32.toNatClampNeg 0) (-1))))]) [0] (by decide) rfl
  exact W.vret hx hb hr (fun t ht hW => ⟨⟨(), rfl, trivial, by rw [ht]; exact hP9, va_K.moved hW.alike hK, hD9⟩, hS.F ht⟩) hS.2.2 dJ7_fill_fda19_27
theorem iw_X5_leastFrom_X5 : ∀ w ∈ wsX50, w ∈ wsX5_leastFrom := by decide +kernel
set_option maxHeartbeats 1000000 in
set_option maxRecDepth 100000 in
theorem kX5_leastFrom_1 (l : Launch) (dC : Nat → ClassId) (dI : Nat → Nat → Nat) (cI c2 : ClassId) (o0 : Nat) (o1 : Nat) (o2 : Nat) (o3 : Nat) (sz : Nat) : Met l yX5_leastFrom wsX5_leastFrom ({ frames := 0, cells := 0, slots := 0, locals := 0 }) (va_Pc [.ref o0, .int 0, .int 0] (wPre (dC, dI) [(cI, .int), (c2, .array .int)] [(o0, .inr (5, [.ref o2, .ref o1, .ref o3, .int 2, .int 0, .int 0])), (o1, .inl (cI, 4096, .inl (upd (upd (fun _ => 0) (Int32.toNatClampNeg 0) (-1)) (Int32.toNatClampNeg 0) 0)))] sz)) (va_Qi (fun (r : Int32) (_ : Unit) => r = 0) (fun _ t => wPost (dC, dI) [(cI, .int), (c2, .array .int)] (va_A [(o0, .inr (5, [.ref o2, .ref o1, .ref o3, .int 2, .int 0, .int 0])), (o1, .inl (cI, 4096, .inl (upd (upd (fun _ => 0) (Int32.toNatClampNeg 0) (-1)) (Int32.toNatClampNeg 0) 0)))] sz) [(o0, .inr (5, [.ref o2, .ref o1, .ref o3, .int 2, .int 0, .int 0])), (o1, .inl (cI, 4096, .inl (upd (upd (fun _ => 0) (Int32.toNatClampNeg 0) (-1)) (Int32.toNatClampNeg 0) 0)))] t) (va_A [(o0, .inr (5, [.ref o2, .ref o1, .ref o3, .int 2, .int 0, .int 0])), (o1, .inl (cI, 4096, .inl (upd (upd (fun _ => 0) (Int32.toNatClampNeg 0) (-1)) (Int32.toNatClampNeg 0) 0)))] sz)) 0 0 (va_A [(o0, .inr (5, [.ref o2, .ref o1, .ref o3, .int 2, .int 0, .int 0])), (o1, .inl (cI, 4096, .inl (upd (upd (fun _ => 0) (Int32.toNatClampNeg 0) (-1)) (Int32.toNatClampNeg 0) 0)))] sz) := by
  refine Met.ofW (cc := cX5_leastFrom) (maxL := 13) (ret := (some .int)) (by decide) rfl ?_
  intro p e s m args below meth c s₁ B hml hv
  obtain ⟨rfl, hsz, hP, hK, hD0, hN⟩ := hv
  have hx := B.exec
  have hb := B.bytes
  have hr := B.returns
  have hts := atoms_spec (ws := wsX5_leastFrom) B.pre
  have hown : s.vm.findClass RX5 = some m.cls := findClass_of_methodNamed B.named
  have hlocks := B.notSynchronized
  subst hsz
  have hD := hD0.self (sz := s.heap.size)
  generalize hAe : va_A [(o0, .inr (5, [.ref o2, .ref o1, .ref o3, .int 2, .int 0, .int 0])), (o1, .inl (cI, 4096, .inl (upd (upd (fun _ => 0) (Int32.toNatClampNeg 0) (-1)) (Int32.toNatClampNeg 0) 0)))] s.heap.size = A at hD ⊢
  have hA : ∀ q : Nat, s.heap.size ≤ q → A q := fun q h => by rw [← hAe]; exact Or.inr h
  have hS : va_S A s.heap s.heap [] := va_S.rf
  have hP : va_P (dC, dI) vwCl [(o0, .inr (5, [.ref o2, .ref o1, .ref o3, .int 2, .int 0, .int 0])), (o1, .inl (cI, 4096, .inl (upd (upd (fun _ => 0) (Int32.toNatClampNeg 0) (-1)) (Int32.toNatClampNeg 0) 0)))] s.heap := hP
  have hl := lv_entry ([.ref o0, .int 0, .int 0]) (n := 13) (Nat.le_of_ble_eq_true rfl)
  rw [lg_entry_eq]
  generalize (lg_sl ([.ref o0, .int 0, .int 0]) ++ List.replicate (13 - (lg_sl ([.ref o0, .int 0, .int 0])).length) Slot.unset).toArray = ls at hl ⊢
  have hl : lv_has ls 13 [(0, .ref o0), (1, .int 0), (2, .int 0)] := hl
  refine lv_iload_n hx hb dX5_leastFrom_0 rfl (lv_at hl 2 rfl) ?_
  refine lv_aload_n hx hb dX5_leastFrom_1 rfl (lv_at hl 0 rfl) ?_
  refine va_get (D := (dC, dI)) (ci := 5) (v := .int 0) (C := RX5) (T := TX5) (N := 6) hx hb hts iw_X5_leastFrom_X5 hown hK hP 0 rfl rfl 5 (by decide) (hts (.fieldLink RX5 34 "HolelessHouse$LeastSearch" "size" "I") (by decide +kernel)) (fun _ h9 => h9) rfl dX5_leastFrom_2 ?_
  refine lv_icmp_ge (tgt := 18) hx hb dX5_leastFrom_5 (by decide) (fun _ => ?_) (fun h9 => absurd (by decide +kernel) h9)
  refine lv_aload_n hx hb dX5_leastFrom_18 rfl (lv_at hl 0 rfl) ?_
  refine va_get (D := (dC, dI)) (ci := 5) (v := .ref o1) (C := RX5) (T := TX5) (N := 6) hx hb hts iw_X5_leastFrom_X5 hown hK hP 0 rfl rfl 1 (by decide) (hts (.fieldLink RX5 18 "HolelessHouse$LeastSearch" "notes" "[I") (by decide +kernel)) (fun _ h9 => h9) rfl dX5_leastFrom_19 ?_
  refine lv_iload_n hx hb dX5_leastFrom_22 rfl (lv_at hl 1 rfl) ?_
  refine va_iald hx hb hK hP 1 0 rfl rfl (vin (by decide +kernel)) dX5_leastFrom_23 (tk_i (v := 0) (by decide +kernel) ?_)
  have hP9 := hP.sub (ws' := [(o0, .inr (5, [.ref o2, .ref o1, .ref o3, .int 2, .int 0, .int 0])), (o1, .inl (cI, 4096, .inl (upd (upd (fun _ => 0) (Int32.toNatClampNeg 0) (-1)) (Int32.toNatClampNeg 0) 0)))]) [0, 1] rfl
  have hD9 := hD.sub (ws' := [(o0, .inr (5, [.ref o2, .ref o1, .ref o3, .int 2, .int 0, .int 0])), (o1, .inl (cI, 4096, .inl (upd (upd (fun _ => 0) (Int32.toNatClampNeg 0) (-1)) (Int32.toNatClampNeg 0) 0)))]) [0, 1] (by decide) rfl
  exact W.iret (v := 0) hx hb hr (fun t ht hW => ⟨⟨0, (), rfl, rfl, by rw [ht]; exact hP9, va_K.moved hW.alike hK, hD9⟩, hS.F ht⟩) hS.2.2 dX5_leastFrom_24
theorem iw_X5_begin_X4 : ∀ w ∈ wsX40, w ∈ wsX5_begin := by decide +kernel
theorem iw_X5_begin_X5 : ∀ w ∈ wsX50, w ∈ wsX5_begin := by decide +kernel
set_option maxHeartbeats 1000000 in
set_option maxRecDepth 100000 in
theorem kX5_begin_1 (l : Launch) (dC : Nat → ClassId) (dI : Nat → Nat → Nat) (cI c2 : ClassId) (o0 : Nat) (o1 : Nat) (o2 : Nat) (o3 : Nat) (o4 : Nat) (g5 : Nat → Nat) (o6 : Nat) (o7 : Nat) (sz : Nat) : Met l yX5_begin wsX5_begin ({ frames := 2, cells := 0, slots := 0, locals := 85 }) (va_Pc [.ref o0, .ref o1, .int 0] (wPre (dC, dI) [(cI, .int), (c2, .array .int)] [(o0, .inr (5, [.ref o2, .ref o6, .ref o7, .int 0, .int 0, .int 0])), (o2, .inr (3, [.ref o3, .int 0])), (o1, .inr (4, [.ref o4, .int 0, .int 0])), (o3, .inl (c2, 13, .inr (.inr (.inr (.inr (fun i => if i < 13 then some (g5 i) else none)))))), (o4, .inl (cI, 12, .inl (fun _ => 0))), (g5 0, .inl (cI, 12, .inl (fun _ => 0))), (o6, .inl (cI, 4096, .inl (fun _ => 0)))] sz)) (va_Qi (fun (r : Int32) (_ : Unit) => r = 0) (fun _ t => wPost (dC, dI) [(cI, .int), (c2, .array .int)] (va_A [(o0, .inr (5, [.ref o2, .ref o6, .ref o7, .int 0, .int 0, .int 0])), (o2, .inr (3, [.ref o3, .int 0])), (o1, .inr (4, [.ref o4, .int 0, .int 0])), (o3, .inl (c2, 13, .inr (.inr (.inr (.inr (fun i => if i < 13 then some (g5 i) else none)))))), (o4, .inl (cI, 12, .inl (fun _ => 0))), (g5 0, .inl (cI, 12, .inl (fun _ => 0))), (o6, .inl (cI, 4096, .inl (fun _ => 0)))] sz) [(o2, .inr (3, [.ref o3, .int 0])), (o3, .inl (c2, 13, .inr (.inr (.inr (.inr (fun i => if i < 13 then some (g5 i) else none)))))), (o4, .inl (cI, 12, .inl (fun _ => 0))), (g5 0, .inl (cI, 12, .inl (fun _ => 0))), (o1, .inr (4, [.ref o4, .int 0, .int 0])), (o0, .inr (5, [.ref o2, .ref o6, .ref o7, .int 2, .int 0, .int 0])), (o6, .inl (cI, 4096, .inl (upd (upd (fun _ => 0) (Int32.toNatClampNeg 0) (-1)) (Int32.toNatClampNeg 0) 0)))] t) (va_A [(o0, .inr (5, [.ref o2, .ref o6, .ref o7, .int 0, .int 0, .int 0])), (o2, .inr (3, [.ref o3, .int 0])), (o1, .inr (4, [.ref o4, .int 0, .int 0])), (o3, .inl (c2, 13, .inr (.inr (.inr (.inr (fun i => if i < 13 then some (g5 i) else none)))))), (o4, .inl (cI, 12, .inl (fun _ => 0))), (g5 0, .inl (cI, 12, .inl (fun _ => 0))), (o6, .inl (cI, 4096, .inl (fun _ => 0)))] sz)) 0 0 (va_A [(o0, .inr (5, [.ref o2, .ref o6, .ref o7, .int 0, .int 0, .int 0])), (o2, .inr (3, [.ref o3, .int 0])), (o1, .inr (4, [.ref o4, .int 0, .int 0])), (o3, .inl (c2, 13, .inr (.inr (.inr (.inr (fun i => if i < 13 then some (g5 i) else none)))))), (o4, .inl (cI, 12, .inl (fun _ => 0))), (g5 0, .inl (cI, 12, .inl (fun _ => 0))), (o6, .inl (cI, 4096, .inl (fun _ => 0)))] sz) := by
  refine Met.ofW (cc := cX5_begin) (maxL := 3) (ret := (some .int)) (by decide) rfl ?_
  intro p e s m args below meth c s₁ B hml hv
  obtain ⟨rfl, hsz, hP, hK, hD0, hN⟩ := hv
  have hx := B.exec
  have hb := B.bytes
  have hr := B.returns
  have hts := atoms_spec (ws := wsX5_begin) B.pre
  have hown : s.vm.findClass RX5 = some m.cls := findClass_of_methodNamed B.named
  have hlocks := B.notSynchronized
  subst hsz
  have hD := hD0.self (sz := s.heap.size)
  generalize hAe : va_A [(o0, .inr (5, [.ref o2, .ref o6, .ref o7, .int 0, .int 0, .int 0])), (o2, .inr (3, [.ref o3, .int 0])), (o1, .inr (4, [.ref o4, .int 0, .int 0])), (o3, .inl (c2, 13, .inr (.inr (.inr (.inr (fun i => if i < 13 then some (g5 i) else none)))))), (o4, .inl (cI, 12, .inl (fun _ => 0))), (g5 0, .inl (cI, 12, .inl (fun _ => 0))), (o6, .inl (cI, 4096, .inl (fun _ => 0)))] s.heap.size = A at hD ⊢
  have hA : ∀ q : Nat, s.heap.size ≤ q → A q := fun q h => by rw [← hAe]; exact Or.inr h
  have hS : va_S A s.heap s.heap [] := va_S.rf
  have hP : va_P (dC, dI) vwCl [(o0, .inr (5, [.ref o2, .ref o6, .ref o7, .int 0, .int 0, .int 0])), (o2, .inr (3, [.ref o3, .int 0])), (o1, .inr (4, [.ref o4, .int 0, .int 0])), (o3, .inl (c2, 13, .inr (.inr (.inr (.inr (fun i => if i < 13 then some (g5 i) else none)))))), (o4, .inl (cI, 12, .inl (fun _ => 0))), (g5 0, .inl (cI, 12, .inl (fun _ => 0))), (o6, .inl (cI, 4096, .inl (fun _ => 0)))] s.heap := hP
  have hl := lv_entry ([.ref o0, .ref o1, .int 0]) (n := 3) (Nat.le_of_ble_eq_true rfl)
  rw [lg_entry_eq]
  generalize (lg_sl ([.ref o0, .ref o1, .int 0]) ++ List.replicate (3 - (lg_sl ([.ref o0, .ref o1, .int 0])).length) Slot.unset).toArray = ls at hl ⊢
  have hl : lv_has ls 3 [(0, .ref o0), (1, .ref o1), (2, .int 0)] := hl
  refine lv_aload_n hx hb dX5_begin_0 rfl (lv_at hl 0 rfl) ?_
  refine va_get (D := (dC, dI)) (ci := 5) (v := .ref o2) (C := RX5) (T := TX5) (N := 6) hx hb hts iw_X5_begin_X5 hown hK hP 0 rfl rfl 0 (by decide) (hts (.fieldLink RX5 12 "HolelessHouse$LeastSearch" "going" "LHolelessHouse$Going;") (by decide +kernel)) (fun _ h9 => h9) rfl dX5_begin_1 ?_
  refine lv_aload_n hx hb dX5_begin_4 rfl (lv_at hl 1 rfl) ?_
  refine kcall_v (D := (dC, dI)) (S := Unit) (wc := [(o1, .inr (4, [.ref o4, .int 0, .int 0])), (o2, .inr (3, [.ref o3, .int 0])), (o3, .inl (c2, 13, .inr (.inr (.inr (.inr (fun i => if i < 13 then some (g5 i) else none)))))), (o4, .inl (cI, 12, .inl (fun _ => 0))), (g5 0, .inl (cI, 12, .inl (fun _ => 0)))]) (wr := [(o0, .inr (5, [.ref o2, .ref o6, .ref o7, .int 0, .int 0, .int 0])), (o6, .inl (cI, 4096, .inl (fun _ => 0)))]) (w1 := fun _ => [(o1, .inr (4, [.ref o4, .int 0, .int 0])), (o2, .inr (3, [.ref o3, .int 0])), (o3, .inl (c2, 13, .inr (.inr (.inr (.inr (fun i => if i < 13 then some (g5 i) else none)))))), (o4, .inl (cI, 12, .inl (fun _ => 0))), (g5 0, .inl (cI, 12, .inl (fun _ => 0)))]) (fun hPc hDc => va_runVN (As := [.ref o1]) (rest := []) ⟨hx, hb, hml, hown, hts⟩ (kX3_start_1 l dC dI cI c2 o2 o1 o3 o4 g5 s.heap.size) ⟨va_cnB 1 hts gX5_begin_X3_start_n37 rfl rfl rfl (hN.1 _ ns_93) (hts (.initialized RX3) (by decide +kernel)) (by decide +kernel) ⟨Nat.le_of_ble_eq_true rfl, Nat.le_of_ble_eq_true rfl⟩, (hts (.instanceMethod yX3_start) (by decide +kernel)), (hts (.selects RX3 yX3_start yX3_start) (by decide +kernel))⟩ (pre_V hPc hK hDc hN (ci := 3) (q0 := 1) rfl rfl) rfl rfl hl.1 rfl (lv_room (Nat.le_of_ble_eq_true rfl)) dX5_begin_5 ⟨Nat.le_of_ble_eq_true rfl, Nat.le_of_ble_eq_true rfl⟩) hP hD hS hA [2, 1, 3, 4, 5] [0, 6] rfl rfl (by decide) (by decide) (by decide) (fun u H locs hP hD hS => ?_)
  have hP : va_P (dC, dI) vwCl [(o0, .inr (5, [.ref o2, .ref o6, .ref o7, .int 0, .int 0, .int 0])), (o6, .inl (cI, 4096, .inl (fun _ => 0))), (o1, .inr (4, [.ref o4, .int 0, .int 0])), (o2, .inr (3, [.ref o3, .int 0])), (o3, .inl (c2, 13, .inr (.inr (.inr (.inr (fun i => if i < 13 then some (g5 i) else none)))))), (o4, .inl (cI, 12, .inl (fun _ => 0))), (g5 0, .inl (cI, 12, .inl (fun _ => 0)))] H := hP
  have hD : va_D A [(o0, .inr (5, [.ref o2, .ref o6, .ref o7, .int 0, .int 0, .int 0])), (o6, .inl (cI, 4096, .inl (fun _ => 0))), (o1, .inr (4, [.ref o4, .int 0, .int 0])), (o2, .inr (3, [.ref o3, .int 0])), (o3, .inl (c2, 13, .inr (.inr (.inr (.inr (fun i => if i < 13 then some (g5 i) else none)))))), (o4, .inl (cI, 12, .inl (fun _ => 0))), (g5 0, .inl (cI, 12, .inl (fun _ => 0)))] := hD
  refine lv_aload_n hx hb dX5_begin_8 rfl (lv_at hl 0 rfl) ?_
  refine lv_iload_n hx hb dX5_begin_9 rfl (lv_at hl 2 rfl) ?_
  refine lv_if_ne (tgt := 17) hx hb dX5_begin_10 (by decide) (fun h9 => absurd (by decide +kernel) h9) (fun _ => ?_)
  refine lv_iconst (v := 2) hx hb dX5_begin_13 (by decide) ?_
  refine lv_goto (tgt := 18) hx hb dX5_begin_14 (by decide) ?_
  refine va_put (D := (dC, dI)) (ci := 5) (v := .int 2) (ty := .int) (C := RX5) (T := TX5) (N := 6) hx hb hts iw_X5_begin_X5 tyX5 tyX5_ok nmX5 hown hK hP hD hS 0 rfl rfl 3 (by decide) (hts (.fieldLink RX5 27 "HolelessHouse$LeastSearch" "rule" "I") (by decide +kernel)) (fun _ h9 => h9) rfl (by decide +kernel) rfl rfl (Nat.le_of_ble_eq_true rfl) dX5_begin_18 (fun H locs hP hD hS => ?_)
  have hP : va_P (dC, dI) vwCl [(o0, .inr (5, [.ref o2, .ref o6, .ref o7, .int 2, .int 0, .int 0])), (o6, .inl (cI, 4096, .inl (fun _ => 0))), (o1, .inr (4, [.ref o4, .int 0, .int 0])), (o2, .inr (3, [.ref o3, .int 0])), (o3, .inl (c2, 13, .inr (.inr (.inr (.inr (fun i => if i < 13 then some (g5 i) else none)))))), (o4, .inl (cI, 12, .inl (fun _ => 0))), (g5 0, .inl (cI, 12, .inl (fun _ => 0)))] H := hP
  have hD : va_D A [(o0, .inr (5, [.ref o2, .ref o6, .ref o7, .int 2, .int 0, .int 0])), (o6, .inl (cI, 4096, .inl (fun _ => 0))), (o1, .inr (4, [.ref o4, .int 0, .int 0])), (o2, .inr (3, [.ref o3, .int 0])), (o3, .inl (c2, 13, .inr (.inr (.inr (.inr (fun i => if i < 13 then some (g5 i) else none)))))), (o4, .inl (cI, 12, .inl (fun _ => 0))), (g5 0, .inl (cI, 12, .inl (fun _ => 0)))] := hD
  refine lv_aload_n hx hb dX5_begin_21 rfl (lv_at hl 0 rfl) ?_
  refine lv_aload_n hx hb dX5_begin_22 rfl (lv_at hl 1 rfl) ?_
  refine kcall_i (D := (dC, dI)) (S := Unit) (v := 0) (wc := [(o1, .inr (4, [.ref o4, .int 0, .int 0]))]) (wr := [(o0, .inr (5, [.ref o2, .ref o6, .ref o7, .int 2, .int 0, .int 0])), (o6, .inl (cI, 4096, .inl (fun _ => 0))), (o2, .inr (3, [.ref o3, .int 0])), (o3, .inl (c2, 13, .inr (.inr (.inr (.inr (fun i => if i < 13 then some (g5 i) else none)))))), (o4, .inl (cI, 12, .inl (fun _ => 0))), (g5 0, .inl (cI, 12, .inl (fun _ => 0)))]) (w1 := fun _ => [(o1, .inr (4, [.ref o4, .int 0, .int 0]))]) (fun hPc hDc => va_runVN (As := []) (rest := [.ref o0]) ⟨hx, hb, hml, hown, hts⟩ (kX4_all_2 l dC dI cI c2 o1 o4 H.size) ⟨va_cnB 0 hts gX5_begin_X4_all_n41 rfl rfl rfl (hN.1 _ ns_94) (hts (.initialized RX4) (by decide +kernel)) (by decide +kernel) ⟨Nat.le_of_ble_eq_true rfl, Nat.le_of_ble_eq_true rfl⟩, (hts (.instanceMethod yX4_all) (by decide +kernel)), (hts (.selects RX4 yX4_all yX4_all) (by decide +kernel))⟩ (pre_V hPc hK hDc hN (ci := 4) (q0 := 0) rfl rfl) rfl rfl hl.1 rfl (lv_room (Nat.le_of_ble_eq_true rfl)) dX5_begin_23 ⟨Nat.le_of_ble_eq_true rfl, Nat.le_of_ble_eq_true rfl⟩) hP hD hS hA [2] [0, 1, 3, 4, 5, 6] rfl rfl (by decide) (by decide) (by decide) (fun u H locs hP hD hS => ?_)
  have hP : va_P (dC, dI) vwCl [(o0, .inr (5, [.ref o2, .ref o6, .ref o7, .int 2, .int 0, .int 0])), (o6, .inl (cI, 4096, .inl (fun _ => 0))), (o2, .inr (3, [.ref o3, .int 0])), (o3, .inl (c2, 13, .inr (.inr (.inr (.inr (fun i => if i < 13 then some (g5 i) else none)))))), (o4, .inl (cI, 12, .inl (fun _ => 0))), (g5 0, .inl (cI, 12, .inl (fun _ => 0))), (o1, .inr (4, [.ref o4, .int 0, .int 0]))] H := hP
  have hD : va_D A [(o0, .inr (5, [.ref o2, .ref o6, .ref o7, .int 2, .int 0, .int 0])), (o6, .inl (cI, 4096, .inl (fun _ => 0))), (o2, .inr (3, [.ref o3, .int 0])), (o3, .inl (c2, 13, .inr (.inr (.inr (.inr (fun i => if i < 13 then some (g5 i) else none)))))), (o4, .inl (cI, 12, .inl (fun _ => 0))), (g5 0, .inl (cI, 12, .inl (fun _ => 0))), (o1, .inr (4, [.ref o4, .int 0, .int 0]))] := hD
  refine va_put (D := (dC, dI)) (ci := 5) (v := .int 0) (ty := .int) (C := RX5) (T := TX5) (N := 6) hx hb hts iw_X5_begin_X5 tyX5 tyX5_ok nmX5 hown hK hP hD hS 0 rfl rfl 4 (by decide) (hts (.fieldLink RX5 31 "HolelessHouse$LeastSearch" "all" "I") (by decide +kernel)) (fun _ h9 => h9) rfl (by decide +kernel) rfl rfl (Nat.le_of_ble_eq_true rfl) dX5_begin_26 (fun H locs hP hD hS => ?_)
  have hP : va_P (dC, dI) vwCl [(o0, .inr (5, [.ref o2, .ref o6, .ref o7, .int 2, .int 0, .int 0])), (o6, .inl (cI, 4096, .inl (fun _ => 0))), (o2, .inr (3, [.ref o3, .int 0])), (o3, .inl (c2, 13, .inr (.inr (.inr (.inr (fun i => if i < 13 then some (g5 i) else none)))))), (o4, .inl (cI, 12, .inl (fun _ => 0))), (g5 0, .inl (cI, 12, .inl (fun _ => 0))), (o1, .inr (4, [.ref o4, .int 0, .int 0]))] H := hP
  have hD : va_D A [(o0, .inr (5, [.ref o2, .ref o6, .ref o7, .int 2, .int 0, .int 0])), (o6, .inl (cI, 4096, .inl (fun _ => 0))), (o2, .inr (3, [.ref o3, .int 0])), (o3, .inl (c2, 13, .inr (.inr (.inr (.inr (fun i => if i < 13 then some (g5 i) else none)))))), (o4, .inl (cI, 12, .inl (fun _ => 0))), (g5 0, .inl (cI, 12, .inl (fun _ => 0))), (o1, .inr (4, [.ref o4, .int 0, .int 0]))] := hD
  refine lv_aload_n hx hb dX5_begin_29 rfl (lv_at hl 0 rfl) ?_
  refine lv_aload_n hx hb dX5_begin_30 rfl (lv_at hl 1 rfl) ?_
  refine va_getN (D := (dC, dI)) (ci := 4) (v := .int 0) (C := RX4) (T := TX4) (N := 3) hx hb hts iw_X5_begin_X4 hown hK hP 6 rfl rfl 1 (by decide) (hN.use ns_10) (fun _ h9 => h9) rfl dX5_begin_31 ?_
  refine va_put (D := (dC, dI)) (ci := 5) (v := .int 0) (ty := .int) (C := RX5) (T := TX5) (N := 6) hx hb hts iw_X5_begin_X5 tyX5 tyX5_ok nmX5 hown hK hP hD hS 0 rfl rfl 5 (by decide) (hts (.fieldLink RX5 34 "HolelessHouse$LeastSearch" "size" "I") (by decide +kernel)) (fun _ h9 => h9) rfl (by decide +kernel) rfl rfl (Nat.le_of_ble_eq_true rfl) dX5_begin_34 (fun H locs hP hD hS => ?_)
  have hP : va_P (dC, dI) vwCl [(o0, .inr (5, [.ref o2, .ref o6, .ref o7, .int 2, .int 0, .int 0])), (o6, .inl (cI, 4096, .inl (fun _ => 0))), (o2, .inr (3, [.ref o3, .int 0])), (o3, .inl (c2, 13, .inr (.inr (.inr (.inr (fun i => if i < 13 then some (g5 i) else none)))))), (o4, .inl (cI, 12, .inl (fun _ => 0))), (g5 0, .inl (cI, 12, .inl (fun _ => 0))), (o1, .inr (4, [.ref o4, .int 0, .int 0]))] H := hP
  have hD : va_D A [(o0, .inr (5, [.ref o2, .ref o6, .ref o7, .int 2, .int 0, .int 0])), (o6, .inl (cI, 4096, .inl (fun _ => 0))), (o2, .inr (3, [.ref o3, .int 0])), (o3, .inl (c2, 13, .inr (.inr (.inr (.inr (fun i => if i < 13 then some (g5 i) else none)))))), (o4, .inl (cI, 12, .inl (fun _ => 0))), (g5 0, .inl (cI, 12, .inl (fun _ => 0))), (o1, .inr (4, [.ref o4, .int 0, .int 0]))] := hD
  refine lv_aload_n hx hb dX5_begin_37 rfl (lv_at hl 0 rfl) ?_
  refine va_get (D := (dC, dI)) (ci := 5) (v := .ref o6) (C := RX5) (T := TX5) (N := 6) hx hb hts iw_X5_begin_X5 hown hK hP 0 rfl rfl 1 (by decide) (hts (.fieldLink RX5 18 "HolelessHouse$LeastSearch" "notes" "[I") (by decide +kernel)) (fun _ h9 => h9) rfl dX5_begin_38 ?_
  refine lv_iconst (v := 0) hx hb dX5_begin_41 (by decide) ?_
  refine lv_aload_n hx hb dX5_begin_42 rfl (lv_at hl 0 rfl) ?_
  refine va_get (D := (dC, dI)) (ci := 5) (v := .int 0) (C := RX5) (T := TX5) (N := 6) hx hb hts iw_X5_begin_X5 hown hK hP 0 rfl rfl 4 (by decide) (hts (.fieldLink RX5 31 "HolelessHouse$LeastSearch" "all" "I") (by decide +kernel)) (fun _ h9 => h9) rfl dX5_begin_43 ?_
  refine lv_iconst (v := 1) hx hb dX5_begin_46 (by decide) ?_
  refine lv_iadd hx hb dX5_begin_47 (tk_i (v := 1) (by decide +kernel) ?_)
  refine lv_iconst (v := (-1)) hx hb dX5_begin_48 (by decide) ?_
  refine kcall_v (D := (dC, dI)) (S := Unit) (wc := [(o6, .inl (cI, 4096, .inl (fun _ => 0)))]) (wr := [(o0, .inr (5, [.ref o2, .ref o6, .ref o7, .int 2, .int 0, .int 0])), (o2, .inr (3, [.ref o3, .int 0])), (o3, .inl (c2, 13, .inr (.inr (.inr (.inr (fun i => if i < 13 then some (g5 i) else none)))))), (o4, .inl (cI, 12, .inl (fun _ => 0))), (g5 0, .inl (cI, 12, .inl (fun _ => 0))), (o1, .inr (4, [.ref o4, .int 0, .int 0]))]) (w1 := fun _ => [(o6, .inl (cI, 4096, .inl (upd (fun _ => 0) (Int32.toNatClampNeg 0) (-1))))]) (fun hPc hDc => va_runS (As := [.ref o6, .int 0, .int 1, .int (-1)]) (rest := []) ⟨hx, hb, hml, hown, hts⟩ (kJ7_fill_fda19_1 l dC dI cI c2 o6 H.size) (va_cwS 4 hts gX5_begin_J7_fill_fda19 rfl rfl rfl (by decide +kernel) ⟨Nat.le_of_ble_eq_true rfl, Nat.le_of_ble_eq_true rfl⟩) (pre_S hPc hK hDc hN) rfl rfl hl.1 rfl (lv_room (Nat.le_of_ble_eq_true rfl)) dX5_begin_49 ⟨Nat.le_of_ble_eq_true rfl, Nat.le_of_ble_eq_true rfl⟩) hP hD hS hA [1] [0, 2, 3, 4, 5, 6] rfl rfl (by decide) (by decide) (by decide) (fun u H locs hP hD hS => ?_)
  have hP : va_P (dC, dI) vwCl [(o0, .inr (5, [.ref o2, .ref o6, .ref o7, .int 2, .int 0, .int 0])), (o2, .inr (3, [.ref o3, .int 0])), (o3, .inl (c2, 13, .inr (.inr (.inr (.inr (fun i => if i < 13 then some (g5 i) else none)))))), (o4, .inl (cI, 12, .inl (fun _ => 0))), (g5 0, .inl (cI, 12, .inl (fun _ => 0))), (o1, .inr (4, [.ref o4, .int 0, .int 0])), (o6, .inl (cI, 4096, .inl (upd (fun _ => 0) (Int32.toNatClampNeg 0) (-1))))] H := hP
  have hD : va_D A [(o0, .inr (5, [.ref o2, .ref o6, .ref o7, .int 2, .int 0, .int 0])), (o2, .inr (3, [.ref o3, .int 0])), (o3, .inl (c2, 13, .inr (.inr (.inr (.inr (fun i => if i < 13 then some (g5 i) else none)))))), (o4, .inl (cI, 12, .inl (fun _ => 0))), (g5 0, .inl (cI, 12, .inl (fun _ => 0))), (o1, .inr (4, [.ref o4, .int 0, .int 0])), (o6, .inl (cI, 4096, .inl (upd (fun _ => 0) (Int32.toNatClampNeg 0) (-1))))] := hD
  refine lv_aload_n hx hb dX5_begin_52 rfl (lv_at hl 0 rfl) ?_
  refine va_get (D := (dC, dI)) (ci := 5) (v := .ref o6) (C := RX5) (T := TX5) (N := 6) hx hb hts iw_X5_begin_X5 hown hK hP 0 rfl rfl 1 (by decide) (hts (.fieldLink RX5 18 "HolelessHouse$LeastSearch" "notes" "[I") (by decide +kernel)) (fun _ h9 => h9) rfl dX5_begin_53 ?_
  refine lv_aload_n hx hb dX5_begin_56 rfl (lv_at hl 0 rfl) ?_
  refine va_get (D := (dC, dI)) (ci := 5) (v := .int 0) (C := RX5) (T := TX5) (N := 6) hx hb hts iw_X5_begin_X5 hown hK hP 0 rfl rfl 4 (by decide) (hts (.fieldLink RX5 31 "HolelessHouse$LeastSearch" "all" "I") (by decide +kernel)) (fun _ h9 => h9) rfl dX5_begin_57 ?_
  refine lv_iconst (v := 0) hx hb dX5_begin_60 (by decide) ?_
  refine va_iast hx hb hK hP hD hS 6 0 rfl rfl (vin (by decide +kernel)) dX5_begin_61 (fun H locs hP hD hS => ?_)
  have hP : va_P (dC, dI) vwCl [(o0, .inr (5, [.ref o2, .ref o6, .ref o7, .int 2, .int 0, .int 0])), (o2, .inr (3, [.ref o3, .int 0])), (o3, .inl (c2, 13, .inr (.inr (.inr (.inr (fun i => if i < 13 then some (g5 i) else none)))))), (o4, .inl (cI, 12, .inl (fun _ => 0))), (g5 0, .inl (cI, 12, .inl (fun _ => 0))), (o1, .inr (4, [.ref o4, .int 0, .int 0])), (o6, .inl (cI, 4096, .inl (upd (upd (fun _ => 0) (Int32.toNatClampNeg 0) (-1)) (Int32.toNatClampNeg 0) 0)))] H := hP
  have hD : va_D A [(o0, .inr (5, [.ref o2, .ref o6, .ref o7, .int 2, .int 0, .int 0])), (o2, .inr (3, [.ref o3, .int 0])), (o3, .inl (c2, 13, .inr (.inr (.inr (.inr (fun i => if i < 13 then some (g5 i) else none)))))), (o4, .inl (cI, 12, .inl (fun _ => 0))), (g5 0, .inl (cI, 12, .inl (fun _ => 0))), (o1, .inr (4, [.ref o4, .int 0, .int 0])), (o6, .inl (cI, 4096, .inl (upd (upd (fun _ => 0) (Int32.toNatClampNeg 0) (-1)) (Int32.toNatClampNeg 0) 0)))] := hD
  refine lv_aload_n hx hb dX5_begin_62 rfl (lv_at hl 0 rfl) ?_
  refine lv_iconst (v := 0) hx hb dX5_begin_63 (by decide) ?_
  refine lv_iconst (v := 0) hx hb dX5_begin_64 (by decide) ?_
  refine kcall_i (D := (dC, dI)) (S := Unit) (v := 0) (wc := [(o0, .inr (5, [.ref o2, .ref o6, .ref o7, .int 2, .int 0, .int 0])), (o6, .inl (cI, 4096, .inl (upd (upd (fun _ => 0) (Int32.toNatClampNeg 0) (-1)) (Int32.toNatClampNeg 0) 0)))]) (wr := [(o2, .inr (3, [.ref o3, .int 0])), (o3, .inl (c2, 13, .inr (.inr (.inr (.inr (fun i => if i < 13 then some (g5 i) else none)))))), (o4, .inl (cI, 12, .inl (fun _ => 0))), (g5 0, .inl (cI, 12, .inl (fun _ => 0))), (o1, .inr (4, [.ref o4, .int 0, .int 0]))]) (w1 := fun _ => [(o0, .inr (5, [.ref o2, .ref o6, .ref o7, .int 2, .int 0, .int 0])), (o6, .inl (cI, 4096, .inl (upd (upd (fun _ => 0) (Int32.toNatClampNeg 0) (-1)) (Int32.toNatClampNeg 0) 0)))]) (fun hPc hDc => va_runS (As := [.ref o0, .int 0, .int 0]) (rest := []) ⟨hx, hb, hml, hown, hts⟩ (kX5_leastFrom_1 l dC dI cI c2 o0 o6 o2 o7 H.size) (va_cwS 3 hts gX5_begin_X5_leastFrom rfl rfl rfl (by decide +kernel) ⟨Nat.le_of_ble_eq_true rfl, Nat.le_of_ble_eq_true rfl⟩) (pre_S hPc hK hDc hN) rfl rfl hl.1 rfl (lv_room (Nat.le_of_ble_eq_true rfl)) dX5_begin_65 ⟨Nat.le_of_ble_eq_true rfl, Nat.le_of_ble_eq_true rfl⟩) hP hD hS hA [0, 6] [1, 2, 3, 4, 5] rfl rfl (by decide) (by decide) (by decide) (fun u H locs hP hD hS => ?_)
  have hP : va_P (dC, dI) vwCl [(o2, .inr (3, [.ref o3, .int 0])), (o3, .inl (c2, 13, .inr (.inr (.inr (.inr (fun i => if i < 13 then some (g5 i) else none)))))), (o4, .inl (cI, 12, .inl (fun _ => 0))), (g5 0, .inl (cI, 12, .inl (fun _ => 0))), (o1, .inr (4, [.ref o4, .int 0, .int 0])), (o0, .inr (5, [.ref o2, .ref o6, .ref o7, .int 2, .int 0, .int 0])), (o6, .inl (cI, 4096, .inl (upd (upd (fun _ => 0) (Int32.toNatClampNeg 0) (-1)) (Int32.toNatClampNeg 0) 0)))] H := hP
  have hD : va_D A [(o2, .inr (3, [.ref o3, .int 0])), (o3, .inl (c2, 13, .inr (.inr (.inr (.inr (fun i => if i < 13 then some (g5 i) else none)))))), (o4, .inl (cI, 12, .inl (fun _ => 0))), (g5 0, .inl (cI, 12, .inl (fun _ => 0))), (o1, .inr (4, [.ref o4, .int 0, .int 0])), (o0, .inr (5, [.ref o2, .ref o6, .ref o7, .int 2, .int 0, .int 0])), (o6, .inl (cI, 4096, .inl (upd (upd (fun _ => 0) (Int32.toNatClampNeg 0) (-1)) (Int32.toNatClampNeg 0) 0)))] := hD
  have hP9 := hP.sub (ws' := [(o2, .inr (3, [.ref o3, .int 0])), (o3, .inl (c2, 13, .inr (.inr (.inr (.inr (fun i => if i < 13 then some (g5 i) else none)))))), (o4, .inl (cI, 12, .inl (fun _ => 0))), (g5 0, .inl (cI, 12, .inl (fun _ => 0))), (o1, .inr (4, [.ref o4, .int 0, .int 0])), (o0, .inr (5, [.ref o2, .ref o6, .ref o7, .int 2, .int 0, .int 0])), (o6, .inl (cI, 4096, .inl (upd (upd (fun _ => 0) (Int32.toNatClampNeg 0) (-1)) (Int32.toNatClampNeg 0) 0)))]) [0, 1, 2, 3, 4, 5, 6] rfl
  have hD9 := hD.sub (ws' := [(o2, .inr (3, [.ref o3, .int 0])), (o3, .inl (c2, 13, .inr (.inr (.inr (.inr (fun i => if i < 13 then some (g5 i) else none)))))), (o4, .inl (cI, 12, .inl (fun _ => 0))), (g5 0, .inl (cI, 12, .inl (fun _ => 0))), (o1, .inr (4, [.ref o4, .int 0, .int 0])), (o0, .inr (5, [.ref o2, .ref o6, .ref o7, .int 2, .int 0, .int 0])), (o6, .inl (cI, 4096, .inl (upd (upd (fun _ => 0) (Int32.toNatClampNeg 0) (-1)) (Int32.toNatClampNeg 0) 0)))]) [0, 1, 2, 3, 4, 5, 6] (by decide) rfl
  exact W.iret (v := 0) hx hb hr (fun t ht hW => ⟨⟨0, (), rfl, rfl, by rw [ht]; exact hP9, va_K.moved hW.alike hK, hD9⟩, hS.F ht⟩) hS.2.2 dX5_begin_68
theorem iw_X6_followLeast_X6 : ∀ w ∈ wsX60, w ∈ wsX6_followLeast := by decide +kernel
set_option maxHeartbeats 1000000 in
set_option maxRecDepth 100000 in
theorem kX6_followLeast_1 (l : Launch) (dC : Nat → ClassId) (dI : Nat → Nat → Nat) (cI c2 : ClassId) (o0 : Nat) (o1 : Nat) (o2 : Nat) (o3 : Nat) (o4 : Nat) (g5 : Nat → Nat) (o6 : Nat) (o7 : Nat) (o8 : Nat) (g9 : Nat → Nat) (o10 : Nat) (o11 : Nat) (o12 : Nat) (o13 : Nat) (sz : Nat) : Met l yX6_followLeast wsX6_followLeast ({ frames := 3, cells := 0, slots := 0, locals := 107 }) (va_Pc [.ref o0, .ref o1, .int 0] (wPre (dC, dI) [(cI, .int), (c2, .array .int)] [(o0, .inr (6, [.ref o2, .ref o6, .ref o11, .ref o12, .int 0, .int 0, .int 0, .int 0, .int 0])), (o2, .inr (3, [.ref o3, .int 0])), (o1, .inr (4, [.ref o4, .int 0, .int 0])), (o3, .inl (c2, 13, .inr (.inr (.inr (.inr (fun i => if i < 13 then some (g5 i) else none)))))), (o4, .inl (cI, 12, .inl (fun _ => 0))), (g5 0, .inl (cI, 12, .inl (fun _ => 0))), (o6, .inr (5, [.ref o7, .ref o10, .ref o13, .int 0, .int 0, .int 0])), (o7, .inr (3, [.ref o8, .int 0])), (o8, .inl (c2, 13, .inr (.inr (.inr (.inr (fun i => if i < 13 then some (g9 i) else none)))))), (g9 0, .inl (cI, 12, .inl (fun _ => 0))), (o10, .inl (cI, 4096, .inl (fun _ => 0)))] sz)) (va_Qv (fun (_ : Unit) => True) (fun _ t => wPost (dC, dI) [(cI, .int), (c2, .array .int)] (va_A [(o0, .inr (6, [.ref o2, .ref o6, .ref o11, .ref o12, .int 0, .int 0, .int 0, .int 0, .int 0])), (o2, .inr (3, [.ref o3, .int 0])), (o1, .inr (4, [.ref o4, .int 0, .int 0])), (o3, .inl (c2, 13, .inr (.inr (.inr (.inr (fun i => if i < 13 then some (g5 i) else none)))))), (o4, .inl (cI, 12, .inl (fun _ => 0))), (g5 0, .inl (cI, 12, .inl (fun _ => 0))), (o6, .inr (5, [.ref o7, .ref o10, .ref o13, .int 0, .int 0, .int 0])), (o7, .inr (3, [.ref o8, .int 0])), (o8, .inl (c2, 13, .inr (.inr (.inr (.inr (fun i => if i < 13 then some (g9 i) else none)))))), (g9 0, .inl (cI, 12, .inl (fun _ => 0))), (o10, .inl (cI, 4096, .inl (fun _ => 0)))] sz) [(o0, .inr (6, [.ref o2, .ref o6, .ref o11, .ref o12, .int 0, .int 0, .int 1, .int 0, .int 0])), (o2, .inr (3, [.ref o3, .int 0])), (o3, .inl (c2, 13, .inr (.inr (.inr (.inr (fun i => if i < 13 then some (g5 i) else none)))))), (g5 0, .inl (cI, 12, .inl (fun _ => 0))), (o7, .inr (3, [.ref o8, .int 0])), (o8, .inl (c2, 13, .inr (.inr (.inr (.inr (fun i => if i < 13 then some (g9 i) else none)))))), (o4, .inl (cI, 12, .inl (fun _ => 0))), (g9 0, .inl (cI, 12, .inl (fun _ => 0))), (o1, .inr (4, [.ref o4, .int 0, .int 0])), (o6, .inr (5, [.ref o7, .ref o10, .ref o13, .int 2, .int 0, .int 0])), (o10, .inl (cI, 4096, .inl (upd (upd (fun _ => 0) (Int32.toNatClampNeg 0) (-1)) (Int32.toNatClampNeg 0) 0)))] t) (va_A [(o0, .inr (6, [.ref o2, .ref o6, .ref o11, .ref o12, .int 0, .int 0, .int 0, .int 0, .int 0])), (o2, .inr (3, [.ref o3, .int 0])), (o1, .inr (4, [.ref o4, .int 0, .int 0])), (o3, .inl (c2, 13, .inr (.inr (.inr (.inr (fun i => if i < 13 then some (g5 i) else none)))))), (o4, .inl (cI, 12, .inl (fun _ => 0))), (g5 0, .inl (cI, 12, .inl (fun _ => 0))), (o6, .inr (5, [.ref o7, .ref o10, .ref o13, .int 0, .int 0, .int 0])), (o7, .inr (3, [.ref o8, .int 0])), (o8, .inl (c2, 13, .inr (.inr (.inr (.inr (fun i => if i < 13 then some (g9 i) else none)))))), (g9 0, .inl (cI, 12, .inl (fun _ => 0))), (o10, .inl (cI, 4096, .inl (fun _ => 0)))] sz)) 0 0 (va_A [(o0, .inr (6, [.ref o2, .ref o6, .ref o11, .ref o12, .int 0, .int 0, .int 0, .int 0, .int 0])), (o2, .inr (3, [.ref o3, .int 0])), (o1, .inr (4, [.ref o4, .int 0, .int 0])), (o3, .inl (c2, 13, .inr (.inr (.inr (.inr (fun i => if i < 13 then some (g5 i) else none)))))), (o4, .inl (cI, 12, .inl (fun _ => 0))), (g5 0, .inl (cI, 12, .inl (fun _ => 0))), (o6, .inr (5, [.ref o7, .ref o10, .ref o13, .int 0, .int 0, .int 0])), (o7, .inr (3, [.ref o8, .int 0])), (o8, .inl (c2, 13, .inr (.inr (.inr (.inr (fun i => if i < 13 then some (g9 i) else none)))))), (g9 0, .inl (cI, 12, .inl (fun _ => 0))), (o10, .inl (cI, 4096, .inl (fun _ => 0)))] sz) := by
  refine Met.ofW (cc := cX6_followLeast) (maxL := 8) (ret := none) (by decide) rfl ?_
  intro p e s m args below meth c s₁ B hml hv
  obtain ⟨rfl, hsz, hP, hK, hD0, hN⟩ := hv
  have hx := B.exec
  have hb := B.bytes
  have hr := B.returns
  have hts := atoms_spec (ws := wsX6_followLeast) B.pre
  have hown : s.vm.findClass RX6 = some m.cls := findClass_of_methodNamed B.named
  have hlocks := B.notSynchronized
  subst hsz
  have hD := hD0.self (sz := s.heap.size)
  generalize hAe : va_A [(o0, .inr (6, [.ref o2, .ref o6, .ref o11, .ref o12, .int 0, .int 0, .int 0, .int 0, .int 0])), (o2, .inr (3, [.ref o3, .int 0])), (o1, .inr (4, [.ref o4, .int 0, .int 0])), (o3, .inl (c2, 13, .inr (.inr (.inr (.inr (fun i => if i < 13 then some (g5 i) else none)))))), (o4, .inl (cI, 12, .inl (fun _ => 0))), (g5 0, .inl (cI, 12, .inl (fun _ => 0))), (o6, .inr (5, [.ref o7, .ref o10, .ref o13, .int 0, .int 0, .int 0])), (o7, .inr (3, [.ref o8, .int 0])), (o8, .inl (c2, 13, .inr (.inr (.inr (.inr (fun i => if i < 13 then some (g9 i) else none)))))), (g9 0, .inl (cI, 12, .inl (fun _ => 0))), (o10, .inl (cI, 4096, .inl (fun _ => 0)))] s.heap.size = A at hD ⊢
  have hA : ∀ q : Nat, s.heap.size ≤ q → A q := fun q h => by rw [← hAe]; exact Or.inr h
  have hS : va_S A s.heap s.heap [] := va_S.rf
  have hP : va_P (dC, dI) vwCl [(o0, .inr (6, [.ref o2, .ref o6, .ref o11, .ref o12, .int 0, .int 0, .int 0, .int 0, .int 0])), (o2, .inr (3, [.ref o3, .int 0])), (o1, .inr (4, [.ref o4, .int 0, .int 0])), (o3, .inl (c2, 13, .inr (.inr (.inr (.inr (fun i => if i < 13 then some (g5 i) else none)))))), (o4, .inl (cI, 12, .inl (fun _ => 0))), (g5 0, .inl (cI, 12, .inl (fun _ => 0))), (o6, .inr (5, [.ref o7, .ref o10, .ref o13, .int 0, .int 0, .int 0])), (o7, .inr (3, [.ref o8, .int 0])), (o8, .inl (c2, 13, .inr (.inr (.inr (.inr (fun i => if i < 13 then some (g9 i) else none)))))), (g9 0, .inl (cI, 12, .inl (fun _ => 0))), (o10, .inl (cI, 4096, .inl (fun _ => 0)))] s.heap := hP
  have hl := lv_entry ([.ref o0, .ref o1, .int 0]) (n := 8) (Nat.le_of_ble_eq_true rfl)
  rw [lg_entry_eq]
  generalize (lg_sl ([.ref o0, .ref o1, .int 0]) ++ List.replicate (8 - (lg_sl ([.ref o0, .ref o1, .int 0])).length) Slot.unset).toArray = ls at hl ⊢
  have hl : lv_has ls 8 [(0, .ref o0), (1, .ref o1), (2, .int 0)] := hl
  refine lv_aload_n hx hb dX6_followLeast_0 rfl (lv_at hl 0 rfl) ?_
  refine lv_aload_n hx hb dX6_followLeast_1 rfl (lv_at hl 1 rfl) ?_
  refine kcall_v (D := (dC, dI)) (S := Unit) (wc := [(o0, .inr (6, [.ref o2, .ref o6, .ref o11, .ref o12, .int 0, .int 0, .int 0, .int 0, .int 0])), (o2, .inr (3, [.ref o3, .int 0])), (o1, .inr (4, [.ref o4, .int 0, .int 0])), (o3, .inl (c2, 13, .inr (.inr (.inr (.inr (fun i => if i < 13 then some (g5 i) else none)))))), (o4, .inl (cI, 12, .inl (fun _ => 0))), (g5 0, .inl (cI, 12, .inl (fun _ => 0)))]) (wr := [(o6, .inr (5, [.ref o7, .ref o10, .ref o13, .int 0, .int 0, .int 0])), (o7, .inr (3, [.ref o8, .int 0])), (o8, .inl (c2, 13, .inr (.inr (.inr (.inr (fun i => if i < 13 then some (g9 i) else none)))))), (g9 0, .inl (cI, 12, .inl (fun _ => 0))), (o10, .inl (cI, 4096, .inl (fun _ => 0)))]) (w1 := fun _ => [(o0, .inr (6, [.ref o2, .ref o6, .ref o11, .ref o12, .int 0, .int 0, .int 1, .int 0, .int 0])), (o1, .inr (4, [.ref o4, .int 0, .int 0])), (o2, .inr (3, [.ref o3, .int 0])), (o3, .inl (c2, 13, .inr (.inr (.inr (.inr (fun i => if i < 13 then some (g5 i) else none)))))), (o4, .inl (cI, 12, .inl (fun _ => 0))), (g5 0, .inl (cI, 12, .inl (fun _ => 0)))]) (fun hPc hDc => va_runV (As := [.ref o1]) (rest := []) ⟨hx, hb, hml, hown, hts⟩ (kX6_begin_1 l dC dI cI c2 o0 o1 o2 o3 o4 g5 o6 o11 o12 s.heap.size) (cwV 1 hts gX6_followLeast_X6_begin rfl rfl rfl (by decide +kernel) ⟨Nat.le_of_ble_eq_true rfl, Nat.le_of_ble_eq_true rfl⟩) (pre_V hPc hK hDc hN (ci := 6) (q0 := 0) rfl rfl) rfl rfl hl.1 rfl (lv_room (Nat.le_of_ble_eq_true rfl)) dX6_followLeast_2 ⟨Nat.le_of_ble_eq_true rfl, Nat.le_of_ble_eq_true rfl⟩) hP hD hS hA [0, 1, 2, 3, 4, 5] [6, 7, 8, 9, 10] rfl rfl (by decide) (by decide) (by decide) (fun u H locs hP hD hS => ?_)
  have hP : va_P (dC, dI) vwCl [(o6, .inr (5, [.ref o7, .ref o10, .ref o13, .int 0, .int 0, .int 0])), (o7, .inr (3, [.ref o8, .int 0])), (o8, .inl (c2, 13, .inr (.inr (.inr (.inr (fun i => if i < 13 then some (g9 i) else none)))))), (g9 0, .inl (cI, 12, .inl (fun _ => 0))), (o10, .inl (cI, 4096, .inl (fun _ => 0))), (o0, .inr (6, [.ref o2, .ref o6, .ref o11, .ref o12, .int 0, .int 0, .int 1, .int 0, .int 0])), (o1, .inr (4, [.ref o4, .int 0, .int 0])), (o2, .inr (3, [.ref o3, .int 0])), (o3, .inl (c2, 13, .inr (.inr (.inr (.inr (fun i => if i < 13 then some (g5 i) else none)))))), (o4, .inl (cI, 12, .inl (fun _ => 0))), (g5 0, .inl (cI, 12, .inl (fun _ => 0)))] H := hP
  have hD : va_D A [(o6, .inr (5, [.ref o7, .ref o10, .ref o13, .int 0, .int 0, .int 0])), (o7, .inr (3, [.ref o8, .int 0])), (o8, .inl (c2, 13, .inr (.inr (.inr (.inr (fun i => if i < 13 then some (g9 i) else none)))))), (g9 0, .inl (cI, 12, .inl (fun _ => 0))), (o10, .inl (cI, 4096, .inl (fun _ => 0))), (o0, .inr (6, [.ref o2, .ref o6, .ref o11, .ref o12, .int 0, .int 0, .int 1, .int 0, .int 0])), (o1, .inr (4, [.ref o4, .int 0, .int 0])), (o2, .inr (3, [.ref o3, .int 0])), (o3, .inl (c2, 13, .inr (.inr (.inr (.inr (fun i => if i < 13 then some (g5 i) else none)))))), (o4, .inl (cI, 12, .inl (fun _ => 0))), (g5 0, .inl (cI, 12, .inl (fun _ => 0)))] := hD
  refine lv_aload_n hx hb dX6_followLeast_5 rfl (lv_at hl 0 rfl) ?_
  refine va_get (D := (dC, dI)) (ci := 6) (v := .ref o6) (C := RX6) (T := TX6) (N := 9) hx hb hts iw_X6_followLeast_X6 hown hK hP 5 rfl rfl 1 (by decide) (hts (.fieldLink RX6 21 "HolelessHouse$Ordering" "search" "LHolelessHouse$LeastSearch;") (by decide +kernel)) (fun _ h9 => h9) rfl dX6_followLeast_6 ?_
  refine lv_aload_n hx hb dX6_followLeast_9 rfl (lv_at hl 1 rfl) ?_
  refine lv_iload_n hx hb dX6_followLeast_10 rfl (lv_at hl 2 rfl) ?_
  refine kcall_i (D := (dC, dI)) (S := Unit) (v := 0) (wc := [(o6, .inr (5, [.ref o7, .ref o10, .ref o13, .int 0, .int 0, .int 0])), (o7, .inr (3, [.ref o8, .int 0])), (o1, .inr (4, [.ref o4, .int 0, .int 0])), (o8, .inl (c2, 13, .inr (.inr (.inr (.inr (fun i => if i < 13 then some (g9 i) else none)))))), (o4, .inl (cI, 12, .inl (fun _ => 0))), (g9 0, .inl (cI, 12, .inl (fun _ => 0))), (o10, .inl (cI, 4096, .inl (fun _ => 0)))]) (wr := [(o0, .inr (6, [.ref o2, .ref o6, .ref o11, .ref o12, .int 0, .int 0, .int 1, .int 0, .int 0])), (o2, .inr (3, [.ref o3, .int 0])), (o3, .inl (c2, 13, .inr (.inr (.inr (.inr (fun i => if i < 13 then some (g5 i) else none)))))), (g5 0, .inl (cI, 12, .inl (fun _ => 0)))]) (w1 := fun _ => [(o7, .inr (3, [.ref o8, .int 0])), (o8, .inl (c2, 13, .inr (.inr (.inr (.inr (fun i => if i < 13 then some (g9 i) else none)))))), (o4, .inl (cI, 12, .inl (fun _ => 0))), (g9 0, .inl (cI, 12, .inl (fun _ => 0))), (o1, .inr (4, [.ref o4, .int 0, .int 0])), (o6, .inr (5, [.ref o7, .ref o10, .ref o13, .int 2, .int 0, .int 0])), (o10, .inl (cI, 4096, .inl (upd (upd (fun _ => 0) (Int32.toNatClampNeg 0) (-1)) (Int32.toNatClampNeg 0) 0)))]) (fun hPc hDc => va_runVN (As := [.ref o1, .int 0]) (rest := []) ⟨hx, hb, hml, hown, hts⟩ (kX5_begin_1 l dC dI cI c2 o6 o1 o7 o8 o4 g9 o10 o13 H.size) ⟨va_cnB 2 hts gX6_followLeast_X5_begin_n92 rfl rfl rfl (hN.1 _ ns_92) (hts (.initialized RX5) (by decide +kernel)) (by decide +kernel) ⟨Nat.le_of_ble_eq_true rfl, Nat.le_of_ble_eq_true rfl⟩, (hts (.instanceMethod yX5_begin) (by decide +kernel)), (hts (.selects RX5 yX5_begin yX5_begin) (by decide +kernel))⟩ (pre_V hPc hK hDc hN (ci := 5) (q0 := 0) rfl rfl) rfl rfl hl.1 rfl (lv_room (Nat.le_of_ble_eq_true rfl)) dX6_followLeast_11 ⟨Nat.le_of_ble_eq_true rfl, Nat.le_of_ble_eq_true rfl⟩) hP hD hS hA [0, 1, 6, 2, 9, 3, 4] [5, 7, 8, 10] rfl rfl (by decide) (by decide) (by decide) (fun u H locs hP hD hS => ?_)
  have hP : va_P (dC, dI) vwCl [(o0, .inr (6, [.ref o2, .ref o6, .ref o11, .ref o12, .int 0, .int 0, .int 1, .int 0, .int 0])), (o2, .inr (3, [.ref o3, .int 0])), (o3, .inl (c2, 13, .inr (.inr (.inr (.inr (fun i => if i < 13 then some (g5 i) else none)))))), (g5 0, .inl (cI, 12, .inl (fun _ => 0))), (o7, .inr (3, [.ref o8, .int 0])), (o8, .inl (c2, 13, .inr (.inr (.inr (.inr (fun i => if i < 13 then some (g9 i) else none)))))), (o4, .inl (cI, 12, .inl (fun _ => 0))), (g9 0, .inl (cI, 12, .inl (fun _ => 0))), (o1, .inr (4, [.ref o4, .int 0, .int 0])), (o6, .inr (5, [.ref o7, .ref o10, .ref o13, .int 2, .int 0, .int 0])), (o10, .inl (cI, 4096, .inl (upd (upd (fun _ => 0) (Int32.toNatClampNeg 0) (-1)) (Int32.toNatClampNeg 0) 0)))] H := hP
  have hD : va_D A [(o0, .inr (6, [.ref o2, .ref o6, .ref o11, .ref o12, .int 0, .int 0, .int 1, .int 0, .int 0])), (o2, .inr (3, [.ref o3, .int 0])), (o3, .inl (c2, 13, .inr (.inr (.inr (.inr (fun i => if i < 13 then some (g5 i) else none)))))), (g5 0, .inl (cI, 12, .inl (fun _ => 0))), (o7, .inr (3, [.ref o8, .int 0])), (o8, .inl (c2, 13, .inr (.inr (.inr (.inr (fun i => if i < 13 then some (g9 i) else none)))))), (o4, .inl (cI, 12, .inl (fun _ => 0))), (g9 0, .inl (cI, 12, .inl (fun _ => 0))), (o1, .inr (4, [.ref o4, .int 0, .int 0])), (o6, .inr (5, [.ref o7, .ref o10, .ref o13, .int 2, .int 0, .int 0])), (o10, .inl (cI, 4096, .inl (upd (upd (fun _ => 0) (Int32.toNatClampNeg 0) (-1)) (Int32.toNatClampNeg 0) 0)))] := hD
  refine lv_istore_n (lv' := [(3, .int 0), (0, .ref o0), (1, .ref o1), (2, .int 0)]) hx hb dX6_followLeast_14 rfl hl (by decide) rfl (fun ls hl => ?_)
  refine lv_iconst (v := 0) hx hb dX6_followLeast_15 (by decide) ?_
  refine lv_istore (lv' := [(4, .int 0), (3, .int 0), (0, .ref o0), (1, .ref o1), (2, .int 0)]) hx hb dX6_followLeast_16 hl (by decide) rfl (fun ls hl => ?_)
  refine lv_iconst (v := 0) hx hb dX6_followLeast_18 (by decide) ?_
  refine lv_istore (lv' := [(5, .int 0), (4, .int 0), (3, .int 0), (0, .ref o0), (1, .ref o1), (2, .int 0)]) hx hb dX6_followLeast_19 hl (by decide) rfl (fun ls hl => ?_)
  refine lv_iload hx hb dX6_followLeast_21 (lv_at hl 0 rfl) ?_
  refine lv_aload_n hx hb dX6_followLeast_23 rfl (lv_at hl 3 rfl) ?_
  refine va_get (D := (dC, dI)) (ci := 6) (v := .int 0) (C := RX6) (T := TX6) (N := 9) hx hb hts iw_X6_followLeast_X6 hown hK hP 0 rfl rfl 5 (by decide) (hts (.fieldLink RX6 36 "HolelessHouse$Ordering" "size" "I") (by decide +kernel)) (fun _ h9 => h9) rfl dX6_followLeast_24 ?_
  refine lv_icmp_ge (tgt := 84) hx hb dX6_followLeast_27 (by decide) (fun _ => ?_) (fun h9 => absurd (by decide +kernel) h9)
  have hP9 := hP.sub (ws' := [(o0, .inr (6, [.ref o2, .ref o6, .ref o11, .ref o12, .int 0, .int 0, .int 1, .int 0, .int 0])), (o2, .inr (3, [.ref o3, .int 0])), (o3, .inl (c2, 13, .inr (.inr (.inr (.inr (fun i => if i < 13 then some (g5 i) else none)))))), (g5 0, .inl (cI, 12, .inl (fun _ => 0))), (o7, .inr (3, [.ref o8, .int 0])), (o8, .inl (c2, 13, .inr (.inr (.inr (.inr (fun i => if i < 13 then some (g9 i) else none)))))), (o4, .inl (cI, 12, .inl (fun _ => 0))), (g9 0, .inl (cI, 12, .inl (fun _ => 0))), (o1, .inr (4, [.ref o4, .int 0, .int 0])), (o6, .inr (5, [.ref o7, .ref o10, .ref o13, .int 2, .int 0, .int 0])), (o10, .inl (cI, 4096, .inl (upd (upd (fun _ => 0) (Int32.toNatClampNeg 0) (-1)) (Int32.toNatClampNeg 0) 0)))]) [0, 1, 2, 3, 4, 5, 6, 7, 8, 9, 10] rfl
  have hD9 := hD.sub (ws' := [(o0, .inr (6, [.ref o2, .ref o6, .ref o11, .ref o12, .int 0, .int 0, .int 1, .int 0, .int 0])), (o2, .inr (3, [.ref o3, .int 0])), (o3, .inl (c2, 13, .inr (.inr (.inr (.inr (fun i => if i < 13 then some (g5 i) else none)))))), (g5 0, .inl (cI, 12, .inl (fun _ => 0))), (o7, .inr (3, [.ref o8, .int 0])), (o8, .inl (c2, 13, .inr (.inr (.inr (.inr (fun i => if i < 13 then some (g9 i) else none)))))), (o4, .inl (cI, 12, .inl (fun _ => 0))), (g9 0, .inl (cI, 12, .inl (fun _ => 0))), (o1, .inr (4, [.ref o4, .int 0, .int 0])), (o6, .inr (5, [.ref o7, .ref o10, .ref o13, .int 2, .int 0, .int 0])), (o10, .inl (cI, 4096, .inl (upd (upd (fun _ => 0) (Int32.toNatClampNeg 0) (-1)) (Int32.toNatClampNeg 0) 0)))]) [0, 1, 2, 3, 4, 5, 6, 7, 8, 9, 10] (by decide) rfl
  exact W.vret hx hb hr (fun t ht hW => ⟨⟨(), rfl, trivial, by rw [ht]; exact hP9, va_K.moved hW.alike hK, hD9⟩, hS.F ht⟩) hS.2.2 dX6_followLeast_84
theorem iw_X11_least_X11 : ∀ w ∈ wsX110, w ∈ wsX11_least := by decide +kernel
theorem iw_X11_least_X6 : ∀ w ∈ wsX60, w ∈ wsX11_least := by decide +kernel
set_option maxHeartbeats 1000000 in
set_option maxRecDepth 100000 in
theorem kX11_least_2 (l : Launch) (dC : Nat → ClassId) (dI : Nat → Nat → Nat) (cI c2 : ClassId) (o0 : Nat) (o1 : Nat) (o2 : Nat) (o3 : Nat) (o4 : Nat) (o5 : Nat) (g6 : Nat → Nat) (o7 : Nat) (o8 : Nat) (o9 : Nat) (g10 : Nat → Nat) (o11 : Nat) (o12 : Nat) (o13 : Nat) (o14 : Nat) (o15 : Nat) (o16 : Nat) (o17 : Nat) (o18 : Nat) (o19 : Nat) (o20 : Nat) (o21 : Nat) (o22 : Nat) (o23 : Nat) (o24 : Nat) (sz : Nat) : Met l yX11_least wsX11_least ({ frames := 4, cells := 0, slots := 0, locals := 134 }) (va_Pc [.ref o0, .int 0] (wPre (dC, dI) [(cI, .int), (c2, .array .int)] [(o0, .inr (11, [.ref o3, .ref o12, .ref o1, .ref o13, .ref o14, .ref o15, .ref o16, .ref o17, .ref o18, .ref o19, .ref o20, .ref o21, .int 0])), (o1, .inr (6, [.ref o2, .ref o7, .ref o22, .ref o23, .int 0, .int 0, .int 0, .int 0, .int 0])), (o2, .inr (3, [.ref o4, .int 0])), (o3, .inr (4, [.ref o5, .int 0, .int 0])), (o4, .inl (c2, 13, .inr (.inr (.inr (.inr (fun i => if i < 13 then some (g6 i) else none)))))), (o5, .inl (cI, 12, .inl (fun _ => 0))), (g6 0, .inl (cI, 12, .inl (fun _ => 0))), (o7, .inr (5, [.ref o8, .ref o11, .ref o24, .int 0, .int 0, .int 0])), (o8, .inr (3, [.ref o9, .int 0])), (o9, .inl (c2, 13, .inr (.inr (.inr (.inr (fun i => if i < 13 then some (g10 i) else none)))))), (g10 0, .inl (cI, 12, .inl (fun _ => 0))), (o11, .inl (cI, 4096, .inl (fun _ => 0)))] sz)) (va_Qi (fun (r : Int32) (_ : Unit) => r = 0) (fun _ t => wPost (dC, dI) [(cI, .int), (c2, .array .int)] (va_A [(o0, .inr (11, [.ref o3, .ref o12, .ref o1, .ref o13, .ref o14, .ref o15, .ref o16, .ref o17, .ref o18, .ref o19, .ref o20, .ref o21, .int 0])), (o1, .inr (6, [.ref o2, .ref o7, .ref o22, .ref o23, .int 0, .int 0, .int 0, .int 0, .int 0])), (o2, .inr (3, [.ref o4, .int 0])), (o3, .inr (4, [.ref o5, .int 0, .int 0])), (o4, .inl (c2, 13, .inr (.inr (.inr (.inr (fun i => if i < 13 then some (g6 i) else none)))))), (o5, .inl (cI, 12, .inl (fun _ => 0))), (g6 0, .inl (cI, 12, .inl (fun _ => 0))), (o7, .inr (5, [.ref o8, .ref o11, .ref o24, .int 0, .int 0, .int 0])), (o8, .inr (3, [.ref o9, .int 0])), (o9, .inl (c2, 13, .inr (.inr (.inr (.inr (fun i => if i < 13 then some (g10 i) else none)))))), (g10 0, .inl (cI, 12, .inl (fun _ => 0))), (o11, .inl (cI, 4096, .inl (fun _ => 0)))] sz) [] t) (va_A [(o0, .inr (11, [.ref o3, .ref o12, .ref o1, .ref o13, .ref o14, .ref o15, .ref o16, .ref o17, .ref o18, .ref o19, .ref o20, .ref o21, .int 0])), (o1, .inr (6, [.ref o2, .ref o7, .ref o22, .ref o23, .int 0, .int 0, .int 0, .int 0, .int 0])), (o2, .inr (3, [.ref o4, .int 0])), (o3, .inr (4, [.ref o5, .int 0, .int 0])), (o4, .inl (c2, 13, .inr (.inr (.inr (.inr (fun i => if i < 13 then some (g6 i) else none)))))), (o5, .inl (cI, 12, .inl (fun _ => 0))), (g6 0, .inl (cI, 12, .inl (fun _ => 0))), (o7, .inr (5, [.ref o8, .ref o11, .ref o24, .int 0, .int 0, .int 0])), (o8, .inr (3, [.ref o9, .int 0])), (o9, .inl (c2, 13, .inr (.inr (.inr (.inr (fun i => if i < 13 then some (g10 i) else none)))))), (g10 0, .inl (cI, 12, .inl (fun _ => 0))), (o11, .inl (cI, 4096, .inl (fun _ => 0)))] sz)) 0 0 (va_A [(o0, .inr (11, [.ref o3, .ref o12, .ref o1, .ref o13, .ref o14, .ref o15, .ref o16, .ref o17, .ref o18, .ref o19, .ref o20, .ref o21, .int 0])), (o1, .inr (6, [.ref o2, .ref o7, .ref o22, .ref o23, .int 0, .int 0, .int 0, .int 0, .int 0])), (o2, .inr (3, [.ref o4, .int 0])), (o3, .inr (4, [.ref o5, .int 0, .int 0])), (o4, .inl (c2, 13, .inr (.inr (.inr (.inr (fun i => if i < 13 then some (g6 i) else none)))))), (o5, .inl (cI, 12, .inl (fun _ => 0))), (g6 0, .inl (cI, 12, .inl (fun _ => 0))), (o7, .inr (5, [.ref o8, .ref o11, .ref o24, .int 0, .int 0, .int 0])), (o8, .inr (3, [.ref o9, .int 0])), (o9, .inl (c2, 13, .inr (.inr (.inr (.inr (fun i => if i < 13 then some (g10 i) else none)))))), (g10 0, .inl (cI, 12, .inl (fun _ => 0))), (o11, .inl (cI, 4096, .inl (fun _ => 0)))] sz) := by
  refine Met.ofW (cc := cX11_least) (maxL := 2) (ret := (some .int)) (by decide) rfl ?_
  intro p e s m args below meth c s₁ B hml hv
  obtain ⟨rfl, hsz, hP, hK, hD0, hN⟩ := hv
  have hx := B.exec
  have hb := B.bytes
  have hr := B.returns
  have hts := atoms_spec (ws := wsX11_least) B.pre
  have hown : s.vm.findClass RX11 = some m.cls := findClass_of_methodNamed B.named
  have hlocks := B.notSynchronized
  subst hsz
  have hD := hD0.self (sz := s.heap.size)
  generalize hAe : va_A [(o0, .inr (11, [.ref o3, .ref o12, .ref o1, .ref o13, .ref o14, .ref o15, .ref o16, .ref o17, .ref o18, .ref o19, .ref o20, .ref o21, .int 0])), (o1, .inr (6, [.ref o2, .ref o7, .ref o22, .ref o23, .int 0, .int 0, .int 0, .int 0, .int 0])), (o2, .inr (3, [.ref o4, .int 0])), (o3, .inr (4, [.ref o5, .int 0, .int 0])), (o4, .inl (c2, 13, .inr (.inr (.inr (.inr (fun i => if i < 13 then some (g6 i) else none)))))), (o5, .inl (cI, 12, .inl (fun _ => 0))), (g6 0, .inl (cI, 12, .inl (fun _ => 0))), (o7, .inr (5, [.ref o8, .ref o11, .ref o24, .int 0, .int 0, .int 0])), (o8, .inr (3, [.ref o9, .int 0])), (o9, .inl (c2, 13, .inr (.inr (.inr (.inr (fun i => if i < 13 then some (g10 i) else none)))))), (g10 0, .inl (cI, 12, .inl (fun _ => 0))), (o11, .inl (cI, 4096, .inl (fun _ => 0)))] s.heap.size = A at hD ⊢
  have hA : ∀ q : Nat, s.heap.size ≤ q → A q := fun q h => by rw [← hAe]; exact Or.inr h
  have hS : va_S A s.heap s.heap [] := va_S.rf
  have hP : va_P (dC, dI) vwCl [(o0, .inr (11, [.ref o3, .ref o12, .ref o1, .ref o13, .ref o14, .ref o15, .ref o16, .ref o17, .ref o18, .ref o19, .ref o20, .ref o21, .int 0])), (o1, .inr (6, [.ref o2, .ref o7, .ref o22, .ref o23, .int 0, .int 0, .int 0, .int 0, .int 0])), (o2, .inr (3, [.ref o4, .int 0])), (o3, .inr (4, [.ref o5, .int 0, .int 0])), (o4, .inl (c2, 13, .inr (.inr (.inr (.inr (fun i => if i < 13 then some (g6 i) else none)))))), (o5, .inl (cI, 12, .inl (fun _ => 0))), (g6 0, .inl (cI, 12, .inl (fun _ => 0))), (o7, .inr (5, [.ref o8, .ref o11, .ref o24, .int 0, .int 0, .int 0])), (o8, .inr (3, [.ref o9, .int 0])), (o9, .inl (c2, 13, .inr (.inr (.inr (.inr (fun i => if i < 13 then some (g10 i) else none)))))), (g10 0, .inl (cI, 12, .inl (fun _ => 0))), (o11, .inl (cI, 4096, .inl (fun _ => 0)))] s.heap := hP
  have hl := lv_entry ([.ref o0, .int 0]) (n := 2) (Nat.le_of_ble_eq_true rfl)
  rw [lg_entry_eq]
  generalize (lg_sl ([.ref o0, .int 0]) ++ List.replicate (2 - (lg_sl ([.ref o0, .int 0])).length) Slot.unset).toArray = ls at hl ⊢
  have hl : lv_has ls 2 [(0, .ref o0), (1, .int 0)] := hl
  refine lv_iload_n hx hb dX11_least_0 rfl (lv_at hl 1 rfl) ?_
  refine lv_if_eq (tgt := 11) hx hb dX11_least_1 (by decide) (fun _ => ?_) (fun h9 => absurd (by decide +kernel) h9)
  refine lv_aload_n hx hb dX11_least_11 rfl (lv_at hl 0 rfl) ?_
  refine va_get (D := (dC, dI)) (ci := 11) (v := .ref o1) (C := RX11) (T := TX11) (N := 13) hx hb hts iw_X11_least_X11 hown hK hP 0 rfl rfl 2 (by decide) (hts (.fieldLink RX11 26 "HolelessHouse" "ordering" "LHolelessHouse$Ordering;") (by decide +kernel)) (fun _ h9 => h9) rfl dX11_least_12 ?_
  refine lv_aload_n hx hb dX11_least_15 rfl (lv_at hl 0 rfl) ?_
  refine va_get (D := (dC, dI)) (ci := 11) (v := .ref o3) (C := RX11) (T := TX11) (N := 13) hx hb hts iw_X11_least_X11 hown hK hP 0 rfl rfl 0 (by decide) (hts (.fieldLink RX11 10 "HolelessHouse" "graph" "LHolelessHouse$Graph;") (by decide +kernel)) (fun _ h9 => h9) rfl dX11_least_16 ?_
  refine lv_iload_n hx hb dX11_least_19 rfl (lv_at hl 1 rfl) ?_
  refine kcall_v (D := (dC, dI)) (S := Unit) (wc := [(o1, .inr (6, [.ref o2, .ref o7, .ref o22, .ref o23, .int 0, .int 0, .int 0, .int 0, .int 0])), (o2, .inr (3, [.ref o4, .int 0])), (o3, .inr (4, [.ref o5, .int 0, .int 0])), (o4, .inl (c2, 13, .inr (.inr (.inr (.inr (fun i => if i < 13 then some (g6 i) else none)))))), (o5, .inl (cI, 12, .inl (fun _ => 0))), (g6 0, .inl (cI, 12, .inl (fun _ => 0))), (o7, .inr (5, [.ref o8, .ref o11, .ref o24, .int 0, .int 0, .int 0])), (o8, .inr (3, [.ref o9, .int 0])), (o9, .inl (c2, 13, .inr (.inr (.inr (.inr (fun i => if i < 13 then some (g10 i) else none)))))), (g10 0, .inl (cI, 12, .inl (fun _ => 0))), (o11, .inl (cI, 4096, .inl (fun _ => 0)))]) (wr := [(o0, .inr (11, [.ref o3, .ref o12, .ref o1, .ref o13, .ref o14, .ref o15, .ref o16, .ref o17, .ref o18, .ref o19, .ref o20, .ref o21, .int 0]))]) (w1 := fun _ => [(o1, .inr (6, [.ref o2, .ref o7, .ref o22, .ref o23, .int 0, .int 0, .int 1, .int 0, .int 0])), (o2, .inr (3, [.ref o4, .int 0])), (o4, .inl (c2, 13, .inr (.inr (.inr (.inr (fun i => if i < 13 then some (g6 i) else none)))))), (g6 0, .inl (cI, 12, .inl (fun _ => 0))), (o8, .inr (3, [.ref o9, .int 0])), (o9, .inl (c2, 13, .inr (.inr (.inr (.inr (fun i => if i < 13 then some (g10 i) else none)))))), (o5, .inl (cI, 12, .inl (fun _ => 0))), (g10 0, .inl (cI, 12, .inl (fun _ => 0))), (o3, .inr (4, [.ref o5, .int 0, .int 0])), (o7, .inr (5, [.ref o8, .ref o11, .ref o24, .int 2, .int 0, .int 0])), (o11, .inl (cI, 4096, .inl (upd (upd (fun _ => 0) (Int32.toNatClampNeg 0) (-1)) (Int32.toNatClampNeg 0) 0)))]) (fun hPc hDc => va_runVN (As := [.ref o3, .int 0]) (rest := []) ⟨hx, hb, hml, hown, hts⟩ (kX6_followLeast_1 l dC dI cI c2 o1 o3 o2 o4 o5 g6 o7 o8 o9 g10 o11 o22 o23 o24 s.heap.size) ⟨va_cnB 2 hts gX11_least_X6_followLeast_n177 rfl rfl rfl (hN.1 _ ns_91) (hts (.initialized RX6) (by decide +kernel)) (by decide +kernel) ⟨Nat.le_of_ble_eq_true rfl, Nat.le_of_ble_eq_true rfl⟩, (hts (.instanceMethod yX6_followLeast) (by decide +kernel)), (hts (.selects RX6 yX6_followLeast yX6_followLeast) (by decide +kernel))⟩ (pre_V hPc hK hDc hN (ci := 6) (q0 := 0) rfl rfl) rfl rfl hl.1 rfl (lv_room (Nat.le_of_ble_eq_true rfl)) dX11_least_20 ⟨Nat.le_of_ble_eq_true rfl, Nat.le_of_ble_eq_true rfl⟩) hP hD hS hA [1, 2, 3, 4, 5, 6, 7, 8, 9, 10, 11] [0] rfl rfl (by decide) (by decide) (by decide) (fun u H locs hP hD hS => ?_)
  have hP : va_P (dC, dI) vwCl [(o0, .inr (11, [.ref o3, .ref o12, .ref o1, .ref o13, .ref o14, .ref o15, .ref o16, .ref o17, .ref o18, .ref o19, .ref o20, .ref o21, .int 0])), (o1, .inr (6, [.ref o2, .ref o7, .ref o22, .ref o23, .int 0, .int 0, .int 1, .int 0, .int 0])), (o2, .inr (3, [.ref o4, .int 0])), (o4, .inl (c2, 13, .inr (.inr (.inr (.inr (fun i => if i < 13 then some (g6 i) else none)))))), (g6 0, .inl (cI, 12, .inl (fun _ => 0))), (o8, .inr (3, [.ref o9, .int 0])), (o9, .inl (c2, 13, .inr (.inr (.inr (.inr (fun i => if i < 13 then some (g10 i) else none)))))), (o5, .inl (cI, 12, .inl (fun _ => 0))), (g10 0, .inl (cI, 12, .inl (fun _ => 0))), (o3, .inr (4, [.ref o5, .int 0, .int 0])), (o7, .inr (5, [.ref o8, .ref o11, .ref o24, .int 2, .int 0, .int 0])), (o11, .inl (cI, 4096, .inl (upd (upd (fun _ => 0) (Int32.toNatClampNeg 0) (-1)) (Int32.toNatClampNeg 0) 0)))] H := hP
  have hD : va_D A [(o0, .inr (11, [.ref o3, .ref o12, .ref o1, .ref o13, .ref o14, .ref o15, .ref o16, .ref o17, .ref o18, .ref o19, .ref o20, .ref o21, .int 0])), (o1, .inr (6, [.ref o2, .ref o7, .ref o22, .ref o23, .int 0, .int 0, .int 1, .int 0, .int 0])), (o2, .inr (3, [.ref o4, .int 0])), (o4, .inl (c2, 13, .inr (.inr (.inr (.inr (fun i => if i < 13 then some (g6 i) else none)))))), (g6 0, .inl (cI, 12, .inl (fun _ => 0))), (o8, .inr (3, [.ref o9, .int 0])), (o9, .inl (c2, 13, .inr (.inr (.inr (.inr (fun i => if i < 13 then some (g10 i) else none)))))), (o5, .inl (cI, 12, .inl (fun _ => 0))), (g10 0, .inl (cI, 12, .inl (fun _ => 0))), (o3, .inr (4, [.ref o5, .int 0, .int 0])), (o7, .inr (5, [.ref o8, .ref o11, .ref o24, .int 2, .int 0, .int 0])), (o11, .inl (cI, 4096, .inl (upd (upd (fun _ => 0) (Int32.toNatClampNeg 0) (-1)) (Int32.toNatClampNeg 0) 0)))] := hD
  refine lv_iload_n hx hb dX11_least_23 rfl (lv_at hl 1 rfl) ?_
  refine lv_if_ne (tgt := 37) hx hb dX11_least_24 (by decide) (fun h9 => absurd (by decide +kernel) h9) (fun _ => ?_)
  refine lv_aload_n hx hb dX11_least_27 rfl (lv_at hl 0 rfl) ?_
  refine va_get (D := (dC, dI)) (ci := 11) (v := .ref o1) (C := RX11) (T := TX11) (N := 13) hx hb hts iw_X11_least_X11 hown hK hP 0 rfl rfl 2 (by decide) (hts (.fieldLink RX11 26 "HolelessHouse" "ordering" "LHolelessHouse$Ordering;") (by decide +kernel)) (fun _ h9 => h9) rfl dX11_least_28 ?_
  refine va_getN (D := (dC, dI)) (ci := 6) (v := .int 0) (C := RX6) (T := TX6) (N := 9) hx hb hts iw_X11_least_X6 hown hK hP 1 rfl rfl 7 (by decide) (hN.use ns_29) (fun _ h9 => h9) rfl dX11_least_31 ?_
  refine lv_goto (tgt := 44) hx hb dX11_least_34 (by decide) ?_
  have hP9 := hP.sub (ws' := []) [] rfl
  have hD9 := hD.sub (ws' := []) [] (by decide) rfl
  exact W.iret (v := 0) hx hb hr (fun t ht hW => ⟨⟨0, (), rfl, rfl, by rw [ht]; exact hP9, va_K.moved hW.alike hK, hD9⟩, hS.F ht⟩) hS.2.2 dX11_least_44
set_option maxHeartbeats 1000000 in
set_option maxRecDepth 100000 in
theorem kX12_in_10 (l : Launch) (dC : Nat → ClassId) (dI : Nat → Nat → Nat) (cI c2 : ClassId) (sz : Nat) : Met l yX12_in wsX12_in ({ frames := 0, cells := 0, slots := 0, locals := 0 }) (va_Pc [.int 0, .int 0, .int 1] (wPre (dC, dI) [(cI, .int), (c2, .array .int)] [] sz)) (va_Qi (fun (r : Int32) (_ : Unit) => r = 1) (fun _ t => wPost (dC, dI) [(cI, .int), (c2, .array .int)] (va_A [] sz) [] t) (va_A [] sz)) 0 0 (va_A [] sz) := by
  refine Met.ofW (cc := cX12_in) (maxL := 3) (ret := (some .boolean)) (by decide) rfl ?_
  intro p e s m args below meth c s₁ B hml hv
  obtain ⟨rfl, hsz, hP, hK, hD0, hN⟩ := hv
  have hx := B.exec
  have hb := B.bytes
  have hr := B.returns
  have hts := atoms_spec (ws := wsX12_in) B.pre
  have hown : s.vm.findClass RX12 = some m.cls := findClass_of_methodNamed B.named
  have hlocks := B.notSynchronized
  subst hsz
  have hD := hD0.self (sz := s.heap.size)
  generalize hAe : va_A [] s.heap.size = A at hD ⊢
  have hA : ∀ q : Nat, s.heap.size ≤ q → A q := fun q h => by rw [← hAe]; exact Or.inr h
  have hS : va_S A s.heap s.heap [] := va_S.rf
  have hP : va_P (dC, dI) vwCl [] s.heap := hP
  have hl := lv_entry ([.int 0, .int 0, .int 1]) (n := 3) (Nat.le_of_ble_eq_true rfl)
  rw [lg_entry_eq]
  generalize (lg_sl ([.int 0, .int 0, .int 1]) ++ List.replicate (3 - (lg_sl ([.int 0, .int 0, .int 1])).length) Slot.unset).toArray = ls at hl ⊢
  have hl : lv_has ls 3 [(0, .int 0), (1, .int 0), (2, .int 1)] := hl
  refine lv_iload_n hx hb dX12_in_0 rfl (lv_at hl 0 rfl) ?_
  refine lv_iload_n hx hb dX12_in_1 rfl (lv_at hl 1 rfl) ?_
  refine lv_icmp_lt (tgt := 14) hx hb dX12_in_2 (by decide) (fun h9 => absurd h9 (by decide +kernel)) (fun _ => ?_)
  refine lv_iload_n hx hb dX12_in_5 rfl (lv_at hl 0 rfl) ?_
  refine lv_iload_n hx hb dX12_in_6 rfl (lv_at hl 2 rfl) ?_
  refine lv_icmp_gt (tgt := 14) hx hb dX12_in_7 (by decide) (fun h9 => absurd h9 (by decide +kernel)) (fun _ => ?_)
  refine lv_iconst (v := 1) hx hb dX12_in_10 (by decide) ?_
  refine lv_goto (tgt := 15) hx hb dX12_in_11 (by decide) ?_
  have hP9 := hP.sub (ws' := []) [] rfl
  have hD9 := hD.sub (ws' := []) [] (by decide) rfl
  exact W.zret (v := 1) (ty := .boolean) hx hb hr rfl (fun t ht hW => ⟨⟨1, (), rfl, rfl, by rw [ht]; exact hP9, va_K.moved hW.alike hK, hD9⟩, hS.F ht⟩) hS.2.2 dX12_in_15
theorem iw_X12_setThen_X12 : ∀ w ∈ wsX120, w ∈ wsX12_setThen := by decide +kernel
set_option maxHeartbeats 1000000 in
set_option maxRecDepth 100000 in
theorem kX12_setThen_1 (l : Launch) (dC : Nat → ClassId) (dI : Nat → Nat → Nat) (cI c2 : ClassId) (o0 : Nat) (o1 : Nat) (o2 : Nat) (o3 : Nat) (o4 : Nat) (o5 : Nat) (o6 : Nat) (o7 : Nat) (o8 : Nat) (o9 : Nat) (o10 : Nat) (o11 : Nat) (o12 : Nat) (o13 : Nat) (o14 : Nat) (o15 : Nat) (o16 : Nat) (o17 : Nat) (o18 : Nat) (sz : Nat) : Met l yX12_setThen wsX12_setThen ({ frames := 1, cells := 0, slots := 0, locals := 20 }) (va_Pc [.ref o0] (wPre (dC, dI) [(cI, .int), (c2, .array .int)] [(o0, .inr (12, [.int 0, .ref o3, .int 0, .ref o1, .int 0, .ref o4, .ref o5, .int 0, .ref o6, .int 0, .ref o7, .int (-9), .int 0, .int 0, .ref o8, .ref o9, .ref o2, .ref o10, .ref o11, .int 0, .ref o12, .ref o13, .ref o14, .int 0, .ref o15, .ref o16, .ref o17, .int 0, .ref o18])), (o1, .inl (cI, 12, .inl (fun _ => 0))), (o2, .inl (cI, 49152, .inl (fun _ => 0)))] sz)) (va_Qv (fun (_ : Unit) => True) (fun _ t => wPost (dC, dI) [(cI, .int), (c2, .array .int)] (va_A [(o0, .inr (12, [.int 0, .ref o3, .int 0, .ref o1, .int 0, .ref o4, .ref o5, .int 0, .ref o6, .int 0, .ref o7, .int (-9), .int 0, .int 0, .ref o8, .ref o9, .ref o2, .ref o10, .ref o11, .int 0, .ref o12, .ref o13, .ref o14, .int 0, .ref o15, .ref o16, .ref o17, .int 0, .ref o18])), (o1, .inl (cI, 12, .inl (fun _ => 0))), (o2, .inl (cI, 49152, .inl (fun _ => 0)))] sz) [(o1, .inl (cI, 12, .inl (fun _ => 0))), (o2, .inl (cI, 49152, .inl (upd (upd (upd (upd (upd (upd (upd (upd (upd (upd (upd (upd (fun _ => 0) (Int32.toNatClampNeg 0) 0) (Int32.toNatClampNeg 1) 0) (Int32.toNatClampNeg 2) 0) (Int32.toNatClampNeg 3) 0) (Int32.toNatClampNeg 4) 0) (Int32.toNatClampNeg 5) 0) (Int32.toNatClampNeg 6) 0) (Int32.toNatClampNeg 7) 0) (Int32.toNatClampNeg 8) 0) (Int32.toNatClampNeg 9) 0) (Int32.toNatClampNeg 10) 0) (Int32.toNatClampNeg 11) 0))), (o0, .inr (12, [.int 0, .ref o3, .int 0, .ref o1, .int 0, .ref o4, .ref o5, .int 0, .ref o6, .int 0, .ref o7, .int (-9), .int 0, .int 0, .ref o8, .ref o9, .ref o2, .ref o10, .ref o11, .int 0, .ref o12, .ref o13, .ref o14, .int 0, .ref o15, .ref o16, .ref o17, .int 0, .ref o18]))] t) (va_A [(o0, .inr (12, [.int 0, .ref o3, .int 0, .ref o1, .int 0, .ref o4, .ref o5, .int 0, .ref o6, .int 0, .ref o7, .int (-9), .int 0, .int 0, .ref o8, .ref o9, .ref o2, .ref o10, .ref o11, .int 0, .ref o12, .ref o13, .ref o14, .int 0, .ref o15, .ref o16, .ref o17, .int 0, .ref o18])), (o1, .inl (cI, 12, .inl (fun _ => 0))), (o2, .inl (cI, 49152, .inl (fun _ => 0)))] sz)) 0 0 (va_A [(o0, .inr (12, [.int 0, .ref o3, .int 0, .ref o1, .int 0, .ref o4, .ref o5, .int 0, .ref o6, .int 0, .ref o7, .int (-9), .int 0, .int 0, .ref o8, .ref o9, .ref o2, .ref o10, .ref o11, .int 0, .ref o12, .ref o13, .ref o14, .int 0, .ref o15, .ref o16, .ref o17, .int 0, .ref o18])), (o1, .inl (cI, 12, .inl (fun _ => 0))), (o2, .inl (cI, 49152, .inl (fun _ => 0)))] sz) := by
  refine Met.ofW (cc := cX12_setThen) (maxL := 7) (ret := none) (by decide) rfl ?_
  intro p e s m args below meth c s₁ B hml hv
  obtain ⟨rfl, hsz, hP, hK, hD0, hN⟩ := hv
  have hx := B.exec
  have hb := B.bytes
  have hr := B.returns
  have hts := atoms_spec (ws := wsX12_setThen) B.pre
  have hown : s.vm.findClass RX12 = some m.cls := findClass_of_methodNamed B.named
  have hlocks := B.notSynchronized
  subst hsz
  have hD := hD0.self (sz := s.heap.size)
  generalize hAe : va_A [(o0, .inr (12, [.int 0, .ref o3, .int 0, .ref o1, .int 0, .ref o4, .ref o5, .int 0, .ref o6, .int 0, .ref o7, .int (-9), .int 0, .int 0, .ref o8, .ref o9, .ref o2, .ref o10, .ref o11, .int 0, .ref o12, .ref o13, .ref o14, .int 0, .ref o15, .ref o16, .ref o17, .int 0, .ref o18])), (o1, .inl (cI, 12, .inl (fun _ => 0))), (o2, .inl (cI, 49152, .inl (fun _ => 0)))] s.heap.size = A at hD ⊢
  have hA : ∀ q : Nat, s.heap.size ≤ q → A q := fun q h => by rw [← hAe]; exact Or.inr h
  have hS : va_S A s.heap s.heap [] := va_S.rf
  have hP : va_P (dC, dI) vwCl [(o0, .inr (12, [.int 0, .ref o3, .int 0, .ref o1, .int 0, .ref o4, .ref o5, .int 0, .ref o6, .int 0, .ref o7, .int (-9), .int 0, .int 0, .ref o8, .ref o9, .ref o2, .ref o10, .ref o11, .int 0, .ref o12, .ref o13, .ref o14, .int 0, .ref o15, .ref o16, .ref o17, .int 0, .ref o18])), (o1, .inl (cI, 12, .inl (fun _ => 0))), (o2, .inl (cI, 49152, .inl (fun _ => 0)))] s.heap := hP
  have hl := lv_entry ([.ref o0]) (n := 7) (Nat.le_of_ble_eq_true rfl)
  rw [lg_entry_eq]
  generalize (lg_sl ([.ref o0]) ++ List.replicate (7 - (lg_sl ([.ref o0])).length) Slot.unset).toArray = ls at hl ⊢
  have hl : lv_has ls 7 [(0, .ref o0)] := hl
  refine lv_iconst (v := 0) hx hb dX12_setThen_0 (by decide) ?_
  refine lv_istore_n (lv' := [(1, .int 0), (0, .ref o0)]) hx hb dX12_setThen_1 rfl hl (by decide) rfl (fun ls hl => ?_)
  refine lv_iload_n hx hb dX12_setThen_2 rfl (lv_at hl 0 rfl) ?_
  refine lv_bipush (v := 12) hx hb dX12_setThen_3 (by decide) ?_
  refine lv_icmp_ge (tgt := 26) hx hb dX12_setThen_5 (by decide) (fun h9 => absurd h9 (by decide +kernel)) (fun _ => ?_)
  refine lv_aload_n hx hb dX12_setThen_8 rfl (lv_at hl 1 rfl) ?_
  refine va_get (D := (dC, dI)) (ci := 12) (v := .ref o2) (C := RX12) (T := TX12) (N := 29) hx hb hts iw_X12_setThen_X12 hown hK hP 0 rfl rfl 16 (by decide) (hts (.fieldLink RX12 39 "HolelessHouseModel" "nearThen" "[I") (by decide +kernel)) (fun _ h9 => h9) rfl dX12_setThen_9 ?_
  refine lv_iload_n hx hb dX12_setThen_12 rfl (lv_at hl 0 rfl) ?_
  refine lv_aload_n hx hb dX12_setThen_13 rfl (lv_at hl 1 rfl) ?_
  refine va_get (D := (dC, dI)) (ci := 12) (v := .ref o1) (C := RX12) (T := TX12) (N := 29) hx hb hts iw_X12_setThen_X12 hown hK hP 0 rfl rfl 3 (by decide) (hts (.fieldLink RX12 13 "HolelessHouseModel" "near" "[I") (by decide +kernel)) (fun _ h9 => h9) rfl dX12_setThen_14 ?_
  refine lv_iload_n hx hb dX12_setThen_17 rfl (lv_at hl 0 rfl) ?_
  refine va_iald hx hb hK hP 1 0 rfl rfl (vin (by decide +kernel)) dX12_setThen_18 (tk_i (v := 0) (by decide +kernel) ?_)
  refine va_iast hx hb hK hP hD hS 2 0 rfl rfl (vin (by decide +kernel)) dX12_setThen_19 (fun H locs hP hD hS => ?_)
  have hP : va_P (dC, dI) vwCl [(o0, .inr (12, [.int 0, .ref o3, .int 0, .ref o1, .int 0, .ref o4, .ref o5, .int 0, .ref o6, .int 0, .ref o7, .int (-9), .int 0, .int 0, .ref o8, .ref o9, .ref o2, .ref o10, .ref o11, .int 0, .ref o12, .ref o13, .ref o14, .int 0, .ref o15, .ref o16, .ref o17, .int 0, .ref o18])), (o1, .inl (cI, 12, .inl (fun _ => 0))), (o2, .inl (cI, 49152, .inl (upd (fun _ => 0) (Int32.toNatClampNeg 0) 0)))] H := hP
  have hD : va_D A [(o0, .inr (12, [.int 0, .ref o3, .int 0, .ref o1, .int 0, .ref o4, .ref o5, .int 0, .ref o6, .int 0, .ref o7, .int (-9), .int 0, .int 0, .ref o8, .ref o9, .ref o2, .ref o10, .ref o11, .int 0, .ref o12, .ref o13, .ref o14, .int 0, .ref o15, .ref o16, .ref o17, .int 0, .ref o18])), (o1, .inl (cI, 12, .inl (fun _ => 0))), (o2, .inl (cI, 49152, .inl (upd (fun _ => 0) (Int32.toNatClampNeg 0) 0)))] := hD
  refine lv_iinc (v := 1) (lv' := [(1, .int 1), (0, .ref o0)]) hx hb dX12_setThen_20 hl (k := 0) rfl (by decide +kernel) (by decide) rfl (fun ls hl => ?_)
  refine lv_goto (tgt := 2) hx hb dX12_setThen_23 (by decide) ?_
  refine lv_iload_n hx hb dX12_setThen_2 rfl (lv_at hl 0 rfl) ?_
  refine lv_bipush (v := 12) hx hb dX12_setThen_3 (by decide) ?_
  refine lv_icmp_ge (tgt := 26) hx hb dX12_setThen_5 (by decide) (fun h9 => absurd h9 (by decide +kernel)) (fun _ => ?_)
  refine lv_aload_n hx hb dX12_setThen_8 rfl (lv_at hl 1 rfl) ?_
  refine va_get (D := (dC, dI)) (ci := 12) (v := .ref o2) (C := RX12) (T := TX12) (N := 29) hx hb hts iw_X12_setThen_X12 hown hK hP 0 rfl rfl 16 (by decide) (hts (.fieldLink RX12 39 "HolelessHouseModel" "nearThen" "[I") (by decide +kernel)) (fun _ h9 => h9) rfl dX12_setThen_9 ?_
  refine lv_iload_n hx hb dX12_setThen_12 rfl (lv_at hl 0 rfl) ?_
  refine lv_aload_n hx hb dX12_setThen_13 rfl (lv_at hl 1 rfl) ?_
  refine va_get (D := (dC, dI)) (ci := 12) (v := .ref o1) (C := RX12) (T := TX12) (N := 29) hx hb hts iw_X12_setThen_X12 hown hK hP 0 rfl rfl 3 (by decide) (hts (.fieldLink RX12 13 "HolelessHouseModel" "near" "[I") (by decide +kernel)) (fun _ h9 => h9) rfl dX12_setThen_14 ?_
  refine lv_iload_n hx hb dX12_setThen_17 rfl (lv_at hl 0 rfl) ?_
  refine va_iald hx hb hK hP 1 0 rfl rfl (vin (by decide +kernel)) dX12_setThen_18 (tk_i (v := 0) (by decide +kernel) ?_)
  refine va_iast hx hb hK hP hD hS 2 0 rfl rfl (vin (by decide +kernel)) dX12_setThen_19 (fun H locs hP hD hS => ?_)
  have hP : va_P (dC, dI) vwCl [(o0, .inr (12, [.int 0, .ref o3, .int 0, .ref o1, .int 0, .ref o4, .ref o5, .int 0, .ref o6, .int 0, .ref o7, .int (-9), .int 0, .int 0, .ref o8, .ref o9, .ref o2, .ref o10, .ref o11, .int 0, .ref o12, .ref o13, .ref o14, .int 0, .ref o15, .ref o16, .ref o17, .int 0, .ref o18])), (o1, .inl (cI, 12, .inl (fun _ => 0))), (o2, .inl (cI, 49152, .inl (upd (upd (fun _ => 0) (Int32.toNatClampNeg 0) 0) (Int32.toNatClampNeg 1) 0)))] H := hP
  have hD : va_D A [(o0, .inr (12, [.int 0, .ref o3, .int 0, .ref o1, .int 0, .ref o4, .ref o5, .int 0, .ref o6, .int 0, .ref o7, .int (-9), .int 0, .int 0, .ref o8, .ref o9, .ref o2, .ref o10, .ref o11, .int 0, .ref o12, .ref o13, .ref o14, .int 0, .ref o15, .ref o16, .ref o17, .int 0, .ref o18])), (o1, .inl (cI, 12, .inl (fun _ => 0))), (o2, .inl (cI, 49152, .inl (upd (upd (fun _ => 0) (Int32.toNatClampNeg 0) 0) (Int32.toNatClampNeg 1) 0)))] := hD
  refine lv_iinc (v := 2) (lv' := [(1, .int 2), (0, .ref o0)]) hx hb dX12_setThen_20 hl (k := 0) rfl (by decide +kernel) (by decide) rfl (fun ls hl => ?_)
  refine lv_goto (tgt := 2) hx hb dX12_setThen_23 (by decide) ?_
  refine lv_iload_n hx hb dX12_setThen_2 rfl (lv_at hl 0 rfl) ?_
  refine lv_bipush (v := 12) hx hb dX12_setThen_3 (by decide) ?_
  refine lv_icmp_ge (tgt := 26) hx hb dX12_setThen_5 (by decide) (fun h9 => absurd h9 (by decide +kernel)) (fun _ => ?_)
  refine lv_aload_n hx hb dX12_setThen_8 rfl (lv_at hl 1 rfl) ?_
  refine va_get (D := (dC, dI)) (ci := 12) (v := .ref o2) (C := RX12) (T := TX12) (N := 29) hx hb hts iw_X12_setThen_X12 hown hK hP 0 rfl rfl 16 (by decide) (hts (.fieldLink RX12 39 "HolelessHouseModel" "nearThen" "[I") (by decide +kernel)) (fun _ h9 => h9) rfl dX12_setThen_9 ?_
  refine lv_iload_n hx hb dX12_setThen_12 rfl (lv_at hl 0 rfl) ?_
  refine lv_aload_n hx hb dX12_setThen_13 rfl (lv_at hl 1 rfl) ?_
  refine va_get (D := (dC, dI)) (ci := 12) (v := .ref o1) (C := RX12) (T := TX12) (N := 29) hx hb hts iw_X12_setThen_X12 hown hK hP 0 rfl rfl 3 (by decide) (hts (.fieldLink RX12 13 "HolelessHouseModel" "near" "[I") (by decide +kernel)) (fun _ h9 => h9) rfl dX12_setThen_14 ?_
  refine lv_iload_n hx hb dX12_setThen_17 rfl (lv_at hl 0 rfl) ?_
  refine va_iald hx hb hK hP 1 0 rfl rfl (vin (by decide +kernel)) dX12_setThen_18 (tk_i (v := 0) (by decide +kernel) ?_)
  refine va_iast hx hb hK hP hD hS 2 0 rfl rfl (vin (by decide +kernel)) dX12_setThen_19 (fun H locs hP hD hS => ?_)
  have hP : va_P (dC, dI) vwCl [(o0, .inr (12, [.int 0, .ref o3, .int 0, .ref o1, .int 0, .ref o4, .ref o5, .int 0, .ref o6, .int 0, .ref o7, .int (-9), .int 0, .int 0, .ref o8, .ref o9, .ref o2, .ref o10, .ref o11, .int 0, .ref o12, .ref o13, .ref o14, .int 0, .ref o15, .ref o16, .ref o17, .int 0, .ref o18])), (o1, .inl (cI, 12, .inl (fun _ => 0))), (o2, .inl (cI, 49152, .inl (upd (upd (upd (fun _ => 0) (Int32.toNatClampNeg 0) 0) (Int32.toNatClampNeg 1) 0) (Int32.toNatClampNeg 2) 0)))] H := hP
  have hD : va_D A [(o0, .inr (12, [.int 0, .ref o3, .int 0, .ref o1, .int 0, .ref o4, .ref o5, .int 0, .ref o6, .int 0, .ref o7, .int (-9), .int 0, .int 0, .ref o8, .ref o9, .ref o2, .ref o10, .ref o11, .int 0, .ref o12, .ref o13, .ref o14, .int 0, .ref o15, .ref o16, .ref o17, .int 0, .ref o18])), (o1, .inl (cI, 12, .inl (fun _ => 0))), (o2, .inl (cI, 49152, .inl (upd (upd (upd (fun _ => 0) (Int32.toNatClampNeg 0) 0) (Int32.toNatClampNeg 1) 0) (Int32.toNatClampNeg 2) 0)))] := hD
  refine lv_iinc (v := 3) (lv' := [(1, .int 3), (0, .ref o0)]) hx hb dX12_setThen_20 hl (k := 0) rfl (by decide +kernel) (by decide) rfl (fun ls hl => ?_)
  refine lv_goto (tgt := 2) hx hb dX12_setThen_23 (by decide) ?_
  refine lv_iload_n hx hb dX12_setThen_2 rfl (lv_at hl 0 rfl) ?_
  refine lv_bipush (v := 12) hx hb dX12_setThen_3 (by decide) ?_
  refine lv_icmp_ge (tgt := 26) hx hb dX12_setThen_5 (by decide) (fun h9 => absurd h9 (by decide +kernel)) (fun _ => ?_)
  refine lv_aload_n hx hb dX12_setThen_8 rfl (lv_at hl 1 rfl) ?_
  refine va_get (D := (dC, dI)) (ci := 12) (v := .ref o2) (C := RX12) (T := TX12) (N := 29) hx hb hts iw_X12_setThen_X12 hown hK hP 0 rfl rfl 16 (by decide) (hts (.fieldLink RX12 39 "HolelessHouseModel" "nearThen" "[I") (by decide +kernel)) (fun _ h9 => h9) rfl dX12_setThen_9 ?_
  refine lv_iload_n hx hb dX12_setThen_12 rfl (lv_at hl 0 rfl) ?_
  refine lv_aload_n hx hb dX12_setThen_13 rfl (lv_at hl 1 rfl) ?_
  refine va_get (D := (dC, dI)) (ci := 12) (v := .ref o1) (C := RX12) (T := TX12) (N := 29) hx hb hts iw_X12_setThen_X12 hown hK hP 0 rfl rfl 3 (by decide) (hts (.fieldLink RX12 13 "HolelessHouseModel" "near" "[I") (by decide +kernel)) (fun _ h9 => h9) rfl dX12_setThen_14 ?_
  refine lv_iload_n hx hb dX12_setThen_17 rfl (lv_at hl 0 rfl) ?_
  refine va_iald hx hb hK hP 1 0 rfl rfl (vin (by decide +kernel)) dX12_setThen_18 (tk_i (v := 0) (by decide +kernel) ?_)
  refine va_iast hx hb hK hP hD hS 2 0 rfl rfl (vin (by decide +kernel)) dX12_setThen_19 (fun H locs hP hD hS => ?_)
  have hP : va_P (dC, dI) vwCl [(o0, .inr (12, [.int 0, .ref o3, .int 0, .ref o1, .int 0, .ref o4, .ref o5, .int 0, .ref o6, .int 0, .ref o7, .int (-9), .int 0, .int 0, .ref o8, .ref o9, .ref o2, .ref o10, .ref o11, .int 0, .ref o12, .ref o13, .ref o14, .int 0, .ref o15, .ref o16, .ref o17, .int 0, .ref o18])), (o1, .inl (cI, 12, .inl (fun _ => 0))), (o2, .inl (cI, 49152, .inl (upd (upd (upd (upd (fun _ => 0) (Int32.toNatClampNeg 0) 0) (Int32.toNatClampNeg 1) 0) (Int32.toNatClampNeg 2) 0) (Int32.toNatClampNeg 3) 0)))] H := hP
  have hD : va_D A [(o0, .inr (12, [.int 0, .ref o3, .int 0, .ref o1, .int 0, .ref o4, .ref o5, .int 0, .ref o6, .int 0, .ref o7, .int (-9), .int 0, .int 0, .ref o8, .ref o9, .ref o2, .ref o10, .ref o11, .int 0, .ref o12, .ref o13, .ref o14, .int 0, .ref o15, .ref o16, .ref o17, .int 0, .ref o18])), (o1, .inl (cI, 12, .inl (fun _ => 0))), (o2, .inl (cI, 49152, .inl (upd (upd (upd (upd (fun _ => 0) (Int32.toNatClampNeg 0) 0) (Int32.toNatClampNeg 1) 0) (Int32.toNatClampNeg 2) 0) (Int32.toNatClampNeg 3) 0)))] := hD
  refine lv_iinc (v := 4) (lv' := [(1, .int 4), (0, .ref o0)]) hx hb dX12_setThen_20 hl (k := 0) rfl (by decide +kernel) (by decide) rfl (fun ls hl => ?_)
  refine lv_goto (tgt := 2) hx hb dX12_setThen_23 (by decide) ?_
  refine lv_iload_n hx hb dX12_setThen_2 rfl (lv_at hl 0 rfl) ?_
  refine lv_bipush (v := 12) hx hb dX12_setThen_3 (by decide) ?_
  refine lv_icmp_ge (tgt := 26) hx hb dX12_setThen_5 (by decide) (fun h9 => absurd h9 (by decide +kernel)) (fun _ => ?_)
  refine lv_aload_n hx hb dX12_setThen_8 rfl (lv_at hl 1 rfl) ?_
  refine va_get (D := (dC, dI)) (ci := 12) (v := .ref o2) (C := RX12) (T := TX12) (N := 29) hx hb hts iw_X12_setThen_X12 hown hK hP 0 rfl rfl 16 (by decide) (hts (.fieldLink RX12 39 "HolelessHouseModel" "nearThen" "[I") (by decide +kernel)) (fun _ h9 => h9) rfl dX12_setThen_9 ?_
  refine lv_iload_n hx hb dX12_setThen_12 rfl (lv_at hl 0 rfl) ?_
  refine lv_aload_n hx hb dX12_setThen_13 rfl (lv_at hl 1 rfl) ?_
  refine va_get (D := (dC, dI)) (ci := 12) (v := .ref o1) (C := RX12) (T := TX12) (N := 29) hx hb hts iw_X12_setThen_X12 hown hK hP 0 rfl rfl 3 (by decide) (hts (.fieldLink RX12 13 "HolelessHouseModel" "near" "[I") (by decide +kernel)) (fun _ h9 => h9) rfl dX12_setThen_14 ?_
  refine lv_iload_n hx hb dX12_setThen_17 rfl (lv_at hl 0 rfl) ?_
  refine va_iald hx hb hK hP 1 0 rfl rfl (vin (by decide +kernel)) dX12_setThen_18 (tk_i (v := 0) (by decide +kernel) ?_)
  refine va_iast hx hb hK hP hD hS 2 0 rfl rfl (vin (by decide +kernel)) dX12_setThen_19 (fun H locs hP hD hS => ?_)
  have hP : va_P (dC, dI) vwCl [(o0, .inr (12, [.int 0, .ref o3, .int 0, .ref o1, .int 0, .ref o4, .ref o5, .int 0, .ref o6, .int 0, .ref o7, .int (-9), .int 0, .int 0, .ref o8, .ref o9, .ref o2, .ref o10, .ref o11, .int 0, .ref o12, .ref o13, .ref o14, .int 0, .ref o15, .ref o16, .ref o17, .int 0, .ref o18])), (o1, .inl (cI, 12, .inl (fun _ => 0))), (o2, .inl (cI, 49152, .inl (upd (upd (upd (upd (upd (fun _ => 0) (Int32.toNatClampNeg 0) 0) (Int32.toNatClampNeg 1) 0) (Int32.toNatClampNeg 2) 0) (Int32.toNatClampNeg 3) 0) (Int32.toNatClampNeg 4) 0)))] H := hP
  have hD : va_D A [(o0, .inr (12, [.int 0, .ref o3, .int 0, .ref o1, .int 0, .ref o4, .ref o5, .int 0, .ref o6, .int 0, .ref o7, .int (-9), .int 0, .int 0, .ref o8, .ref o9, .ref o2, .ref o10, .ref o11, .int 0, .ref o12, .ref o13, .ref o14, .int 0, .ref o15, .ref o16, .ref o17, .int 0, .ref o18])), (o1, .inl (cI, 12, .inl (fun _ => 0))), (o2, .inl (cI, 49152, .inl (upd (upd (upd (upd (upd (fun _ => 0) (Int32.toNatClampNeg 0) 0) (Int32.toNatClampNeg 1) 0) (Int32.toNatClampNeg 2) 0) (Int32.toNatClampNeg 3) 0) (Int32.toNatClampNeg 4) 0)))] := hD
  refine lv_iinc (v := 5) (lv' := [(1, .int 5), (0, .ref o0)]) hx hb dX12_setThen_20 hl (k := 0) rfl (by decide +kernel) (by decide) rfl (fun ls hl => ?_)
  refine lv_goto (tgt := 2) hx hb dX12_setThen_23 (by decide) ?_
  refine lv_iload_n hx hb dX12_setThen_2 rfl (lv_at hl 0 rfl) ?_
  refine lv_bipush (v := 12) hx hb dX12_setThen_3 (by decide) ?_
  refine lv_icmp_ge (tgt := 26) hx hb dX12_setThen_5 (by decide) (fun h9 => absurd h9 (by decide +kernel)) (fun _ => ?_)
  refine lv_aload_n hx hb dX12_setThen_8 rfl (lv_at hl 1 rfl) ?_
  refine va_get (D := (dC, dI)) (ci := 12) (v := .ref o2) (C := RX12) (T := TX12) (N := 29) hx hb hts iw_X12_setThen_X12 hown hK hP 0 rfl rfl 16 (by decide) (hts (.fieldLink RX12 39 "HolelessHouseModel" "nearThen" "[I") (by decide +kernel)) (fun _ h9 => h9) rfl dX12_setThen_9 ?_
  refine lv_iload_n hx hb dX12_setThen_12 rfl (lv_at hl 0 rfl) ?_
  refine lv_aload_n hx hb dX12_setThen_13 rfl (lv_at hl 1 rfl) ?_
  refine va_get (D := (dC, dI)) (ci := 12) (v := .ref o1) (C := RX12) (T := TX12) (N := 29) hx hb hts iw_X12_setThen_X12 hown hK hP 0 rfl rfl 3 (by decide) (hts (.fieldLink RX12 13 "HolelessHouseModel" "near" "[I") (by decide +kernel)) (fun _ h9 => h9) rfl dX12_setThen_14 ?_
  refine lv_iload_n hx hb dX12_setThen_17 rfl (lv_at hl 0 rfl) ?_
  refine va_iald hx hb hK hP 1 0 rfl rfl (vin (by decide +kernel)) dX12_setThen_18 (tk_i (v := 0) (by decide +kernel) ?_)
  refine va_iast hx hb hK hP hD hS 2 0 rfl rfl (vin (by decide +kernel)) dX12_setThen_19 (fun H locs hP hD hS => ?_)
  have hP : va_P (dC, dI) vwCl [(o0, .inr (12, [.int 0, .ref o3, .int 0, .ref o1, .int 0, .ref o4, .ref o5, .int 0, .ref o6, .int 0, .ref o7, .int (-9), .int 0, .int 0, .ref o8, .ref o9, .ref o2, .ref o10, .ref o11, .int 0, .ref o12, .ref o13, .ref o14, .int 0, .ref o15, .ref o16, .ref o17, .int 0, .ref o18])), (o1, .inl (cI, 12, .inl (fun _ => 0))), (o2, .inl (cI, 49152, .inl (upd (upd (upd (upd (upd (upd (fun _ => 0) (Int32.toNatClampNeg 0) 0) (Int32.toNatClampNeg 1) 0) (Int32.toNatClampNeg 2) 0) (Int32.toNatClampNeg 3) 0) (Int32.toNatClampNeg 4) 0) (Int32.toNatClampNeg 5) 0)))] H := hP
  have hD : va_D A [(o0, .inr (12, [.int 0, .ref o3, .int 0, .ref o1, .int 0, .ref o4, .ref o5, .int 0, .ref o6, .int 0, .ref o7, .int (-9), .int 0, .int 0, .ref o8, .ref o9, .ref o2, .ref o10, .ref o11, .int 0, .ref o12, .ref o13, .ref o14, .int 0, .ref o15, .ref o16, .ref o17, .int 0, .ref o18])), (o1, .inl (cI, 12, .inl (fun _ => 0))), (o2, .inl (cI, 49152, .inl (upd (upd (upd (upd (upd (upd (fun _ => 0) (Int32.toNatClampNeg 0) 0) (Int32.toNatClampNeg 1) 0) (Int32.toNatClampNeg 2) 0) (Int32.toNatClampNeg 3) 0) (Int32.toNatClampNeg 4) 0) (Int32.toNatClampNeg 5) 0)))] := hD
  refine lv_iinc (v := 6) (lv' := [(1, .int 6), (0, .ref o0)]) hx hb dX12_setThen_20 hl (k := 0) rfl (by decide +kernel) (by decide) rfl (fun ls hl => ?_)
  refine lv_goto (tgt := 2) hx hb dX12_setThen_23 (by decide) ?_
  refine lv_iload_n hx hb dX12_setThen_2 rfl (lv_at hl 0 rfl) ?_
  refine lv_bipush (v := 12) hx hb dX12_setThen_3 (by decide) ?_
  refine lv_icmp_ge (tgt := 26) hx hb dX12_setThen_5 (by decide) (fun h9 => absurd h9 (by decide +kernel)) (fun _ => ?_)
  refine lv_aload_n hx hb dX12_setThen_8 rfl (lv_at hl 1 rfl) ?_
  refine va_get (D := (dC, dI)) (ci := 12) (v := .ref o2) (C := RX12) (T := TX12) (N := 29) hx hb hts iw_X12_setThen_X12 hown hK hP 0 rfl rfl 16 (by decide) (hts (.fieldLink RX12 39 "HolelessHouseModel" "nearThen" "[I") (by decide +kernel)) (fun _ h9 => h9) rfl dX12_setThen_9 ?_
  refine lv_iload_n hx hb dX12_setThen_12 rfl (lv_at hl 0 rfl) ?_
  refine lv_aload_n hx hb dX12_setThen_13 rfl (lv_at hl 1 rfl) ?_
  refine va_get (D := (dC, dI)) (ci := 12) (v := .ref o1) (C := RX12) (T := TX12) (N := 29) hx hb hts iw_X12_setThen_X12 hown hK hP 0 rfl rfl 3 (by decide) (hts (.fieldLink RX12 13 "HolelessHouseModel" "near" "[I") (by decide +kernel)) (fun _ h9 => h9) rfl dX12_setThen_14 ?_
  refine lv_iload_n hx hb dX12_setThen_17 rfl (lv_at hl 0 rfl) ?_
  refine va_iald hx hb hK hP 1 0 rfl rfl (vin (by decide +kernel)) dX12_setThen_18 (tk_i (v := 0) (by decide +kernel) ?_)
  refine va_iast hx hb hK hP hD hS 2 0 rfl rfl (vin (by decide +kernel)) dX12_setThen_19 (fun H locs hP hD hS => ?_)
  have hP : va_P (dC, dI) vwCl [(o0, .inr (12, [.int 0, .ref o3, .int 0, .ref o1, .int 0, .ref o4, .ref o5, .int 0, .ref o6, .int 0, .ref o7, .int (-9), .int 0, .int 0, .ref o8, .ref o9, .ref o2, .ref o10, .ref o11, .int 0, .ref o12, .ref o13, .ref o14, .int 0, .ref o15, .ref o16, .ref o17, .int 0, .ref o18])), (o1, .inl (cI, 12, .inl (fun _ => 0))), (o2, .inl (cI, 49152, .inl (upd (upd (upd (upd (upd (upd (upd (fun _ => 0) (Int32.toNatClampNeg 0) 0) (Int32.toNatClampNeg 1) 0) (Int32.toNatClampNeg 2) 0) (Int32.toNatClampNeg 3) 0) (Int32.toNatClampNeg 4) 0) (Int32.toNatClampNeg 5) 0) (Int32.toNatClampNeg 6) 0)))] H := hP
  have hD : va_D A [(o0, .inr (12, [.int 0, .ref o3, .int 0, .ref o1, .int 0, .ref o4, .ref o5, .int 0, .ref o6, .int 0, .ref o7, .int (-9), .int 0, .int 0, .ref o8, .ref o9, .ref o2, .ref o10, .ref o11, .int 0, .ref o12, .ref o13, .ref o14, .int 0, .ref o15, .ref o16, .ref o17, .int 0, .ref o18])), (o1, .inl (cI, 12, .inl (fun _ => 0))), (o2, .inl (cI, 49152, .inl (upd (upd (upd (upd (upd (upd (upd (fun _ => 0) (Int32.toNatClampNeg 0) 0) (Int32.toNatClampNeg 1) 0) (Int32.toNatClampNeg 2) 0) (Int32.toNatClampNeg 3) 0) (Int32.toNatClampNeg 4) 0) (Int32.toNatClampNeg 5) 0) (Int32.toNatClampNeg 6) 0)))] := hD
  refine lv_iinc (v := 7) (lv' := [(1, .int 7), (0, .ref o0)]) hx hb dX12_setThen_20 hl (k := 0) rfl (by decide +kernel) (by decide) rfl (fun ls hl => ?_)
  refine lv_goto (tgt := 2) hx hb dX12_setThen_23 (by decide) ?_
  refine lv_iload_n hx hb dX12_setThen_2 rfl (lv_at hl 0 rfl) ?_
  refine lv_bipush (v := 12) hx hb dX12_setThen_3 (by decide) ?_
  refine lv_icmp_ge (tgt := 26) hx hb dX12_setThen_5 (by decide) (fun h9 => absurd h9 (by decide +kernel)) (fun _ => ?_)
  refine lv_aload_n hx hb dX12_setThen_8 rfl (lv_at hl 1 rfl) ?_
  refine va_get (D := (dC, dI)) (ci := 12) (v := .ref o2) (C := RX12) (T := TX12) (N := 29) hx hb hts iw_X12_setThen_X12 hown hK hP 0 rfl rfl 16 (by decide) (hts (.fieldLink RX12 39 "HolelessHouseModel" "nearThen" "[I") (by decide +kernel)) (fun _ h9 => h9) rfl dX12_setThen_9 ?_
  refine lv_iload_n hx hb dX12_setThen_12 rfl (lv_at hl 0 rfl) ?_
  refine lv_aload_n hx hb dX12_setThen_13 rfl (lv_at hl 1 rfl) ?_
  refine va_get (D := (dC, dI)) (ci := 12) (v := .ref o1) (C := RX12) (T := TX12) (N := 29) hx hb hts iw_X12_setThen_X12 hown hK hP 0 rfl rfl 3 (by decide) (hts (.fieldLink RX12 13 "HolelessHouseModel" "near" "[I") (by decide +kernel)) (fun _ h9 => h9) rfl dX12_setThen_14 ?_
  refine lv_iload_n hx hb dX12_setThen_17 rfl (lv_at hl 0 rfl) ?_
  refine va_iald hx hb hK hP 1 0 rfl rfl (vin (by decide +kernel)) dX12_setThen_18 (tk_i (v := 0) (by decide +kernel) ?_)
  refine va_iast hx hb hK hP hD hS 2 0 rfl rfl (vin (by decide +kernel)) dX12_setThen_19 (fun H locs hP hD hS => ?_)
  have hP : va_P (dC, dI) vwCl [(o0, .inr (12, [.int 0, .ref o3, .int 0, .ref o1, .int 0, .ref o4, .ref o5, .int 0, .ref o6, .int 0, .ref o7, .int (-9), .int 0, .int 0, .ref o8, .ref o9, .ref o2, .ref o10, .ref o11, .int 0, .ref o12, .ref o13, .ref o14, .int 0, .ref o15, .ref o16, .ref o17, .int 0, .ref o18])), (o1, .inl (cI, 12, .inl (fun _ => 0))), (o2, .inl (cI, 49152, .inl (upd (upd (upd (upd (upd (upd (upd (upd (fun _ => 0) (Int32.toNatClampNeg 0) 0) (Int32.toNatClampNeg 1) 0) (Int32.toNatClampNeg 2) 0) (Int32.toNatClampNeg 3) 0) (Int32.toNatClampNeg 4) 0) (Int32.toNatClampNeg 5) 0) (Int32.toNatClampNeg 6) 0) (Int32.toNatClampNeg 7) 0)))] H := hP
  have hD : va_D A [(o0, .inr (12, [.int 0, .ref o3, .int 0, .ref o1, .int 0, .ref o4, .ref o5, .int 0, .ref o6, .int 0, .ref o7, .int (-9), .int 0, .int 0, .ref o8, .ref o9, .ref o2, .ref o10, .ref o11, .int 0, .ref o12, .ref o13, .ref o14, .int 0, .ref o15, .ref o16, .ref o17, .int 0, .ref o18])), (o1, .inl (cI, 12, .inl (fun _ => 0))), (o2, .inl (cI, 49152, .inl (upd (upd (upd (upd (upd (upd (upd (upd (fun _ => 0) (Int32.toNatClampNeg 0) 0) (Int32.toNatClampNeg 1) 0) (Int32.toNatClampNeg 2) 0) (Int32.toNatClampNeg 3) 0) (Int32.toNatClampNeg 4) 0) (Int32.toNatClampNeg 5) 0) (Int32.toNatClampNeg 6) 0) (Int32.toNatClampNeg 7) 0)))] := hD
  refine lv_iinc (v := 8) (lv' := [(1, .int 8), (0, .ref o0)]) hx hb dX12_setThen_20 hl (k := 0) rfl (by decide +kernel) (by decide) rfl (fun ls hl => ?_)
  refine lv_goto (tgt := 2) hx hb dX12_setThen_23 (by decide) ?_
  refine lv_iload_n hx hb dX12_setThen_2 rfl (lv_at hl 0 rfl) ?_
  refine lv_bipush (v := 12) hx hb dX12_setThen_3 (by decide) ?_
  refine lv_icmp_ge (tgt := 26) hx hb dX12_setThen_5 (by decide) (fun h9 => absurd h9 (by decide +kernel)) (fun _ => ?_)
  refine lv_aload_n hx hb dX12_setThen_8 rfl (lv_at hl 1 rfl) ?_
  refine va_get (D := (dC, dI)) (ci := 12) (v := .ref o2) (C := RX12) (T := TX12) (N := 29) hx hb hts iw_X12_setThen_X12 hown hK hP 0 rfl rfl 16 (by decide) (hts (.fieldLink RX12 39 "HolelessHouseModel" "nearThen" "[I") (by decide +kernel)) (fun _ h9 => h9) rfl dX12_setThen_9 ?_
  refine lv_iload_n hx hb dX12_setThen_12 rfl (lv_at hl 0 rfl) ?_
  refine lv_aload_n hx hb dX12_setThen_13 rfl (lv_at hl 1 rfl) ?_
  refine va_get (D := (dC, dI)) (ci := 12) (v := .ref o1) (C := RX12) (T := TX12) (N := 29) hx hb hts iw_X12_setThen_X12 hown hK hP 0 rfl rfl 3 (by decide) (hts (.fieldLink RX12 13 "HolelessHouseModel" "near" "[I") (by decide +kernel)) (fun _ h9 => h9) rfl dX12_setThen_14 ?_
  refine lv_iload_n hx hb dX12_setThen_17 rfl (lv_at hl 0 rfl) ?_
  refine va_iald hx hb hK hP 1 0 rfl rfl (vin (by decide +kernel)) dX12_setThen_18 (tk_i (v := 0) (by decide +kernel) ?_)
  refine va_iast hx hb hK hP hD hS 2 0 rfl rfl (vin (by decide +kernel)) dX12_setThen_19 (fun H locs hP hD hS => ?_)
  have hP : va_P (dC, dI) vwCl [(o0, .inr (12, [.int 0, .ref o3, .int 0, .ref o1, .int 0, .ref o4, .ref o5, .int 0, .ref o6, .int 0, .ref o7, .int (-9), .int 0, .int 0, .ref o8, .ref o9, .ref o2, .ref o10, .ref o11, .int 0, .ref o12, .ref o13, .ref o14, .int 0, .ref o15, .ref o16, .ref o17, .int 0, .ref o18])), (o1, .inl (cI, 12, .inl (fun _ => 0))), (o2, .inl (cI, 49152, .inl (upd (upd (upd (upd (upd (upd (upd (upd (upd (fun _ => 0) (Int32.toNatClampNeg 0) 0) (Int32.toNatClampNeg 1) 0) (Int32.toNatClampNeg 2) 0) (Int32.toNatClampNeg 3) 0) (Int32.toNatClampNeg 4) 0) (Int32.toNatClampNeg 5) 0) (Int32.toNatClampNeg 6) 0) (Int32.toNatClampNeg 7) 0) (Int32.toNatClampNeg 8) 0)))] H := hP
  have hD : va_D A [(o0, .inr (12, [.int 0, .ref o3, .int 0, .ref o1, .int 0, .ref o4, .ref o5, .int 0, .ref o6, .int 0, .ref o7, .int (-9), .int 0, .int 0, .ref o8, .ref o9, .ref o2, .ref o10, .ref o11, .int 0, .ref o12, .ref o13, .ref o14, .int 0, .ref o15, .ref o16, .ref o17, .int 0, .ref o18])), (o1, .inl (cI, 12, .inl (fun _ => 0))), (o2, .inl (cI, 49152, .inl (upd (upd (upd (upd (upd (upd (upd (upd (upd (fun _ => 0) (Int32.toNatClampNeg 0) 0) (Int32.toNatClampNeg 1) 0) (Int32.toNatClampNeg 2) 0) (Int32.toNatClampNeg 3) 0) (Int32.toNatClampNeg 4) 0) (Int32.toNatClampNeg 5) 0) (Int32.toNatClampNeg 6) 0) (Int32.toNatClampNeg 7) 0) (Int32.toNatClampNeg 8) 0)))] := hD
  refine lv_iinc (v := 9) (lv' := [(1, .int 9), (0, .ref o0)]) hx hb dX12_setThen_20 hl (k := 0) rfl (by decide +kernel) (by decide) rfl (fun ls hl => ?_)
  refine lv_goto (tgt := 2) hx hb dX12_setThen_23 (by decide) ?_
  refine lv_iload_n hx hb dX12_setThen_2 rfl (lv_at hl 0 rfl) ?_
  refine lv_bipush (v := 12) hx hb dX12_setThen_3 (by decide) ?_
  refine lv_icmp_ge (tgt := 26) hx hb dX12_setThen_5 (by decide) (fun h9 => absurd h9 (by decide +kernel)) (fun _ => ?_)
  refine lv_aload_n hx hb dX12_setThen_8 rfl (lv_at hl 1 rfl) ?_
  refine va_get (D := (dC, dI)) (ci := 12) (v := .ref o2) (C := RX12) (T := TX12) (N := 29) hx hb hts iw_X12_setThen_X12 hown hK hP 0 rfl rfl 16 (by decide) (hts (.fieldLink RX12 39 "HolelessHouseModel" "nearThen" "[I") (by decide +kernel)) (fun _ h9 => h9) rfl dX12_setThen_9 ?_
  refine lv_iload_n hx hb dX12_setThen_12 rfl (lv_at hl 0 rfl) ?_
  refine lv_aload_n hx hb dX12_setThen_13 rfl (lv_at hl 1 rfl) ?_
  refine va_get (D := (dC, dI)) (ci := 12) (v := .ref o1) (C := RX12) (T := TX12) (N := 29) hx hb hts iw_X12_setThen_X12 hown hK hP 0 rfl rfl 3 (by decide) (hts (.fieldLink RX12 13 "HolelessHouseModel" "near" "[I") (by decide +kernel)) (fun _ h9 => h9) rfl dX12_setThen_14 ?_
  refine lv_iload_n hx hb dX12_setThen_17 rfl (lv_at hl 0 rfl) ?_
  refine va_iald hx hb hK hP 1 0 rfl rfl (vin (by decide +kernel)) dX12_setThen_18 (tk_i (v := 0) (by decide +kernel) ?_)
  refine va_iast hx hb hK hP hD hS 2 0 rfl rfl (vin (by decide +kernel)) dX12_setThen_19 (fun H locs hP hD hS => ?_)
  have hP : va_P (dC, dI) vwCl [(o0, .inr (12, [.int 0, .ref o3, .int 0, .ref o1, .int 0, .ref o4, .ref o5, .int 0, .ref o6, .int 0, .ref o7, .int (-9), .int 0, .int 0, .ref o8, .ref o9, .ref o2, .ref o10, .ref o11, .int 0, .ref o12, .ref o13, .ref o14, .int 0, .ref o15, .ref o16, .ref o17, .int 0, .ref o18])), (o1, .inl (cI, 12, .inl (fun _ => 0))), (o2, .inl (cI, 49152, .inl (upd (upd (upd (upd (upd (upd (upd (upd (upd (upd (fun _ => 0) (Int32.toNatClampNeg 0) 0) (Int32.toNatClampNeg 1) 0) (Int32.toNatClampNeg 2) 0) (Int32.toNatClampNeg 3) 0) (Int32.toNatClampNeg 4) 0) (Int32.toNatClampNeg 5) 0) (Int32.toNatClampNeg 6) 0) (Int32.toNatClampNeg 7) 0) (Int32.toNatClampNeg 8) 0) (Int32.toNatClampNeg 9) 0)))] H := hP
  have hD : va_D A [(o0, .inr (12, [.int 0, .ref o3, .int 0, .ref o1, .int 0, .ref o4, .ref o5, .int 0, .ref o6, .int 0, .ref o7, .int (-9), .int 0, .int 0, .ref o8, .ref o9, .ref o2, .ref o10, .ref o11, .int 0, .ref o12, .ref o13, .ref o14, .int 0, .ref o15, .ref o16, .ref o17, .int 0, .ref o18])), (o1, .inl (cI, 12, .inl (fun _ => 0))), (o2, .inl (cI, 49152, .inl (upd (upd (upd (upd (upd (upd (upd (upd (upd (upd (fun _ => 0) (Int32.toNatClampNeg 0) 0) (Int32.toNatClampNeg 1) 0) (Int32.toNatClampNeg 2) 0) (Int32.toNatClampNeg 3) 0) (Int32.toNatClampNeg 4) 0) (Int32.toNatClampNeg 5) 0) (Int32.toNatClampNeg 6) 0) (Int32.toNatClampNeg 7) 0) (Int32.toNatClampNeg 8) 0) (Int32.toNatClampNeg 9) 0)))] := hD
  refine lv_iinc (v := 10) (lv' := [(1, .int 10), (0, .ref o0)]) hx hb dX12_setThen_20 hl (k := 0) rfl (by decide +kernel) (by decide) rfl (fun ls hl => ?_)
  refine lv_goto (tgt := 2) hx hb dX12_setThen_23 (by decide) ?_
  refine lv_iload_n hx hb dX12_setThen_2 rfl (lv_at hl 0 rfl) ?_
  refine lv_bipush (v := 12) hx hb dX12_setThen_3 (by decide) ?_
  refine lv_icmp_ge (tgt := 26) hx hb dX12_setThen_5 (by decide) (fun h9 => absurd h9 (by decide +kernel)) (fun _ => ?_)
  refine lv_aload_n hx hb dX12_setThen_8 rfl (lv_at hl 1 rfl) ?_
  refine va_get (D := (dC, dI)) (ci := 12) (v := .ref o2) (C := RX12) (T := TX12) (N := 29) hx hb hts iw_X12_setThen_X12 hown hK hP 0 rfl rfl 16 (by decide) (hts (.fieldLink RX12 39 "HolelessHouseModel" "nearThen" "[I") (by decide +kernel)) (fun _ h9 => h9) rfl dX12_setThen_9 ?_
  refine lv_iload_n hx hb dX12_setThen_12 rfl (lv_at hl 0 rfl) ?_
  refine lv_aload_n hx hb dX12_setThen_13 rfl (lv_at hl 1 rfl) ?_
  refine va_get (D := (dC, dI)) (ci := 12) (v := .ref o1) (C := RX12) (T := TX12) (N := 29) hx hb hts iw_X12_setThen_X12 hown hK hP 0 rfl rfl 3 (by decide) (hts (.fieldLink RX12 13 "HolelessHouseModel" "near" "[I") (by decide +kernel)) (fun _ h9 => h9) rfl dX12_setThen_14 ?_
  refine lv_iload_n hx hb dX12_setThen_17 rfl (lv_at hl 0 rfl) ?_
  refine va_iald hx hb hK hP 1 0 rfl rfl (vin (by decide +kernel)) dX12_setThen_18 (tk_i (v := 0) (by decide +kernel) ?_)
  refine va_iast hx hb hK hP hD hS 2 0 rfl rfl (vin (by decide +kernel)) dX12_setThen_19 (fun H locs hP hD hS => ?_)
  have hP : va_P (dC, dI) vwCl [(o0, .inr (12, [.int 0, .ref o3, .int 0, .ref o1, .int 0, .ref o4, .ref o5, .int 0, .ref o6, .int 0, .ref o7, .int (-9), .int 0, .int 0, .ref o8, .ref o9, .ref o2, .ref o10, .ref o11, .int 0, .ref o12, .ref o13, .ref o14, .int 0, .ref o15, .ref o16, .ref o17, .int 0, .ref o18])), (o1, .inl (cI, 12, .inl (fun _ => 0))), (o2, .inl (cI, 49152, .inl (upd (upd (upd (upd (upd (upd (upd (upd (upd (upd (upd (fun _ => 0) (Int32.toNatClampNeg 0) 0) (Int32.toNatClampNeg 1) 0) (Int32.toNatClampNeg 2) 0) (Int32.toNatClampNeg 3) 0) (Int32.toNatClampNeg 4) 0) (Int32.toNatClampNeg 5) 0) (Int32.toNatClampNeg 6) 0) (Int32.toNatClampNeg 7) 0) (Int32.toNatClampNeg 8) 0) (Int32.toNatClampNeg 9) 0) (Int32.toNatClampNeg 10) 0)))] H := hP
  have hD : va_D A [(o0, .inr (12, [.int 0, .ref o3, .int 0, .ref o1, .int 0, .ref o4, .ref o5, .int 0, .ref o6, .int 0, .ref o7, .int (-9), .int 0, .int 0, .ref o8, .ref o9, .ref o2, .ref o10, .ref o11, .int 0, .ref o12, .ref o13, .ref o14, .int 0, .ref o15, .ref o16, .ref o17, .int 0, .ref o18])), (o1, .inl (cI, 12, .inl (fun _ => 0))), (o2, .inl (cI, 49152, .inl (upd (upd (upd (upd (upd (upd (upd (upd (upd (upd (upd (fun _ => 0) (Int32.toNatClampNeg 0) 0) (Int32.toNatClampNeg 1) 0) (Int32.toNatClampNeg 2) 0) (Int32.toNatClampNeg 3) 0) (Int32.toNatClampNeg 4) 0) (Int32.toNatClampNeg 5) 0) (Int32.toNatClampNeg 6) 0) (Int32.toNatClampNeg 7) 0) (Int32.toNatClampNeg 8) 0) (Int32.toNatClampNeg 9) 0) (Int32.toNatClampNeg 10) 0)))] := hD
  refine lv_iinc (v := 11) (lv' := [(1, .int 11), (0, .ref o0)]) hx hb dX12_setThen_20 hl (k := 0) rfl (by decide +kernel) (by decide) rfl (fun ls hl => ?_)
  refine lv_goto (tgt := 2) hx hb dX12_setThen_23 (by decide) ?_
  refine lv_iload_n hx hb dX12_setThen_2 rfl (lv_at hl 0 rfl) ?_
  refine lv_bipush (v := 12) hx hb dX12_setThen_3 (by decide) ?_
  refine lv_icmp_ge (tgt := 26) hx hb dX12_setThen_5 (by decide) (fun h9 => absurd h9 (by decide +kernel)) (fun _ => ?_)
  refine lv_aload_n hx hb dX12_setThen_8 rfl (lv_at hl 1 rfl) ?_
  refine va_get (D := (dC, dI)) (ci := 12) (v := .ref o2) (C := RX12) (T := TX12) (N := 29) hx hb hts iw_X12_setThen_X12 hown hK hP 0 rfl rfl 16 (by decide) (hts (.fieldLink RX12 39 "HolelessHouseModel" "nearThen" "[I") (by decide +kernel)) (fun _ h9 => h9) rfl dX12_setThen_9 ?_
  refine lv_iload_n hx hb dX12_setThen_12 rfl (lv_at hl 0 rfl) ?_
  refine lv_aload_n hx hb dX12_setThen_13 rfl (lv_at hl 1 rfl) ?_
  refine va_get (D := (dC, dI)) (ci := 12) (v := .ref o1) (C := RX12) (T := TX12) (N := 29) hx hb hts iw_X12_setThen_X12 hown hK hP 0 rfl rfl 3 (by decide) (hts (.fieldLink RX12 13 "HolelessHouseModel" "near" "[I") (by decide +kernel)) (fun _ h9 => h9) rfl dX12_setThen_14 ?_
  refine lv_iload_n hx hb dX12_setThen_17 rfl (lv_at hl 0 rfl) ?_
  refine va_iald hx hb hK hP 1 0 rfl rfl (vin (by decide +kernel)) dX12_setThen_18 (tk_i (v := 0) (by decide +kernel) ?_)
  refine va_iast hx hb hK hP hD hS 2 0 rfl rfl (vin (by decide +kernel)) dX12_setThen_19 (fun H locs hP hD hS => ?_)
  have hP : va_P (dC, dI) vwCl [(o0, .inr (12, [.int 0, .ref o3, .int 0, .ref o1, .int 0, .ref o4, .ref o5, .int 0, .ref o6, .int 0, .ref o7, .int (-9), .int 0, .int 0, .ref o8, .ref o9, .ref o2, .ref o10, .ref o11, .int 0, .ref o12, .ref o13, .ref o14, .int 0, .ref o15, .ref o16, .ref o17, .int 0, .ref o18])), (o1, .inl (cI, 12, .inl (fun _ => 0))), (o2, .inl (cI, 49152, .inl (upd (upd (upd (upd (upd (upd (upd (upd (upd (upd (upd (upd (fun _ => 0) (Int32.toNatClampNeg 0) 0) (Int32.toNatClampNeg 1) 0) (Int32.toNatClampNeg 2) 0) (Int32.toNatClampNeg 3) 0) (Int32.toNatClampNeg 4) 0) (Int32.toNatClampNeg 5) 0) (Int32.toNatClampNeg 6) 0) (Int32.toNatClampNeg 7) 0) (Int32.toNatClampNeg 8) 0) (Int32.toNatClampNeg 9) 0) (Int32.toNatClampNeg 10) 0) (Int32.toNatClampNeg 11) 0)))] H := hP
  have hD : va_D A [(o0, .inr (12, [.int 0, .ref o3, .int 0, .ref o1, .int 0, .ref o4, .ref o5, .int 0, .ref o6, .int 0, .ref o7, .int (-9), .int 0, .int 0, .ref o8, .ref o9, .ref o2, .ref o10, .ref o11, .int 0, .ref o12, .ref o13, .ref o14, .int 0, .ref o15, .ref o16, .ref o17, .int 0, .ref o18])), (o1, .inl (cI, 12, .inl (fun _ => 0))), (o2, .inl (cI, 49152, .inl (upd (upd (upd (upd (upd (upd (upd (upd (upd (upd (upd (upd (fun _ => 0) (Int32.toNatClampNeg 0) 0) (Int32.toNatClampNeg 1) 0) (Int32.toNatClampNeg 2) 0) (Int32.toNatClampNeg 3) 0) (Int32.toNatClampNeg 4) 0) (Int32.toNatClampNeg 5) 0) (Int32.toNatClampNeg 6) 0) (Int32.toNatClampNeg 7) 0) (Int32.toNatClampNeg 8) 0) (Int32.toNatClampNeg 9) 0) (Int32.toNatClampNeg 10) 0) (Int32.toNatClampNeg 11) 0)))] := hD
  refine lv_iinc (v := 12) (lv' := [(1, .int 12), (0, .ref o0)]) hx hb dX12_setThen_20 hl (k := 0) rfl (by decide +kernel) (by decide) rfl (fun ls hl => ?_)
  refine lv_goto (tgt := 2) hx hb dX12_setThen_23 (by decide) ?_
  refine lv_iload_n hx hb dX12_setThen_2 rfl (lv_at hl 0 rfl) ?_
  refine lv_bipush (v := 12) hx hb dX12_setThen_3 (by decide) ?_
  refine lv_icmp_ge (tgt := 26) hx hb dX12_setThen_5 (by decide) (fun _ => ?_) (fun h9 => absurd (by decide +kernel) h9)
  refine lv_iconst (v := 1) hx hb dX12_setThen_26 (by decide) ?_
  refine lv_istore_n (lv' := [(1, .int 1), (0, .ref o0)]) hx hb dX12_setThen_27 rfl hl (by decide) rfl (fun ls hl => ?_)
  refine lv_iload_n hx hb dX12_setThen_28 rfl (lv_at hl 0 rfl) ?_
  refine lv_aload_n hx hb dX12_setThen_29 rfl (lv_at hl 1 rfl) ?_
  refine kcall_i (D := (dC, dI)) (S := Unit) (v := 0) (wc := [(o0, .inr (12, [.int 0, .ref o3, .int 0, .ref o1, .int 0, .ref o4, .ref o5, .int 0, .ref o6, .int 0, .ref o7, .int (-9), .int 0, .int 0, .ref o8, .ref o9, .ref o2, .ref o10, .ref o11, .int 0, .ref o12, .ref o13, .ref o14, .int 0, .ref o15, .ref o16, .ref o17, .int 0, .ref o18]))]) (wr := [(o1, .inl (cI, 12, .inl (fun _ => 0))), (o2, .inl (cI, 49152, .inl (upd (upd (upd (upd (upd (upd (upd (upd (upd (upd (upd (upd (fun _ => 0) (Int32.toNatClampNeg 0) 0) (Int32.toNatClampNeg 1) 0) (Int32.toNatClampNeg 2) 0) (Int32.toNatClampNeg 3) 0) (Int32.toNatClampNeg 4) 0) (Int32.toNatClampNeg 5) 0) (Int32.toNatClampNeg 6) 0) (Int32.toNatClampNeg 7) 0) (Int32.toNatClampNeg 8) 0) (Int32.toNatClampNeg 9) 0) (Int32.toNatClampNeg 10) 0) (Int32.toNatClampNeg 11) 0)))]) (w1 := fun _ => [(o0, .inr (12, [.int 0, .ref o3, .int 0, .ref o1, .int 0, .ref o4, .ref o5, .int 0, .ref o6, .int 0, .ref o7, .int (-9), .int 0, .int 0, .ref o8, .ref o9, .ref o2, .ref o10, .ref o11, .int 0, .ref o12, .ref o13, .ref o14, .int 0, .ref o15, .ref o16, .ref o17, .int 0, .ref o18]))]) (fun hPc hDc => va_runV (As := []) (rest := [.int 1]) ⟨hx, hb, hml, hown, hts⟩ (kX12_all_1 l dC dI cI c2 o0 o3 o1 o4 o5 o6 o7 o8 o9 o2 o10 o11 o12 o13 o14 o15 o16 o17 o18 H.size) (cwV 0 hts gX12_setThen_X12_all rfl rfl rfl (by decide +kernel) ⟨Nat.le_of_ble_eq_true rfl, Nat.le_of_ble_eq_true rfl⟩) (pre_V hPc hK hDc hN (ci := 12) (q0 := 0) rfl rfl) rfl rfl hl.1 rfl (lv_room (Nat.le_of_ble_eq_true rfl)) dX12_setThen_30 ⟨Nat.le_of_ble_eq_true rfl, Nat.le_of_ble_eq_true rfl⟩) hP hD hS hA [0] [1, 2] rfl rfl (by decide) (by decide) (by decide) (fun u H locs hP hD hS => ?_)
  have hP : va_P (dC, dI) vwCl [(o1, .inl (cI, 12, .inl (fun _ => 0))), (o2, .inl (cI, 49152, .inl (upd (upd (upd (upd (upd (upd (upd (upd (upd (upd (upd (upd (fun _ => 0) (Int32.toNatClampNeg 0) 0) (Int32.toNatClampNeg 1) 0) (Int32.toNatClampNeg 2) 0) (Int32.toNatClampNeg 3) 0) (Int32.toNatClampNeg 4) 0) (Int32.toNatClampNeg 5) 0) (Int32.toNatClampNeg 6) 0) (Int32.toNatClampNeg 7) 0) (Int32.toNatClampNeg 8) 0) (Int32.toNatClampNeg 9) 0) (Int32.toNatClampNeg 10) 0) (Int32.toNatClampNeg 11) 0))), (o0, .inr (12, [.int 0, .ref o3, .int 0, .ref o1, .int 0, .ref o4, .ref o5, .int 0, .ref o6, .int 0, .ref o7, .int (-9), .int 0, .int 0, .ref o8, .ref o9, .ref o2, .ref o10, .ref o11, .int 0, .ref o12, .ref o13, .ref o14, .int 0, .ref o15, .ref o16, .ref o17, .int 0, .ref o18]))] H := hP
  have hD : va_D A [(o1, .inl (cI, 12, .inl (fun _ => 0))), (o2, .inl (cI, 49152, .inl (upd (upd (upd (upd (upd (upd (upd (upd (upd (upd (upd (upd (fun _ => 0) (Int32.toNatClampNeg 0) 0) (Int32.toNatClampNeg 1) 0) (Int32.toNatClampNeg 2) 0) (Int32.toNatClampNeg 3) 0) (Int32.toNatClampNeg 4) 0) (Int32.toNatClampNeg 5) 0) (Int32.toNatClampNeg 6) 0) (Int32.toNatClampNeg 7) 0) (Int32.toNatClampNeg 8) 0) (Int32.toNatClampNeg 9) 0) (Int32.toNatClampNeg 10) 0) (Int32.toNatClampNeg 11) 0))), (o0, .inr (12, [.int 0, .ref o3, .int 0, .ref o1, .int 0, .ref o4, .ref o5, .int 0, .ref o6, .int 0, .ref o7, .int (-9), .int 0, .int 0, .ref o8, .ref o9, .ref o2, .ref o10, .ref o11, .int 0, .ref o12, .ref o13, .ref o14, .int 0, .ref o15, .ref o16, .ref o17, .int 0, .ref o18]))] := hD
  refine lv_icmp_gt (tgt := 156) hx hb dX12_setThen_33 (by decide) (fun _ => ?_) (fun h9 => absurd (by decide +kernel) h9)
  have hP9 := hP.sub (ws' := [(o1, .inl (cI, 12, .inl (fun _ => 0))), (o2, .inl (cI, 49152, .inl (upd (upd (upd (upd (upd (upd (upd (upd (upd (upd (upd (upd (fun _ => 0) (Int32.toNatClampNeg 0) 0) (Int32.toNatClampNeg 1) 0) (Int32.toNatClampNeg 2) 0) (Int32.toNatClampNeg 3) 0) (Int32.toNatClampNeg 4) 0) (Int32.toNatClampNeg 5) 0) (Int32.toNatClampNeg 6) 0) (Int32.toNatClampNeg 7) 0) (Int32.toNatClampNeg 8) 0) (Int32.toNatClampNeg 9) 0) (Int32.toNatClampNeg 10) 0) (Int32.toNatClampNeg 11) 0))), (o0, .inr (12, [.int 0, .ref o3, .int 0, .ref o1, .int 0, .ref o4, .ref o5, .int 0, .ref o6, .int 0, .ref o7, .int (-9), .int 0, .int 0, .ref o8, .ref o9, .ref o2, .ref o10, .ref o11, .int 0, .ref o12, .ref o13, .ref o14, .int 0, .ref o15, .ref o16, .ref o17, .int 0, .ref o18]))]) [0, 1, 2] rfl
  have hD9 := hD.sub (ws' := [(o1, .inl (cI, 12, .inl (fun _ => 0))), (o2, .inl (cI, 49152, .inl (upd (upd (upd (upd (upd (upd (upd (upd (upd (upd (upd (upd (fun _ => 0) (Int32.toNatClampNeg 0) 0) (Int32.toNatClampNeg 1) 0) (Int32.toNatClampNeg 2) 0) (Int32.toNatClampNeg 3) 0) (Int32.toNatClampNeg 4) 0) (Int32.toNatClampNeg 5) 0) (Int32.toNatClampNeg 6) 0) (Int32.toNatClampNeg 7) 0) (Int32.toNatClampNeg 8) 0) (Int32.toNatClampNeg 9) 0) (Int32.toNatClampNeg 10) 0) (Int32.toNatClampNeg 11) 0))), (o0, .inr (12, [.int 0, .ref o3, .int 0, .ref o1, .int 0, .ref o4, .ref o5, .int 0, .ref o6, .int 0, .ref o7, .int (-9), .int 0, .int 0, .ref o8, .ref o9, .ref o2, .ref o10, .ref o11, .int 0, .ref o12, .ref o13, .ref o14, .int 0, .ref o15, .ref o16, .ref o17, .int 0, .ref o18]))]) [0, 1, 2] (by decide) rfl
  exact W.vret hx hb hr (fun t ht hW => ⟨⟨(), rfl, trivial, by rw [ht]; exact hP9, va_K.moved hW.alike hK, hD9⟩, hS.F ht⟩) hS.2.2 dX12_setThen_156
