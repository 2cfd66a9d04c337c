set_option maxHeartbeats 1000000 in
set_option maxRecDepth 100000 in
theorem kX11_findings_1 (l : Launch) (dC : Nat → ClassId) (dI : Nat → Nat → Nat) (cI c2 : ClassId) (o0 : Nat) (o1 : Nat) (o2 : Nat) (o3 : Nat) (o4 : Nat) (o5 : Nat) (o6 : Nat) (o7 : Nat) (o8 : Nat) (o9 : Nat) (o10 : Nat) (o11 : Nat) (o12 : Nat) (sz : Nat) (a1 : Int32) (a1_lo : (-2147483648) ≤ a1.toInt) (a1_hi : a1.toInt ≤ 0) : Met l yX11_findings wsX11_findings ({ frames := 0, cells := 0, slots := 0, locals := 0 }) (va_Pc [.ref o0, .int a1] (wPre (dC, dI) [(cI, .int), (c2, .array .int)] [(o0, .inr (11, [.ref o1, .ref o2, .ref o3, .ref o4, .ref o5, .ref o6, .ref o7, .ref o8, .ref o9, .ref o10, .ref o11, .ref o12, .int 0]))] sz)) (va_Qi (fun (r : Int32) (_ : Unit) => r = (-1)) (fun _ t => wPost (dC, dI) [(cI, .int), (c2, .array .int)] (va_A [(o0, .inr (11, [.ref o1, .ref o2, .ref o3, .ref o4, .ref o5, .ref o6, .ref o7, .ref o8, .ref o9, .ref o10, .ref o11, .ref o12, .int 0]))] sz) [] t) (va_A [(o0, .inr (11, [.ref o1, .ref o2, .ref o3, .ref o4, .ref o5, .ref o6, .ref o7, .ref o8, .ref o9, .ref o10, .ref o11, .ref o12, .int 0]))] sz)) 0 0 (va_A [(o0, .inr (11, [.ref o1, .ref o2, .ref o3, .ref o4, .ref o5, .ref o6, .ref o7, .ref o8, .ref o9, .ref o10, .ref o11, .ref o12, .int 0]))] sz) := by
  refine Met.ofW (cc := cX11_findings) (maxL := 2) (ret := (some .int)) (by decide) rfl ?_
  intro p e s m args below meth c s₁ B hml hv
  obtain ⟨rfl, hsz, hP, hK, hD0, hN⟩ := hv
  have hx := B.exec
  have hb := B.bytes
  have hr := B.returns
  have hts := atoms_spec (ws := wsX11_findings) B.pre
  have hown : s.vm.findClass RX11 = some m.cls := findClass_of_methodNamed B.named
  have hlocks := B.notSynchronized
  subst hsz
  have hD := hD0.self (sz := s.heap.size)
  generalize hAe : va_A [(o0, .inr (11, [.ref o1, .ref o2, .ref o3, .ref o4, .ref o5, .ref o6, .ref o7, .ref o8, .ref o9, .ref o10, .ref o11, .ref o12, .int 0]))] s.heap.size = A at hD ⊢
  have hA : ∀ q : Nat, s.heap.size ≤ q → A q := fun q h => by rw [← hAe]; exact Or.inr h
  have hS : va_S A s.heap s.heap [] := va_S.rf
  have hP : va_P (dC, dI) vwCl [(o0, .inr (11, [.ref o1, .ref o2, .ref o3, .ref o4, .ref o5, .ref o6, .ref o7, .ref o8, .ref o9, .ref o10, .ref o11, .ref o12, .int 0]))] s.heap := hP
  have hl := lv_entry ([.ref o0, .int a1]) (n := 2) (Nat.le_of_ble_eq_true rfl)
  rw [lg_entry_eq]
  generalize (lg_sl ([.ref o0, .int a1]) ++ List.replicate (2 - (lg_sl ([.ref o0, .int a1])).length) Slot.unset).toArray = ls at hl ⊢
  have hl : lv_has ls 2 [(0, .ref o0), (1, .int a1)] := hl
  refine lv_iload_n hx hb dX11_findings_0 rfl (lv_at hl 1 rfl) ?_
  refine lv_iconst (v := 1) hx hb dX11_findings_1 (by decide) ?_
  refine lv_icmp_lt (tgt := 19) hx hb dX11_findings_2 (by decide) (fun _ => ?_) (fun h9 => absurd (ib_lt (X := a1.toInt) (Y := 1) rfl (by decide +kernel) (by omega)) h9)
  refine lv_iconst (v := (-1)) hx hb dX11_findings_19 (by decide) ?_
  have hP9 := hP.sub (ws' := []) [] rfl
  have hD9 := hD.sub (ws' := []) [] (by decide) rfl
  exact W.iret (v := (-1)) hx hb hr (fun t ht hW => ⟨⟨(-1), (), rfl, rfl, by rw [ht]; exact hP9, va_K.moved hW.alike hK, hD9⟩, hS.F ht⟩) hS.2.2 dX11_findings_20
set_option maxHeartbeats 1000000 in
set_option maxRecDepth 100000 in
theorem kX12_in_22 (l : Launch) (dC : Nat → ClassId) (dI : Nat → Nat → Nat) (cI c2 : ClassId) (sz : Nat) (a1 : Int32) (a1_lo : (-2147483648) ≤ a1.toInt) (a1_hi : a1.toInt ≤ 0) : Met l yX12_in wsX12_in ({ frames := 0, cells := 0, slots := 0, locals := 0 }) (va_Pc [.int a1, .int 1, .int 4] (wPre (dC, dI) [(cI, .int), (c2, .array .int)] [] sz)) (va_Qi (fun (r : Int32) (_ : Unit) => r = 0) (fun _ t => wPost (dC, dI) [(cI, .int), (c2, .array .int)] (va_A [] sz) [] t) (va_A [] sz)) 0 0 (va_A [] sz) := by
  refine Met.ofW (cc := cX12_in) (maxL := 3) (ret := (some .boolean)) (by decide) rfl ?_
  intro p e s m args below meth c s₁ B hml hv
  obtain ⟨rfl, hsz, hP, hK, hD0, hN⟩ := hv
  have hx := B.exec
  have hb := B.bytes
  have hr := B.returns
  have hts := atoms_spec (ws := wsX12_in) B.pre
  have hown : s.vm.findClass RX12 = some m.cls := findClass_of_methodNamed B.named
  have hlocks := B.notSynchronized
  subst hsz
  have hD := hD0.self (sz := s.heap.size)
  generalize hAe : va_A [] s.heap.size = A at hD ⊢
  have hA : ∀ q : Nat, s.heap.size ≤ q → A q := fun q h => by rw [← hAe]; exact Or.inr h
  have hS : va_S A s.heap s.heap [] := va_S.rf
  have hP : va_P (dC, dI) vwCl [] s.heap := hP
  have hl := lv_entry ([.int a1, .int 1, .int 4]) (n := 3) (Nat.le_of_ble_eq_true rfl)
  rw [lg_entry_eq]
  generalize (lg_sl ([.int a1, .int 1, .int 4]) ++ List.replicate (3 - (lg_sl ([.int a1, .int 1, .int 4])).length) Slot.unset).toArray = ls at hl ⊢
  have hl : lv_has ls 3 [(0, .int a1), (1, .int 1), (2, .int 4)] := hl
  refine lv_iload_n hx hb dX12_in_0 rfl (lv_at hl 0 rfl) ?_
  refine lv_iload_n hx hb dX12_in_1 rfl (lv_at hl 1 rfl) ?_
  refine lv_icmp_lt (tgt := 14) hx hb dX12_in_2 (by decide) (fun _ => ?_) (fun h9 => absurd (ib_lt (X := a1.toInt) (Y := 1) rfl (by decide +kernel) (by omega)) h9)
  refine lv_iconst (v := 0) hx hb dX12_in_14 (by decide) ?_
  have hP9 := hP.sub (ws' := []) [] rfl
  have hD9 := hD.sub (ws' := []) [] (by decide) rfl
  exact W.zret (v := 0) (ty := .boolean) hx hb hr rfl (fun t ht hW => ⟨⟨0, (), rfl, rfl, by rw [ht]; exact hP9, va_K.moved hW.alike hK, hD9⟩, hS.F ht⟩) hS.2.2 dX12_in_15
set_option maxHeartbeats 1000000 in
set_option maxRecDepth 100000 in
theorem kX12_findings_1 (l : Launch) (dC : Nat → ClassId) (dI : Nat → Nat → Nat) (cI c2 : ClassId) (o0 : Nat) (o1 : Nat) (o2 : Nat) (o3 : Nat) (o4 : Nat) (o5 : Nat) (o6 : Nat) (o7 : Nat) (o8 : Nat) (o9 : Nat) (o10 : Nat) (o11 : Nat) (o12 : Nat) (o13 : Nat) (o14 : Nat) (o15 : Nat) (o16 : Nat) (o17 : Nat) (o18 : Nat) (sz : Nat) (a1 : Int32) (a1_lo : (-2147483648) ≤ a1.toInt) (a1_hi : a1.toInt ≤ 0) : Met l yX12_findings wsX12_findings ({ frames := 1, cells := 0, slots := 0, locals := 22 }) (va_Pc [.ref o0, .int a1] (wPre (dC, dI) [(cI, .int), (c2, .array .int)] [(o0, .inr (12, [.int 0, .ref o1, .int 0, .ref o2, .int 0, .ref o3, .ref o4, .int 0, .ref o5, .int 0, .ref o6, .int (-9), .int 0, .int 0, .ref o7, .ref o8, .ref o9, .ref o10, .ref o11, .int 0, .ref o12, .ref o13, .ref o14, .int 0, .ref o15, .ref o16, .ref o17, .int 0, .ref o18]))] sz)) (va_Qi (fun (r : Int32) (_ : Unit) => r = (-1)) (fun _ t => wPost (dC, dI) [(cI, .int), (c2, .array .int)] (va_A [(o0, .inr (12, [.int 0, .ref o1, .int 0, .ref o2, .int 0, .ref o3, .ref o4, .int 0, .ref o5, .int 0, .ref o6, .int (-9), .int 0, .int 0, .ref o7, .ref o8, .ref o9, .ref o10, .ref o11, .int 0, .ref o12, .ref o13, .ref o14, .int 0, .ref o15, .ref o16, .ref o17, .int 0, .ref o18]))] sz) [] t) (va_A [(o0, .inr (12, [.int 0, .ref o1, .int 0, .ref o2, .int 0, .ref o3, .ref o4, .int 0, .ref o5, .int 0, .ref o6, .int (-9), .int 0, .int 0, .ref o7, .ref o8, .ref o9, .ref o10, .ref o11, .int 0, .ref o12, .ref o13, .ref o14, .int 0, .ref o15, .ref o16, .ref o17, .int 0, .ref o18]))] sz)) 0 0 (va_A [(o0, .inr (12, [.int 0, .ref o1, .int 0, .ref o2, .int 0, .ref o3, .ref o4, .int 0, .ref o5, .int 0, .ref o6, .int (-9), .int 0, .int 0, .ref o7, .ref o8, .ref o9, .ref o10, .ref o11, .int 0, .ref o12, .ref o13, .ref o14, .int 0, .ref o15, .ref o16, .ref o17, .int 0, .ref o18]))] sz) := by
  refine Met.ofW (cc := cX12_findings) (maxL := 2) (ret := (some .int)) (by decide) rfl ?_
  intro p e s m args below meth c s₁ B hml hv
  obtain ⟨rfl, hsz, hP, hK, hD0, hN⟩ := hv
  have hx := B.exec
  have hb := B.bytes
  have hr := B.returns
  have hts := atoms_spec (ws := wsX12_findings) B.pre
  have hown : s.vm.findClass RX12 = some m.cls := findClass_of_methodNamed B.named
  have hlocks := B.notSynchronized
  subst hsz
  have hD := hD0.self (sz := s.heap.size)
  generalize hAe : va_A [(o0, .inr (12, [.int 0, .ref o1, .int 0, .ref o2, .int 0, .ref o3, .ref o4, .int 0, .ref o5, .int 0, .ref o6, .int (-9), .int 0, .int 0, .ref o7, .ref o8, .ref o9, .ref o10, .ref o11, .int 0, .ref o12, .ref o13, .ref o14, .int 0, .ref o15, .ref o16, .ref o17, .int 0, .ref o18]))] s.heap.size = A at hD ⊢
  have hA : ∀ q : Nat, s.heap.size ≤ q → A q := fun q h => by rw [← hAe]; exact Or.inr h
  have hS : va_S A s.heap s.heap [] := va_S.rf
  have hP : va_P (dC, dI) vwCl [(o0, .inr (12, [.int 0, .ref o1, .int 0, .ref o2, .int 0, .ref o3, .ref o4, .int 0, .ref o5, .int 0, .ref o6, .int (-9), .int 0, .int 0, .ref o7, .ref o8, .ref o9, .ref o10, .ref o11, .int 0, .ref o12, .ref o13, .ref o14, .int 0, .ref o15, .ref o16, .ref o17, .int 0, .ref o18]))] s.heap := hP
  have hl := lv_entry ([.ref o0, .int a1]) (n := 2) (Nat.le_of_ble_eq_true rfl)
  rw [lg_entry_eq]
  generalize (lg_sl ([.ref o0, .int a1]) ++ List.replicate (2 - (lg_sl ([.ref o0, .int a1])).length) Slot.unset).toArray = ls at hl ⊢
  have hl : lv_has ls 2 [(0, .ref o0), (1, .int a1)] := hl
  refine lv_iload_n hx hb dX12_findings_0 rfl (lv_at hl 1 rfl) ?_
  refine lv_iconst (v := 1) hx hb dX12_findings_1 (by decide) ?_
  refine lv_iconst (v := 4) hx hb dX12_findings_2 (by decide) ?_
  refine kcall_i (D := (dC, dI)) (S := Unit) (v := 0) (wc := []) (wr := [(o0, .inr (12, [.int 0, .ref o1, .int 0, .ref o2, .int 0, .ref o3, .ref o4, .int 0, .ref o5, .int 0, .ref o6, .int (-9), .int 0, .int 0, .ref o7, .ref o8, .ref o9, .ref o10, .ref o11, .int 0, .ref o12, .ref o13, .ref o14, .int 0, .ref o15, .ref o16, .ref o17, .int 0, .ref o18]))]) (w1 := fun _ => []) (fun hPc hDc => va_runS (As := [.int a1, .int 1, .int 4]) (rest := []) ⟨hx, hb, hml, hown, hts⟩ (kX12_in_22 l dC dI cI c2 s.heap.size a1 (by omega) (by omega)) (va_cwS 3 hts gX12_findings_X12_in rfl rfl rfl (by decide +kernel) ⟨Nat.le_of_ble_eq_true rfl, Nat.le_of_ble_eq_true rfl⟩) (pre_S hPc hK hDc hN) rfl rfl hl.1 rfl (lv_room (Nat.le_of_ble_eq_true rfl)) dX12_findings_3 ⟨Nat.le_of_ble_eq_true rfl, Nat.le_of_ble_eq_true rfl⟩) hP hD hS hA [] [0] rfl rfl (by decide) (by decide) (by decide) (fun u H locs hP hD hS => ?_)
  have hP : va_P (dC, dI) vwCl [(o0, .inr (12, [.int 0, .ref o1, .int 0, .ref o2, .int 0, .ref o3, .ref o4, .int 0, .ref o5, .int 0, .ref o6, .int (-9), .int 0, .int 0, .ref o7, .ref o8, .ref o9, .ref o10, .ref o11, .int 0, .ref o12, .ref o13, .ref o14, .int 0, .ref o15, .ref o16, .ref o17, .int 0, .ref o18]))] H := hP
  have hD : va_D A [(o0, .inr (12, [.int 0, .ref o1, .int 0, .ref o2, .int 0, .ref o3, .ref o4, .int 0, .ref o5, .int 0, .ref o6, .int (-9), .int 0, .int 0, .ref o7, .ref o8, .ref o9, .ref o10, .ref o11, .int 0, .ref o12, .ref o13, .ref o14, .int 0, .ref o15, .ref o16, .ref o17, .int 0, .ref o18]))] := hD
  refine lv_if_eq (tgt := 18) hx hb dX12_findings_6 (by decide) (fun _ => ?_) (fun h9 => absurd (by decide +kernel) h9)
  refine lv_iconst (v := (-1)) hx hb dX12_findings_18 (by decide) ?_
  have hP9 := hP.sub (ws' := []) [] rfl
  have hD9 := hD.sub (ws' := []) [] (by decide) rfl
  exact W.iret (v := (-1)) hx hb hr (fun t ht hW => ⟨⟨(-1), (), rfl, rfl, by rw [ht]; exact hP9, va_K.moved hW.alike hK, hD9⟩, hS.F ht⟩) hS.2.2 dX12_findings_19
theorem iw_X11_findings_X11 : ∀ w ∈ wsX110, w ∈ wsX11_findings := by decide +kernel
set_option maxHeartbeats 1000000 in
set_option maxRecDepth 100000 in
theorem kX11_findings_2 (l : Launch) (dC : Nat → ClassId) (dI : Nat → Nat → Nat) (cI c2 : ClassId) (o0 : Nat) (o1 : Nat) (o2 : Nat) (o3 : Nat) (o4 : Nat) (o5 : Nat) (o6 : Nat) (o7 : Nat) (o8 : Nat) (o9 : Nat) (o10 : Nat) (o11 : Nat) (o12 : Nat) (sz : Nat) (a1 : Int32) (a1_lo : 1 ≤ a1.toInt) (a1_hi : a1.toInt ≤ 4) : Met l yX11_findings wsX11_findings ({ frames := 0, cells := 0, slots := 0, locals := 0 }) (va_Pc [.ref o0, .int a1] (wPre (dC, dI) [(cI, .int), (c2, .array .int)] [(o0, .inr (11, [.ref o2, .ref o3, .ref o4, .ref o5, .ref o6, .ref o7, .ref o8, .ref o9, .ref o10, .ref o11, .ref o12, .ref o1, .int 0])), (o1, .inl (cI, 5, .inl (fun _ => 0)))] sz)) (va_Qi (fun (r : Int32) (_ : Unit) => r = 0) (fun _ t => wPost (dC, dI) [(cI, .int), (c2, .array .int)] (va_A [(o0, .inr (11, [.ref o2, .ref o3, .ref o4, .ref o5, .ref o6, .ref o7, .ref o8, .ref o9, .ref o10, .ref o11, .ref o12, .ref o1, .int 0])), (o1, .inl (cI, 5, .inl (fun _ => 0)))] sz) [] t) (va_A [(o0, .inr (11, [.ref o2, .ref o3, .ref o4, .ref o5, .ref o6, .ref o7, .ref o8, .ref o9, .ref o10, .ref o11, .ref o12, .ref o1, .int 0])), (o1, .inl (cI, 5, .inl (fun _ => 0)))] sz)) 0 0 (va_A [(o0, .inr (11, [.ref o2, .ref o3, .ref o4, .ref o5, .ref o6, .ref o7, .ref o8, .ref o9, .ref o10, .ref o11, .ref o12, .ref o1, .int 0])), (o1, .inl (cI, 5, .inl (fun _ => 0)))] sz) := by
  refine Met.ofW (cc := cX11_findings) (maxL := 2) (ret := (some .int)) (by decide) rfl ?_
  intro p e s m args below meth c s₁ B hml hv
  obtain ⟨rfl, hsz, hP, hK, hD0, hN⟩ := hv
  have hx := B.exec
  have hb := B.bytes
  have hr := B.returns
  have hts := atoms_spec (ws := wsX11_findings) B.pre
  have hown : s.vm.findClass RX11 = some m.cls := findClass_of_methodNamed B.named
  have hlocks := B.notSynchronized
  subst hsz
  have hD := hD0.self (sz := s.heap.size)
  generalize hAe : va_A [(o0, .inr (11, [.ref o2, .ref o3, .ref o4, .ref o5, .ref o6, .ref o7, .ref o8, .ref o9, .ref o10, .ref o11, .ref o12, .ref o1, .int 0])), (o1, .inl (cI, 5, .inl (fun _ => 0)))] s.heap.size = A at hD ⊢
  have hA : ∀ q : Nat, s.heap.size ≤ q → A q := fun q h => by rw [← hAe]; exact Or.inr h
  have hS : va_S A s.heap s.heap [] := va_S.rf
  have hP : va_P (dC, dI) vwCl [(o0, .inr (11, [.ref o2, .ref o3, .ref o4, .ref o5, .ref o6, .ref o7, .ref o8, .ref o9, .ref o10, .ref o11, .ref o12, .ref o1, .int 0])), (o1, .inl (cI, 5, .inl (fun _ => 0)))] s.heap := hP
  have hl := lv_entry ([.ref o0, .int a1]) (n := 2) (Nat.le_of_ble_eq_true rfl)
  rw [lg_entry_eq]
  generalize (lg_sl ([.ref o0, .int a1]) ++ List.replicate (2 - (lg_sl ([.ref o0, .int a1])).length) Slot.unset).toArray = ls at hl ⊢
  have hl : lv_has ls 2 [(0, .ref o0), (1, .int a1)] := hl
  refine lv_iload_n hx hb dX11_findings_0 rfl (lv_at hl 1 rfl) ?_
  refine lv_iconst (v := 1) hx hb dX11_findings_1 (by decide) ?_
  refine lv_icmp_lt (tgt := 19) hx hb dX11_findings_2 (by decide) (fun h9 => absurd h9 (ib_nlt (X := a1.toInt) (Y := 1) rfl (by decide +kernel) (by omega))) (fun _ => ?_)
  refine lv_iload_n hx hb dX11_findings_5 rfl (lv_at hl 1 rfl) ?_
  refine lv_iconst (v := 4) hx hb dX11_findings_6 (by decide) ?_
  refine lv_icmp_gt (tgt := 19) hx hb dX11_findings_7 (by decide) (fun h9 => absurd h9 (ib_nlt (X := 4) (Y := a1.toInt) (by decide +kernel) rfl (by omega))) (fun _ => ?_)
  refine lv_aload_n hx hb dX11_findings_10 rfl (lv_at hl 0 rfl) ?_
  refine va_get (D := (dC, dI)) (ci := 11) (v := .ref o1) (C := RX11) (T := TX11) (N := 13) hx hb hts iw_X11_findings_X11 hown hK hP 0 rfl rfl 11 (by decide) (hts (.fieldLink RX11 82 "HolelessHouse" "timesFound" "[I") (by decide +kernel)) (fun _ h9 => h9) rfl dX11_findings_11 ?_
  refine lv_iload_n hx hb dX11_findings_14 rfl (lv_at hl 1 rfl) ?_
  refine va_iald hx hb hK hP 1 0 rfl rfl (vp_in_iff.mpr ⟨by omega, by omega⟩) dX11_findings_15 (tk_i (v := 0) rfl ?_)
  refine lv_goto (tgt := 20) hx hb dX11_findings_16 (by decide) ?_
  have hP9 := hP.sub (ws' := []) [] rfl
  have hD9 := hD.sub (ws' := []) [] (by decide) rfl
  exact W.iret (v := 0) hx hb hr (fun t ht hW => ⟨⟨0, (), rfl, rfl, by rw [ht]; exact hP9, va_K.moved hW.alike hK, hD9⟩, hS.F ht⟩) hS.2.2 dX11_findings_20
set_option maxHeartbeats 1000000 in
set_option maxRecDepth 100000 in
theorem kX12_in_23 (l : Launch) (dC : Nat → ClassId) (dI : Nat → Nat → Nat) (cI c2 : ClassId) (sz : Nat) (a1 : Int32) (a1_lo : 1 ≤ a1.toInt) (a1_hi : a1.toInt ≤ 4) : Met l yX12_in wsX12_in ({ frames := 0, cells := 0, slots := 0, locals := 0 }) (va_Pc [.int a1, .int 1, .int 4] (wPre (dC, dI) [(cI, .int), (c2, .array .int)] [] sz)) (va_Qi (fun (r : Int32) (_ : Unit) => r = 1) (fun _ t => wPost (dC, dI) [(cI, .int), (c2, .array .int)] (va_A [] sz) [] t) (va_A [] sz)) 0 0 (va_A [] sz) := by
  refine Met.ofW (cc := cX12_in) (maxL := 3) (ret := (some .boolean)) (by decide) rfl ?_
  intro p e s m args below meth c s₁ B hml hv
  obtain ⟨rfl, hsz, hP, hK, hD0, hN⟩ := hv
  have hx := B.exec
  have hb := B.bytes
  have hr := B.returns
  have hts := atoms_spec (ws := wsX12_in) B.pre
  have hown : s.vm.findClass RX12 = some m.cls := findClass_of_methodNamed B.named
  have hlocks := B.notSynchronized
  subst hsz
  have hD := hD0.self (sz := s.heap.size)
  generalize hAe : va_A [] s.heap.size = A at hD ⊢
  have hA : ∀ q : Nat, s.heap.size ≤ q → A q := fun q h => by rw [← hAe]; exact Or.inr h
  have hS : va_S A s.heap s.heap [] := va_S.rf
  have hP : va_P (dC, dI) vwCl [] s.heap := hP
  have hl := lv_entry ([.int a1, .int 1, .int 4]) (n := 3) (Nat.le_of_ble_eq_true rfl)
  rw [lg_entry_eq]
  generalize (lg_sl ([.int a1, .int 1, .int 4]) ++ List.replicate (3 - (lg_sl ([.int a1, .int 1, .int 4])).length) Slot.unset).toArray = ls at hl ⊢
  have hl : lv_has ls 3 [(0, .int a1), (1, .int 1), (2, .int 4)] := hl
  refine lv_iload_n hx hb dX12_in_0 rfl (lv_at hl 0 rfl) ?_
  refine lv_iload_n hx hb dX12_in_1 rfl (lv_at hl 1 rfl) ?_
  refine lv_icmp_lt (tgt := 14) hx hb dX12_in_2 (by decide) (fun h9 => absurd h9 (ib_nlt (X := a1.toInt) (Y := 1) rfl (by decide +kernel) (by omega))) (fun _ => ?_)
  refine lv_iload_n hx hb dX12_in_5 rfl (lv_at hl 0 rfl) ?_
  refine lv_iload_n hx hb dX12_in_6 rfl (lv_at hl 2 rfl) ?_
  refine lv_icmp_gt (tgt := 14) hx hb dX12_in_7 (by decide) (fun h9 => absurd h9 (ib_nlt (X := 4) (Y := a1.toInt) (by decide +kernel) rfl (by omega))) (fun _ => ?_)
  refine lv_iconst (v := 1) hx hb dX12_in_10 (by decide) ?_
  refine lv_goto (tgt := 15) hx hb dX12_in_11 (by decide) ?_
  have hP9 := hP.sub (ws' := []) [] rfl
  have hD9 := hD.sub (ws' := []) [] (by decide) rfl
  exact W.zret (v := 1) (ty := .boolean) hx hb hr rfl (fun t ht hW => ⟨⟨1, (), rfl, rfl, by rw [ht]; exact hP9, va_K.moved hW.alike hK, hD9⟩, hS.F ht⟩) hS.2.2 dX12_in_15
theorem iw_X12_findings_X12 : ∀ w ∈ wsX120, w ∈ wsX12_findings := by decide +kernel
set_option maxHeartbeats 1000000 in
set_option maxRecDepth 100000 in
theorem kX12_findings_2 (l : Launch) (dC : Nat → ClassId) (dI : Nat → Nat → Nat) (cI c2 : ClassId) (o0 : Nat) (o1 : Nat) (o2 : Nat) (o3 : Nat) (o4 : Nat) (o5 : Nat) (o6 : Nat) (o7 : Nat) (o8 : Nat) (o9 : Nat) (o10 : Nat) (o11 : Nat) (o12 : Nat) (o13 : Nat) (o14 : Nat) (o15 : Nat) (o16 : Nat) (o17 : Nat) (o18 : Nat) (sz : Nat) (a1 : Int32) (a1_lo : 1 ≤ a1.toInt) (a1_hi : a1.toInt ≤ 4) : Met l yX12_findings wsX12_findings ({ frames := 1, cells := 0, slots := 0, locals := 22 }) (va_Pc [.ref o0, .int a1] (wPre (dC, dI) [(cI, .int), (c2, .array .int)] [(o0, .inr (12, [.int 0, .ref o1, .int 0, .ref o2, .int 0, .ref o3, .ref o4, .int 0, .ref o5, .int 0, .ref o6, .int (-9), .int 0, .int 0, .ref o7, .ref o8, .ref o9, .ref o10, .ref o11, .int 0, .ref o12, .ref o13, .ref o14, .int 0, .ref o15, .ref o16, .ref o17, .int 0, .ref o18])), (o1, .inl (cI, 5, .inl (fun _ => 0)))] sz)) (va_Qi (fun (r : Int32) (_ : Unit) => r = 0) (fun _ t => wPost (dC, dI) [(cI, .int), (c2, .array .int)] (va_A [(o0, .inr (12, [.int 0, .ref o1, .int 0, .ref o2, .int 0, .ref o3, .ref o4, .int 0, .ref o5, .int 0, .ref o6, .int (-9), .int 0, .int 0, .ref o7, .ref o8, .ref o9, .ref o10, .ref o11, .int 0, .ref o12, .ref o13, .ref o14, .int 0, .ref o15, .ref o16, .ref o17, .int 0, .ref o18])), (o1, .inl (cI, 5, .inl (fun _ => 0)))] sz) [] t) (va_A [(o0, .inr (12, [.int 0, .ref o1, .int 0, .ref o2, .int 0, .ref o3, .ref o4, .int 0, .ref o5, .int 0, .ref o6, .int (-9), .int 0, .int 0, .ref o7, .ref o8, .ref o9, .ref o10, .ref o11, .int 0, .ref o12, .ref o13, .ref o14, .int 0, .ref o15, .ref o16, .ref o17, .int 0, .ref o18])), (o1, .inl (cI, 5, .inl (fun _ => 0)))] sz)) 0 0 (va_A [(o0, .inr (12, [.int 0, .ref o1, .int 0, .ref o2, .int 0, .ref o3, .ref o4, .int 0, .ref o5, .int 0, .ref o6, .int (-9), .int 0, .int 0, .ref o7, .ref o8, .ref o9, .ref o10, .ref o11, .int 0, .ref o12, .ref o13, .ref o14, .int 0, .ref o15, .ref o16, .ref o17, .int 0, .ref o18])), (o1, .inl (cI, 5, .inl (fun _ => 0)))] sz) := by
  refine Met.ofW (cc := cX12_findings) (maxL := 2) (ret := (some .int)) (by decide) rfl ?_
  intro p e s m args below meth c s₁ B hml hv
  obtain ⟨rfl, hsz, hP, hK, hD0, hN⟩ := hv
  have hx := B.exec
  have hb := B.bytes
  have hr := B.returns
  have hts := atoms_spec (ws := wsX12_findings) B.pre
  have hown : s.vm.findClass RX12 = some m.cls := findClass_of_methodNamed B.named
  have hlocks := B.notSynchronized
  subst hsz
  have hD := hD0.self (sz := s.heap.size)
  generalize hAe : va_A [(o0, .inr (12, [.int 0, .ref o1, .int 0, .ref o2, .int 0, .ref o3, .ref o4, .int 0, .ref o5, .int 0, .ref o6, .int (-9), .int 0, .int 0, .ref o7, .ref o8, .ref o9, .ref o10, .ref o11, .int 0, .ref o12, .ref o13, .ref o14, .int 0, .ref o15, .ref o16, .ref o17, .int 0, .ref o18])), (o1, .inl (cI, 5, .inl (fun _ => 0)))] s.heap.size = A at hD ⊢
  have hA : ∀ q : Nat, s.heap.size ≤ q → A q := fun q h => by rw [← hAe]; exact Or.inr h
  have hS : va_S A s.heap s.heap [] := va_S.rf
  have hP : va_P (dC, dI) vwCl [(o0, .inr (12, [.int 0, .ref o1, .int 0, .ref o2, .int 0, .ref o3, .ref o4, .int 0, .ref o5, .int 0, .ref o6, .int (-9), .int 0, .int 0, .ref o7, .ref o8, .ref o9, .ref o10, .ref o11, .int 0, .ref o12, .ref o13, .ref o14, .int 0, .ref o15, .ref o16, .ref o17, .int 0, .ref o18])), (o1, .inl (cI, 5, .inl (fun _ => 0)))] s.heap := hP
  have hl := lv_entry ([.ref o0, .int a1]) (n := 2) (Nat.le_of_ble_eq_true rfl)
  rw [lg_entry_eq]
  generalize (lg_sl ([.ref o0, .int a1]) ++ List.replicate (2 - (lg_sl ([.ref o0, .int a1])).length) Slot.unset).toArray = ls at hl ⊢
  have hl : lv_has ls 2 [(0, .ref o0), (1, .int a1)] := hl
  refine lv_iload_n hx hb dX12_findings_0 rfl (lv_at hl 1 rfl) ?_
  refine lv_iconst (v := 1) hx hb dX12_findings_1 (by decide) ?_
  refine lv_iconst (v := 4) hx hb dX12_findings_2 (by decide) ?_
  refine kcall_i (D := (dC, dI)) (S := Unit) (v := 1) (wc := []) (wr := [(o0, .inr (12, [.int 0, .ref o1, .int 0, .ref o2, .int 0, .ref o3, .ref o4, .int 0, .ref o5, .int 0, .ref o6, .int (-9), .int 0, .int 0, .ref o7, .ref o8, .ref o9, .ref o10, .ref o11, .int 0, .ref o12, .ref o13, .ref o14, .int 0, .ref o15, .ref o16, .ref o17, .int 0, .ref o18])), (o1, .inl (cI, 5, .inl (fun _ => 0)))]) (w1 := fun _ => []) (fun hPc hDc => va_runS (As := [.int a1, .int 1, .int 4]) (rest := []) ⟨hx, hb, hml, hown, hts⟩ (kX12_in_23 l dC dI cI c2 s.heap.size a1 (by omega) (by omega)) (va_cwS 3 hts gX12_findings_X12_in rfl rfl rfl (by decide +kernel) ⟨Nat.le_of_ble_eq_true rfl, Nat.le_of_ble_eq_true rfl⟩) (pre_S hPc hK hDc hN) rfl rfl hl.1 rfl (lv_room (Nat.le_of_ble_eq_true rfl)) dX12_findings_3 ⟨Nat.le_of_ble_eq_true rfl, Nat.le_of_ble_eq_true rfl⟩) hP hD hS hA [] [0, 1] rfl rfl (by decide) (by decide) (by decide) (fun u H locs hP hD hS => ?_)
  have hP : va_P (dC, dI) vwCl [(o0, .inr (12, [.int 0, .ref o1, .int 0, .ref o2, .int 0, .ref o3, .ref o4, .int 0, .ref o5, .int 0, .ref o6, .int (-9), .int 0, .int 0, .ref o7, .ref o8, .ref o9, .ref o10, .ref o11, .int 0, .ref o12, .ref o13, .ref o14, .int 0, .ref o15, .ref o16, .ref o17, .int 0, .ref o18])), (o1, .inl (cI, 5, .inl (fun _ => 0)))] H := hP
  have hD : va_D A [(o0, .inr (12, [.int 0, .ref o1, .int 0, .ref o2, .int 0, .ref o3, .ref o4, .int 0, .ref o5, .int 0, .ref o6, .int (-9), .int 0, .int 0, .ref o7, .ref o8, .ref o9, .ref o10, .ref o11, .int 0, .ref o12, .ref o13, .ref o14, .int 0, .ref o15, .ref o16, .ref o17, .int 0, .ref o18])), (o1, .inl (cI, 5, .inl (fun _ => 0)))] := hD
  refine lv_if_eq (tgt := 18) hx hb dX12_findings_6 (by decide) (fun h9 => absurd h9 (by decide +kernel)) (fun _ => ?_)
  refine lv_aload_n hx hb dX12_findings_9 rfl (lv_at hl 0 rfl) ?_
  refine va_get (D := (dC, dI)) (ci := 12) (v := .ref o1) (C := RX12) (T := TX12) (N := 29) hx hb hts iw_X12_findings_X12 hown hK hP 0 rfl rfl 1 (by decide) (hts (.fieldLink RX12 7 "HolelessHouseModel" "findings" "[I") (by decide +kernel)) (fun _ h9 => h9) rfl dX12_findings_10 ?_
  refine lv_iload_n hx hb dX12_findings_13 rfl (lv_at hl 1 rfl) ?_
  refine va_iald hx hb hK hP 1 0 rfl rfl (vp_in_iff.mpr ⟨by omega, by omega⟩) dX12_findings_14 (tk_i (v := 0) rfl ?_)
  refine lv_goto (tgt := 19) hx hb dX12_findings_15 (by decide) ?_
  have hP9 := hP.sub (ws' := []) [] rfl
  have hD9 := hD.sub (ws' := []) [] (by decide) rfl
  exact W.iret (v := 0) hx hb hr (fun t ht hW => ⟨⟨0, (), rfl, rfl, by rw [ht]; exact hP9, va_K.moved hW.alike hK, hD9⟩, hS.F ht⟩) hS.2.2 dX12_findings_19
set_option maxHeartbeats 1000000 in
set_option maxRecDepth 100000 in
theorem kX11_findings_3 (l : Launch) (dC : Nat → ClassId) (dI : Nat → Nat → Nat) (cI c2 : ClassId) (o0 : Nat) (o1 : Nat) (o2 : Nat) (o3 : Nat) (o4 : Nat) (o5 : Nat) (o6 : Nat) (o7 : Nat) (o8 : Nat) (o9 : Nat) (o10 : Nat) (o11 : Nat) (o12 : Nat) (sz : Nat) (a1 : Int32) (a1_lo : 5 ≤ a1.toInt) (a1_hi : a1.toInt ≤ 2147483647) : Met l yX11_findings wsX11_findings ({ frames := 0, cells := 0, slots := 0, locals := 0 }) (va_Pc [.ref o0, .int a1] (wPre (dC, dI) [(cI, .int), (c2, .array .int)] [(o0, .inr (11, [.ref o1, .ref o2, .ref o3, .ref o4, .ref o5, .ref o6, .ref o7, .ref o8, .ref o9, .ref o10, .ref o11, .ref o12, .int 0]))] sz)) (va_Qi (fun (r : Int32) (_ : Unit) => r = (-1)) (fun _ t => wPost (dC, dI) [(cI, .int), (c2, .array .int)] (va_A [(o0, .inr (11, [.ref o1, .ref o2, .ref o3, .ref o4, .ref o5, .ref o6, .ref o7, .ref o8, .ref o9, .ref o10, .ref o11, .ref o12, .int 0]))] sz) [] t) (va_A [(o0, .inr (11, [.ref o1, .ref o2, .ref o3, .ref o4, .ref o5, .ref o6, .ref o7, .ref o8, .ref o9, .ref o10, .ref o11, .ref o12, .int 0]))] sz)) 0 0 (va_A [(o0, .inr (11, [.ref o1, .ref o2, .ref o3, .ref o4, .ref o5, .ref o6, .ref o7, .ref o8, .ref o9, .ref o10, .ref o11, .ref o12, .int 0]))] sz) := by
  refine Met.ofW (cc := cX11_findings) (maxL := 2) (ret := (some .int)) (by decide) rfl ?_
  intro p e s m args below meth c s₁ B hml hv
  obtain ⟨rfl, hsz, hP, hK, hD0, hN⟩ := hv
  have hx := B.exec
  have hb := B.bytes
  have hr := B.returns
  have hts := atoms_spec (ws := wsX11_findings) B.pre
  have hown : s.vm.findClass RX11 = some m.cls := findClass_of_methodNamed B.named
  have hlocks := B.notSynchronized
  subst hsz
  have hD := hD0.self (sz := s.heap.size)
  generalize hAe : va_A [(o0, .inr (11, [.ref o1, .ref o2, .ref o3, .ref o4, .ref o5, .ref o6, .ref o7, .ref o8, .ref o9, .ref o10, .ref o11, .ref o12, .int 0]))] s.heap.size = A at hD ⊢
  have hA : ∀ q : Nat, s.heap.size ≤ q → A q := fun q h => by rw [← hAe]; exact Or.inr h
  have hS : va_S A s.heap s.heap [] := va_S.rf
  have hP : va_P (dC, dI) vwCl [(o0, .inr (11, [.ref o1, .ref o2, .ref o3, .ref o4, .ref o5, .ref o6, .ref o7, .ref o8, .ref o9, .ref o10, .ref o11, .ref o12, .int 0]))] s.heap := hP
  have hl := lv_entry ([.ref o0, .int a1]) (n := 2) (Nat.le_of_ble_eq_true rfl)
  rw [lg_entry_eq]
  generalize (lg_sl ([.ref o0, .int a1]) ++ List.replicate (2 - (lg_sl ([.ref o0, .int a1])).length) Slot.unset).toArray = ls at hl ⊢
  have hl : lv_has ls 2 [(0, .ref o0), (1, .int a1)] := hl
  refine lv_iload_n hx hb dX11_findings_0 rfl (lv_at hl 1 rfl) ?_
  refine lv_iconst (v := 1) hx hb dX11_findings_1 (by decide) ?_
  refine lv_icmp_lt (tgt := 19) hx hb dX11_findings_2 (by decide) (fun h9 => absurd h9 (ib_nlt (X := a1.toInt) (Y := 1) rfl (by decide +kernel) (by omega))) (fun _ => ?_)
  refine lv_iload_n hx hb dX11_findings_5 rfl (lv_at hl 1 rfl) ?_
  refine lv_iconst (v := 4) hx hb dX11_findings_6 (by decide) ?_
  refine lv_icmp_gt (tgt := 19) hx hb dX11_findings_7 (by decide) (fun _ => ?_) (fun h9 => absurd (ib_lt (X := 4) (Y := a1.toInt) (by decide +kernel) rfl (by omega)) h9)
  refine lv_iconst (v := (-1)) hx hb dX11_findings_19 (by decide) ?_
  have hP9 := hP.sub (ws' := []) [] rfl
  have hD9 := hD.sub (ws' := []) [] (by decide) rfl
  exact W.iret (v := (-1)) hx hb hr (fun t ht hW => ⟨⟨(-1), (), rfl, rfl, by rw [ht]; exact hP9, va_K.moved hW.alike hK, hD9⟩, hS.F ht⟩) hS.2.2 dX11_findings_20
set_option maxHeartbeats 1000000 in
set_option maxRecDepth 100000 in
theorem kX12_in_24 (l : Launch) (dC : Nat → ClassId) (dI : Nat → Nat → Nat) (cI c2 : ClassId) (sz : Nat) (a1 : Int32) (a1_lo : 5 ≤ a1.toInt) (a1_hi : a1.toInt ≤ 2147483647) : Met l yX12_in wsX12_in ({ frames := 0, cells := 0, slots := 0, locals := 0 }) (va_Pc [.int a1, .int 1, .int 4] (wPre (dC, dI) [(cI, .int), (c2, .array .int)] [] sz)) (va_Qi (fun (r : Int32) (_ : Unit) => r = 0) (fun _ t => wPost (dC, dI) [(cI, .int), (c2, .array .int)] (va_A [] sz) [] t) (va_A [] sz)) 0 0 (va_A [] sz) := by
  refine Met.ofW (cc := cX12_in) (maxL := 3) (ret := (some .boolean)) (by decide) rfl ?_
  intro p e s m args below meth c s₁ B hml hv
  obtain ⟨rfl, hsz, hP, hK, hD0, hN⟩ := hv
  have hx := B.exec
  have hb := B.bytes
  have hr := B.returns
  have hts := atoms_spec (ws := wsX12_in) B.pre
  have hown : s.vm.findClass RX12 = some m.cls := findClass_of_methodNamed B.named
  have hlocks := B.notSynchronized
  subst hsz
  have hD := hD0.self (sz := s.heap.size)
  generalize hAe : va_A [] s.heap.size = A at hD ⊢
  have hA : ∀ q : Nat, s.heap.size ≤ q → A q := fun q h => by rw [← hAe]; exact Or.inr h
  have hS : va_S A s.heap s.heap [] := va_S.rf
  have hP : va_P (dC, dI) vwCl [] s.heap := hP
  have hl := lv_entry ([.int a1, .int 1, .int 4]) (n := 3) (Nat.le_of_ble_eq_true rfl)
  rw [lg_entry_eq]
  generalize (lg_sl ([.int a1, .int 1, .int 4]) ++ List.replicate (3 - (lg_sl ([.int a1, .int 1, .int 4])).length) Slot.unset).toArray = ls at hl ⊢
  have hl : lv_has ls 3 [(0, .int a1), (1, .int 1), (2, .int 4)] := hl
  refine lv_iload_n hx hb dX12_in_0 rfl (lv_at hl 0 rfl) ?_
  refine lv_iload_n hx hb dX12_in_1 rfl (lv_at hl 1 rfl) ?_
  refine lv_icmp_lt (tgt := 14) hx hb dX12_in_2 (by decide) (fun h9 => absurd h9 (ib_nlt (X := a1.toInt) (Y := 1) rfl (by decide +kernel) (by omega))) (fun _ => ?_)
  refine lv_iload_n hx hb dX12_in_5 rfl (lv_at hl 0 rfl) ?_
  refine lv_iload_n hx hb dX12_in_6 rfl (lv_at hl 2 rfl) ?_
  refine lv_icmp_gt (tgt := 14) hx hb dX12_in_7 (by decide) (fun _ => ?_) (fun h9 => absurd (ib_lt (X := 4) (Y := a1.toInt) (by decide +kernel) rfl (by omega)) h9)
  refine lv_iconst (v := 0) hx hb dX12_in_14 (by decide) ?_
  have hP9 := hP.sub (ws' := []) [] rfl
  have hD9 := hD.sub (ws' := []) [] (by decide) rfl
  exact W.zret (v := 0) (ty := .boolean) hx hb hr rfl (fun t ht hW => ⟨⟨0, (), rfl, rfl, by rw [ht]; exact hP9, va_K.moved hW.alike hK, hD9⟩, hS.F ht⟩) hS.2.2 dX12_in_15
set_option maxHeartbeats 1000000 in
set_option maxRecDepth 100000 in
theorem kX12_findings_3 (l : Launch) (dC : Nat → ClassId) (dI : Nat → Nat → Nat) (cI c2 : ClassId) (o0 : Nat) (o1 : Nat) (o2 : Nat) (o3 : Nat) (o4 : Nat) (o5 : Nat) (o6 : Nat) (o7 : Nat) (o8 : Nat) (o9 : Nat) (o10 : Nat) (o11 : Nat) (o12 : Nat) (o13 : Nat) (o14 : Nat) (o15 : Nat) (o16 : Nat) (o17 : Nat) (o18 : Nat) (sz : Nat) (a1 : Int32) (a1_lo : 5 ≤ a1.toInt) (a1_hi : a1.toInt ≤ 2147483647) : Met l yX12_findings wsX12_findings ({ frames := 1, cells := 0, slots := 0, locals := 22 }) (va_Pc [.ref o0, .int a1] (wPre (dC, dI) [(cI, .int), (c2, .array .int)] [(o0, .inr (12, [.int 0, .ref o1, .int 0, .ref o2, .int 0, .ref o3, .ref o4, .int 0, .ref o5, .int 0, .ref o6, .int (-9), .int 0, .int 0, .ref o7, .ref o8, .ref o9, .ref o10, .ref o11, .int 0, .ref o12, .ref o13, .ref o14, .int 0, .ref o15, .ref o16, .ref o17, .int 0, .ref o18]))] sz)) (va_Qi (fun (r : Int32) (_ : Unit) => r = (-1)) (fun _ t => wPost (dC, dI) [(cI, .int), (c2, .array .int)] (va_A [(o0, .inr (12, [.int 0, .ref o1, .int 0, .ref o2, .int 0, .ref o3, .ref o4, .int 0, .ref o5, .int 0, .ref o6, .int (-9), .int 0, .int 0, .ref o7, .ref o8, .ref o9, .ref o10, .ref o11, .int 0, .ref o12, .ref o13, .ref o14, .int 0, .ref o15, .ref o16, .ref o17, .int 0, .ref o18]))] sz) [] t) (va_A [(o0, .inr (12, [.int 0, .ref o1, .int 0, .ref o2, .int 0, .ref o3, .ref o4, .int 0, .ref o5, .int 0, .ref o6, .int (-9), .int 0, .int 0, .ref o7, .ref o8, .ref o9, .ref o10, .ref o11, .int 0, .ref o12, .ref o13, .ref o14, .int 0, .ref o15, .ref o16, .ref o17, .int 0, .ref o18]))] sz)) 0 0 (va_A [(o0, .inr (12, [.int 0, .ref o1, .int 0, .ref o2, .int 0, .ref o3, .ref o4, .int 0, .ref o5, .int 0, .ref o6, .int (-9), .int 0, .int 0, .ref o7, .ref o8, .ref o9, .ref o10, .ref o11, .int 0, .ref o12, .ref o13, .ref o14, .int 0, .ref o15, .ref o16, .ref o17, .int 0, .ref o18]))] sz) := by
  refine Met.ofW (cc := cX12_findings) (maxL := 2) (ret := (some .int)) (by decide) rfl ?_
  intro p e s m args below meth c s₁ B hml hv
  obtain ⟨rfl, hsz, hP, hK, hD0, hN⟩ := hv
  have hx := B.exec
  have hb := B.bytes
  have hr := B.returns
  have hts := atoms_spec (ws := wsX12_findings) B.pre
  have hown : s.vm.findClass RX12 = some m.cls := findClass_of_methodNamed B.named
  have hlocks := B.notSynchronized
  subst hsz
  have hD := hD0.self (sz := s.heap.size)
  generalize hAe : va_A [(o0, .inr (12, [.int 0, .ref o1, .int 0, .ref o2, .int 0, .ref o3, .ref o4, .int 0, .ref o5, .int 0, .ref o6, .int (-9), .int 0, .int 0, .ref o7, .ref o8, .ref o9, .ref o10, .ref o11, .int 0, .ref o12, .ref o13, .ref o14, .int 0, .ref o15, .ref o16, .ref o17, .int 0, .ref o18]))] s.heap.size = A at hD ⊢
  have hA : ∀ q : Nat, s.heap.size ≤ q → A q := fun q h => by rw [← hAe]; exact Or.inr h
  have hS : va_S A s.heap s.heap [] := va_S.rf
  have hP : va_P (dC, dI) vwCl [(o0, .inr (12, [.int 0, .ref o1, .int 0, .ref o2, .int 0, .ref o3, .ref o4, .int 0, .ref o5, .int 0, .ref o6, .int (-9), .int 0, .int 0, .ref o7, .ref o8, .ref o9, .ref o10, .ref o11, .int 0, .ref o12, .ref o13, .ref o14, .int 0, .ref o15, .ref o16, .ref o17, .int 0, .ref o18]))] s.heap := hP
  have hl := lv_entry ([.ref o0, .int a1]) (n := 2) (Nat.le_of_ble_eq_true rfl)
  rw [lg_entry_eq]
  generalize (lg_sl ([.ref o0, .int a1]) ++ List.replicate (2 - (lg_sl ([.ref o0, .int a1])).length) Slot.unset).toArray = ls at hl ⊢
  have hl : lv_has ls 2 [(0, .ref o0), (1, .int a1)] := hl
  refine lv_iload_n hx hb dX12_findings_0 rfl (lv_at hl 1 rfl) ?_
  refine lv_iconst (v := 1) hx hb dX12_findings_1 (by decide) ?_
  refine lv_iconst (v := 4) hx hb dX12_findings_2 (by decide) ?_
  refine kcall_i (D := (dC, dI)) (S := Unit) (v := 0) (wc := []) (wr := [(o0, .inr (12, [.int 0, .ref o1, .int 0, .ref o2, .int 0, .ref o3, .ref o4, .int 0, .ref o5, .int 0, .ref o6, .int (-9), .int 0, .int 0, .ref o7, .ref o8, .ref o9, .ref o10, .ref o11, .int 0, .ref o12, .ref o13, .ref o14, .int 0, .ref o15, .ref o16, .ref o17, .int 0, .ref o18]))]) (w1 := fun _ => []) (fun hPc hDc => va_runS (As := [.int a1, .int 1, .int 4]) (rest := []) ⟨hx, hb, hml, hown, hts⟩ (kX12_in_24 l dC dI cI c2 s.heap.size a1 (by omega) (by omega)) (va_cwS 3 hts gX12_findings_X12_in rfl rfl rfl (by decide +kernel) ⟨Nat.le_of_ble_eq_true rfl, Nat.le_of_ble_eq_true rfl⟩) (pre_S hPc hK hDc hN) rfl rfl hl.1 rfl (lv_room (Nat.le_of_ble_eq_true rfl)) dX12_findings_3 ⟨Nat.le_of_ble_eq_true rfl, Nat.le_of_ble_eq_true rfl⟩) hP hD hS hA [] [0] rfl rfl (by decide) (by decide) (by decide) (fun u H locs hP hD hS => ?_)
  have hP : va_P (dC, dI) vwCl [(o0, .inr (12, [.int 0, .ref o1, .int 0, .ref o2, .int 0, .ref o3, .ref o4, .int 0, .ref o5, .int 0, .ref o6, .int (-9), .int 0, .int 0, .ref o7, .ref o8, .ref o9, .ref o10, .ref o11, .int 0, .ref o12, .ref o13, .ref o14, .int 0, .ref o15, .ref o16, .ref o17, .int 0, .ref o18]))] H := hP
  have hD : va_D A [(o0, .inr (12, [.int 0, .ref o1, .int 0, .ref o2, .int 0, .ref o3, .ref o4, .int 0, .ref o5, .int 0, .ref o6, .int (-9), .int 0, .int 0, .ref o7, .ref o8, .ref o9, .ref o10, .ref o11, .int 0, .ref o12, .ref o13, .ref o14, .int 0, .ref o15, .ref o16, .ref o17, .int 0, .ref o18]))] := hD
  refine lv_if_eq (tgt := 18) hx hb dX12_findings_6 (by decide) (fun _ => ?_) (fun h9 => absurd (by decide +kernel) h9)
  refine lv_iconst (v := (-1)) hx hb dX12_findings_18 (by decide) ?_
  have hP9 := hP.sub (ws' := []) [] rfl
  have hD9 := hD.sub (ws' := []) [] (by decide) rfl
  exact W.iret (v := (-1)) hx hb hr (fun t ht hW => ⟨⟨(-1), (), rfl, rfl, by rw [ht]; exact hP9, va_K.moved hW.alike hK, hD9⟩, hS.F ht⟩) hS.2.2 dX12_findings_19
set_option maxHeartbeats 1000000 in
set_option maxRecDepth 100000 in
theorem kX11_mix_1 (l : Launch) (dC : Nat → ClassId) (dI : Nat → Nat → Nat) (cI c2 : ClassId) (sz : Nat) : Met l yX11_mix wsX11_mix ({ frames := 0, cells := 0, slots := 0, locals := 0 }) (va_Pc [.long 17, .int 0] (wPre (dC, dI) [(cI, .int), (c2, .array .int)] [] sz)) (va_Ql (fun (r : Int64) (_ : Unit) => r = 527) (fun _ t => wPost (dC, dI) [(cI, .int), (c2, .array .int)] (va_A [] sz) [] t) (va_A [] sz)) 0 0 (va_A [] sz) := by
  refine Met.ofW (cc := cX11_mix) (maxL := 3) (ret := (some .long)) (by decide) rfl ?_
  intro p e s m args below meth c s₁ B hml hv
  obtain ⟨rfl, hsz, hP, hK, hD0, hN⟩ := hv
  have hx := B.exec
  have hb := B.bytes
  have hr := B.returns
  have hts := atoms_spec (ws := wsX11_mix) B.pre
  have hown : s.vm.findClass RX11 = some m.cls := findClass_of_methodNamed B.named
  have hlocks := B.notSynchronized
  subst hsz
  have hD := hD0.self (sz := s.heap.size)
  generalize hAe : va_A [] s.heap.size = A at hD ⊢
  have hA : ∀ q : Nat, s.heap.size ≤ q → A q := fun q h => by rw [← hAe]; exact Or.inr h
  have hS : va_S A s.heap s.heap [] := va_S.rf
  have hP : va_P (dC, dI) vwCl [] s.heap := hP
  have hl := lv_entry ([.long 17, .int 0]) (n := 3) (Nat.le_of_ble_eq_true rfl)
  rw [lg_entry_eq]
  generalize (lg_sl ([.long 17, .int 0]) ++ List.replicate (3 - (lg_sl ([.long 17, .int 0])).length) Slot.unset).toArray = ls at hl ⊢
  have hl : lv_has ls 3 [(0, .long 17), (2, .int 0)] := hl
  refine lv_ldc2 (v := 31) hx hb hown (hts (.constantLong RX11 288 (31)) (by decide +kernel)) dX11_mix_0 ?_
  refine lv_lload_n hx hb dX11_mix_3 rfl (lv_at hl 0 rfl) ?_
  refine lv_lmul hx hb dX11_mix_4 (tk_l (v := 527) (by decide +kernel) ?_)
  refine lv_iload_n hx hb dX11_mix_5 rfl (lv_at hl 1 rfl) ?_
  refine lv_i2l (v := 0) hx hb dX11_mix_6 (by decide +kernel) ?_
  refine lv_ladd hx hb dX11_mix_7 (tk_l (v := 527) (by decide +kernel) ?_)
  have hP9 := hP.sub (ws' := []) [] rfl
  have hD9 := hD.sub (ws' := []) [] (by decide) rfl
  exact W.lret (v := 527) hx hb hr (fun t ht hW => ⟨⟨527, (), rfl, rfl, by rw [ht]; exact hP9, va_K.moved hW.alike hK, hD9⟩, hS.F ht⟩) hS.2.2 dX11_mix_8
set_option maxHeartbeats 1000000 in
set_option maxRecDepth 100000 in
theorem kX11_mixAll_1 (l : Launch) (dC : Nat → ClassId) (dI : Nat → Nat → Nat) (cI c2 : ClassId) (o0 : Nat) (sz : Nat) : Met l yX11_mixAll wsX11_mixAll ({ frames := 0, cells := 0, slots := 0, locals := 0 }) (va_Pc [.long 527, .ref o0, .int 0] (wPre (dC, dI) [(cI, .int), (c2, .array .int)] [] sz)) (va_Ql (fun (r : Int64) (_ : Unit) => r = 527) (fun _ t => wPost (dC, dI) [(cI, .int), (c2, .array .int)] (va_A [] sz) [] t) (va_A [] sz)) 0 0 (va_A [] sz) := by
  refine Met.ofW (cc := cX11_mixAll) (maxL := 7) (ret := (some .long)) (by decide) rfl ?_
  intro p e s m args below meth c s₁ B hml hv
  obtain ⟨rfl, hsz, hP, hK, hD0, hN⟩ := hv
  have hx := B.exec
  have hb := B.bytes
  have hr := B.returns
  have hts := atoms_spec (ws := wsX11_mixAll) B.pre
  have hown : s.vm.findClass RX11 = some m.cls := findClass_of_methodNamed B.named
  have hlocks := B.notSynchronized
  subst hsz
  have hD := hD0.self (sz := s.heap.size)
  generalize hAe : va_A [] s.heap.size = A at hD ⊢
  have hA : ∀ q : Nat, s.heap.size ≤ q → A q := fun q h => by rw [← hAe]; exact Or.inr h
  have hS : va_S A s.heap s.heap [] := va_S.rf
  have hP : va_P (dC, dI) vwCl [] s.heap := hP
  have hl := lv_entry ([.long 527, .ref o0, .int 0]) (n := 7) (Nat.le_of_ble_eq_true rfl)
  rw [lg_entry_eq]
  generalize (lg_sl ([.long 527, .ref o0, .int 0]) ++ List.replicate (7 - (lg_sl ([.long 527, .ref o0, .int 0])).length) Slot.unset).toArray = ls at hl ⊢
  have hl : lv_has ls 7 [(0, .long 527), (2, .ref o0), (3, .int 0)] := hl
  refine lv_lload_n hx hb dX11_mixAll_0 rfl (lv_at hl 0 rfl) ?_
  refine lv_lstore (lv' := [(4, .long 527), (0, .long 527), (2, .ref o0), (3, .int 0)]) hx hb dX11_mixAll_1 hl (by decide) rfl (fun ls hl => ?_)
  refine lv_iconst (v := 0) hx hb dX11_mixAll_3 (by decide) ?_
  refine lv_istore (lv' := [(6, .int 0), (4, .long 527), (0, .long 527), (2, .ref o0), (3, .int 0)]) hx hb dX11_mixAll_4 hl (by decide) rfl (fun ls hl => ?_)
  refine lv_iload hx hb dX11_mixAll_6 (lv_at hl 0 rfl) ?_
  refine lv_iload_n hx hb dX11_mixAll_8 rfl (lv_at hl 4 rfl) ?_
  refine lv_icmp_ge (tgt := 36) hx hb dX11_mixAll_9 (by decide) (fun _ => ?_) (fun h9 => absurd (by decide +kernel) h9)
  refine lv_lload hx hb dX11_mixAll_36 (lv_at hl 1 rfl) ?_
  have hP9 := hP.sub (ws' := []) [] rfl
  have hD9 := hD.sub (ws' := []) [] (by decide) rfl
  exact W.lret (v := 527) hx hb hr (fun t ht hW => ⟨⟨527, (), rfl, rfl, by rw [ht]; exact hP9, va_K.moved hW.alike hK, hD9⟩, hS.F ht⟩) hS.2.2 dX11_mixAll_38
set_option maxHeartbeats 1000000 in
set_option maxRecDepth 100000 in
theorem kX11_mix_2 (l : Launch) (dC : Nat → ClassId) (dI : Nat → Nat → Nat) (cI c2 : ClassId) (sz : Nat) : Met l yX11_mix wsX11_mix ({ frames := 0, cells := 0, slots := 0, locals := 0 }) (va_Pc [.long 527, .int 0] (wPre (dC, dI) [(cI, .int), (c2, .array .int)] [] sz)) (va_Ql (fun (r : Int64) (_ : Unit) => r = 16337) (fun _ t => wPost (dC, dI) [(cI, .int), (c2, .array .int)] (va_A [] sz) [] t) (va_A [] sz)) 0 0 (va_A [] sz) := by
  refine Met.ofW (cc := cX11_mix) (maxL := 3) (ret := (some .long)) (by decide) rfl ?_
  intro p e s m args below meth c s₁ B hml hv
  obtain ⟨rfl, hsz, hP, hK, hD0, hN⟩ := hv
  have hx := B.exec
  have hb := B.bytes
  have hr := B.returns
  have hts := atoms_spec (ws := wsX11_mix) B.pre
  have hown : s.vm.findClass RX11 = some m.cls := findClass_of_methodNamed B.named
  have hlocks := B.notSynchronized
  subst hsz
  have hD := hD0.self (sz := s.heap.size)
  generalize hAe : va_A [] s.heap.size = A at hD ⊢
  have hA : ∀ q : Nat, s.heap.size ≤ q → A q := fun q h => by rw [← hAe]; exact Or.inr h
  have hS : va_S A s.heap s.heap [] := va_S.rf
  have hP : va_P (dC, dI) vwCl [] s.heap := hP
  have hl := lv_entry ([.long 527, .int 0]) (n := 3) (Nat.le_of_ble_eq_true rfl)
  rw [lg_entry_eq]
  generalize (lg_sl ([.long 527, .int 0]) ++ List.replicate (3 - (lg_sl ([.long 527, .int 0])).length) Slot.unset).toArray = ls at hl ⊢
  have hl : lv_has ls 3 [(0, .long 527), (2, .int 0)] := hl
  refine lv_ldc2 (v := 31) hx hb hown (hts (.constantLong RX11 288 (31)) (by decide +kernel)) dX11_mix_0 ?_
  refine lv_lload_n hx hb dX11_mix_3 rfl (lv_at hl 0 rfl) ?_
  refine lv_lmul hx hb dX11_mix_4 (tk_l (v := 16337) (by decide +kernel) ?_)
  refine lv_iload_n hx hb dX11_mix_5 rfl (lv_at hl 1 rfl) ?_
  refine lv_i2l (v := 0) hx hb dX11_mix_6 (by decide +kernel) ?_
  refine lv_ladd hx hb dX11_mix_7 (tk_l (v := 16337) (by decide +kernel) ?_)
  have hP9 := hP.sub (ws' := []) [] rfl
  have hD9 := hD.sub (ws' := []) [] (by decide) rfl
  exact W.lret (v := 16337) hx hb hr (fun t ht hW => ⟨⟨16337, (), rfl, rfl, by rw [ht]; exact hP9, va_K.moved hW.alike hK, hD9⟩, hS.F ht⟩) hS.2.2 dX11_mix_8
set_option maxHeartbeats 1000000 in
set_option maxRecDepth 100000 in
theorem kX11_mix_3 (l : Launch) (dC : Nat → ClassId) (dI : Nat → Nat → Nat) (cI c2 : ClassId) (sz : Nat) : Met l yX11_mix wsX11_mix ({ frames := 0, cells := 0, slots := 0, locals := 0 }) (va_Pc [.long 16337, .int (-1)] (wPre (dC, dI) [(cI, .int), (c2, .array .int)] [] sz)) (va_Ql (fun (r : Int64) (_ : Unit) => r = 506446) (fun _ t => wPost (dC, dI) [(cI, .int), (c2, .array .int)] (va_A [] sz) [] t) (va_A [] sz)) 0 0 (va_A [] sz) := by
  refine Met.ofW (cc := cX11_mix) (maxL := 3) (ret := (some .long)) (by decide) rfl ?_
  intro p e s m args below meth c s₁ B hml hv
  obtain ⟨rfl, hsz, hP, hK, hD0, hN⟩ := hv
  have hx := B.exec
  have hb := B.bytes
  have hr := B.returns
  have hts := atoms_spec (ws := wsX11_mix) B.pre
  have hown : s.vm.findClass RX11 = some m.cls := findClass_of_methodNamed B.named
  have hlocks := B.notSynchronized
  subst hsz
  have hD := hD0.self (sz := s.heap.size)
  generalize hAe : va_A [] s.heap.size = A at hD ⊢
  have hA : ∀ q : Nat, s.heap.size ≤ q → A q := fun q h => by rw [← hAe]; exact Or.inr h
  have hS : va_S A s.heap s.heap [] := va_S.rf
  have hP : va_P (dC, dI) vwCl [] s.heap := hP
  have hl := lv_entry ([.long 16337, .int (-1)]) (n := 3) (Nat.le_of_ble_eq_true rfl)
  rw [lg_entry_eq]
  generalize (lg_sl ([.long 16337, .int (-1)]) ++ List.replicate (3 - (lg_sl ([.long 16337, .int (-1)])).length) Slot.unset).toArray = ls at hl ⊢
  have hl : lv_has ls 3 [(0, .long 16337), (2, .int (-1))] := hl
  refine lv_ldc2 (v := 31) hx hb hown (hts (.constantLong RX11 288 (31)) (by decide +kernel)) dX11_mix_0 ?_
  refine lv_lload_n hx hb dX11_mix_3 rfl (lv_at hl 0 rfl) ?_
  refine lv_lmul hx hb dX11_mix_4 (tk_l (v := 506447) (by decide +kernel) ?_)
  refine lv_iload_n hx hb dX11_mix_5 rfl (lv_at hl 1 rfl) ?_
  refine lv_i2l (v := (-1)) hx hb dX11_mix_6 (by decide +kernel) ?_
  refine lv_ladd hx hb dX11_mix_7 (tk_l (v := 506446) (by decide +kernel) ?_)
  have hP9 := hP.sub (ws' := []) [] rfl
  have hD9 := hD.sub (ws' := []) [] (by decide) rfl
  exact W.lret (v := 506446) hx hb hr (fun t ht hW => ⟨⟨506446, (), rfl, rfl, by rw [ht]; exact hP9, va_K.moved hW.alike hK, hD9⟩, hS.F ht⟩) hS.2.2 dX11_mix_8
set_option maxHeartbeats 1000000 in
set_option maxRecDepth 100000 in
theorem kX11_mix_4 (l : Launch) (dC : Nat → ClassId) (dI : Nat → Nat → Nat) (cI c2 : ClassId) (sz : Nat) : Met l yX11_mix wsX11_mix ({ frames := 0, cells := 0, slots := 0, locals := 0 }) (va_Pc [.long 506446, .int (-1)] (wPre (dC, dI) [(cI, .int), (c2, .array .int)] [] sz)) (va_Ql (fun (r : Int64) (_ : Unit) => r = 15699825) (fun _ t => wPost (dC, dI) [(cI, .int), (c2, .array .int)] (va_A [] sz) [] t) (va_A [] sz)) 0 0 (va_A [] sz) := by
  refine Met.ofW (cc := cX11_mix) (maxL := 3) (ret := (some .long)) (by decide) rfl ?_
  intro p e s m args below meth c s₁ B hml hv
  obtain ⟨rfl, hsz, hP, hK, hD0, hN⟩ := hv
  have hx := B.exec
  have hb := B.bytes
  have hr := B.returns
  have hts := atoms_spec (ws := wsX11_mix) B.pre
  have hown : s.vm.findClass RX11 = some m.cls := findClass_of_methodNamed B.named
  have hlocks := B.notSynchronized
  subst hsz
  have hD := hD0.self (sz := s.heap.size)
  generalize hAe : va_A [] s.heap.size = A at hD ⊢
  have hA : ∀ q : Nat, s.heap.size ≤ q → A q := fun q h => by rw [← hAe]; exact Or.inr h
  have hS : va_S A s.heap s.heap [] := va_S.rf
  have hP : va_P (dC, dI) vwCl [] s.heap := hP
  have hl := lv_entry ([.long 506446, .int (-1)]) (n := 3) (Nat.le_of_ble_eq_true rfl)
  rw [lg_entry_eq]
  generalize (lg_sl ([.long 506446, .int (-1)]) ++ List.replicate (3 - (lg_sl ([.long 506446, .int (-1)])).length) Slot.unset).toArray = ls at hl ⊢
  have hl : lv_has ls 3 [(0, .long 506446), (2, .int (-1))] := hl
  refine lv_ldc2 (v := 31) hx hb hown (hts (.constantLong RX11 288 (31)) (by decide +kernel)) dX11_mix_0 ?_
  refine lv_lload_n hx hb dX11_mix_3 rfl (lv_at hl 0 rfl) ?_
  refine lv_lmul hx hb dX11_mix_4 (tk_l (v := 15699826) (by decide +kernel) ?_)
  refine lv_iload_n hx hb dX11_mix_5 rfl (lv_at hl 1 rfl) ?_
  refine lv_i2l (v := (-1)) hx hb dX11_mix_6 (by decide +kernel) ?_
  refine lv_ladd hx hb dX11_mix_7 (tk_l (v := 15699825) (by decide +kernel) ?_)
  have hP9 := hP.sub (ws' := []) [] rfl
  have hD9 := hD.sub (ws' := []) [] (by decide) rfl
  exact W.lret (v := 15699825) hx hb hr (fun t ht hW => ⟨⟨15699825, (), rfl, rfl, by rw [ht]; exact hP9, va_K.moved hW.alike hK, hD9⟩, hS.F ht⟩) hS.2.2 dX11_mix_8
set_option maxHeartbeats 1000000 in
set_option maxRecDepth 100000 in
theorem kX11_mix_5 (l : Launch) (dC : Nat → ClassId) (dI : Nat → Nat → Nat) (cI c2 : ClassId) (sz : Nat) : Met l yX11_mix wsX11_mix ({ frames := 0, cells := 0, slots := 0, locals := 0 }) (va_Pc [.long 15699825, .int (-1)] (wPre (dC, dI) [(cI, .int), (c2, .array .int)] [] sz)) (va_Ql (fun (r : Int64) (_ : Unit) => r = 486694574) (fun _ t => wPost (dC, dI) [(cI, .int), (c2, .array .int)] (va_A [] sz) [] t) (va_A [] sz)) 0 0 (va_A [] sz) := by
  refine Met.ofW (cc := cX11_mix) (maxL := 3) (ret := (some .long)) (by decide) rfl ?_
  intro p e s m args below meth c s₁ B hml hv
  obtain ⟨rfl, hsz, hP, hK, hD0, hN⟩ := hv
  have hx := B.exec
  have hb := B.bytes
  have hr := B.returns
  have hts := atoms_spec (ws := wsX11_mix) B.pre
  have hown : s.vm.findClass RX11 = some m.cls := findClass_of_methodNamed B.named
  have hlocks := B.notSynchronized
  subst hsz
  have hD := hD0.self (sz := s.heap.size)
  generalize hAe : va_A [] s.heap.size = A at hD ⊢
  have hA : ∀ q : Nat, s.heap.size ≤ q → A q := fun q h => by rw [← hAe]; exact Or.inr h
  have hS : va_S A s.heap s.heap [] := va_S.rf
  have hP : va_P (dC, dI) vwCl [] s.heap := hP
  have hl := lv_entry ([.long 15699825, .int (-1)]) (n := 3) (Nat.le_of_ble_eq_true rfl)
  rw [lg_entry_eq]
  generalize (lg_sl ([.long 15699825, .int (-1)]) ++ List.replicate (3 - (lg_sl ([.long 15699825, .int (-1)])).length) Slot.unset).toArray = ls at hl ⊢
  have hl : lv_has ls 3 [(0, .long 15699825), (2, .int (-1))] := hl
  refine lv_ldc2 (v := 31) hx hb hown (hts (.constantLong RX11 288 (31)) (by decide +kernel)) dX11_mix_0 ?_
  refine lv_lload_n hx hb dX11_mix_3 rfl (lv_at hl 0 rfl) ?_
  refine lv_lmul hx hb dX11_mix_4 (tk_l (v := 486694575) (by decide +kernel) ?_)
  refine lv_iload_n hx hb dX11_mix_5 rfl (lv_at hl 1 rfl) ?_
  refine lv_i2l (v := (-1)) hx hb dX11_mix_6 (by decide +kernel) ?_
  refine lv_ladd hx hb dX11_mix_7 (tk_l (v := 486694574) (by decide +kernel) ?_)
  have hP9 := hP.sub (ws' := []) [] rfl
  have hD9 := hD.sub (ws' := []) [] (by decide) rfl
  exact W.lret (v := 486694574) hx hb hr (fun t ht hW => ⟨⟨486694574, (), rfl, rfl, by rw [ht]; exact hP9, va_K.moved hW.alike hK, hD9⟩, hS.F ht⟩) hS.2.2 dX11_mix_8
set_option maxHeartbeats 1000000 in
set_option maxRecDepth 100000 in
theorem kX11_mix_6 (l : Launch) (dC : Nat → ClassId) (dI : Nat → Nat → Nat) (cI c2 : ClassId) (sz : Nat) : Met l yX11_mix wsX11_mix ({ frames := 0, cells := 0, slots := 0, locals := 0 }) (va_Pc [.long 486694574, .int (-1)] (wPre (dC, dI) [(cI, .int), (c2, .array .int)] [] sz)) (va_Ql (fun (r : Int64) (_ : Unit) => r = 15087531793) (fun _ t => wPost (dC, dI) [(cI, .int), (c2, .array .int)] (va_A [] sz) [] t) (va_A [] sz)) 0 0 (va_A [] sz) := by
  refine Met.ofW (cc := cX11_mix) (maxL := 3) (ret := (some .long)) (by decide) rfl ?_
  intro p e s m args below meth c s₁ B hml hv
  obtain ⟨rfl, hsz, hP, hK, hD0, hN⟩ := hv
  have hx := B.exec
  have hb := B.bytes
  have hr := B.returns
  have hts := atoms_spec (ws := wsX11_mix) B.pre
  have hown : s.vm.findClass RX11 = some m.cls := findClass_of_methodNamed B.named
  have hlocks := B.notSynchronized
  subst hsz
  have hD := hD0.self (sz := s.heap.size)
  generalize hAe : va_A [] s.heap.size = A at hD ⊢
  have hA : ∀ q : Nat, s.heap.size ≤ q → A q := fun q h => by rw [← hAe]; exact Or.inr h
  have hS : va_S A s.heap s.heap [] := va_S.rf
  have hP : va_P (dC, dI) vwCl [] s.heap := hP
  have hl := lv_entry ([.long 486694574, .int (-1)]) (n := 3) (Nat.le_of_ble_eq_true rfl)
  rw [lg_entry_eq]
  generalize (lg_sl ([.long 486694574, .int (-1)]) ++ List.replicate (3 - (lg_sl ([.long 486694574, .int (-1)])).length) Slot.unset).toArray = ls at hl ⊢
  have hl : lv_has ls 3 [(0, .long 486694574), (2, .int (-1))] := hl
  refine lv_ldc2 (v := 31) hx hb hown (hts (.constantLong RX11 288 (31)) (by decide +kernel)) dX11_mix_0 ?_
  refine lv_lload_n hx hb dX11_mix_3 rfl (lv_at hl 0 rfl) ?_
  refine lv_lmul hx hb dX11_mix_4 (tk_l (v := 15087531794) (by decide +kernel) ?_)
  refine lv_iload_n hx hb dX11_mix_5 rfl (lv_at hl 1 rfl) ?_
  refine lv_i2l (v := (-1)) hx hb dX11_mix_6 (by decide +kernel) ?_
  refine lv_ladd hx hb dX11_mix_7 (tk_l (v := 15087531793) (by decide +kernel) ?_)
  have hP9 := hP.sub (ws' := []) [] rfl
  have hD9 := hD.sub (ws' := []) [] (by decide) rfl
  exact W.lret (v := 15087531793) hx hb hr (fun t ht hW => ⟨⟨15087531793, (), rfl, rfl, by rw [ht]; exact hP9, va_K.moved hW.alike hK, hD9⟩, hS.F ht⟩) hS.2.2 dX11_mix_8
set_option maxHeartbeats 1000000 in
set_option maxRecDepth 100000 in
theorem kX11_mix_7 (l : Launch) (dC : Nat → ClassId) (dI : Nat → Nat → Nat) (cI c2 : ClassId) (sz : Nat) : Met l yX11_mix wsX11_mix ({ frames := 0, cells := 0, slots := 0, locals := 0 }) (va_Pc [.long 15087531793, .int (-1)] (wPre (dC, dI) [(cI, .int), (c2, .array .int)] [] sz)) (va_Ql (fun (r : Int64) (_ : Unit) => r = 467713485582) (fun _ t => wPost (dC, dI) [(cI, .int), (c2, .array .int)] (va_A [] sz) [] t) (va_A [] sz)) 0 0 (va_A [] sz) := by
  refine Met.ofW (cc := cX11_mix) (maxL := 3) (ret := (some .long)) (by decide) rfl ?_
  intro p e s m args below meth c s₁ B hml hv
  obtain ⟨rfl, hsz, hP, hK, hD0, hN⟩ := hv
  have hx := B.exec
  have hb := B.bytes
  have hr := B.returns
  have hts := atoms_spec (ws := wsX11_mix) B.pre
  have hown : s.vm.findClass RX11 = some m.cls := findClass_of_methodNamed B.named
  have hlocks := B.notSynchronized
  subst hsz
  have hD := hD0.self (sz := s.heap.size)
  generalize hAe : va_A [] s.heap.size = A at hD ⊢
  have hA : ∀ q : Nat, s.heap.size ≤ q → A q := fun q h => by rw [← hAe]; exact Or.inr h
  have hS : va_S A s.heap s.heap [] := va_S.rf
  have hP : va_P (dC, dI) vwCl [] s.heap := hP
  have hl := lv_entry ([.long 15087531793, .int (-1)]) (n := 3) (Nat.le_of_ble_eq_true rfl)
  rw [lg_entry_eq]
  generalize (lg_sl ([.long 15087531793, .int (-1)]) ++ List.replicate (3 - (lg_sl ([.long 15087531793, .int (-1)])).length) Slot.unset).toArray = ls at hl ⊢
  have hl : lv_has ls 3 [(0, .long 15087531793), (2, .int (-1))] := hl
  refine lv_ldc2 (v := 31) hx hb hown (hts (.constantLong RX11 288 (31)) (by decide +kernel)) dX11_mix_0 ?_
  refine lv_lload_n hx hb dX11_mix_3 rfl (lv_at hl 0 rfl) ?_
  refine lv_lmul hx hb dX11_mix_4 (tk_l (v := 467713485583) (by decide +kernel) ?_)
  refine lv_iload_n hx hb dX11_mix_5 rfl (lv_at hl 1 rfl) ?_
  refine lv_i2l (v := (-1)) hx hb dX11_mix_6 (by decide +kernel) ?_
  refine lv_ladd hx hb dX11_mix_7 (tk_l (v := 467713485582) (by decide +kernel) ?_)
  have hP9 := hP.sub (ws' := []) [] rfl
  have hD9 := hD.sub (ws' := []) [] (by decide) rfl
  exact W.lret (v := 467713485582) hx hb hr (fun t ht hW => ⟨⟨467713485582, (), rfl, rfl, by rw [ht]; exact hP9, va_K.moved hW.alike hK, hD9⟩, hS.F ht⟩) hS.2.2 dX11_mix_8
set_option maxHeartbeats 1000000 in
set_option maxRecDepth 100000 in
theorem kX11_mix_8 (l : Launch) (dC : Nat → ClassId) (dI : Nat → Nat → Nat) (cI c2 : ClassId) (sz : Nat) : Met l yX11_mix wsX11_mix ({ frames := 0, cells := 0, slots := 0, locals := 0 }) (va_Pc [.long 467713485582, .int (-1)] (wPre (dC, dI) [(cI, .int), (c2, .array .int)] [] sz)) (va_Ql (fun (r : Int64) (_ : Unit) => r = 14499118053041) (fun _ t => wPost (dC, dI) [(cI, .int), (c2, .array .int)] (va_A [] sz) [] t) (va_A [] sz)) 0 0 (va_A [] sz) := by
  refine Met.ofW (cc := cX11_mix) (maxL := 3) (ret := (some .long)) (by decide) rfl ?_
  intro p e s m args below meth c s₁ B hml hv
  obtain ⟨rfl, hsz, hP, hK, hD0, hN⟩ := hv
  have hx := B.exec
  have hb := B.bytes
  have hr := B.returns
  have hts := atoms_spec (ws := wsX11_mix) B.pre
  have hown : s.vm.findClass RX11 = some m.cls := findClass_of_methodNamed B.named
  have hlocks := B.notSynchronized
  subst hsz
  have hD := hD0.self (sz := s.heap.size)
  generalize hAe : va_A [] s.heap.size = A at hD ⊢
  have hA : ∀ q : Nat, s.heap.size ≤ q → A q := fun q h => by rw [← hAe]; exact Or.inr h
  have hS : va_S A s.heap s.heap [] := va_S.rf
  have hP : va_P (dC, dI) vwCl [] s.heap := hP
  have hl := lv_entry ([.long 467713485582, .int (-1)]) (n := 3) (Nat.le_of_ble_eq_true rfl)
  rw [lg_entry_eq]
  generalize (lg_sl ([.long 467713485582, .int (-1)]) ++ List.replicate (3 - (lg_sl ([.long 467713485582, .int (-1)])).length) Slot.unset).toArray = ls at hl ⊢
  have hl : lv_has ls 3 [(0, .long 467713485582), (2, .int (-1))] := hl
  refine lv_ldc2 (v := 31) hx hb hown (hts (.constantLong RX11 288 (31)) (by decide +kernel)) dX11_mix_0 ?_
  refine lv_lload_n hx hb dX11_mix_3 rfl (lv_at hl 0 rfl) ?_
  refine lv_lmul hx hb dX11_mix_4 (tk_l (v := 14499118053042) (by decide +kernel) ?_)
  refine lv_iload_n hx hb dX11_mix_5 rfl (lv_at hl 1 rfl) ?_
  refine lv_i2l (v := (-1)) hx hb dX11_mix_6 (by decide +kernel) ?_
  refine lv_ladd hx hb dX11_mix_7 (tk_l (v := 14499118053041) (by decide +kernel) ?_)
  have hP9 := hP.sub (ws' := []) [] rfl
  have hD9 := hD.sub (ws' := []) [] (by decide) rfl
  exact W.lret (v := 14499118053041) hx hb hr (fun t ht hW => ⟨⟨14499118053041, (), rfl, rfl, by rw [ht]; exact hP9, va_K.moved hW.alike hK, hD9⟩, hS.F ht⟩) hS.2.2 dX11_mix_8
set_option maxHeartbeats 1000000 in
set_option maxRecDepth 100000 in
theorem kX11_mix_9 (l : Launch) (dC : Nat → ClassId) (dI : Nat → Nat → Nat) (cI c2 : ClassId) (sz : Nat) : Met l yX11_mix wsX11_mix ({ frames := 0, cells := 0, slots := 0, locals := 0 }) (va_Pc [.long 14499118053041, .int (-1)] (wPre (dC, dI) [(cI, .int), (c2, .array .int)] [] sz)) (va_Ql (fun (r : Int64) (_ : Unit) => r = 449472659644270) (fun _ t => wPost (dC, dI) [(cI, .int), (c2, .array .int)] (va_A [] sz) [] t) (va_A [] sz)) 0 0 (va_A [] sz) := by
  refine Met.ofW (cc := cX11_mix) (maxL := 3) (ret := (some .long)) (by decide) rfl ?_
  intro p e s m args below meth c s₁ B hml hv
  obtain ⟨rfl, hsz, hP, hK, hD0, hN⟩ := hv
  have hx := B.exec
  have hb := B.bytes
  have hr := B.returns
  have hts := atoms_spec (ws := wsX11_mix) B.pre
  have hown : s.vm.findClass RX11 = some m.cls := findClass_of_methodNamed B.named
  have hlocks := B.notSynchronized
  subst hsz
  have hD := hD0.self (sz := s.heap.size)
  generalize hAe : va_A [] s.heap.size = A at hD ⊢
  have hA : ∀ q : Nat, s.heap.size ≤ q → A q := fun q h => by rw [← hAe]; exact Or.inr h
  have hS : va_S A s.heap s.heap [] := va_S.rf
  have hP : va_P (dC, dI) vwCl [] s.heap := hP
  have hl := lv_entry ([.long 14499118053041, .int (-1)]) (n := 3) (Nat.le_of_ble_eq_true rfl)
  rw [lg_entry_eq]
  generalize (lg_sl ([.long 14499118053041, .int (-1)]) ++ List.replicate (3 - (lg_sl ([.long 14499118053041, .int (-1)])).length) Slot.unset).toArray = ls at hl ⊢
  have hl : lv_has ls 3 [(0, .long 14499118053041), (2, .int (-1))] := hl
  refine lv_ldc2 (v := 31) hx hb hown (hts (.constantLong RX11 288 (31)) (by decide +kernel)) dX11_mix_0 ?_
  refine lv_lload_n hx hb dX11_mix_3 rfl (lv_at hl 0 rfl) ?_
  refine lv_lmul hx hb dX11_mix_4 (tk_l (v := 449472659644271) (by decide +kernel) ?_)
  refine lv_iload_n hx hb dX11_mix_5 rfl (lv_at hl 1 rfl) ?_
  refine lv_i2l (v := (-1)) hx hb dX11_mix_6 (by decide +kernel) ?_
  refine lv_ladd hx hb dX11_mix_7 (tk_l (v := 449472659644270) (by decide +kernel) ?_)
  have hP9 := hP.sub (ws' := []) [] rfl
  have hD9 := hD.sub (ws' := []) [] (by decide) rfl
  exact W.lret (v := 449472659644270) hx hb hr (fun t ht hW => ⟨⟨449472659644270, (), rfl, rfl, by rw [ht]; exact hP9, va_K.moved hW.alike hK, hD9⟩, hS.F ht⟩) hS.2.2 dX11_mix_8
set_option maxHeartbeats 1000000 in
set_option maxRecDepth 100000 in
theorem kX11_mix_10 (l : Launch) (dC : Nat → ClassId) (dI : Nat → Nat → Nat) (cI c2 : ClassId) (sz : Nat) : Met l yX11_mix wsX11_mix ({ frames := 0, cells := 0, slots := 0, locals := 0 }) (va_Pc [.long 449472659644270, .int (-1)] (wPre (dC, dI) [(cI, .int), (c2, .array .int)] [] sz)) (va_Ql (fun (r : Int64) (_ : Unit) => r = 13933652448972369) (fun _ t => wPost (dC, dI) [(cI, .int), (c2, .array .int)] (va_A [] sz) [] t) (va_A [] sz)) 0 0 (va_A [] sz) := by
  refine Met.ofW (cc := cX11_mix) (maxL := 3) (ret := (some .long)) (by decide) rfl ?_
  intro p e s m args below meth c s₁ B hml hv
  obtain ⟨rfl, hsz, hP, hK, hD0, hN⟩ := hv
  have hx := B.exec
  have hb := B.bytes
  have hr := B.returns
  have hts := atoms_spec (ws := wsX11_mix) B.pre
  have hown : s.vm.findClass RX11 = some m.cls := findClass_of_methodNamed B.named
  have hlocks := B.notSynchronized
  subst hsz
  have hD := hD0.self (sz := s.heap.size)
  generalize hAe : va_A [] s.heap.size = A at hD ⊢
  have hA : ∀ q : Nat, s.heap.size ≤ q → A q := fun q h => by rw [← hAe]; exact Or.inr h
  have hS : va_S A s.heap s.heap [] := va_S.rf
  have hP : va_P (dC, dI) vwCl [] s.heap := hP
  have hl := lv_entry ([.long 449472659644270, .int (-1)]) (n := 3) (Nat.le_of_ble_eq_true rfl)
  rw [lg_entry_eq]
  generalize (lg_sl ([.long 449472659644270, .int (-1)]) ++ List.replicate (3 - (lg_sl ([.long 449472659644270, .int (-1)])).length) Slot.unset).toArray = ls at hl ⊢
  have hl : lv_has ls 3 [(0, .long 449472659644270), (2, .int (-1))] := hl
  refine lv_ldc2 (v := 31) hx hb hown (hts (.constantLong RX11 288 (31)) (by decide +kernel)) dX11_mix_0 ?_
  refine lv_lload_n hx hb dX11_mix_3 rfl (lv_at hl 0 rfl) ?_
  refine lv_lmul hx hb dX11_mix_4 (tk_l (v := 13933652448972370) (by decide +kernel) ?_)
  refine lv_iload_n hx hb dX11_mix_5 rfl (lv_at hl 1 rfl) ?_
  refine lv_i2l (v := (-1)) hx hb dX11_mix_6 (by decide +kernel) ?_
  refine lv_ladd hx hb dX11_mix_7 (tk_l (v := 13933652448972369) (by decide +kernel) ?_)
  have hP9 := hP.sub (ws' := []) [] rfl
  have hD9 := hD.sub (ws' := []) [] (by decide) rfl
  exact W.lret (v := 13933652448972369) hx hb hr (fun t ht hW => ⟨⟨13933652448972369, (), rfl, rfl, by rw [ht]; exact hP9, va_K.moved hW.alike hK, hD9⟩, hS.F ht⟩) hS.2.2 dX11_mix_8
set_option maxHeartbeats 1000000 in
set_option maxRecDepth 100000 in
theorem kX11_mix_11 (l : Launch) (dC : Nat → ClassId) (dI : Nat → Nat → Nat) (cI c2 : ClassId) (sz : Nat) : Met l yX11_mix wsX11_mix ({ frames := 0, cells := 0, slots := 0, locals := 0 }) (va_Pc [.long 13933652448972369, .int (-1)] (wPre (dC, dI) [(cI, .int), (c2, .array .int)] [] sz)) (va_Ql (fun (r : Int64) (_ : Unit) => r = 431943225918143438) (fun _ t => wPost (dC, dI) [(cI, .int), (c2, .array .int)] (va_A [] sz) [] t) (va_A [] sz)) 0 0 (va_A [] sz) := by
  refine Met.ofW (cc := cX11_mix) (maxL := 3) (ret := (some .long)) (by decide) rfl ?_
  intro p e s m args below meth c s₁ B hml hv
  obtain ⟨rfl, hsz, hP, hK, hD0, hN⟩ := hv
  have hx := B.exec
  have hb := B.bytes
  have hr := B.returns
  have hts := atoms_spec (ws := wsX11_mix) B.pre
  have hown : s.vm.findClass RX11 = some m.cls := findClass_of_methodNamed B.named
  have hlocks := B.notSynchronized
  subst hsz
  have hD := hD0.self (sz := s.heap.size)
  generalize hAe : va_A [] s.heap.size = A at hD ⊢
  have hA : ∀ q : Nat, s.heap.size ≤ q → A q := fun q h => by rw [← hAe]; exact Or.inr h
  have hS : va_S A s.heap s.heap [] := va_S.rf
  have hP : va_P (dC, dI) vwCl [] s.heap := hP
  have hl := lv_entry ([.long 13933652448972369, .int (-1)]) (n := 3) (Nat.le_of_ble_eq_true rfl)
  rw [lg_entry_eq]
  generalize (lg_sl ([.long 13933652448972369, .int (-1)]) ++ List.replicate (3 - (lg_sl ([.long 13933652448972369, .int (-1)])).length) Slot.unset).toArray = ls at hl ⊢
  have hl : lv_has ls 3 [(0, .long 13933652448972369), (2, .int (-1))] := hl
  refine lv_ldc2 (v := 31) hx hb hown (hts (.constantLong RX11 288 (31)) (by decide +kernel)) dX11_mix_0 ?_
  refine lv_lload_n hx hb dX11_mix_3 rfl (lv_at hl 0 rfl) ?_
  refine lv_lmul hx hb dX11_mix_4 (tk_l (v := 431943225918143439) (by decide +kernel) ?_)
  refine lv_iload_n hx hb dX11_mix_5 rfl (lv_at hl 1 rfl) ?_
  refine lv_i2l (v := (-1)) hx hb dX11_mix_6 (by decide +kernel) ?_
  refine lv_ladd hx hb dX11_mix_7 (tk_l (v := 431943225918143438) (by decide +kernel) ?_)
  have hP9 := hP.sub (ws' := []) [] rfl
  have hD9 := hD.sub (ws' := []) [] (by decide) rfl
  exact W.lret (v := 431943225918143438) hx hb hr (fun t ht hW => ⟨⟨431943225918143438, (), rfl, rfl, by rw [ht]; exact hP9, va_K.moved hW.alike hK, hD9⟩, hS.F ht⟩) hS.2.2 dX11_mix_8
set_option maxHeartbeats 1000000 in
set_option maxRecDepth 100000 in
theorem kX11_mix_12 (l : Launch) (dC : Nat → ClassId) (dI : Nat → Nat → Nat) (cI c2 : ClassId) (sz : Nat) : Met l yX11_mix wsX11_mix ({ frames := 0, cells := 0, slots := 0, locals := 0 }) (va_Pc [.long 431943225918143438, .int (-1)] (wPre (dC, dI) [(cI, .int), (c2, .array .int)] [] sz)) (va_Ql (fun (r : Int64) (_ : Unit) => r = (-5056504070247105039)) (fun _ t => wPost (dC, dI) [(cI, .int), (c2, .array .int)] (va_A [] sz) [] t) (va_A [] sz)) 0 0 (va_A [] sz) := by
  refine Met.ofW (cc := cX11_mix) (maxL := 3) (ret := (some .long)) (by decide) rfl ?_
  intro p e s m args below meth c s₁ B hml hv
  obtain ⟨rfl, hsz, hP, hK, hD0, hN⟩ := hv
  have hx := B.exec
  have hb := B.bytes
  have hr := B.returns
  have hts := atoms_spec (ws := wsX11_mix) B.pre
  have hown : s.vm.findClass RX11 = some m.cls := findClass_of_methodNamed B.named
  have hlocks := B.notSynchronized
  subst hsz
  have hD := hD0.self (sz := s.heap.size)
  generalize hAe : va_A [] s.heap.size = A at hD ⊢
  have hA : ∀ q : Nat, s.heap.size ≤ q → A q := fun q h => by rw [← hAe]; exact Or.inr h
  have hS : va_S A s.heap s.heap [] := va_S.rf
  have hP : va_P (dC, dI) vwCl [] s.heap := hP
  have hl := lv_entry ([.long 431943225918143438, .int (-1)]) (n := 3) (Nat.le_of_ble_eq_true rfl)
  rw [lg_entry_eq]
  generalize (lg_sl ([.long 431943225918143438, .int (-1)]) ++ List.replicate (3 - (lg_sl ([.long 431943225918143438, .int (-1)])).length) Slot.unset).toArray = ls at hl ⊢
  have hl : lv_has ls 3 [(0, .long 431943225918143438), (2, .int (-1))] := hl
  refine lv_ldc2 (v := 31) hx hb hown (hts (.constantLong RX11 288 (31)) (by decide +kernel)) dX11_mix_0 ?_
  refine lv_lload_n hx hb dX11_mix_3 rfl (lv_at hl 0 rfl) ?_
  refine lv_lmul hx hb dX11_mix_4 (tk_l (v := (-5056504070247105038)) (by decide +kernel) ?_)
  refine lv_iload_n hx hb dX11_mix_5 rfl (lv_at hl 1 rfl) ?_
  refine lv_i2l (v := (-1)) hx hb dX11_mix_6 (by decide +kernel) ?_
  refine lv_ladd hx hb dX11_mix_7 (tk_l (v := (-5056504070247105039)) (by decide +kernel) ?_)
  have hP9 := hP.sub (ws' := []) [] rfl
  have hD9 := hD.sub (ws' := []) [] (by decide) rfl
  exact W.lret (v := (-5056504070247105039)) hx hb hr (fun t ht hW => ⟨⟨(-5056504070247105039), (), rfl, rfl, by rw [ht]; exact hP9, va_K.moved hW.alike hK, hD9⟩, hS.F ht⟩) hS.2.2 dX11_mix_8
set_option maxHeartbeats 1000000 in
set_option maxRecDepth 100000 in
theorem kX11_mix_13 (l : Launch) (dC : Nat → ClassId) (dI : Nat → Nat → Nat) (cI c2 : ClassId) (sz : Nat) : Met l yX11_mix wsX11_mix ({ frames := 0, cells := 0, slots := 0, locals := 0 }) (va_Pc [.long (-5056504070247105039), .int (-1)] (wPre (dC, dI) [(cI, .int), (c2, .array .int)] [] sz)) (va_Ql (fun (r : Int64) (_ : Unit) => r = (-9177673587983843282)) (fun _ t => wPost (dC, dI) [(cI, .int), (c2, .array .int)] (va_A [] sz) [] t) (va_A [] sz)) 0 0 (va_A [] sz) := by
  refine Met.ofW (cc := cX11_mix) (maxL := 3) (ret := (some .long)) (by decide) rfl ?_
  intro p e s m args below meth c s₁ B hml hv
  obtain ⟨rfl, hsz, hP, hK, hD0, hN⟩ := hv
  have hx := B.exec
  have hb := B.bytes
  have hr := B.returns
  have hts := atoms_spec (ws := wsX11_mix) B.pre
  have hown : s.vm.findClass RX11 = some m.cls := findClass_of_methodNamed B.named
  have hlocks := B.notSynchronized
  subst hsz
  have hD := hD0.self (sz := s.heap.size)
  generalize hAe : va_A [] s.heap.size = A at hD ⊢
  have hA : ∀ q : Nat, s.heap.size ≤ q → A q := fun q h => by rw [← hAe]; exact Or.inr h
  have hS : va_S A s.heap s.heap [] := va_S.rf
  have hP : va_P (dC, dI) vwCl [] s.heap := hP
  have hl := lv_entry ([.long (-5056504070247105039), .int (-1)]) (n := 3) (Nat.le_of_ble_eq_true rfl)
  rw [lg_entry_eq]
  generalize (lg_sl ([.long (-5056504070247105039), .int (-1)]) ++ List.replicate (3 - (lg_sl ([.long (-5056504070247105039), .int (-1)])).length) Slot.unset).toArray = ls at hl ⊢
  have hl : lv_has ls 3 [(0, .long (-5056504070247105039)), (2, .int (-1))] := hl
  refine lv_ldc2 (v := 31) hx hb hown (hts (.constantLong RX11 288 (31)) (by decide +kernel)) dX11_mix_0 ?_
  refine lv_lload_n hx hb dX11_mix_3 rfl (lv_at hl 0 rfl) ?_
  refine lv_lmul hx hb dX11_mix_4 (tk_l (v := (-9177673587983843281)) (by decide +kernel) ?_)
  refine lv_iload_n hx hb dX11_mix_5 rfl (lv_at hl 1 rfl) ?_
  refine lv_i2l (v := (-1)) hx hb dX11_mix_6 (by decide +kernel) ?_
  refine lv_ladd hx hb dX11_mix_7 (tk_l (v := (-9177673587983843282)) (by decide +kernel) ?_)
  have hP9 := hP.sub (ws' := []) [] rfl
  have hD9 := hD.sub (ws' := []) [] (by decide) rfl
  exact W.lret (v := (-9177673587983843282)) hx hb hr (fun t ht hW => ⟨⟨(-9177673587983843282), (), rfl, rfl, by rw [ht]; exact hP9, va_K.moved hW.alike hK, hD9⟩, hS.F ht⟩) hS.2.2 dX11_mix_8
set_option maxHeartbeats 1000000 in
set_option maxRecDepth 100000 in
theorem kX11_mix_14 (l : Launch) (dC : Nat → ClassId) (dI : Nat → Nat → Nat) (cI c2 : ClassId) (sz : Nat) : Met l yX11_mix wsX11_mix ({ frames := 0, cells := 0, slots := 0, locals := 0 }) (va_Pc [.long (-9177673587983843282), .int (-1)] (wPre (dC, dI) [(cI, .int), (c2, .array .int)] [] sz)) (va_Ql (fun (r : Int64) (_ : Unit) => r = (-7806720121855867503)) (fun _ t => wPost (dC, dI) [(cI, .int), (c2, .array .int)] (va_A [] sz) [] t) (va_A [] sz)) 0 0 (va_A [] sz) := by
  refine Met.ofW (cc := cX11_mix) (maxL := 3) (ret := (some .long)) (by decide) rfl ?_
  intro p e s m args below meth c s₁ B hml hv
  obtain ⟨rfl, hsz, hP, hK, hD0, hN⟩ := hv
  have hx := B.exec
  have hb := B.bytes
  have hr := B.returns
  have hts := atoms_spec (ws := wsX11_mix) B.pre
  have hown : s.vm.findClass RX11 = some m.cls := findClass_of_methodNamed B.named
  have hlocks := B.notSynchronized
  subst hsz
  have hD := hD0.self (sz := s.heap.size)
  generalize hAe : va_A [] s.heap.size = A at hD ⊢
  have hA : ∀ q : Nat, s.heap.size ≤ q → A q := fun q h => by rw [← hAe]; exact Or.inr h
  have hS : va_S A s.heap s.heap [] := va_S.rf
  have hP : va_P (dC, dI) vwCl [] s.heap := hP
  have hl := lv_entry ([.long (-9177673587983843282), .int (-1)]) (n := 3) (Nat.le_of_ble_eq_true rfl)
  rw [lg_entry_eq]
  generalize (lg_sl ([.long (-9177673587983843282), .int (-1)]) ++ List.replicate (3 - (lg_sl ([.long (-9177673587983843282), .int (-1)])).length) Slot.unset).toArray = ls at hl ⊢
  have hl : lv_has ls 3 [(0, .long (-9177673587983843282)), (2, .int (-1))] := hl
  refine lv_ldc2 (v := 31) hx hb hown (hts (.constantLong RX11 288 (31)) (by decide +kernel)) dX11_mix_0 ?_
  refine lv_lload_n hx hb dX11_mix_3 rfl (lv_at hl 0 rfl) ?_
  refine lv_lmul hx hb dX11_mix_4 (tk_l (v := (-7806720121855867502)) (by decide +kernel) ?_)
  refine lv_iload_n hx hb dX11_mix_5 rfl (lv_at hl 1 rfl) ?_
  refine lv_i2l (v := (-1)) hx hb dX11_mix_6 (by decide +kernel) ?_
  refine lv_ladd hx hb dX11_mix_7 (tk_l (v := (-7806720121855867503)) (by decide +kernel) ?_)
  have hP9 := hP.sub (ws' := []) [] rfl
  have hD9 := hD.sub (ws' := []) [] (by decide) rfl
  exact W.lret (v := (-7806720121855867503)) hx hb hr (fun t ht hW => ⟨⟨(-7806720121855867503), (), rfl, rfl, by rw [ht]; exact hP9, va_K.moved hW.alike hK, hD9⟩, hS.F ht⟩) hS.2.2 dX11_mix_8
set_option maxHeartbeats 1000000 in
set_option maxRecDepth 100000 in
theorem kX11_mixAll_2 (l : Launch) (dC : Nat → ClassId) (dI : Nat → Nat → Nat) (cI c2 : ClassId) (o0 : Nat) (sz : Nat) : Met l yX11_mixAll wsX11_mixAll ({ frames := 1, cells := 0, slots := 0, locals := 22 }) (va_Pc [.long 16337, .ref o0, .int 12] (wPre (dC, dI) [(cI, .int), (c2, .array .int)] [(o0, .inl (cI, 12, .inl (fun _ => (-1))))] sz)) (va_Ql (fun (r : Int64) (_ : Unit) => r = (-7806720121855867503)) (fun _ t => wPost (dC, dI) [(cI, .int), (c2, .array .int)] (va_A [(o0, .inl (cI, 12, .inl (fun _ => (-1))))] sz) [(o0, .inl (cI, 12, .inl (fun _ => (-1))))] t) (va_A [(o0, .inl (cI, 12, .inl (fun _ => (-1))))] sz)) 0 0 (va_A [(o0, .inl (cI, 12, .inl (fun _ => (-1))))] sz) := by
  refine Met.ofW (cc := cX11_mixAll) (maxL := 7) (ret := (some .long)) (by decide) rfl ?_
  intro p e s m args below meth c s₁ B hml hv
  obtain ⟨rfl, hsz, hP, hK, hD0, hN⟩ := hv
  have hx := B.exec
  have hb := B.bytes
  have hr := B.returns
  have hts := atoms_spec (ws := wsX11_mixAll) B.pre
  have hown : s.vm.findClass RX11 = some m.cls := findClass_of_methodNamed B.named
  have hlocks := B.notSynchronized
  subst hsz
  have hD := hD0.self (sz := s.heap.size)
  generalize hAe : va_A [(o0, .inl (cI, 12, .inl (fun _ => (-1))))] s.heap.size = A at hD ⊢
  have hA : ∀ q : Nat, s.heap.size ≤ q → A q := fun q h => by rw [← hAe]; exact Or.inr h
  have hS : va_S A s.heap s.heap [] := va_S.rf
  have hP : va_P (dC, dI) vwCl [(o0, .inl (cI, 12, .inl (fun _ => (-1))))] s.heap := hP
  have hl := lv_entry ([.long 16337, .ref o0, .int 12]) (n := 7) (Nat.le_of_ble_eq_true rfl)
  rw [lg_entry_eq]
  generalize (lg_sl ([.long 16337, .ref o0, .int 12]) ++ List.replicate (7 - (lg_sl ([.long 16337, .ref o0, .int 12])).length) Slot.unset).toArray = ls at hl ⊢
  have hl : lv_has ls 7 [(0, .long 16337), (2, .ref o0), (3, .int 12)] := hl
  refine lv_lload_n hx hb dX11_mixAll_0 rfl (lv_at hl 0 rfl) ?_
  refine lv_lstore (lv' := [(4, .long 16337), (0, .long 16337), (2, .ref o0), (3, .int 12)]) hx hb dX11_mixAll_1 hl (by decide) rfl (fun ls hl => ?_)
  refine lv_iconst (v := 0) hx hb dX11_mixAll_3 (by decide) ?_
  refine lv_istore (lv' := [(6, .int 0), (4, .long 16337), (0, .long 16337), (2, .ref o0), (3, .int 12)]) hx hb dX11_mixAll_4 hl (by decide) rfl (fun ls hl => ?_)
  refine lv_iload hx hb dX11_mixAll_6 (lv_at hl 0 rfl) ?_
  refine lv_iload_n hx hb dX11_mixAll_8 rfl (lv_at hl 4 rfl) ?_
  refine lv_icmp_ge (tgt := 36) hx hb dX11_mixAll_9 (by decide) (fun h9 => absurd h9 (by decide +kernel)) (fun _ => ?_)
  refine lv_iload hx hb dX11_mixAll_12 (lv_at hl 0 rfl) ?_
  refine lv_aload_n hx hb dX11_mixAll_14 rfl (lv_at hl 3 rfl) ?_
  refine va_alen (v := 12) hx hb hK hP 0 0 rfl rfl (by decide +kernel) dX11_mixAll_15 ?_
  refine lv_icmp_ge (tgt := 36) hx hb dX11_mixAll_16 (by decide) (fun h9 => absurd h9 (by decide +kernel)) (fun _ => ?_)
  refine lv_lload hx hb dX11_mixAll_19 (lv_at hl 1 rfl) ?_
  refine lv_aload_n hx hb dX11_mixAll_21 rfl (lv_at hl 3 rfl) ?_
  refine lv_iload hx hb dX11_mixAll_22 (lv_at hl 0 rfl) ?_
  refine va_iald hx hb hK hP 0 0 rfl rfl (vin (by decide +kernel)) dX11_mixAll_24 (tk_i (v := (-1)) (by decide +kernel) ?_)
  refine kcall_l (D := (dC, dI)) (S := Unit) (v := 506446) (wc := []) (wr := [(o0, .inl (cI, 12, .inl (fun _ => (-1))))]) (w1 := fun _ => []) (fun hPc hDc => va_runS (As := [.long 16337, .int (-1)]) (rest := []) ⟨hx, hb, hml, hown, hts⟩ (kX11_mix_3 l dC dI cI c2 s.heap.size) (va_cwS 2 hts gX11_mixAll_X11_mix rfl rfl rfl (by decide +kernel) ⟨Nat.le_of_ble_eq_true rfl, Nat.le_of_ble_eq_true rfl⟩) (pre_S hPc hK hDc hN) rfl rfl hl.1 rfl (lv_room (Nat.le_of_ble_eq_true rfl)) dX11_mixAll_25 ⟨Nat.le_of_ble_eq_true rfl, Nat.le_of_ble_eq_true rfl⟩) hP hD hS hA [] [0] rfl rfl (by decide) (by decide) (by decide) (fun u H locs hP hD hS => ?_)
  have hP : va_P (dC, dI) vwCl [(o0, .inl (cI, 12, .inl (fun _ => (-1))))] H := hP
  have hD : va_D A [(o0, .inl (cI, 12, .inl (fun _ => (-1))))] := hD
  refine lv_lstore (lv' := [(4, .long 506446), (6, .int 0), (0, .long 16337), (2, .ref o0), (3, .int 12)]) hx hb dX11_mixAll_28 hl (by decide) rfl (fun ls hl => ?_)
  refine lv_iinc (v := 1) (lv' := [(6, .int 1), (4, .long 506446), (0, .long 16337), (2, .ref o0), (3, .int 12)]) hx hb dX11_mixAll_30 hl (k := 1) rfl (by decide +kernel) (by decide) rfl (fun ls hl => ?_)
  refine lv_goto (tgt := 6) hx hb dX11_mixAll_33 (by decide) ?_
  refine lv_iload hx hb dX11_mixAll_6 (lv_at hl 0 rfl) ?_
  refine lv_iload_n hx hb dX11_mixAll_8 rfl (lv_at hl 4 rfl) ?_
  refine lv_icmp_ge (tgt := 36) hx hb dX11_mixAll_9 (by decide) (fun h9 => absurd h9 (by decide +kernel)) (fun _ => ?_)
  refine lv_iload hx hb dX11_mixAll_12 (lv_at hl 0 rfl) ?_
  refine lv_aload_n hx hb dX11_mixAll_14 rfl (lv_at hl 3 rfl) ?_
  refine va_alen (v := 12) hx hb hK hP 0 0 rfl rfl (by decide +kernel) dX11_mixAll_15 ?_
  refine lv_icmp_ge (tgt := 36) hx hb dX11_mixAll_16 (by decide) (fun h9 => absurd h9 (by decide +kernel)) (fun _ => ?_)
  refine lv_lload hx hb dX11_mixAll_19 (lv_at hl 1 rfl) ?_
  refine lv_aload_n hx hb dX11_mixAll_21 rfl (lv_at hl 3 rfl) ?_
  refine lv_iload hx hb dX11_mixAll_22 (lv_at hl 0 rfl) ?_
  refine va_iald hx hb hK hP 0 0 rfl rfl (vin (by decide +kernel)) dX11_mixAll_24 (tk_i (v := (-1)) (by decide +kernel) ?_)
  refine kcall_l (D := (dC, dI)) (S := Unit) (v := 15699825) (wc := []) (wr := [(o0, .inl (cI, 12, .inl (fun _ => (-1))))]) (w1 := fun _ => []) (fun hPc hDc => va_runS (As := [.long 506446, .int (-1)]) (rest := []) ⟨hx, hb, hml, hown, hts⟩ (kX11_mix_4 l dC dI cI c2 H.size) (va_cwS 2 hts gX11_mixAll_X11_mix rfl rfl rfl (by decide +kernel) ⟨Nat.le_of_ble_eq_true rfl, Nat.le_of_ble_eq_true rfl⟩) (pre_S hPc hK hDc hN) rfl rfl hl.1 rfl (lv_room (Nat.le_of_ble_eq_true rfl)) dX11_mixAll_25 ⟨Nat.le_of_ble_eq_true rfl, Nat.le_of_ble_eq_true rfl⟩) hP hD hS hA [] [0] rfl rfl (by decide) (by decide) (by decide) (fun u H locs hP hD hS => ?_)
  have hP : va_P (dC, dI) vwCl [(o0, .inl (cI, 12, .inl (fun _ => (-1))))] H := hP
  have hD : va_D A [(o0, .inl (cI, 12, .inl (fun _ => (-1))))] := hD
  refine lv_lstore (lv' := [(4, .long 15699825), (6, .int 1), (0, .long 16337), (2, .ref o0), (3, .int 12)]) hx hb dX11_mixAll_28 hl (by decide) rfl (fun ls hl => ?_)
  refine lv_iinc (v := 2) (lv' := [(6, .int 2), (4, .long 15699825), (0, .long 16337), (2, .ref o0), (3, .int 12)]) hx hb dX11_mixAll_30 hl (k := 1) rfl (by decide +kernel) (by decide) rfl (fun ls hl => ?_)
  refine lv_goto (tgt := 6) hx hb dX11_mixAll_33 (by decide) ?_
  refine lv_iload hx hb dX11_mixAll_6 (lv_at hl 0 rfl) ?_
  refine lv_iload_n hx hb dX11_mixAll_8 rfl (lv_at hl 4 rfl) ?_
  refine lv_icmp_ge (tgt := 36) hx hb dX11_mixAll_9 (by decide) (fun h9 => absurd h9 (by decide +kernel)) (fun _ => ?_)
  refine lv_iload hx hb dX11_mixAll_12 (lv_at hl 0 rfl) ?_
  refine lv_aload_n hx hb dX11_mixAll_14 rfl (lv_at hl 3 rfl) ?_
  refine va_alen (v := 12) hx hb hK hP 0 0 rfl rfl (by decide +kernel) dX11_mixAll_15 ?_
  refine lv_icmp_ge (tgt := 36) hx hb dX11_mixAll_16 (by decide) (fun h9 => absurd h9 (by decide +kernel)) (fun _ => ?_)
  refine lv_lload hx hb dX11_mixAll_19 (lv_at hl 1 rfl) ?_
  refine lv_aload_n hx hb dX11_mixAll_21 rfl (lv_at hl 3 rfl) ?_
  refine lv_iload hx hb dX11_mixAll_22 (lv_at hl 0 rfl) ?_
  refine va_iald hx hb hK hP 0 0 rfl rfl (vin (by decide +kernel)) dX11_mixAll_24 (tk_i (v := (-1)) (by decide +kernel) ?_)
  refine kcall_l (D := (dC, dI)) (S := Unit) (v := 486694574) (wc := []) (wr := [(o0, .inl (cI, 12, .inl (fun _ => (-1))))]) (w1 := fun _ => []) (fun hPc hDc => va_runS (As := [.long 15699825, .int (-1)]) (rest := []) ⟨hx, hb, hml, hown, hts⟩ (kX11_mix_5 l dC dI cI c2 H.size) (va_cwS 2 hts gX11_mixAll_X11_mix rfl rfl rfl (by decide +kernel) ⟨Nat.le_of_ble_eq_true rfl, Nat.le_of_ble_eq_true rfl⟩) (pre_S hPc hK hDc hN) rfl rfl hl.1 rfl (lv_room (Nat.le_of_ble_eq_true rfl)) dX11_mixAll_25 ⟨Nat.le_of_ble_eq_true rfl, Nat.le_of_ble_eq_true rfl⟩) hP hD hS hA [] [0] rfl rfl (by decide) (by decide) (by decide) (fun u H locs hP hD hS => ?_)
  have hP : va_P (dC, dI) vwCl [(o0, .inl (cI, 12, .inl (fun _ => (-1))))] H := hP
  have hD : va_D A [(o0, .inl (cI, 12, .inl (fun _ => (-1))))] := hD
  refine lv_lstore (lv' := [(4, .long 486694574), (6, .int 2), (0, .long 16337), (2, .ref o0), (3, .int 12)]) hx hb dX11_mixAll_28 hl (by decide) rfl (fun ls hl => ?_)
  refine lv_iinc (v := 3) (lv' := [(6, .int 3), (4, .long 486694574), (0, .long 16337), (2, .ref o0), (3, .int 12)]) hx hb dX11_mixAll_30 hl (k := 1) rfl (by decide +kernel) (by decide) rfl (fun ls hl => ?_)
  refine lv_goto (tgt := 6) hx hb dX11_mixAll_33 (by decide) ?_
  refine lv_iload hx hb dX11_mixAll_6 (lv_at hl 0 rfl) ?_
  refine lv_iload_n hx hb dX11_mixAll_8 rfl (lv_at hl 4 rfl) ?_
  refine lv_icmp_ge (tgt := 36) hx hb dX11_mixAll_9 (by decide) (fun h9 => absurd h9 (by decide +kernel)) (fun _ => ?_)
  refine lv_iload hx hb dX11_mixAll_12 (lv_at hl 0 rfl) ?_
  refine lv_aload_n hx hb dX11_mixAll_14 rfl (lv_at hl 3 rfl) ?_
  refine va_alen (v := 12) hx hb hK hP 0 0 rfl rfl (by decide +kernel) dX11_mixAll_15 ?_
  refine lv_icmp_ge (tgt := 36) hx hb dX11_mixAll_16 (by decide) (fun h9 => absurd h9 (by decide +kernel)) (fun _ => ?_)
  refine lv_lload hx hb dX11_mixAll_19 (lv_at hl 1 rfl) ?_
  refine lv_aload_n hx hb dX11_mixAll_21 rfl (lv_at hl 3 rfl) ?_
  refine lv_iload hx hb dX11_mixAll_22 (lv_at hl 0 rfl) ?_
  refine va_iald hx hb hK hP 0 0 rfl rfl (vin (by decide +kernel)) dX11_mixAll_24 (tk_i (v := (-1)) (by decide +kernel) ?_)
  refine kcall_l (D := (dC, dI)) (S := Unit) (v := 15087531793) (wc := []) (wr := [(o0, .inl (cI, 12, .inl (fun _ => (-1))))]) (w1 := fun _ => []) (fun hPc hDc => va_runS (As := [.long 486694574, .int (-1)]) (rest := []) ⟨hx, hb, hml, hown, hts⟩ (kX11_mix_6 l dC dI cI c2 H.size) (va_cwS 2 hts gX11_mixAll_X11_mix rfl rfl rfl (by decide +kernel) ⟨Nat.le_of_ble_eq_true rfl, Nat.le_of_ble_eq_true rfl⟩) (pre_S hPc hK hDc hN) rfl rfl hl.1 rfl (lv_room (Nat.le_of_ble_eq_true rfl)) dX11_mixAll_25 ⟨Nat.le_of_ble_eq_true rfl, Nat.le_of_ble_eq_true rfl⟩) hP hD hS hA [] [0] rfl rfl (by decide) (by decide) (by decide) (fun u H locs hP hD hS => ?_)
  have hP : va_P (dC, dI) vwCl [(o0, .inl (cI, 12, .inl (fun _ => (-1))))] H := hP
  have hD : va_D A [(o0, .inl (cI, 12, .inl (fun _ => (-1))))] := hD
  refine lv_lstore (lv' := [(4, .long 15087531793), (6, .int 3), (0, .long 16337), (2, .ref o0), (3, .int 12)]) hx hb dX11_mixAll_28 hl (by decide) rfl (fun ls hl => ?_)
  refine lv_iinc (v := 4) (lv' := [(6, .int 4), (4, .long 15087531793), (0, .long 16337), (2, .ref o0), (3, .int 12)]) hx hb dX11_mixAll_30 hl (k := 1) rfl (by decide +kernel) (by decide) rfl (fun ls hl => ?_)
  refine lv_goto (tgt := 6) hx hb dX11_mixAll_33 (by decide) ?_
  refine lv_iload hx hb dX11_mixAll_6 (lv_at hl 0 rfl) ?_
  refine lv_iload_n hx hb dX11_mixAll_8 rfl (lv_at hl 4 rfl) ?_
  refine lv_icmp_ge (tgt := 36) hx hb dX11_mixAll_9 (by decide) (fun h9 => absurd h9 (by decide +kernel)) (fun _ => ?_)
  refine lv_iload hx hb dX11_mixAll_12 (lv_at hl 0 rfl) ?_
  refine lv_aload_n hx hb dX11_mixAll_14 rfl (lv_at hl 3 rfl) ?_
  refine va_alen (v := 12) hx hb hK hP 0 0 rfl rfl (by decide +kernel) dX11_mixAll_15 ?_
  refine lv_icmp_ge (tgt := 36) hx hb dX11_mixAll_16 (by decide) (fun h9 => absurd h9 (by decide +kernel)) (fun _ => ?_)
  refine lv_lload hx hb dX11_mixAll_19 (lv_at hl 1 rfl) ?_
  refine lv_aload_n hx hb dX11_mixAll_21 rfl (lv_at hl 3 rfl) ?_
  refine lv_iload hx hb dX11_mixAll_22 (lv_at hl 0 rfl) ?_
  refine va_iald hx hb hK hP 0 0 rfl rfl (vin (by decide +kernel)) dX11_mixAll_24 (tk_i (v := (-1)) (by decide +kernel) ?_)
  refine kcall_l (D := (dC, dI)) (S := Unit) (v := 467713485582) (wc := []) (wr := [(o0, .inl (cI, 12, .inl (fun _ => (-1))))]) (w1 := fun _ => []) (fun hPc hDc => va_runS (As := [.long 15087531793, .int (-1)]) (rest := []) ⟨hx, hb, hml, hown, hts⟩ (kX11_mix_7 l dC dI cI c2 H.size) (va_cwS 2 hts gX11_mixAll_X11_mix rfl rfl rfl (by decide +kernel) ⟨Nat.le_of_ble_eq_true rfl, Nat.le_of_ble_eq_true rfl⟩) (pre_S hPc hK hDc hN) rfl rfl hl.1 rfl (lv_room (Nat.le_of_ble_eq_true rfl)) dX11_mixAll_25 ⟨Nat.le_of_ble_eq_true rfl, Nat.le_of_ble_eq_true rfl⟩) hP hD hS hA [] [0] rfl rfl (by decide) (by decide) (by decide) (fun u H locs hP hD hS => ?_)
  have hP : va_P (dC, dI) vwCl [(o0, .inl (cI, 12, .inl (fun _ => (-1))))] H := hP
  have hD : va_D A [(o0, .inl (cI, 12, .inl (fun _ => (-1))))] := hD
  refine lv_lstore (lv' := [(4, .long 467713485582), (6, .int 4), (0, .long 16337), (2, .ref o0), (3, .int 12)]) hx hb dX11_mixAll_28 hl (by decide) rfl (fun ls hl => ?_)
  refine lv_iinc (v := 5) (lv' := [(6, .int 5), (4, .long 467713485582), (0, .long 16337), (2, .ref o0), (3, .int 12)]) hx hb dX11_mixAll_30 hl (k := 1) rfl (by decide +kernel) (by decide) rfl (fun ls hl => ?_)
  refine lv_goto (tgt := 6) hx hb dX11_mixAll_33 (by decide) ?_
  refine lv_iload hx hb dX11_mixAll_6 (lv_at hl 0 rfl) ?_
  refine lv_iload_n hx hb dX11_mixAll_8 rfl (lv_at hl 4 rfl) ?_
  refine lv_icmp_ge (tgt := 36) hx hb dX11_mixAll_9 (by decide) (fun h9 => absurd h9 (by decide +kernel)) (fun _ => ?_)
  refine lv_iload hx hb dX11_mixAll_12 (lv_at hl 0 rfl) ?_
  refine lv_aload_n hx hb dX11_mixAll_14 rfl (lv_at hl 3 rfl) ?_
  refine va_alen (v := 12) hx hb hK hP 0 0 rfl rfl (by decide +kernel) dX11_mixAll_15 ?_
  refine lv_icmp_ge (tgt := 36) hx hb dX11_mixAll_16 (by decide) (fun h9 => absurd h9 (by decide +kernel)) (fun _ => ?_)
  refine lv_lload hx hb dX11_mixAll_19 (lv_at hl 1 rfl) ?_
  refine lv_aload_n hx hb dX11_mixAll_21 rfl (lv_at hl 3 rfl) ?_
  refine lv_iload hx hb dX11_mixAll_22 (lv_at hl 0 rfl) ?_
  refine va_iald hx hb hK hP 0 0 rfl rfl (vin (by decide +kernel)) dX11_mixAll_24 (tk_i (v := (-1)) (by decide +kernel) ?_)
  refine kcall_l (D := (dC, dI)) (S := Unit) (v := 14499118053041) (wc := []) (wr := [(o0, .inl (cI, 12, .inl (fun _ => (-1))))]) (w1 := fun _ => []) (fun hPc hDc => va_runS (As := [.long 467713485582, .int (-1)]) (rest := []) ⟨hx, hb, hml, hown, hts⟩ (kX11_mix_8 l dC dI cI c2 H.size) (va_cwS 2 hts gX11_mixAll_X11_mix rfl rfl rfl (by decide +kernel) ⟨Nat.le_of_ble_eq_true rfl, Nat.le_of_ble_eq_true rfl⟩) (pre_S hPc hK hDc hN) rfl rfl hl.1 rfl (lv_room (Nat.le_of_ble_eq_true rfl)) dX11_mixAll_25 ⟨Nat.le_of_ble_eq_true rfl, Nat.le_of_ble_eq_true rfl⟩) hP hD hS hA [] [0] rfl rfl (by decide) (by decide) (by decide) (fun u H locs hP hD hS => ?_)
  have hP : va_P (dC, dI) vwCl [(o0, .inl (cI, 12, .inl (fun _ => (-1))))] H := hP
  have hD : va_D A [(o0, .inl (cI, 12, .inl (fun _ => (-1))))] := hD
  refine lv_lstore (lv' := [(4, .long 14499118053041), (6, .int 5), (0, .long 16337), (2, .ref o0), (3, .int 12)]) hx hb dX11_mixAll_28 hl (by decide) rfl (fun ls hl => ?_)
  refine lv_iinc (v := 6) (lv' := [(6, .int 6), (4, .long 14499118053041), (0, .long 16337), (2, .ref o0), (3, .int 12)]) hx hb dX11_mixAll_30 hl (k := 1) rfl (by decide +kernel) (by decide) rfl (fun ls hl => ?_)
  refine lv_goto (tgt := 6) hx hb dX11_mixAll_33 (by decide) ?_
  refine lv_iload hx hb dX11_mixAll_6 (lv_at hl 0 rfl) ?_
  refine lv_iload_n hx hb dX11_mixAll_8 rfl (lv_at hl 4 rfl) ?_
  refine lv_icmp_ge (tgt := 36) hx hb dX11_mixAll_9 (by decide) (fun h9 => absurd h9 (by decide +kernel)) (fun _ => ?_)
  refine lv_iload hx hb dX11_mixAll_12 (lv_at hl 0 rfl) ?_
  refine lv_aload_n hx hb dX11_mixAll_14 rfl (lv_at hl 3 rfl) ?_
  refine va_alen (v := 12) hx hb hK hP 0 0 rfl rfl (by decide +kernel) dX11_mixAll_15 ?_
  refine lv_icmp_ge (tgt := 36) hx hb dX11_mixAll_16 (by decide) (fun h9 => absurd h9 (by decide +kernel)) (fun _ => ?_)
  refine lv_lload hx hb dX11_mixAll_19 (lv_at hl 1 rfl) ?_
  refine lv_aload_n hx hb dX11_mixAll_21 rfl (lv_at hl 3 rfl) ?_
  refine lv_iload hx hb dX11_mixAll_22 (lv_at hl 0 rfl) ?_
  refine va_iald hx hb hK hP 0 0 rfl rfl (vin (by decide +kernel)) dX11_mixAll_24 (tk_i (v := (-1)) (by decide +kernel) ?_)
  refine kcall_l (D := (dC, dI)) (S := Unit) (v := 449472659644270) (wc := []) (wr := [(o0, .inl (cI, 12, .inl (fun _ => (-1))))]) (w1 := fun _ => []) (fun hPc hDc => va_runS (As := [.long 14499118053041, .int (-1)]) (rest := []) ⟨hx, hb, hml, hown, hts⟩ (kX11_mix_9 l dC dI cI c2 H.size) (va_cwS 2 hts gX11_mixAll_X11_mix rfl rfl rfl (by decide +kernel) ⟨Nat.le_of_ble_eq_true rfl, Nat.le_of_ble_eq_true rfl⟩) (pre_S hPc hK hDc hN) rfl rfl hl.1 rfl (lv_room (Nat.le_of_ble_eq_true rfl)) dX11_mixAll_25 ⟨Nat.le_of_ble_eq_true rfl, Nat.le_of_ble_eq_true rfl⟩) hP hD hS hA [] [0] rfl rfl (by decide) (by decide) (by decide) (fun u H locs hP hD hS => ?_)
  have hP : va_P (dC, dI) vwCl [(o0, .inl (cI, 12, .inl (fun _ => (-1))))] H := hP
  have hD : va_D A [(o0, .inl (cI, 12, .inl (fun _ => (-1))))] := hD
  refine lv_lstore (lv' := [(4, .long 449472659644270), (6, .int 6), (0, .long 16337), (2, .ref o0), (3, .int 12)]) hx hb dX11_mixAll_28 hl (by decide) rfl (fun ls hl => ?_)
  refine lv_iinc (v := 7) (lv' := [(6, .int 7), (4, .long 449472659644270), (0, .long 16337), (2, .ref o0), (3, .int 12)]) hx hb dX11_mixAll_30 hl (k := 1) rfl (by decide +kernel) (by decide) rfl (fun ls hl => ?_)
  refine lv_goto (tgt := 6) hx hb dX11_mixAll_33 (by decide) ?_
  refine lv_iload hx hb dX11_mixAll_6 (lv_at hl 0 rfl) ?_
  refine lv_iload_n hx hb dX11_mixAll_8 rfl (lv_at hl 4 rfl) ?_
  refine lv_icmp_ge (tgt := 36) hx hb dX11_mixAll_9 (by decide) (fun h9 => absurd h9 (by decide +kernel)) (fun _ => ?_)
  refine lv_iload hx hb dX11_mixAll_12 (lv_at hl 0 rfl) ?_
  refine lv_aload_n hx hb dX11_mixAll_14 rfl (lv_at hl 3 rfl) ?_
  refine va_alen (v := 12) hx hb hK hP 0 0 rfl rfl (by decide +kernel) dX11_mixAll_15 ?_
  refine lv_icmp_ge (tgt := 36) hx hb dX11_mixAll_16 (by decide) (fun h9 => absurd h9 (by decide +kernel)) (fun _ => ?_)
  refine lv_lload hx hb dX11_mixAll_19 (lv_at hl 1 rfl) ?_
  refine lv_aload_n hx hb dX11_mixAll_21 rfl (lv_at hl 3 rfl) ?_
  refine lv_iload hx hb dX11_mixAll_22 (lv_at hl 0 rfl) ?_
  refine va_iald hx hb hK hP 0 0 rfl rfl (vin (by decide +kernel)) dX11_mixAll_24 (tk_i (v := (-1)) (by decide +kernel) ?_)
  refine kcall_l (D := (dC, dI)) (S := Unit) (v := 13933652448972369) (wc := []) (wr := [(o0, .inl (cI, 12, .inl (fun _ => (-1))))]) (w1 := fun _ => []) (fun hPc hDc => va_runS (As := [.long 449472659644270, .int (-1)]) (rest := []) ⟨hx, hb, hml, hown, hts⟩ (kX11_mix_10 l dC dI cI c2 H.size) (va_cwS 2 hts gX11_mixAll_X11_mix rfl rfl rfl (by decide +kernel) ⟨Nat.le_of_ble_eq_true rfl, Nat.le_of_ble_eq_true rfl⟩) (pre_S hPc hK hDc hN) rfl rfl hl.1 rfl (lv_room (Nat.le_of_ble_eq_true rfl)) dX11_mixAll_25 ⟨Nat.le_of_ble_eq_true rfl, Nat.le_of_ble_eq_true rfl⟩) hP hD hS hA [] [0] rfl rfl (by decide) (by decide) (by decide) (fun u H locs hP hD hS => ?_)
  have hP : va_P (dC, dI) vwCl [(o0, .inl (cI, 12, .inl (fun _ => (-1))))] H := hP
  have hD : va_D A [(o0, .inl (cI, 12, .inl (fun _ => (-1))))] := hD
  refine lv_lstore (lv' := [(4, .long 13933652448972369), (6, .int 7), (0, .long 16337), (2, .ref o0), (3, .int 12)]) hx hb dX11_mixAll_28 hl (by decide) rfl (fun ls hl => ?_)
  refine lv_iinc (v := 8) (lv' := [(6, .int 8), (4, .long 13933652448972369), (0, .long 16337), (2, .ref o0), (3, .int 12)]) hx hb dX11_mixAll_30 hl (k := 1) rfl (by decide +kernel) (by decide) rfl (fun ls hl => ?_)
  refine lv_goto (tgt := 6) hx hb dX11_mixAll_33 (by decide) ?_
  refine lv_iload hx hb dX11_mixAll_6 (lv_at hl 0 rfl) ?_
  refine lv_iload_n hx hb dX11_mixAll_8 rfl (lv_at hl 4 rfl) ?_
  refine lv_icmp_ge (tgt := 36) hx hb dX11_mixAll_9 (by decide) (fun h9 => absurd h9 (by decide +kernel)) (fun _ => ?_)
  refine lv_iload hx hb dX11_mixAll_12 (lv_at hl 0 rfl) ?_
  refine lv_aload_n hx hb dX11_mixAll_14 rfl (lv_at hl 3 rfl) ?_
  refine va_alen (v := 12) hx hb hK hP 0 0 rfl rfl (by decide +kernel) dX11_mixAll_15 ?_
  refine lv_icmp_ge (tgt := 36) hx hb dX11_mixAll_16 (by decide) (fun h9 => absurd h9 (by decide +kernel)) (fun _ => ?_)
  refine lv_lload hx hb dX11_mixAll_19 (lv_at hl 1 rfl) ?_
  refine lv_aload_n hx hb dX11_mixAll_21 rfl (lv_at hl 3 rfl) ?_
  refine lv_iload hx hb dX11_mixAll_22 (lv_at hl 0 rfl) ?_
  refine va_iald hx hb hK hP 0 0 rfl rfl (vin (by decide +kernel)) dX11_mixAll_24 (tk_i (v := (-1)) (by decide +kernel) ?_)
  refine kcall_l (D := (dC, dI)) (S := Unit) (v := 431943225918143438) (wc := []) (wr := [(o0, .inl (cI, 12, .inl (fun _ => (-1))))]) (w1 := fun _ => []) (fun hPc hDc => va_runS (As := [.long 13933652448972369, .int (-1)]) (rest := []) ⟨hx, hb, hml, hown, hts⟩ (kX11_mix_11 l dC dI cI c2 H.size) (va_cwS 2 hts gX11_mixAll_X11_mix rfl rfl rfl (by decide +kernel) ⟨Nat.le_of_ble_eq_true rfl, Nat.le_of_ble_eq_true rfl⟩) (pre_S hPc hK hDc hN) rfl rfl hl.1 rfl (lv_room (Nat.le_of_ble_eq_true rfl)) dX11_mixAll_25 ⟨Nat.le_of_ble_eq_true rfl, Nat.le_of_ble_eq_true rfl⟩) hP hD hS hA [] [0] rfl rfl (by decide) (by decide) (by decide) (fun u H locs hP hD hS => ?_)
  have hP : va_P (dC, dI) vwCl [(o0, .inl (cI, 12, .inl (fun _ => (-1))))] H := hP
  have hD : va_D A [(o0, .inl (cI, 12, .inl (fun _ => (-1))))] := hD
  refine lv_lstore (lv' := [(4, .long 431943225918143438), (6, .int 8), (0, .long 16337), (2, .ref o0), (3, .int 12)]) hx hb dX11_mixAll_28 hl (by decide) rfl (fun ls hl => ?_)
  refine lv_iinc (v := 9) (lv' := [(6, .int 9), (4, .long 431943225918143438), (0, .long 16337), (2, .ref o0), (3, .int 12)]) hx hb dX11_mixAll_30 hl (k := 1) rfl (by decide +kernel) (by decide) rfl (fun ls hl => ?_)
  refine lv_goto (tgt := 6) hx hb dX11_mixAll_33 (by decide) ?_
  refine lv_iload hx hb dX11_mixAll_6 (lv_at hl 0 rfl) ?_
  refine lv_iload_n hx hb dX11_mixAll_8 rfl (lv_at hl 4 rfl) ?_
  refine lv_icmp_ge (tgt := 36) hx hb dX11_mixAll_9 (by decide) (fun h9 => absurd h9 (by decide +kernel)) (fun _ => ?_)
  refine lv_iload hx hb dX11_mixAll_12 (lv_at hl 0 rfl) ?_
  refine lv_aload_n hx hb dX11_mixAll_14 rfl (lv_at hl 3 rfl) ?_
  refine va_alen (v := 12) hx hb hK hP 0 0 rfl rfl (by decide +kernel) dX11_mixAll_15 ?_
  refine lv_icmp_ge (tgt := 36) hx hb dX11_mixAll_16 (by decide) (fun h9 => absurd h9 (by decide +kernel)) (fun _ => ?_)
  refine lv_lload hx hb dX11_mixAll_19 (lv_at hl 1 rfl) ?_
  refine lv_aload_n hx hb dX11_mixAll_21 rfl (lv_at hl 3 rfl) ?_
  refine lv_iload hx hb dX11_mixAll_22 (lv_at hl 0 rfl) ?_
  refine va_iald hx hb hK hP 0 0 rfl rfl (vin (by decide +kernel)) dX11_mixAll_24 (tk_i (v := (-1)) (by decide +kernel) ?_)
  refine kcall_l (D := (dC, dI)) (S := Unit) (v := (-5056504070247105039)) (wc := []) (wr := [(o0, .inl (cI, 12, .inl (fun _ => (-1))))]) (w1 := fun _ => []) (fun hPc hDc => va_runS (As := [.long 431943225918143438, .int (-1)]) (rest := []) ⟨hx, hb, hml, hown, hts⟩ (kX11_mix_12 l dC dI cI c2 H.size) (va_cwS 2 hts gX11_mixAll_X11_mix rfl rfl rfl (by decide +kernel) ⟨Nat.le_of_ble_eq_true rfl, Nat.le_of_ble_eq_true rfl⟩) (pre_S hPc hK hDc hN) rfl rfl hl.1 rfl (lv_room (Nat.le_of_ble_eq_true rfl)) dX11_mixAll_25 ⟨Nat.le_of_ble_eq_true rfl, Nat.le_of_ble_eq_true rfl⟩) hP hD hS hA [] [0] rfl rfl (by decide) (by decide) (by decide) (fun u H locs hP hD hS => ?_)
  have hP : va_P (dC, dI) vwCl [(o0, .inl (cI, 12, .inl (fun _ => (-1))))] H := hP
  have hD : va_D A [(o0, .inl (cI, 12, .inl (fun _ => (-1))))] := hD
  refine lv_lstore (lv' := [(4, .long (-5056504070247105039)), (6, .int 9), (0, .long 16337), (2, .ref o0), (3, .int 12)]) hx hb dX11_mixAll_28 hl (by decide) rfl (fun ls hl => ?_)
  refine lv_iinc (v := 10) (lv' := [(6, .int 10), (4, .long (-5056504070247105039)), (0, .long 16337), (2, .ref o0), (3, .int 12)]) hx hb dX11_mixAll_30 hl (k := 1) rfl (by decide +kernel) (by decide) rfl (fun ls hl => ?_)
  refine lv_goto (tgt := 6) hx hb dX11_mixAll_33 (by decide) ?_
  refine lv_iload hx hb dX11_mixAll_6 (lv_at hl 0 rfl) ?_
  refine lv_iload_n hx hb dX11_mixAll_8 rfl (lv_at hl 4 rfl) ?_
  refine lv_icmp_ge (tgt := 36) hx hb dX11_mixAll_9 (by decide) (fun h9 => absurd h9 (by decide +kernel)) (fun _ => ?_)
  refine lv_iload hx hb dX11_mixAll_12 (lv_at hl 0 rfl) ?_
  refine lv_aload_n hx hb dX11_mixAll_14 rfl (lv_at hl 3 rfl) ?_
  refine va_alen (v := 12) hx hb hK hP 0 0 rfl rfl (by decide +kernel) dX11_mixAll_15 ?_
  refine lv_icmp_ge (tgt := 36) hx hb dX11_mixAll_16 (by decide) (fun h9 => absurd h9 (by decide +kernel)) (fun _ => ?_)
  refine lv_lload hx hb dX11_mixAll_19 (lv_at hl 1 rfl) ?_
  refine lv_aload_n hx hb dX11_mixAll_21 rfl (lv_at hl 3 rfl) ?_
  refine lv_iload hx hb dX11_mixAll_22 (lv_at hl 0 rfl) ?_
  refine va_iald hx hb hK hP 0 0 rfl rfl (vin (by decide +kernel)) dX11_mixAll_24 (tk_i (v := (-1)) (by decide +kernel) ?_)
  refine kcall_l (D := (dC, dI)) (S := Unit) (v := (-9177673587983843282)) (wc := []) (wr := [(o0, .inl (cI, 12, .inl (fun _ => (-1))))]) (w1 := fun _ => []) (fun hPc hDc => va_runS (As := [.long (-5056504070247105039), .int (-1)]) (rest := []) ⟨hx, hb, hml, hown, hts⟩ (kX11_mix_13 l dC dI cI c2 H.size) (va_cwS 2 hts gX11_mixAll_X11_mix rfl rfl rfl (by decide +kernel) ⟨Nat.le_of_ble_eq_true rfl, Nat.le_of_ble_eq_true rfl⟩) (pre_S hPc hK hDc hN) rfl rfl hl.1 rfl (lv_room (Nat.le_of_ble_eq_true rfl)) dX11_mixAll_25 ⟨Nat.le_of_ble_eq_true rfl, Nat.le_of_ble_eq_true rfl⟩) hP hD hS hA [] [0] rfl rfl (by decide) (by decide) (by decide) (fun u H locs hP hD hS => ?_)
  have hP : va_P (dC, dI) vwCl [(o0, .inl (cI, 12, .inl (fun _ => (-1))))] H := hP
  have hD : va_D A [(o0, .inl (cI, 12, .inl (fun _ => (-1))))] := hD
  refine lv_lstore (lv' := [(4, .long (-9177673587983843282)), (6, .int 10), (0, .long 16337), (2, .ref o0), (3, .int 12)]) hx hb dX11_mixAll_28 hl (by decide) rfl (fun ls hl => ?_)
  refine lv_iinc (v := 11) (lv' := [(6, .int 11), (4, .long (-9177673587983843282)), (0, .long 16337), (2, .ref o0), (3, .int 12)]) hx hb dX11_mixAll_30 hl (k := 1) rfl (by decide +kernel) (by decide) rfl (fun ls hl => ?_)
  refine lv_goto (tgt := 6) hx hb dX11_mixAll_33 (by decide) ?_
  refine lv_iload hx hb dX11_mixAll_6 (lv_at hl 0 rfl) ?_
  refine lv_iload_n hx hb dX11_mixAll_8 rfl (lv_at hl 4 rfl) ?_
  refine lv_icmp_ge (tgt := 36) hx hb dX11_mixAll_9 (by decide) (fun h9 => absurd h9 (by decide +kernel)) (fun _ => ?_)
  refine lv_iload hx hb dX11_mixAll_12 (lv_at hl 0 rfl) ?_
  refine lv_aload_n hx hb dX11_mixAll_14 rfl (lv_at hl 3 rfl) ?_
  refine va_alen (v := 12) hx hb hK hP 0 0 rfl rfl (by decide +kernel) dX11_mixAll_15 ?_
  refine lv_icmp_ge (tgt := 36) hx hb dX11_mixAll_16 (by decide) (fun h9 => absurd h9 (by decide +kernel)) (fun _ => ?_)
  refine lv_lload hx hb dX11_mixAll_19 (lv_at hl 1 rfl) ?_
  refine lv_aload_n hx hb dX11_mixAll_21 rfl (lv_at hl 3 rfl) ?_
  refine lv_iload hx hb dX11_mixAll_22 (lv_at hl 0 rfl) ?_
  refine va_iald hx hb hK hP 0 0 rfl rfl (vin (by decide +kernel)) dX11_mixAll_24 (tk_i (v := (-1)) (by decide +kernel) ?_)
  refine kcall_l (D := (dC, dI)) (S := Unit) (v := (-7806720121855867503)) (wc := []) (wr := [(o0, .inl (cI, 12, .inl (fun _ => (-1))))]) (w1 := fun _ => []) (fun hPc hDc => va_runS (As := [.long (-9177673587983843282), .int (-1)]) (rest := []) ⟨hx, hb, hml, hown, hts⟩ (kX11_mix_14 l dC dI cI c2 H.size) (va_cwS 2 hts gX11_mixAll_X11_mix rfl rfl rfl (by decide +kernel) ⟨Nat.le_of_ble_eq_true rfl, Nat.le_of_ble_eq_true rfl⟩) (pre_S hPc hK hDc hN) rfl rfl hl.1 rfl (lv_room (Nat.le_of_ble_eq_true rfl)) dX11_mixAll_25 ⟨Nat.le_of_ble_eq_true rfl, Nat.le_of_ble_eq_true rfl⟩) hP hD hS hA [] [0] rfl rfl (by decide) (by decide) (by decide) (fun u H locs hP hD hS => ?_)
  have hP : va_P (dC, dI) vwCl [(o0, .inl (cI, 12, .inl (fun _ => (-1))))] H := hP
  have hD : va_D A [(o0, .inl (cI, 12, .inl (fun _ => (-1))))] := hD
  refine lv_lstore (lv' := [(4, .long (-7806720121855867503)), (6, .int 11), (0, .long 16337), (2, .ref o0), (3, .int 12)]) hx hb dX11_mixAll_28 hl (by decide) rfl (fun ls hl => ?_)
  refine lv_iinc (v := 12) (lv' := [(6, .int 12), (4, .long (-7806720121855867503)), (0, .long 16337), (2, .ref o0), (3, .int 12)]) hx hb dX11_mixAll_30 hl (k := 1) rfl (by decide +kernel) (by decide) rfl (fun ls hl => ?_)
  refine lv_goto (tgt := 6) hx hb dX11_mixAll_33 (by decide) ?_
  refine lv_iload hx hb dX11_mixAll_6 (lv_at hl 0 rfl) ?_
  refine lv_iload_n hx hb dX11_mixAll_8 rfl (lv_at hl 4 rfl) ?_
  refine lv_icmp_ge (tgt := 36) hx hb dX11_mixAll_9 (by decide) (fun _ => ?_) (fun h9 => absurd (by decide +kernel) h9)
  refine lv_lload hx hb dX11_mixAll_36 (lv_at hl 1 rfl) ?_
  have hP9 := hP.sub (ws' := [(o0, .inl (cI, 12, .inl (fun _ => (-1))))]) [0] rfl
  have hD9 := hD.sub (ws' := [(o0, .inl (cI, 12, .inl (fun _ => (-1))))]) [0] (by decide) rfl
  exact W.lret (v := (-7806720121855867503)) hx hb hr (fun t ht hW => ⟨⟨(-7806720121855867503), (), rfl, rfl, by rw [ht]; exact hP9, va_K.moved hW.alike hK, hD9⟩, hS.F ht⟩) hS.2.2 dX11_mixAll_38
set_option maxHeartbeats 1000000 in
set_option maxRecDepth 100000 in
theorem kX11_mixAll_3 (l : Launch) (dC : Nat → ClassId) (dI : Nat → Nat → Nat) (cI c2 : ClassId) (o0 : Nat) (sz : Nat) : Met l yX11_mixAll wsX11_mixAll ({ frames := 0, cells := 0, slots := 0, locals := 0 }) (va_Pc [.long (-7806720121855867503), .ref o0, .int 0] (wPre (dC, dI) [(cI, .int), (c2, .array .int)] [] sz)) (va_Ql (fun (r : Int64) (_ : Unit) => r = (-7806720121855867503)) (fun _ t => wPost (dC, dI) [(cI, .int), (c2, .array .int)] (va_A [] sz) [] t) (va_A [] sz)) 0 0 (va_A [] sz) := by
  refine Met.ofW (cc := cX11_mixAll) (maxL := 7) (ret := (some .long)) (by decide) rfl ?_
  intro p e s m args below meth c s₁ B hml hv
  obtain ⟨rfl, hsz, hP, hK, hD0, hN⟩ := hv
  have hx := B.exec
  have hb := B.bytes
  have hr := B.returns
  have hts := atoms_spec (ws := wsX11_mixAll) B.pre
  have hown : s.vm.findClass RX11 = some m.cls := findClass_of_methodNamed B.named
  have hlocks := B.notSynchronized
  subst hsz
  have hD := hD0.self (sz := s.heap.size)
  generalize hAe : va_A [] s.heap.size = A at hD ⊢
  have hA : ∀ q : Nat, s.heap.size ≤ q → A q := fun q h => by rw [← hAe]; exact Or.inr h
  have hS : va_S A s.heap s.heap [] := va_S.rf
  have hP : va_P (dC, dI) vwCl [] s.heap := hP
  have hl := lv_entry ([.long (-7806720121855867503), .ref o0, .int 0]) (n := 7) (Nat.le_of_ble_eq_true rfl)
  rw [lg_entry_eq]
  generalize (lg_sl ([.long (-7806720121855867503), .ref o0, .int 0]) ++ List.replicate (7 - (lg_sl ([.long (-7806720121855867503), .ref o0, .int 0])).length) Slot.unset).toArray = ls at hl ⊢
  have hl : lv_has ls 7 [(0, .long (-7806720121855867503)), (2, .ref o0), (3, .int 0)] := hl
  refine lv_lload_n hx hb dX11_mixAll_0 rfl (lv_at hl 0 rfl) ?_
  refine lv_lstore (lv' := [(4, .long (-7806720121855867503)), (0, .long (-7806720121855867503)), (2, .ref o0), (3, .int 0)]) hx hb dX11_mixAll_1 hl (by decide) rfl (fun ls hl => ?_)
  refine lv_iconst (v := 0) hx hb dX11_mixAll_3 (by decide) ?_
  refine lv_istore (lv' := [(6, .int 0), (4, .long (-7806720121855867503)), (0, .long (-7806720121855867503)), (2, .ref o0), (3, .int 0)]) hx hb dX11_mixAll_4 hl (by decide) rfl (fun ls hl => ?_)
  refine lv_iload hx hb dX11_mixAll_6 (lv_at hl 0 rfl) ?_
  refine lv_iload_n hx hb dX11_mixAll_8 rfl (lv_at hl 4 rfl) ?_
  refine lv_icmp_ge (tgt := 36) hx hb dX11_mixAll_9 (by decide) (fun _ => ?_) (fun h9 => absurd (by decide +kernel) h9)
  refine lv_lload hx hb dX11_mixAll_36 (lv_at hl 1 rfl) ?_
  have hP9 := hP.sub (ws' := []) [] rfl
  have hD9 := hD.sub (ws' := []) [] (by decide) rfl
  exact W.lret (v := (-7806720121855867503)) hx hb hr (fun t ht hW => ⟨⟨(-7806720121855867503), (), rfl, rfl, by rw [ht]; exact hP9, va_K.moved hW.alike hK, hD9⟩, hS.F ht⟩) hS.2.2 dX11_mixAll_38
theorem iw_X11_digest_X10 : ∀ w ∈ wsX100, w ∈ wsX11_digest := by decide +kernel
theorem iw_X11_digest_X11 : ∀ w ∈ wsX110, w ∈ wsX11_digest := by decide +kernel
theorem iw_X11_digest_X4 : ∀ w ∈ wsX40, w ∈ wsX11_digest := by decide +kernel
theorem iw_X11_digest_X6 : ∀ w ∈ wsX60, w ∈ wsX11_digest := by decide +kernel
set_option maxHeartbeats 1000000 in
set_option maxRecDepth 100000 in
theorem kX11_digest_1 (l : Launch) (dC : Nat → ClassId) (dI : Nat → Nat → Nat) (cI c2 : ClassId) (o0 : Nat) (o1 : Nat) (o2 : Nat) (o3 : Nat) (o4 : Nat) (o5 : Nat) (o6 : Nat) (o7 : Nat) (o8 : Nat) (o9 : Nat) (o10 : Nat) (o11 : Nat) (o12 : Nat) (o13 : Nat) (o14 : Nat) (o15 : Nat) (o16 : Nat) (o17 : Nat) (o18 : Nat) (sz : Nat) : Met l yX11_digest wsX11_digest ({ frames := 2, cells := 0, slots := 0, locals := 48 }) (va_Pc [.ref o0] (wPre (dC, dI) [(cI, .int), (c2, .array .int)] [(o0, .inr (11, [.ref o1, .ref o3, .ref o2, .ref o5, .ref o6, .ref o7, .ref o8, .ref o9, .ref o10, .ref o11, .ref o12, .ref o13, .int 0])), (o1, .inr (4, [.ref o14, .int 0, .int 0])), (o2, .inr (6, [.ref o15, .ref o16, .ref o17, .ref o18, .int 0, .int 0, .int 0, .int 0, .int 0])), (o3, .inr (10, [.ref o4, .int 0, .int 0])), (o4, .inl (cI, 12, .inl (fun _ => (-1))))] sz)) (va_Ql (fun (r : Int64) (_ : Unit) => r = (-7806720121855867503)) (fun _ t => wPost (dC, dI) [(cI, .int), (c2, .array .int)] (va_A [(o0, .inr (11, [.ref o1, .ref o3, .ref o2, .ref o5, .ref o6, .ref o7, .ref o8, .ref o9, .ref o10, .ref o11, .ref o12, .ref o13, .int 0])), (o1, .inr (4, [.ref o14, .int 0, .int 0])), (o2, .inr (6, [.ref o15, .ref o16, .ref o17, .ref o18, .int 0, .int 0, .int 0, .int 0, .int 0])), (o3, .inr (10, [.ref o4, .int 0, .int 0])), (o4, .inl (cI, 12, .inl (fun _ => (-1))))] sz) [] t) (va_A [(o0, .inr (11, [.ref o1, .ref o3, .ref o2, .ref o5, .ref o6, .ref o7, .ref o8, .ref o9, .ref o10, .ref o11, .ref o12, .ref o13, .int 0])), (o1, .inr (4, [.ref o14, .int 0, .int 0])), (o2, .inr (6, [.ref o15, .ref o16, .ref o17, .ref o18, .int 0, .int 0, .int 0, .int 0, .int 0])), (o3, .inr (10, [.ref o4, .int 0, .int 0])), (o4, .inl (cI, 12, .inl (fun _ => (-1))))] sz)) 0 0 (va_A [(o0, .inr (11, [.ref o1, .ref o3, .ref o2, .ref o5, .ref o6, .ref o7, .ref o8, .ref o9, .ref o10, .ref o11, .ref o12, .ref o13, .int 0])), (o1, .inr (4, [.ref o14, .int 0, .int 0])), (o2, .inr (6, [.ref o15, .ref o16, .ref o17, .ref o18, .int 0, .int 0, .int 0, .int 0, .int 0])), (o3, .inr (10, [.ref o4, .int 0, .int 0])), (o4, .inl (cI, 12, .inl (fun _ => (-1))))] sz) := by
  refine Met.ofW (cc := cX11_digest) (maxL := 3) (ret := (some .long)) (by decide) rfl ?_
  intro p e s m args below meth c s₁ B hml hv
  obtain ⟨rfl, hsz, hP, hK, hD0, hN⟩ := hv
  have hx := B.exec
  have hb := B.bytes
  have hr := B.returns
  have hts := atoms_spec (ws := wsX11_digest) B.pre
  have hown : s.vm.findClass RX11 = some m.cls := findClass_of_methodNamed B.named
  have hlocks := B.notSynchronized
  subst hsz
  have hD := hD0.self (sz := s.heap.size)
  generalize hAe : va_A [(o0, .inr (11, [.ref o1, .ref o3, .ref o2, .ref o5, .ref o6, .ref o7, .ref o8, .ref o9, .ref o10, .ref o11, .ref o12, .ref o13, .int 0])), (o1, .inr (4, [.ref o14, .int 0, .int 0])), (o2, .inr (6, [.ref o15, .ref o16, .ref o17, .ref o18, .int 0, .int 0, .int 0, .int 0, .int 0])), (o3, .inr (10, [.ref o4, .int 0, .int 0])), (o4, .inl (cI, 12, .inl (fun _ => (-1))))] s.heap.size = A at hD ⊢
  have hA : ∀ q : Nat, s.heap.size ≤ q → A q := fun q h => by rw [← hAe]; exact Or.inr h
  have hS : va_S A s.heap s.heap [] := va_S.rf
  have hP : va_P (dC, dI) vwCl [(o0, .inr (11, [.ref o1, .ref o3, .ref o2, .ref o5, .ref o6, .ref o7, .ref o8, .ref o9, .ref o10, .ref o11, .ref o12, .ref o13, .int 0])), (o1, .inr (4, [.ref o14, .int 0, .int 0])), (o2, .inr (6, [.ref o15, .ref o16, .ref o17, .ref o18, .int 0, .int 0, .int 0, .int 0, .int 0])), (o3, .inr (10, [.ref o4, .int 0, .int 0])), (o4, .inl (cI, 12, .inl (fun _ => (-1))))] s.heap := hP
  have hl := lv_entry ([.ref o0]) (n := 3) (Nat.le_of_ble_eq_true rfl)
  rw [lg_entry_eq]
  generalize (lg_sl ([.ref o0]) ++ List.replicate (3 - (lg_sl ([.ref o0])).length) Slot.unset).toArray = ls at hl ⊢
  have hl : lv_has ls 3 [(0, .ref o0)] := hl
  refine lv_ldc2 (v := 17) hx hb hown (hts (.constantLong RX11 275 (17)) (by decide +kernel)) dX11_digest_0 ?_
  refine lv_aload_n hx hb dX11_digest_3 rfl (lv_at hl 0 rfl) ?_
  refine va_get (D := (dC, dI)) (ci := 11) (v := .ref o1) (C := RX11) (T := TX11) (N := 13) hx hb hts iw_X11_digest_X11 hown hK hP 0 rfl rfl 0 (by decide) (hts (.fieldLink RX11 10 "HolelessHouse" "graph" "LHolelessHouse$Graph;") (by decide +kernel)) (fun _ h9 => h9) rfl dX11_digest_4 ?_
  refine va_getN (D := (dC, dI)) (ci := 4) (v := .int 0) (C := RX4) (T := TX4) (N := 3) hx hb hts iw_X11_digest_X4 hown hK hP 1 rfl rfl 1 (by decide) (hN.use ns_14) (fun _ h9 => h9) rfl dX11_digest_7 ?_
  refine kcall_l (D := (dC, dI)) (S := Unit) (v := 527) (wc := []) (wr := [(o0, .inr (11, [.ref o1, .ref o3, .ref o2, .ref o5, .ref o6, .ref o7, .ref o8, .ref o9, .ref o10, .ref o11, .ref o12, .ref o13, .int 0])), (o1, .inr (4, [.ref o14, .int 0, .int 0])), (o2, .inr (6, [.ref o15, .ref o16, .ref o17, .ref o18, .int 0, .int 0, .int 0, .int 0, .int 0])), (o3, .inr (10, [.ref o4, .int 0, .int 0])), (o4, .inl (cI, 12, .inl (fun _ => (-1))))]) (w1 := fun _ => []) (fun hPc hDc => va_runS (As := [.long 17, .int 0]) (rest := []) ⟨hx, hb, hml, hown, hts⟩ (kX11_mix_1 l dC dI cI c2 s.heap.size) (va_cwS 2 hts gX11_digest_X11_mix rfl rfl rfl (by decide +kernel) ⟨Nat.le_of_ble_eq_true rfl, Nat.le_of_ble_eq_true rfl⟩) (pre_S hPc hK hDc hN) rfl rfl hl.1 rfl (lv_room (Nat.le_of_ble_eq_true rfl)) dX11_digest_10 ⟨Nat.le_of_ble_eq_true rfl, Nat.le_of_ble_eq_true rfl⟩) hP hD hS hA [] [0, 1, 2, 3, 4] rfl rfl (by decide) (by decide) (by decide) (fun u H locs hP hD hS => ?_)
  have hP : va_P (dC, dI) vwCl [(o0, .inr (11, [.ref o1, .ref o3, .ref o2, .ref o5, .ref o6, .ref o7, .ref o8, .ref o9, .ref o10, .ref o11, .ref o12, .ref o13, .int 0])), (o1, .inr (4, [.ref o14, .int 0, .int 0])), (o2, .inr (6, [.ref o15, .ref o16, .ref o17, .ref o18, .int 0, .int 0, .int 0, .int 0, .int 0])), (o3, .inr (10, [.ref o4, .int 0, .int 0])), (o4, .inl (cI, 12, .inl (fun _ => (-1))))] H := hP
  have hD : va_D A [(o0, .inr (11, [.ref o1, .ref o3, .ref o2, .ref o5, .ref o6, .ref o7, .ref o8, .ref o9, .ref o10, .ref o11, .ref o12, .ref o13, .int 0])), (o1, .inr (4, [.ref o14, .int 0, .int 0])), (o2, .inr (6, [.ref o15, .ref o16, .ref o17, .ref o18, .int 0, .int 0, .int 0, .int 0, .int 0])), (o3, .inr (10, [.ref o4, .int 0, .int 0])), (o4, .inl (cI, 12, .inl (fun _ => (-1))))] := hD
  refine lv_lstore_n (lv' := [(1, .long 527), (0, .ref o0)]) hx hb dX11_digest_13 rfl hl (by decide) rfl (fun ls hl => ?_)
  refine lv_lload_n hx hb dX11_digest_14 rfl (lv_at hl 0 rfl) ?_
  refine lv_aload_n hx hb dX11_digest_15 rfl (lv_at hl 1 rfl) ?_
  refine va_get (D := (dC, dI)) (ci := 11) (v := .ref o1) (C := RX11) (T := TX11) (N := 13) hx hb hts iw_X11_digest_X11 hown hK hP 0 rfl rfl 0 (by decide) (hts (.fieldLink RX11 10 "HolelessHouse" "graph" "LHolelessHouse$Graph;") (by decide +kernel)) (fun _ h9 => h9) rfl dX11_digest_16 ?_
  refine va_getN (D := (dC, dI)) (ci := 4) (v := .ref o14) (C := RX4) (T := TX4) (N := 3) hx hb hts iw_X11_digest_X4 hown hK hP 1 rfl rfl 0 (by decide) (hN.use ns_5) (fun _ h9 => h9) rfl dX11_digest_19 ?_
  refine lv_aload_n hx hb dX11_digest_22 rfl (lv_at hl 1 rfl) ?_
  refine va_get (D := (dC, dI)) (ci := 11) (v := .ref o1) (C := RX11) (T := TX11) (N := 13) hx hb hts iw_X11_digest_X11 hown hK hP 0 rfl rfl 0 (by decide) (hts (.fieldLink RX11 10 "HolelessHouse" "graph" "LHolelessHouse$Graph;") (by decide +kernel)) (fun _ h9 => h9) rfl dX11_digest_23 ?_
  refine va_getN (D := (dC, dI)) (ci := 4) (v := .int 0) (C := RX4) (T := TX4) (N := 3) hx hb hts iw_X11_digest_X4 hown hK hP 1 rfl rfl 1 (by decide) (hN.use ns_14) (fun _ h9 => h9) rfl dX11_digest_26 ?_
  refine kcall_l (D := (dC, dI)) (S := Unit) (v := 527) (wc := []) (wr := [(o0, .inr (11, [.ref o1, .ref o3, .ref o2, .ref o5, .ref o6, .ref o7, .ref o8, .ref o9, .ref o10, .ref o11, .ref o12, .ref o13, .int 0])), (o1, .inr (4, [.ref o14, .int 0, .int 0])), (o2, .inr (6, [.ref o15, .ref o16, .ref o17, .ref o18, .int 0, .int 0, .int 0, .int 0, .int 0])), (o3, .inr (10, [.ref o4, .int 0, .int 0])), (o4, .inl (cI, 12, .inl (fun _ => (-1))))]) (w1 := fun _ => []) (fun hPc hDc => va_runS (As := [.long 527, .ref o14, .int 0]) (rest := []) ⟨hx, hb, hml, hown, hts⟩ (kX11_mixAll_1 l dC dI cI c2 o14 H.size) (va_cwS 3 hts gX11_digest_X11_mixAll rfl rfl rfl (by decide +kernel) ⟨Nat.le_of_ble_eq_true rfl, Nat.le_of_ble_eq_true rfl⟩) (pre_S hPc hK hDc hN) rfl rfl hl.1 rfl (lv_room (Nat.le_of_ble_eq_true rfl)) dX11_digest_29 ⟨Nat.le_of_ble_eq_true rfl, Nat.le_of_ble_eq_true rfl⟩) hP hD hS hA [] [0, 1, 2, 3, 4] rfl rfl (by decide) (by decide) (by decide) (fun u H locs hP hD hS => ?_)
  have hP : va_P (dC, dI) vwCl [(o0, .inr (11, [.ref o1, .ref o3, .ref o2, .ref o5, .ref o6, .ref o7, .ref o8, .ref o9, .ref o10, .ref o11, .ref o12, .ref o13, .int 0])), (o1, .inr (4, [.ref o14, .int 0, .int 0])), (o2, .inr (6, [.ref o15, .ref o16, .ref o17, .ref o18, .int 0, .int 0, .int 0, .int 0, .int 0])), (o3, .inr (10, [.ref o4, .int 0, .int 0])), (o4, .inl (cI, 12, .inl (fun _ => (-1))))] H := hP
  have hD : va_D A [(o0, .inr (11, [.ref o1, .ref o3, .ref o2, .ref o5, .ref o6, .ref o7, .ref o8, .ref o9, .ref o10, .ref o11, .ref o12, .ref o13, .int 0])), (o1, .inr (4, [.ref o14, .int 0, .int 0])), (o2, .inr (6, [.ref o15, .ref o16, .ref o17, .ref o18, .int 0, .int 0, .int 0, .int 0, .int 0])), (o3, .inr (10, [.ref o4, .int 0, .int 0])), (o4, .inl (cI, 12, .inl (fun _ => (-1))))] := hD
  refine lv_lstore_n (lv' := [(1, .long 527), (0, .ref o0)]) hx hb dX11_digest_32 rfl hl (by decide) rfl (fun ls hl => ?_)
  refine lv_lload_n hx hb dX11_digest_33 rfl (lv_at hl 0 rfl) ?_
  refine lv_aload_n hx hb dX11_digest_34 rfl (lv_at hl 1 rfl) ?_
  refine va_get (D := (dC, dI)) (ci := 11) (v := .ref o2) (C := RX11) (T := TX11) (N := 13) hx hb hts iw_X11_digest_X11 hown hK hP 0 rfl rfl 2 (by decide) (hts (.fieldLink RX11 26 "HolelessHouse" "ordering" "LHolelessHouse$Ordering;") (by decide +kernel)) (fun _ h9 => h9) rfl dX11_digest_35 ?_
  refine va_getN (D := (dC, dI)) (ci := 6) (v := .ref o17) (C := RX6) (T := TX6) (N := 9) hx hb hts iw_X11_digest_X6 hown hK hP 2 rfl rfl 2 (by decide) (hN.use ns_25) (fun _ h9 => h9) rfl dX11_digest_38 ?_
  refine lv_aload_n hx hb dX11_digest_41 rfl (lv_at hl 1 rfl) ?_
  refine va_get (D := (dC, dI)) (ci := 11) (v := .ref o2) (C := RX11) (T := TX11) (N := 13) hx hb hts iw_X11_digest_X11 hown hK hP 0 rfl rfl 2 (by decide) (hts (.fieldLink RX11 26 "HolelessHouse" "ordering" "LHolelessHouse$Ordering;") (by decide +kernel)) (fun _ h9 => h9) rfl dX11_digest_42 ?_
  refine kcall_i (D := (dC, dI)) (S := Unit) (v := 0) (wc := [(o2, .inr (6, [.ref o15, .ref o16, .ref o17, .ref o18, .int 0, .int 0, .int 0, .int 0, .int 0]))]) (wr := [(o0, .inr (11, [.ref o1, .ref o3, .ref o2, .ref o5, .ref o6, .ref o7, .ref o8, .ref o9, .ref o10, .ref o11, .ref o12, .ref o13, .int 0])), (o1, .inr (4, [.ref o14, .int 0, .int 0])), (o3, .inr (10, [.ref o4, .int 0, .int 0])), (o4, .inl (cI, 12, .inl (fun _ => (-1))))]) (w1 := fun _ => [(o2, .inr (6, [.ref o15, .ref o16, .ref o17, .ref o18, .int 0, .int 0, .int 0, .int 0, .int 0]))]) (fun hPc hDc => va_runVN (As := []) (rest := [.ref o17, .long 527]) ⟨hx, hb, hml, hown, hts⟩ (kX6_length_1 l dC dI cI c2 o2 o15 o16 o17 o18 H.size) ⟨va_cnB 0 hts gX11_digest_X6_length_n181 rfl rfl rfl (hN.1 _ ns_102) (hts (.initialized RX6) (by decide +kernel)) (by decide +kernel) ⟨Nat.le_of_ble_eq_true rfl, Nat.le_of_ble_eq_true rfl⟩, (hts (.instanceMethod yX6_length) (by decide +kernel)), (hts (.selects RX6 yX6_length yX6_length) (by decide +kernel))⟩ (pre_V hPc hK hDc hN (ci := 6) (q0 := 0) rfl rfl) rfl rfl hl.1 rfl (lv_room (Nat.le_of_ble_eq_true rfl)) dX11_digest_45 ⟨Nat.le_of_ble_eq_true rfl, Nat.le_of_ble_eq_true rfl⟩) hP hD hS hA [2] [0, 1, 3, 4] rfl rfl (by decide) (by decide) (by decide) (fun u H locs hP hD hS => ?_)
  have hP : va_P (dC, dI) vwCl [(o0, .inr (11, [.ref o1, .ref o3, .ref o2, .ref o5, .ref o6, .ref o7, .ref o8, .ref o9, .ref o10, .ref o11, .ref o12, .ref o13, .int 0])), (o1, .inr (4, [.ref o14, .int 0, .int 0])), (o3, .inr (10, [.ref o4, .int 0, .int 0])), (o4, .inl (cI, 12, .inl (fun _ => (-1)))), (o2, .inr (6, [.ref o15, .ref o16, .ref o17, .ref o18, .int 0, .int 0, .int 0, .int 0, .int 0]))] H := hP
  have hD : va_D A [(o0, .inr (11, [.ref o1, .ref o3, .ref o2, .ref o5, .ref o6, .ref o7, .ref o8, .ref o9, .ref o10, .ref o11, .ref o12, .ref o13, .int 0])), (o1, .inr (4, [.ref o14, .int 0, .int 0])), (o3, .inr (10, [.ref o4, .int 0, .int 0])), (o4, .inl (cI, 12, .inl (fun _ => (-1)))), (o2, .inr (6, [.ref o15, .ref o16, .ref o17, .ref o18, .int 0, .int 0, .int 0, .int 0, .int 0]))] := hD
  refine kcall_l (D := (dC, dI)) (S := Unit) (v := 527) (wc := []) (wr := [(o0, .inr (11, [.ref o1, .ref o3, .ref o2, .ref o5, .ref o6, .ref o7, .ref o8, .ref o9, .ref o10, .ref o11, .ref o12, .ref o13, .int 0])), (o1, .inr (4, [.ref o14, .int 0, .int 0])), (o3, .inr (10, [.ref o4, .int 0, .int 0])), (o4, .inl (cI, 12, .inl (fun _ => (-1)))), (o2, .inr (6, [.ref o15, .ref o16, .ref o17, .ref o18, .int 0, .int 0, .int 0, .int 0, .int 0]))]) (w1 := fun _ => []) (fun hPc hDc => va_runS (As := [.long 527, .ref o17, .int 0]) (rest := []) ⟨hx, hb, hml, hown, hts⟩ (kX11_mixAll_1 l dC dI cI c2 o17 H.size) (va_cwS 3 hts gX11_digest_X11_mixAll rfl rfl rfl (by decide +kernel) ⟨Nat.le_of_ble_eq_true rfl, Nat.le_of_ble_eq_true rfl⟩) (pre_S hPc hK hDc hN) rfl rfl hl.1 rfl (lv_room (Nat.le_of_ble_eq_true rfl)) dX11_digest_48 ⟨Nat.le_of_ble_eq_true rfl, Nat.le_of_ble_eq_true rfl⟩) hP hD hS hA [] [0, 1, 2, 3, 4] rfl rfl (by decide) (by decide) (by decide) (fun u H locs hP hD hS => ?_)
  have hP : va_P (dC, dI) vwCl [(o0, .inr (11, [.ref o1, .ref o3, .ref o2, .ref o5, .ref o6, .ref o7, .ref o8, .ref o9, .ref o10, .ref o11, .ref o12, .ref o13, .int 0])), (o1, .inr (4, [.ref o14, .int 0, .int 0])), (o3, .inr (10, [.ref o4, .int 0, .int 0])), (o4, .inl (cI, 12, .inl (fun _ => (-1)))), (o2, .inr (6, [.ref o15, .ref o16, .ref o17, .ref o18, .int 0, .int 0, .int 0, .int 0, .int 0]))] H := hP
  have hD : va_D A [(o0, .inr (11, [.ref o1, .ref o3, .ref o2, .ref o5, .ref o6, .ref o7, .ref o8, .ref o9, .ref o10, .ref o11, .ref o12, .ref o13, .int 0])), (o1, .inr (4, [.ref o14, .int 0, .int 0])), (o3, .inr (10, [.ref o4, .int 0, .int 0])), (o4, .inl (cI, 12, .inl (fun _ => (-1)))), (o2, .inr (6, [.ref o15, .ref o16, .ref o17, .ref o18, .int 0, .int 0, .int 0, .int 0, .int 0]))] := hD
  refine lv_lstore_n (lv' := [(1, .long 527), (0, .ref o0)]) hx hb dX11_digest_51 rfl hl (by decide) rfl (fun ls hl => ?_)
  refine lv_lload_n hx hb dX11_digest_52 rfl (lv_at hl 0 rfl) ?_
  refine lv_aload_n hx hb dX11_digest_53 rfl (lv_at hl 1 rfl) ?_
  refine va_get (D := (dC, dI)) (ci := 11) (v := .ref o3) (C := RX11) (T := TX11) (N := 13) hx hb hts iw_X11_digest_X11 hown hK hP 0 rfl rfl 1 (by decide) (hts (.fieldLink RX11 19 "HolelessHouse" "table" "LHolelessHouse$Table;") (by decide +kernel)) (fun _ h9 => h9) rfl dX11_digest_54 ?_
  refine va_getN (D := (dC, dI)) (ci := 10) (v := .int 0) (C := RX10) (T := TX10) (N := 3) hx hb hts iw_X11_digest_X10 hown hK hP 2 rfl rfl 1 (by decide) (hN.use ns_22) (fun _ h9 => h9) rfl dX11_digest_57 ?_
  refine kcall_l (D := (dC, dI)) (S := Unit) (v := 16337) (wc := []) (wr := [(o0, .inr (11, [.ref o1, .ref o3, .ref o2, .ref o5, .ref o6, .ref o7, .ref o8, .ref o9, .ref o10, .ref o11, .ref o12, .ref o13, .int 0])), (o1, .inr (4, [.ref o14, .int 0, .int 0])), (o3, .inr (10, [.ref o4, .int 0, .int 0])), (o4, .inl (cI, 12, .inl (fun _ => (-1)))), (o2, .inr (6, [.ref o15, .ref o16, .ref o17, .ref o18, .int 0, .int 0, .int 0, .int 0, .int 0]))]) (w1 := fun _ => []) (fun hPc hDc => va_runS (As := [.long 527, .int 0]) (rest := []) ⟨hx, hb, hml, hown, hts⟩ (kX11_mix_2 l dC dI cI c2 H.size) (va_cwS 2 hts gX11_digest_X11_mix rfl rfl rfl (by decide +kernel) ⟨Nat.le_of_ble_eq_true rfl, Nat.le_of_ble_eq_true rfl⟩) (pre_S hPc hK hDc hN) rfl rfl hl.1 rfl (lv_room (Nat.le_of_ble_eq_true rfl)) dX11_digest_60 ⟨Nat.le_of_ble_eq_true rfl, Nat.le_of_ble_eq_true rfl⟩) hP hD hS hA [] [0, 1, 2, 3, 4] rfl rfl (by decide) (by decide) (by decide) (fun u H locs hP hD hS => ?_)
  have hP : va_P (dC, dI) vwCl [(o0, .inr (11, [.ref o1, .ref o3, .ref o2, .ref o5, .ref o6, .ref o7, .ref o8, .ref o9, .ref o10, .ref o11, .ref o12, .ref o13, .int 0])), (o1, .inr (4, [.ref o14, .int 0, .int 0])), (o3, .inr (10, [.ref o4, .int 0, .int 0])), (o4, .inl (cI, 12, .inl (fun _ => (-1)))), (o2, .inr (6, [.ref o15, .ref o16, .ref o17, .ref o18, .int 0, .int 0, .int 0, .int 0, .int 0]))] H := hP
  have hD : va_D A [(o0, .inr (11, [.ref o1, .ref o3, .ref o2, .ref o5, .ref o6, .ref o7, .ref o8, .ref o9, .ref o10, .ref o11, .ref o12, .ref o13, .int 0])), (o1, .inr (4, [.ref o14, .int 0, .int 0])), (o3, .inr (10, [.ref o4, .int 0, .int 0])), (o4, .inl (cI, 12, .inl (fun _ => (-1)))), (o2, .inr (6, [.ref o15, .ref o16, .ref o17, .ref o18, .int 0, .int 0, .int 0, .int 0, .int 0]))] := hD
  refine lv_lstore_n (lv' := [(1, .long 16337), (0, .ref o0)]) hx hb dX11_digest_63 rfl hl (by decide) rfl (fun ls hl => ?_)
  refine lv_lload_n hx hb dX11_digest_64 rfl (lv_at hl 0 rfl) ?_
  refine lv_aload_n hx hb dX11_digest_65 rfl (lv_at hl 1 rfl) ?_
  refine va_get (D := (dC, dI)) (ci := 11) (v := .ref o3) (C := RX11) (T := TX11) (N := 13) hx hb hts iw_X11_digest_X11 hown hK hP 0 rfl rfl 1 (by decide) (hts (.fieldLink RX11 19 "HolelessHouse" "table" "LHolelessHouse$Table;") (by decide +kernel)) (fun _ h9 => h9) rfl dX11_digest_66 ?_
  refine va_getN (D := (dC, dI)) (ci := 10) (v := .ref o4) (C := RX10) (T := TX10) (N := 3) hx hb hts iw_X11_digest_X10 hown hK hP 2 rfl rfl 0 (by decide) (hN.use ns_21) (fun _ h9 => h9) rfl dX11_digest_69 ?_
  refine lv_bipush (v := 12) hx hb dX11_digest_72 (by decide) ?_
  refine kcall_l (D := (dC, dI)) (S := Unit) (v := (-7806720121855867503)) (wc := [(o4, .inl (cI, 12, .inl (fun _ => (-1))))]) (wr := [(o0, .inr (11, [.ref o1, .ref o3, .ref o2, .ref o5, .ref o6, .ref o7, .ref o8, .ref o9, .ref o10, .ref o11, .ref o12, .ref o13, .int 0])), (o1, .inr (4, [.ref o14, .int 0, .int 0])), (o3, .inr (10, [.ref o4, .int 0, .int 0])), (o2, .inr (6, [.ref o15, .ref o16, .ref o17, .ref o18, .int 0, .int 0, .int 0, .int 0, .int 0]))]) (w1 := fun _ => [(o4, .inl (cI, 12, .inl (fun _ => (-1))))]) (fun hPc hDc => va_runS (As := [.long 16337, .ref o4, .int 12]) (rest := []) ⟨hx, hb, hml, hown, hts⟩ (kX11_mixAll_2 l dC dI cI c2 o4 H.size) (va_cwS 3 hts gX11_digest_X11_mixAll rfl rfl rfl (by decide +kernel) ⟨Nat.le_of_ble_eq_true rfl, Nat.le_of_ble_eq_true rfl⟩) (pre_S hPc hK hDc hN) rfl rfl hl.1 rfl (lv_room (Nat.le_of_ble_eq_true rfl)) dX11_digest_74 ⟨Nat.le_of_ble_eq_true rfl, Nat.le_of_ble_eq_true rfl⟩) hP hD hS hA [3] [0, 1, 2, 4] rfl rfl (by decide) (by decide) (by decide) (fun u H locs hP hD hS => ?_)
  have hP : va_P (dC, dI) vwCl [(o0, .inr (11, [.ref o1, .ref o3, .ref o2, .ref o5, .ref o6, .ref o7, .ref o8, .ref o9, .ref o10, .ref o11, .ref o12, .ref o13, .int 0])), (o1, .inr (4, [.ref o14, .int 0, .int 0])), (o3, .inr (10, [.ref o4, .int 0, .int 0])), (o2, .inr (6, [.ref o15, .ref o16, .ref o17, .ref o18, .int 0, .int 0, .int 0, .int 0, .int 0])), (o4, .inl (cI, 12, .inl (fun _ => (-1))))] H := hP
  have hD : va_D A [(o0, .inr (11, [.ref o1, .ref o3, .ref o2, .ref o5, .ref o6, .ref o7, .ref o8, .ref o9, .ref o10, .ref o11, .ref o12, .ref o13, .int 0])), (o1, .inr (4, [.ref o14, .int 0, .int 0])), (o3, .inr (10, [.ref o4, .int 0, .int 0])), (o2, .inr (6, [.ref o15, .ref o16, .ref o17, .ref o18, .int 0, .int 0, .int 0, .int 0, .int 0])), (o4, .inl (cI, 12, .inl (fun _ => (-1))))] := hD
  refine lv_lstore_n (lv' := [(1, .long (-7806720121855867503)), (0, .ref o0)]) hx hb dX11_digest_77 rfl hl (by decide) rfl (fun ls hl => ?_)
  refine lv_lload_n hx hb dX11_digest_78 rfl (lv_at hl 0 rfl) ?_
  refine lv_aload_n hx hb dX11_digest_79 rfl (lv_at hl 1 rfl) ?_
  refine va_get (D := (dC, dI)) (ci := 11) (v := .ref o2) (C := RX11) (T := TX11) (N := 13) hx hb hts iw_X11_digest_X11 hown hK hP 0 rfl rfl 2 (by decide) (hts (.fieldLink RX11 26 "HolelessHouse" "ordering" "LHolelessHouse$Ordering;") (by decide +kernel)) (fun _ h9 => h9) rfl dX11_digest_80 ?_
  refine va_getN (D := (dC, dI)) (ci := 6) (v := .ref o18) (C := RX6) (T := TX6) (N := 9) hx hb hts iw_X11_digest_X6 hown hK hP 3 rfl rfl 3 (by decide) (hN.use ns_26) (fun _ h9 => h9) rfl dX11_digest_83 ?_
  refine lv_aload_n hx hb dX11_digest_86 rfl (lv_at hl 1 rfl) ?_
  refine va_get (D := (dC, dI)) (ci := 11) (v := .ref o2) (C := RX11) (T := TX11) (N := 13) hx hb hts iw_X11_digest_X11 hown hK hP 0 rfl rfl 2 (by decide) (hts (.fieldLink RX11 26 "HolelessHouse" "ordering" "LHolelessHouse$Ordering;") (by decide +kernel)) (fun _ h9 => h9) rfl dX11_digest_87 ?_
  refine va_getN (D := (dC, dI)) (ci := 6) (v := .int 0) (C := RX6) (T := TX6) (N := 9) hx hb hts iw_X11_digest_X6 hown hK hP 3 rfl rfl 4 (by decide) (hN.use ns_27) (fun _ h9 => h9) rfl dX11_digest_90 ?_
  refine kcall_l (D := (dC, dI)) (S := Unit) (v := (-7806720121855867503)) (wc := []) (wr := [(o0, .inr (11, [.ref o1, .ref o3, .ref o2, .ref o5, .ref o6, .ref o7, .ref o8, .ref o9, .ref o10, .ref o11, .ref o12, .ref o13, .int 0])), (o1, .inr (4, [.ref o14, .int 0, .int 0])), (o3, .inr (10, [.ref o4, .int 0, .int 0])), (o2, .inr (6, [.ref o15, .ref o16, .ref o17, .ref o18, .int 0, .int 0, .int 0, .int 0, .int 0])), (o4, .inl (cI, 12, .inl (fun _ => (-1))))]) (w1 := fun _ => []) (fun hPc hDc => va_runS (As := [.long (-7806720121855867503), .ref o18, .int 0]) (rest := []) ⟨hx, hb, hml, hown, hts⟩ (kX11_mixAll_3 l dC dI cI c2 o18 H.size) (va_cwS 3 hts gX11_digest_X11_mixAll rfl rfl rfl (by decide +kernel) ⟨Nat.le_of_ble_eq_true rfl, Nat.le_of_ble_eq_true rfl⟩) (pre_S hPc hK hDc hN) rfl rfl hl.1 rfl (lv_room (Nat.le_of_ble_eq_true rfl)) dX11_digest_93 ⟨Nat.le_of_ble_eq_true rfl, Nat.le_of_ble_eq_true rfl⟩) hP hD hS hA [] [0, 1, 2, 3, 4] rfl rfl (by decide) (by decide) (by decide) (fun u H locs hP hD hS => ?_)
  have hP : va_P (dC, dI) vwCl [(o0, .inr (11, [.ref o1, .ref o3, .ref o2, .ref o5, .ref o6, .ref o7, .ref o8, .ref o9, .ref o10, .ref o11, .ref o12, .ref o13, .int 0])), (o1, .inr (4, [.ref o14, .int 0, .int 0])), (o3, .inr (10, [.ref o4, .int 0, .int 0])), (o2, .inr (6, [.ref o15, .ref o16, .ref o17, .ref o18, .int 0, .int 0, .int 0, .int 0, .int 0])), (o4, .inl (cI, 12, .inl (fun _ => (-1))))] H := hP
  have hD : va_D A [(o0, .inr (11, [.ref o1, .ref o3, .ref o2, .ref o5, .ref o6, .ref o7, .ref o8, .ref o9, .ref o10, .ref o11, .ref o12, .ref o13, .int 0])), (o1, .inr (4, [.ref o14, .int 0, .int 0])), (o3, .inr (10, [.ref o4, .int 0, .int 0])), (o2, .inr (6, [.ref o15, .ref o16, .ref o17, .ref o18, .int 0, .int 0, .int 0, .int 0, .int 0])), (o4, .inl (cI, 12, .inl (fun _ => (-1))))] := hD
  have hP9 := hP.sub (ws' := []) [] rfl
  have hD9 := hD.sub (ws' := []) [] (by decide) rfl
  exact W.lret (v := (-7806720121855867503)) hx hb hr (fun t ht hW => ⟨⟨(-7806720121855867503), (), rfl, rfl, by rw [ht]; exact hP9, va_K.moved hW.alike hK, hD9⟩, hS.F ht⟩) hS.2.2 dX11_digest_96
theorem iw_X12_digest_X12 : ∀ w ∈ wsX120, w ∈ wsX12_digest := by decide +kernel
set_option maxHeartbeats 1000000 in
set_option maxRecDepth 100000 in
theorem kX12_digest_1 (l : Launch) (dC : Nat → ClassId) (dI : Nat → Nat → Nat) (cI c2 : ClassId) (o0 : Nat) (o1 : Nat) (o2 : Nat) (o3 : Nat) (o4 : Nat) (o5 : Nat) (o6 : Nat) (o7 : Nat) (o8 : Nat) (o9 : Nat) (o10 : Nat) (o11 : Nat) (o12 : Nat) (o13 : Nat) (o14 : Nat) (o15 : Nat) (o16 : Nat) (o17 : Nat) (o18 : Nat) (sz : Nat) : Met l yX12_digest wsX12_digest ({ frames := 0, cells := 0, slots := 0, locals := 0 }) (va_Pc [.ref o0] (wPre (dC, dI) [(cI, .int), (c2, .array .int)] [(o0, .inr (12, [.int 0, .ref o2, .int 0, .ref o3, .int 0, .ref o1, .ref o4, .int 0, .ref o5, .int 0, .ref o6, .int (-9), .int 0, .int 0, .ref o7, .ref o8, .ref o9, .ref o10, .ref o11, .int 0, .ref o12, .ref o13, .ref o14, .int 0, .ref o15, .ref o16, .ref o17, .int 0, .ref o18])), (o1, .inl (cI, 12, .inl (fun _ => (-9))))] sz)) (va_Ql (fun (r : Int64) (_ : Unit) => r = (-7806720121855867503)) (fun _ t => wPost (dC, dI) [(cI, .int), (c2, .array .int)] (va_A [(o0, .inr (12, [.int 0, .ref o2, .int 0, .ref o3, .int 0, .ref o1, .ref o4, .int 0, .ref o5, .int 0, .ref o6, .int (-9), .int 0, .int 0, .ref o7, .ref o8, .ref o9, .ref o10, .ref o11, .int 0, .ref o12, .ref o13, .ref o14, .int 0, .ref o15, .ref o16, .ref o17, .int 0, .ref o18])), (o1, .inl (cI, 12, .inl (fun _ => (-9))))] sz) [] t) (va_A [(o0, .inr (12, [.int 0, .ref o2, .int 0, .ref o3, .int 0, .ref o1, .ref o4, .int 0, .ref o5, .int 0, .ref o6, .int (-9), .int 0, .int 0, .ref o7, .ref o8, .ref o9, .ref o10, .ref o11, .int 0, .ref o12, .ref o13, .ref o14, .int 0, .ref o15, .ref o16, .ref o17, .int 0, .ref o18])), (o1, .inl (cI, 12, .inl (fun _ => (-9))))] sz)) 0 0 (va_A [(o0, .inr (12, [.int 0, .ref o2, .int 0, .ref o3, .int 0, .ref o1, .ref o4, .int 0, .ref o5, .int 0, .ref o6, .int (-9), .int 0, .int 0, .ref o7, .ref o8, .ref o9, .ref o10, .ref o11, .int 0, .ref o12, .ref o13, .ref o14, .int 0, .ref o15, .ref o16, .ref o17, .int 0, .ref o18])), (o1, .inl (cI, 12, .inl (fun _ => (-9))))] sz) := by
  refine Met.ofW (cc := cX12_digest) (maxL := 4) (ret := (some .long)) (by decide) rfl ?_
  intro p e s m args below meth c s₁ B hml hv
  obtain ⟨rfl, hsz, hP, hK, hD0, hN⟩ := hv
  have hx := B.exec
  have hb := B.bytes
  have hr := B.returns
  have hts := atoms_spec (ws := wsX12_digest) B.pre
  have hown : s.vm.findClass RX12 = some m.cls := findClass_of_methodNamed B.named
  have hlocks := B.notSynchronized
  subst hsz
  have hD := hD0.self (sz := s.heap.size)
  generalize hAe : va_A [(o0, .inr (12, [.int 0, .ref o2, .int 0, .ref o3, .int 0, .ref o1, .ref o4, .int 0, .ref o5, .int 0, .ref o6, .int (-9), .int 0, .int 0, .ref o7, .ref o8, .ref o9, .ref o10, .ref o11, .int 0, .ref o12, .ref o13, .ref o14, .int 0, .ref o15, .ref o16, .ref o17, .int 0, .ref o18])), (o1, .inl (cI, 12, .inl (fun _ => (-9))))] s.heap.size = A at hD ⊢
  have hA : ∀ q : Nat, s.heap.size ≤ q → A q := fun q h => by rw [← hAe]; exact Or.inr h
  have hS : va_S A s.heap s.heap [] := va_S.rf
  have hP : va_P (dC, dI) vwCl [(o0, .inr (12, [.int 0, .ref o2, .int 0, .ref o3, .int 0, .ref o1, .ref o4, .int 0, .ref o5, .int 0, .ref o6, .int (-9), .int 0, .int 0, .ref o7, .ref o8, .ref o9, .ref o10, .ref o11, .int 0, .ref o12, .ref o13, .ref o14, .int 0, .ref o15, .ref o16, .ref o17, .int 0, .ref o18])), (o1, .inl (cI, 12, .inl (fun _ => (-9))))] s.heap := hP
  have hl := lv_entry ([.ref o0]) (n := 4) (Nat.le_of_ble_eq_true rfl)
  rw [lg_entry_eq]
  generalize (lg_sl ([.ref o0]) ++ List.replicate (4 - (lg_sl ([.ref o0])).length) Slot.unset).toArray = ls at hl ⊢
  have hl : lv_has ls 4 [(0, .ref o0)] := hl
  refine lv_ldc2 (v := 527) hx hb hown (hts (.constantLong RX12 217 (527)) (by decide +kernel)) dX12_digest_0 ?_
  refine lv_aload_n hx hb dX12_digest_3 rfl (lv_at hl 0 rfl) ?_
  refine va_get (D := (dC, dI)) (ci := 12) (v := .int 0) (C := RX12) (T := TX12) (N := 29) hx hb hts iw_X12_digest_X12 hown hK hP 0 rfl rfl 2 (by decide) (hts (.fieldLink RX12 73 "HolelessHouseModel" "n" "I") (by decide +kernel)) (fun _ h9 => h9) rfl dX12_digest_4 ?_
  refine lv_i2l (v := 0) hx hb dX12_digest_7 (by decide +kernel) ?_
  refine lv_ladd hx hb dX12_digest_8 (tk_l (v := 527) (by decide +kernel) ?_)
  refine lv_lstore_n (lv' := [(1, .long 527), (0, .ref o0)]) hx hb dX12_digest_9 rfl hl (by decide) rfl (fun ls hl => ?_)
  refine lv_iconst (v := 0) hx hb dX12_digest_10 (by decide) ?_
  refine lv_istore_n (lv' := [(3, .int 0), (1, .long 527), (0, .ref o0)]) hx hb dX12_digest_11 rfl hl (by decide) rfl (fun ls hl => ?_)
  refine lv_iload_n hx hb dX12_digest_12 rfl (lv_at hl 0 rfl) ?_
  refine lv_aload_n hx hb dX12_digest_13 rfl (lv_at hl 2 rfl) ?_
  refine va_get (D := (dC, dI)) (ci := 12) (v := .int 0) (C := RX12) (T := TX12) (N := 29) hx hb hts iw_X12_digest_X12 hown hK hP 0 rfl rfl 2 (by decide) (hts (.fieldLink RX12 73 "HolelessHouseModel" "n" "I") (by decide +kernel)) (fun _ h9 => h9) rfl dX12_digest_14 ?_
  refine lv_icmp_ge (tgt := 40) hx hb dX12_digest_17 (by decide) (fun _ => ?_) (fun h9 => absurd (by decide +kernel) h9)
  refine lv_iconst (v := 0) hx hb dX12_digest_40 (by decide) ?_
  refine lv_istore_n (lv' := [(3, .int 0), (1, .long 527), (0, .ref o0)]) hx hb dX12_digest_41 rfl hl (by decide) rfl (fun ls hl => ?_)
  refine lv_iload_n hx hb dX12_digest_42 rfl (lv_at hl 0 rfl) ?_
  refine lv_aload_n hx hb dX12_digest_43 rfl (lv_at hl 2 rfl) ?_
  refine va_get (D := (dC, dI)) (ci := 12) (v := .int (-9)) (C := RX12) (T := TX12) (N := 29) hx hb hts iw_X12_digest_X12 hown hK hP 0 rfl rfl 11 (by decide) (hts (.fieldLink RX12 28 "HolelessHouseModel" "ordered" "I") (by decide +kernel)) (fun _ h9 => h9) rfl dX12_digest_44 ?_
  refine lv_icmp_ge (tgt := 70) hx hb dX12_digest_47 (by decide) (fun _ => ?_) (fun h9 => absurd (by decide +kernel) h9)
  refine lv_ldc2 (v := 31) hx hb hown (hts (.constantLong RX12 219 (31)) (by decide +kernel)) dX12_digest_70 ?_
  refine lv_lload_n hx hb dX12_digest_73 rfl (lv_at hl 1 rfl) ?_
  refine lv_lmul hx hb dX12_digest_74 (tk_l (v := 16337) (by decide +kernel) ?_)
  refine lv_aload_n hx hb dX12_digest_75 rfl (lv_at hl 2 rfl) ?_
  refine va_get (D := (dC, dI)) (ci := 12) (v := .int 0) (C := RX12) (T := TX12) (N := 29) hx hb hts iw_X12_digest_X12 hown hK hP 0 rfl rfl 4 (by decide) (hts (.fieldLink RX12 128 "HolelessHouseModel" "columns" "I") (by decide +kernel)) (fun _ h9 => h9) rfl dX12_digest_76 ?_
  refine lv_i2l (v := 0) hx hb dX12_digest_79 (by decide +kernel) ?_
  refine lv_ladd hx hb dX12_digest_80 (tk_l (v := 16337) (by decide +kernel) ?_)
  refine lv_lstore_n (lv' := [(1, .long 16337), (3, .int 0), (0, .ref o0)]) hx hb dX12_digest_81 rfl hl (by decide) rfl (fun ls hl => ?_)
  refine lv_iconst (v := 0) hx hb dX12_digest_82 (by decide) ?_
  refine lv_istore_n (lv' := [(3, .int 0), (1, .long 16337), (0, .ref o0)]) hx hb dX12_digest_83 rfl hl (by decide) rfl (fun ls hl => ?_)
  refine lv_iload_n hx hb dX12_digest_84 rfl (lv_at hl 0 rfl) ?_
  refine lv_bipush (v := 12) hx hb dX12_digest_85 (by decide) ?_
  refine lv_icmp_ge (tgt := 123) hx hb dX12_digest_87 (by decide) (fun h9 => absurd h9 (by decide +kernel)) (fun _ => ?_)
  refine lv_ldc2 (v := 31) hx hb hown (hts (.constantLong RX12 219 (31)) (by decide +kernel)) dX12_digest_90 ?_
  refine lv_lload_n hx hb dX12_digest_93 rfl (lv_at hl 1 rfl) ?_
  refine lv_lmul hx hb dX12_digest_94 (tk_l (v := 506447) (by decide +kernel) ?_)
  refine lv_aload_n hx hb dX12_digest_95 rfl (lv_at hl 2 rfl) ?_
  refine va_get (D := (dC, dI)) (ci := 12) (v := .ref o1) (C := RX12) (T := TX12) (N := 29) hx hb hts iw_X12_digest_X12 hown hK hP 0 rfl rfl 5 (by decide) (hts (.fieldLink RX12 16 "HolelessHouseModel" "rows" "[I") (by decide +kernel)) (fun _ h9 => h9) rfl dX12_digest_96 ?_
  refine lv_iload_n hx hb dX12_digest_99 rfl (lv_at hl 0 rfl) ?_
  refine va_iald hx hb hK hP 1 0 rfl rfl (vin (by decide +kernel)) dX12_digest_100 (tk_i (v := (-9)) (by decide +kernel) ?_)
  refine lv_if_ge (tgt := 108) hx hb dX12_digest_101 (by decide) (fun h9 => absurd h9 (by decide +kernel)) (fun _ => ?_)
  refine lv_iconst (v := (-1)) hx hb dX12_digest_104 (by decide) ?_
  refine lv_goto (tgt := 114) hx hb dX12_digest_105 (by decide) ?_
  refine lv_i2l (v := (-1)) hx hb dX12_digest_114 (by decide +kernel) ?_
  refine lv_ladd hx hb dX12_digest_115 (tk_l (v := 506446) (by decide +kernel) ?_)
  refine lv_lstore_n (lv' := [(1, .long 506446), (3, .int 0), (0, .ref o0)]) hx hb dX12_digest_116 rfl hl (by decide) rfl (fun ls hl => ?_)
  refine lv_iinc (v := 1) (lv' := [(3, .int 1), (1, .long 506446), (0, .ref o0)]) hx hb dX12_digest_117 hl (k := 1) rfl (by decide +kernel) (by decide) rfl (fun ls hl => ?_)
  refine lv_goto (tgt := 84) hx hb dX12_digest_120 (by decide) ?_
  refine lv_iload_n hx hb dX12_digest_84 rfl (lv_at hl 0 rfl) ?_
  refine lv_bipush (v := 12) hx hb dX12_digest_85 (by decide) ?_
  refine lv_icmp_ge (tgt := 123) hx hb dX12_digest_87 (by decide) (fun h9 => absurd h9 (by decide +kernel)) (fun _ => ?_)
  refine lv_ldc2 (v := 31) hx hb hown (hts (.constantLong RX12 219 (31)) (by decide +kernel)) dX12_digest_90 ?_
  refine lv_lload_n hx hb dX12_digest_93 rfl (lv_at hl 1 rfl) ?_
  refine lv_lmul hx hb dX12_digest_94 (tk_l (v := 15699826) (by decide +kernel) ?_)
  refine lv_aload_n hx hb dX12_digest_95 rfl (lv_at hl 2 rfl) ?_
  refine va_get (D := (dC, dI)) (ci := 12) (v := .ref o1) (C := RX12) (T := TX12) (N := 29) hx hb hts iw_X12_digest_X12 hown hK hP 0 rfl rfl 5 (by decide) (hts (.fieldLink RX12 16 "HolelessHouseModel" "rows" "[I") (by decide +kernel)) (fun _ h9 => h9) rfl dX12_digest_96 ?_
  refine lv_iload_n hx hb dX12_digest_99 rfl (lv_at hl 0 rfl) ?_
  refine va_iald hx hb hK hP 1 0 rfl rfl (vin (by decide +kernel)) dX12_digest_100 (tk_i (v := (-9)) (by decide +kernel) ?_)
  refine lv_if_ge (tgt := 108) hx hb dX12_digest_101 (by decide) (fun h9 => absurd h9 (by decide +kernel)) (fun _ => ?_)
  refine lv_iconst (v := (-1)) hx hb dX12_digest_104 (by decide) ?_
  refine lv_goto (tgt := 114) hx hb dX12_digest_105 (by decide) ?_
  refine lv_i2l (v := (-1)) hx hb dX12_digest_114 (by decide +kernel) ?_
  refine lv_ladd hx hb dX12_digest_115 (tk_l (v := 15699825) (by decide +kernel) ?_)
  refine lv_lstore_n (lv' := [(1, .long 15699825), (3, .int 1), (0, .ref o0)]) hx hb dX12_digest_116 rfl hl (by decide) rfl (fun ls hl => ?_)
  refine lv_iinc (v := 2) (lv' := [(3, .int 2), (1, .long 15699825), (0, .ref o0)]) hx hb dX12_digest_117 hl (k := 1) rfl (by decide +kernel) (by decide) rfl (fun ls hl => ?_)
  refine lv_goto (tgt := 84) hx hb dX12_digest_120 (by decide) ?_
  refine lv_iload_n hx hb dX12_digest_84 rfl (lv_at hl 0 rfl) ?_
  refine lv_bipush (v := 12) hx hb dX12_digest_85 (by decide) ?_
  refine lv_icmp_ge (tgt := 123) hx hb dX12_digest_87 (by decide) (fun h9 => absurd h9 (by decide +kernel)) (fun _ => ?_)
  refine lv_ldc2 (v := 31) hx hb hown (hts (.constantLong RX12 219 (31)) (by decide +kernel)) dX12_digest_90 ?_
  refine lv_lload_n hx hb dX12_digest_93 rfl (lv_at hl 1 rfl) ?_
  refine lv_lmul hx hb dX12_digest_94 (tk_l (v := 486694575) (by decide +kernel) ?_)
  refine lv_aload_n hx hb dX12_digest_95 rfl (lv_at hl 2 rfl) ?_
  refine va_get (D := (dC, dI)) (ci := 12) (v := .ref o1) (C := RX12) (T := TX12) (N := 29) hx hb hts iw_X12_digest_X12 hown hK hP 0 rfl rfl 5 (by decide) (hts (.fieldLink RX12 16 "HolelessHouseModel" "rows" "[I") (by decide +kernel)) (fun _ h9 => h9) rfl dX12_digest_96 ?_
  refine lv_iload_n hx hb dX12_digest_99 rfl (lv_at hl 0 rfl) ?_
  refine va_iald hx hb hK hP 1 0 rfl rfl (vin (by decide +kernel)) dX12_digest_100 (tk_i (v := (-9)) (by decide +kernel) ?_)
  refine lv_if_ge (tgt := 108) hx hb dX12_digest_101 (by decide) (fun h9 => absurd h9 (by decide +kernel)) (fun _ => ?_)
  refine lv_iconst (v := (-1)) hx hb dX12_digest_104 (by decide) ?_
  refine lv_goto (tgt := 114) hx hb dX12_digest_105 (by decide) ?_
  refine lv_i2l (v := (-1)) hx hb dX12_digest_114 (by decide +kernel) ?_
  refine lv_ladd hx hb dX12_digest_115 (tk_l (v := 486694574) (by decide +kernel) ?_)
  refine lv_lstore_n (lv' := [(1, .long 486694574), (3, .int 2), (0, .ref o0)]) hx hb dX12_digest_116 rfl hl (by decide) rfl (fun ls hl => ?_)
  refine lv_iinc (v := 3) (lv' := [(3, .int 3), (1, .long 486694574), (0, .ref o0)]) hx hb dX12_digest_117 hl (k := 1) rfl (by decide +kernel) (by decide) rfl (fun ls hl => ?_)
  refine lv_goto (tgt := 84) hx hb dX12_digest_120 (by decide) ?_
  refine lv_iload_n hx hb dX12_digest_84 rfl (lv_at hl 0 rfl) ?_
  refine lv_bipush (v := 12) hx hb dX12_digest_85 (by decide) ?_
  refine lv_icmp_ge (tgt := 123) hx hb dX12_digest_87 (by decide) (fun h9 => absurd h9 (by decide +kernel)) (fun _ => ?_)
  refine lv_ldc2 (v := 31) hx hb hown (hts (.constantLong RX12 219 (31)) (by decide +kernel)) dX12_digest_90 ?_
  refine lv_lload_n hx hb dX12_digest_93 rfl (lv_at hl 1 rfl) ?_
  refine lv_lmul hx hb dX12_digest_94 (tk_l (v := 15087531794) (by decide +kernel) ?_)
  refine lv_aload_n hx hb dX12_digest_95 rfl (lv_at hl 2 rfl) ?_
  refine va_get (D := (dC, dI)) (ci := 12) (v := .ref o1) (C := RX12) (T := TX12) (N := 29) hx hb hts iw_X12_digest_X12 hown hK hP 0 rfl rfl 5 (by decide) (hts (.fieldLink RX12 16 "HolelessHouseModel" "rows" "[I") (by decide +kernel)) (fun _ h9 => h9) rfl dX12_digest_96 ?_
  refine lv_iload_n hx hb dX12_digest_99 rfl (lv_at hl 0 rfl) ?_
  refine va_iald hx hb hK hP 1 0 rfl rfl (vin (by decide +kernel)) dX12_digest_100 (tk_i (v := (-9)) (by decide +kernel) ?_)
  refine lv_if_ge (tgt := 108) hx hb dX12_digest_101 (by decide) (fun h9 => absurd h9 (by decide +kernel)) (fun _ => ?_)
  refine lv_iconst (v := (-1)) hx hb dX12_digest_104 (by decide) ?_
  refine lv_goto (tgt := 114) hx hb dX12_digest_105 (by decide) ?_
  refine lv_i2l (v := (-1)) hx hb dX12_digest_114 (by decide +kernel) ?_
  refine lv_ladd hx hb dX12_digest_115 (tk_l (v := 15087531793) (by decide +kernel) ?_)
  refine lv_lstore_n (lv' := [(1, .long 15087531793), (3, .int 3), (0, .ref o0)]) hx hb dX12_digest_116 rfl hl (by decide) rfl (fun ls hl => ?_)
  refine lv_iinc (v := 4) (lv' := [(3, .int 4), (1, .long 15087531793), (0, .ref o0)]) hx hb dX12_digest_117 hl (k := 1) rfl (by decide +kernel) (by decide) rfl (fun ls hl => ?_)
  refine lv_goto (tgt := 84) hx hb dX12_digest_120 (by decide) ?_
  refine lv_iload_n hx hb dX12_digest_84 rfl (lv_at hl 0 rfl) ?_
  refine lv_bipush (v := 12) hx hb dX12_digest_85 (by decide) ?_
  refine lv_icmp_ge (tgt := 123) hx hb dX12_digest_87 (by decide) (fun h9 => absurd h9 (by decide +kernel)) (fun _ => ?_)
  refine lv_ldc2 (v := 31) hx hb hown (hts (.constantLong RX12 219 (31)) (by decide +kernel)) dX12_digest_90 ?_
  refine lv_lload_n hx hb dX12_digest_93 rfl (lv_at hl 1 rfl) ?_
  refine lv_lmul hx hb dX12_digest_94 (tk_l (v := 467713485583) (by decide +kernel) ?_)
  refine lv_aload_n hx hb dX12_digest_95 rfl (lv_at hl 2 rfl) ?_
  refine va_get (D := (dC, dI)) (ci := 12) (v := .ref o1) (C := RX12) (T := TX12) (N := 29) hx hb hts iw_X12_digest_X12 hown hK hP 0 rfl rfl 5 (by decide) (hts (.fieldLink RX12 16 "HolelessHouseModel" "rows" "[I") (by decide +kernel)) (fun _ h9 => h9) rfl dX12_digest_96 ?_
  refine lv_iload_n hx hb dX12_digest_99 rfl (lv_at hl 0 rfl) ?_
  refine va_iald hx hb hK hP 1 0 rfl rfl (vin (by decide +kernel)) dX12_digest_100 (tk_i (v := (-9)) (by decide +kernel) ?_)
  refine lv_if_ge (tgt := 108) hx hb dX12_digest_101 (by decide) (fun h9 => absurd h9 (by decide +kernel)) (fun _ => ?_)
  refine lv_iconst (v := (-1)) hx hb dX12_digest_104 (by decide) ?_
  refine lv_goto (tgt := 114) hx hb dX12_digest_105 (by decide) ?_
  refine lv_i2l (v := (-1)) hx hb dX12_digest_114 (by decide +kernel) ?_
  refine lv_ladd hx hb dX12_digest_115 (tk_l (v := 467713485582) (by decide +kernel) ?_)
  refine lv_lstore_n (lv' := [(1, .long 467713485582), (3, .int 4), (0, .ref o0)]) hx hb dX12_digest_116 rfl hl (by decide) rfl (fun ls hl => ?_)
  refine lv_iinc (v := 5) (lv' := [(3, .int 5), (1, .long 467713485582), (0, .ref o0)]) hx hb dX12_digest_117 hl (k := 1) rfl (by decide +kernel) (by decide) rfl (fun ls hl => ?_)
  refine lv_goto (tgt := 84) hx hb dX12_digest_120 (by decide) ?_
  refine lv_iload_n hx hb dX12_digest_84 rfl (lv_at hl 0 rfl) ?_
  refine lv_bipush (v := 12) hx hb dX12_digest_85 (by decide) ?_
  refine lv_icmp_ge (tgt := 123) hx hb dX12_digest_87 (by decide) (fun h9 => absurd h9 (by decide +kernel)) (fun _ => ?_)
  refine lv_ldc2 (v := 31) hx hb hown (hts (.constantLong RX12 219 (31)) (by decide +kernel)) dX12_digest_90 ?_
  refine lv_lload_n hx hb dX12_digest_93 rfl (lv_at hl 1 rfl) ?_
  refine lv_lmul hx hb dX12_digest_94 (tk_l (v := 14499118053042) (by decide +kernel) ?_)
  refine lv_aload_n hx hb dX12_digest_95 rfl (lv_at hl 2 rfl) ?_
  refine va_get (D := (dC, dI)) (ci := 12) (v := .ref o1) (C := RX12) (T := TX12) (N := 29) hx hb hts iw_X12_digest_X12 hown hK hP 0 rfl rfl 5 (by decide) (hts (.fieldLink RX12 16 "HolelessHouseModel" "rows" "[I") (by decide +kernel)) (fun _ h9 => h9) rfl dX12_digest_96 ?_
  refine lv_iload_n hx hb dX12_digest_99 rfl (lv_at hl 0 rfl) ?_
  refine va_iald hx hb hK hP 1 0 rfl rfl (vin (by decide +kernel)) dX12_digest_100 (tk_i (v := (-9)) (by decide +kernel) ?_)
  refine lv_if_ge (tgt := 108) hx hb dX12_digest_101 (by decide) (fun h9 => absurd h9 (by decide +kernel)) (fun _ => ?_)
  refine lv_iconst (v := (-1)) hx hb dX12_digest_104 (by decide) ?_
  refine lv_goto (tgt := 114) hx hb dX12_digest_105 (by decide) ?_
  refine lv_i2l (v := (-1)) hx hb dX12_digest_114 (by decide +kernel) ?_
  refine lv_ladd hx hb dX12_digest_115 (tk_l (v := 14499118053041) (by decide +kernel) ?_)
  refine lv_lstore_n (lv' := [(1, .long 14499118053041), (3, .int 5), (0, .ref o0)]) hx hb dX12_digest_116 rfl hl (by decide) rfl (fun ls hl => ?_)
  refine lv_iinc (v := 6) (lv' := [(3, .int 6), (1, .long 14499118053041), (0, .ref o0)]) hx hb dX12_digest_117 hl (k := 1) rfl (by decide +kernel) (by decide) rfl (fun ls hl => ?_)
  refine lv_goto (tgt := 84) hx hb dX12_digest_120 (by decide) ?_
  refine lv_iload_n hx hb dX12_digest_84 rfl (lv_at hl 0 rfl) ?_
  refine lv_bipush (v := 12) hx hb dX12_digest_85 (by decide) ?_
  refine lv_icmp_ge (tgt := 123) hx hb dX12_digest_87 (by decide) (fun h9 => absurd h9 (by decide +kernel)) (fun _ => ?_)
  refine lv_ldc2 (v := 31) hx hb hown (hts (.constantLong RX12 219 (31)) (by decide +kernel)) dX12_digest_90 ?_
  refine lv_lload_n hx hb dX12_digest_93 rfl (lv_at hl 1 rfl) ?_
  refine lv_lmul hx hb dX12_digest_94 (tk_l (v := 449472659644271) (by decide +kernel) ?_)
  refine lv_aload_n hx hb dX12_digest_95 rfl (lv_at hl 2 rfl) ?_
  refine va_get (D := (dC, dI)) (ci := 12) (v := .ref o1) (C := RX12) (T := TX12) (N := 29) hx hb hts iw_X12_digest_X12 hown hK hP 0 rfl rfl 5 (by decide) (hts (.fieldLink RX12 16 "HolelessHouseModel" "rows" "[I") (by decide +kernel)) (fun _ h9 => h9) rfl dX12_digest_96 ?_
  refine lv_iload_n hx hb dX12_digest_99 rfl (lv_at hl 0 rfl) ?_
  refine va_iald hx hb hK hP 1 0 rfl rfl (vin (by decide +kernel)) dX12_digest_100 (tk_i (v := (-9)) (by decide +kernel) ?_)
  refine lv_if_ge (tgt := 108) hx hb dX12_digest_101 (by decide) (fun h9 => absurd h9 (by decide +kernel)) (fun _ => ?_)
  refine lv_iconst (v := (-1)) hx hb dX12_digest_104 (by decide) ?_
  refine lv_goto (tgt := 114) hx hb dX12_digest_105 (by decide) ?_
  refine lv_i2l (v := (-1)) hx hb dX12_digest_114 (by decide +kernel) ?_
  refine lv_ladd hx hb dX12_digest_115 (tk_l (v := 449472659644270) (by decide +kernel) ?_)
  refine lv_lstore_n (lv' := [(1, .long 449472659644270), (3, .int 6), (0, .ref o0)]) hx hb dX12_digest_116 rfl hl (by decide) rfl (fun ls hl => ?_)
  refine lv_iinc (v := 7) (lv' := [(3, .int 7), (1, .long 449472659644270), (0, .ref o0)]) hx hb dX12_digest_117 hl (k := 1) rfl (by decide +kernel) (by decide) rfl (fun ls hl => ?_)
  refine lv_goto (tgt := 84) hx hb dX12_digest_120 (by decide) ?_
  refine lv_iload_n hx hb dX12_digest_84 rfl (lv_at hl 0 rfl) ?_
  refine lv_bipush (v := 12) hx hb dX12_digest_85 (by decide) ?_
  refine lv_icmp_ge (tgt := 123) hx hb dX12_digest_87 (by decide) (fun h9 => absurd h9 (by decide +kernel)) (fun _ => ?_)
  refine lv_ldc2 (v := 31) hx hb hown (hts (.constantLong RX12 219 (31)) (by decide +kernel)) dX12_digest_90 ?_
  refine lv_lload_n hx hb dX12_digest_93 rfl (lv_at hl 1 rfl) ?_
  refine lv_lmul hx hb dX12_digest_94 (tk_l (v := 13933652448972370) (by decide +kernel) ?_)
  refine lv_aload_n hx hb dX12_digest_95 rfl (lv_at hl 2 rfl) ?_
  refine va_get (D := (dC, dI)) (ci := 12) (v := .ref o1) (C := RX12) (T := TX12) (N := 29) hx hb hts iw_X12_digest_X12 hown hK hP 0 rfl rfl 5 (by decide) (hts (.fieldLink RX12 16 "HolelessHouseModel" "rows" "[I") (by decide +kernel)) (fun _ h9 => h9) rfl dX12_digest_96 ?_
  refine lv_iload_n hx hb dX12_digest_99 rfl (lv_at hl 0 rfl) ?_
  refine va_iald hx hb hK hP 1 0 rfl rfl (vin (by decide +kernel)) dX12_digest_100 (tk_i (v := (-9)) (by decide +kernel) ?_)
  refine lv_if_ge (tgt := 108) hx hb dX12_digest_101 (by decide) (fun h9 => absurd h9 (by decide +kernel)) (fun _ => ?_)
  refine lv_iconst (v := (-1)) hx hb dX12_digest_104 (by decide) ?_
  refine lv_goto (tgt := 114) hx hb dX12_digest_105 (by decide) ?_
  refine lv_i2l (v := (-1)) hx hb dX12_digest_114 (by decide +kernel) ?_
  refine lv_ladd hx hb dX12_digest_115 (tk_l (v := 13933652448972369) (by decide +kernel) ?_)
  refine lv_lstore_n (lv' := [(1, .long 13933652448972369), (3, .int 7), (0, .ref o0)]) hx hb dX12_digest_116 rfl hl (by decide) rfl (fun ls hl => ?_)
  refine lv_iinc (v := 8) (lv' := [(3, .int 8), (1, .long 13933652448972369), (0, .ref o0)]) hx hb dX12_digest_117 hl (k := 1) rfl (by decide +kernel) (by decide) rfl (fun ls hl => ?_)
  refine lv_goto (tgt := 84) hx hb dX12_digest_120 (by decide) ?_
  refine lv_iload_n hx hb dX12_digest_84 rfl (lv_at hl 0 rfl) ?_
  refine lv_bipush (v := 12) hx hb dX12_digest_85 (by decide) ?_
  refine lv_icmp_ge (tgt := 123) hx hb dX12_digest_87 (by decide) (fun h9 => absurd h9 (by decide +kernel)) (fun _ => ?_)
  refine lv_ldc2 (v := 31) hx hb hown (hts (.constantLong RX12 219 (31)) (by decide +kernel)) dX12_digest_90 ?_
  refine lv_lload_n hx hb dX12_digest_93 rfl (lv_at hl 1 rfl) ?_
  refine lv_lmul hx hb dX12_digest_94 (tk_l (v := 431943225918143439) (by decide +kernel) ?_)
  refine lv_aload_n hx hb dX12_digest_95 rfl (lv_at hl 2 rfl) ?_
  refine va_get (D := (dC, dI)) (ci := 12) (v := .ref o1) (C := RX12) (T := TX12) (N := 29) hx hb hts iw_X12_digest_X12 hown hK hP 0 rfl rfl 5 (by decide) (hts (.fieldLink RX12 16 "HolelessHouseModel" "rows" "[I") (by decide +kernel)) (fun _ h9 => h9) rfl dX12_digest_96 ?_
  refine lv_iload_n hx hb dX12_digest_99 rfl (lv_at hl 0 rfl) ?_
  refine va_iald hx hb hK hP 1 0 rfl rfl (vin (by decide +kernel)) dX12_digest_100 (tk_i (v := (-9)) (by decide +kernel) ?_)
  refine lv_if_ge (tgt := 108) hx hb dX12_digest_101 (by decide) (fun h9 => absurd h9 (by decide +kernel)) (fun _ => ?_)
  refine lv_iconst (v := (-1)) hx hb dX12_digest_104 (by decide) ?_
  refine lv_goto (tgt := 114) hx hb dX12_digest_105 (by decide) ?_
  refine lv_i2l (v := (-1)) hx hb dX12_digest_114 (by decide +kernel) ?_
  refine lv_ladd hx hb dX12_digest_115 (tk_l (v := 431943225918143438) (by decide +kernel) ?_)
  refine lv_lstore_n (lv' := [(1, .long 431943225918143438), (3, .int 8), (0, .ref o0)]) hx hb dX12_digest_116 rfl hl (by decide) rfl (fun ls hl => ?_)
  refine lv_iinc (v := 9) (lv' := [(3, .int 9), (1, .long 431943225918143438), (0, .ref o0)]) hx hb dX12_digest_117 hl (k := 1) rfl (by decide +kernel) (by decide) rfl (fun ls hl => ?_)
  refine lv_goto (tgt := 84) hx hb dX12_digest_120 (by decide) ?_
  refine lv_iload_n hx hb dX12_digest_84 rfl (lv_at hl 0 rfl) ?_
  refine lv_bipush (v := 12) hx hb dX12_digest_85 (by decide) ?_
  refine lv_icmp_ge (tgt := 123) hx hb dX12_digest_87 (by decide) (fun h9 => absurd h9 (by decide +kernel)) (fun _ => ?_)
  refine lv_ldc2 (v := 31) hx hb hown (hts (.constantLong RX12 219 (31)) (by decide +kernel)) dX12_digest_90 ?_
  refine lv_lload_n hx hb dX12_digest_93 rfl (lv_at hl 1 rfl) ?_
  refine lv_lmul hx hb dX12_digest_94 (tk_l (v := (-5056504070247105038)) (by decide +kernel) ?_)
  refine lv_aload_n hx hb dX12_digest_95 rfl (lv_at hl 2 rfl) ?_
  refine va_get (D := (dC, dI)) (ci := 12) (v := .ref o1) (C := RX12) (T := TX12) (N := 29) hx hb hts iw_X12_digest_X12 hown hK hP 0 rfl rfl 5 (by decide) (hts (.fieldLink RX12 16 "HolelessHouseModel" "rows" "[I") (by decide +kernel)) (fun _ h9 => h9) rfl dX12_digest_96 ?_
  refine lv_iload_n hx hb dX12_digest_99 rfl (lv_at hl 0 rfl) ?_
  refine va_iald hx hb hK hP 1 0 rfl rfl (vin (by decide +kernel)) dX12_digest_100 (tk_i (v := (-9)) (by decide +kernel) ?_)
  refine lv_if_ge (tgt := 108) hx hb dX12_digest_101 (by decide) (fun h9 => absurd h9 (by decide +kernel)) (fun _ => ?_)
  refine lv_iconst (v := (-1)) hx hb dX12_digest_104 (by decide) ?_
  refine lv_goto (tgt := 114) hx hb dX12_digest_105 (by decide) ?_
  refine lv_i2l (v := (-1)) hx hb dX12_digest_114 (by decide +kernel) ?_
  refine lv_ladd hx hb dX12_digest_115 (tk_l (v := (-5056504070247105039)) (by decide +kernel) ?_)
  refine lv_lstore_n (lv' := [(1, .long (-5056504070247105039)), (3, .int 9), (0, .ref o0)]) hx hb dX12_digest_116 rfl hl (by decide) rfl (fun ls hl => ?_)
  refine lv_iinc (v := 10) (lv' := [(3, .int 10), (1, .long (-5056504070247105039)), (0, .ref o0)]) hx hb dX12_digest_117 hl (k := 1) rfl (by decide +kernel) (by decide) rfl (fun ls hl => ?_)
  refine lv_goto (tgt := 84) hx hb dX12_digest_120 (by decide) ?_
  refine lv_iload_n hx hb dX12_digest_84 rfl (lv_at hl 0 rfl) ?_
  refine lv_bipush (v := 12) hx hb dX12_digest_85 (by decide) ?_
  refine lv_icmp_ge (tgt := 123) hx hb dX12_digest_87 (by decide) (fun h9 => absurd h9 (by decide +kernel)) (fun _ => ?_)
  refine lv_ldc2 (v := 31) hx hb hown (hts (.constantLong RX12 219 (31)) (by decide +kernel)) dX12_digest_90 ?_
  refine lv_lload_n hx hb dX12_digest_93 rfl (lv_at hl 1 rfl) ?_
  refine lv_lmul hx hb dX12_digest_94 (tk_l (v := (-9177673587983843281)) (by decide +kernel) ?_)
  refine lv_aload_n hx hb dX12_digest_95 rfl (lv_at hl 2 rfl) ?_
  refine va_get (D := (dC, dI)) (ci := 12) (v := .ref o1) (C := RX12) (T := TX12) (N := 29) hx hb hts iw_X12_digest_X12 hown hK hP 0 rfl rfl 5 (by decide) (hts (.fieldLink RX12 16 "HolelessHouseModel" "rows" "[I") (by decide +kernel)) (fun _ h9 => h9) rfl dX12_digest_96 ?_
  refine lv_iload_n hx hb dX12_digest_99 rfl (lv_at hl 0 rfl) ?_
  refine va_iald hx hb hK hP 1 0 rfl rfl (vin (by decide +kernel)) dX12_digest_100 (tk_i (v := (-9)) (by decide +kernel) ?_)
  refine lv_if_ge (tgt := 108) hx hb dX12_digest_101 (by decide) (fun h9 => absurd h9 (by decide +kernel)) (fun _ => ?_)
  refine lv_iconst (v := (-1)) hx hb dX12_digest_104 (by decide) ?_
  refine lv_goto (tgt := 114) hx hb dX12_digest_105 (by decide) ?_
  refine lv_i2l (v := (-1)) hx hb dX12_digest_114 (by decide +kernel) ?_
  refine lv_ladd hx hb dX12_digest_115 (tk_l (v := (-9177673587983843282)) (by decide +kernel) ?_)
  refine lv_lstore_n (lv' := [(1, .long (-9177673587983843282)), (3, .int 10), (0, .ref o0)]) hx hb dX12_digest_116 rfl hl (by decide) rfl (fun ls hl => ?_)
  refine lv_iinc (v := 11) (lv' := [(3, .int 11), (1, .long (-9177673587983843282)), (0, .ref o0)]) hx hb dX12_digest_117 hl (k := 1) rfl (by decide +kernel) (by decide) rfl (fun ls hl => ?_)
  refine lv_goto (tgt := 84) hx hb dX12_digest_120 (by decide) ?_
  refine lv_iload_n hx hb dX12_digest_84 rfl (lv_at hl 0 rfl) ?_
  refine lv_bipush (v := 12) hx hb dX12_digest_85 (by decide) ?_
  refine lv_icmp_ge (tgt := 123) hx hb dX12_digest_87 (by decide) (fun h9 => absurd h9 (by decide +kernel)) (fun _ => ?_)
  refine lv_ldc2 (v := 31) hx hb hown (hts (.constantLong RX12 219 (31)) (by decide +kernel)) dX12_digest_90 ?_
  refine lv_lload_n hx hb dX12_digest_93 rfl (lv_at hl 1 rfl) ?_
  refine lv_lmul hx hb dX12_digest_94 (tk_l (v := (-7806720121855867502)) (by decide +kernel) ?_)
  refine lv_aload_n hx hb dX12_digest_95 rfl (lv_at hl 2 rfl) ?_
  refine va_get (D := (dC, dI)) (ci := 12) (v := .ref o1) (C := RX12) (T := TX12) (N := 29) hx hb hts iw_X12_digest_X12 hown hK hP 0 rfl rfl 5 (by decide) (hts (.fieldLink RX12 16 "HolelessHouseModel" "rows" "[I") (by decide +kernel)) (fun _ h9 => h9) rfl dX12_digest_96 ?_
  refine lv_iload_n hx hb dX12_digest_99 rfl (lv_at hl 0 rfl) ?_
  refine va_iald hx hb hK hP 1 0 rfl rfl (vin (by decide +kernel)) dX12_digest_100 (tk_i (v := (-9)) (by decide +kernel) ?_)
  refine lv_if_ge (tgt := 108) hx hb dX12_digest_101 (by decide) (fun h9 => absurd h9 (by decide +kernel)) (fun _ => ?_)
  refine lv_iconst (v := (-1)) hx hb dX12_digest_104 (by decide) ?_
  refine lv_goto (tgt := 114) hx hb dX12_digest_105 (by decide) ?_
  refine lv_i2l (v := (-1)) hx hb dX12_digest_114 (by decide +kernel) ?_
  refine lv_ladd hx hb dX12_digest_115 (tk_l (v := (-7806720121855867503)) (by decide +kernel) ?_)
  refine lv_lstore_n (lv' := [(1, .long (-7806720121855867503)), (3, .int 11), (0, .ref o0)]) hx hb dX12_digest_116 rfl hl (by decide) rfl (fun ls hl => ?_)
  refine lv_iinc (v := 12) (lv' := [(3, .int 12), (1, .long (-7806720121855867503)), (0, .ref o0)]) hx hb dX12_digest_117 hl (k := 1) rfl (by decide +kernel) (by decide) rfl (fun ls hl => ?_)
  refine lv_goto (tgt := 84) hx hb dX12_digest_120 (by decide) ?_
  refine lv_iload_n hx hb dX12_digest_84 rfl (lv_at hl 0 rfl) ?_
  refine lv_bipush (v := 12) hx hb dX12_digest_85 (by decide) ?_
  refine lv_icmp_ge (tgt := 123) hx hb dX12_digest_87 (by decide) (fun _ => ?_) (fun h9 => absurd (by decide +kernel) h9)
  refine lv_iconst (v := 0) hx hb dX12_digest_123 (by decide) ?_
  refine lv_istore_n (lv' := [(3, .int 0), (1, .long (-7806720121855867503)), (0, .ref o0)]) hx hb dX12_digest_124 rfl hl (by decide) rfl (fun ls hl => ?_)
  refine lv_iload_n hx hb dX12_digest_125 rfl (lv_at hl 0 rfl) ?_
  refine lv_aload_n hx hb dX12_digest_126 rfl (lv_at hl 2 rfl) ?_
  refine va_get (D := (dC, dI)) (ci := 12) (v := .int 0) (C := RX12) (T := TX12) (N := 29) hx hb hts iw_X12_digest_X12 hown hK hP 0 rfl rfl 9 (by decide) (hts (.fieldLink RX12 80 "HolelessHouseModel" "drafted" "I") (by decide +kernel)) (fun _ h9 => h9) rfl dX12_digest_127 ?_
  refine lv_icmp_ge (tgt := 153) hx hb dX12_digest_130 (by decide) (fun _ => ?_) (fun h9 => absurd (by decide +kernel) h9)
  refine lv_lload_n hx hb dX12_digest_153 rfl (lv_at hl 1 rfl) ?_
  have hP9 := hP.sub (ws' := []) [] rfl
  have hD9 := hD.sub (ws' := []) [] (by decide) rfl
  exact W.lret (v := (-7806720121855867503)) hx hb hr (fun t ht hW => ⟨⟨(-7806720121855867503), (), rfl, rfl, by rw [ht]; exact hP9, va_K.moved hW.alike hK, hD9⟩, hS.F ht⟩) hS.2.2 dX12_digest_154
