theorem iw_X0_countWays_X0 : ∀ w ∈ wsX00, w ∈ wsX0_countWays := by decide +kernel
set_option maxHeartbeats 1000000 in
set_option maxRecDepth 100000 in
theorem kX0_countWays_1 (l : Launch) (dC : Nat → ClassId) (dI : Nat → Nat → Nat) (cI c2 : ClassId) (o0 : Nat) (o1 : Nat) (o2 : Nat) (o3 : Nat) (sz : Nat) : Met l yX0_countWays wsX0_countWays ({ frames := 2, cells := 0, slots := 0, locals := 46 }) (va_Pc [.ref o0] (wPre (dC, dI) [(cI, .int), (c2, .array .int)] [(o0, .inr (0, [.ref o1, .ref o2, .ref o3, .int 0, .int 0, .int 0, .int 1, .int 0])), (o1, .inl (cI, 256, .inl (upd (fun _ => 0) (Int32.toNatClampNeg 0) 0)))] sz)) (va_Qv (fun (_ : Unit) => True) (fun _ t => wPost (dC, dI) [(cI, .int), (c2, .array .int)] (va_A [(o0, .inr (0, [.ref o1, .ref o2, .ref o3, .int 0, .int 0, .int 0, .int 1, .int 0])), (o1, .inl (cI, 256, .inl (upd (fun _ => 0) (Int32.toNatClampNeg 0) 0)))] sz) [(o0, .inr (0, [.ref o1, .ref o2, .ref o3, .int 0, .int 0, .int 1, .int 1, .int 0])), (o1, .inl (cI, 256, .inl (upd (upd (upd (fun _ => 0) (Int32.toNatClampNeg 0) 0) (Int32.toNatClampNeg 0) 0) (Int32.toNatClampNeg 0) 1)))] t) (va_A [(o0, .inr (0, [.ref o1, .ref o2, .ref o3, .int 0, .int 0, .int 0, .int 1, .int 0])), (o1, .inl (cI, 256, .inl (upd (fun _ => 0) (Int32.toNatClampNeg 0) 0)))] sz)) 0 0 (va_A [(o0, .inr (0, [.ref o1, .ref o2, .ref o3, .int 0, .int 0, .int 0, .int 1, .int 0])), (o1, .inl (cI, 256, .inl (upd (fun _ => 0) (Int32.toNatClampNeg 0) 0)))] sz) := by
  refine Met.ofW (cc := cX0_countWays) (maxL := 5) (ret := none) (by decide) rfl ?_
  intro p e s m args below meth c s₁ B hml hv
  obtain ⟨rfl, hsz, hP, hK, hD0, hN⟩ := hv
  have hx := B.exec
  have hb := B.bytes
  have hr := B.returns
  have hts := atoms_spec (ws := wsX0_countWays) B.pre
  have hown : s.vm.findClass RX0 = some m.cls := findClass_of_methodNamed B.named
  have hlocks := B.notSynchronized
  subst hsz
  have hD := hD0.self (sz := s.heap.size)
  generalize hAe : va_A [(o0, .inr (0, [.ref o1, .ref o2, .ref o3, .int 0, .int 0, .int 0, .int 1, .int 0])), (o1, .inl (cI, 256, .inl (upd (fun _ => 0) (Int32.toNatClampNeg 0) 0)))] s.heap.size = A at hD ⊢
  have hA : ∀ q : Nat, s.heap.size ≤ q → A q := fun q h => by rw [← hAe]; exact Or.inr h
  have hS : va_S A s.heap s.heap [] := va_S.rf
  have hP : va_P (dC, dI) vwCl [(o0, .inr (0, [.ref o1, .ref o2, .ref o3, .int 0, .int 0, .int 0, .int 1, .int 0])), (o1, .inl (cI, 256, .inl (upd (fun _ => 0) (Int32.toNatClampNeg 0) 0)))] s.heap := hP
  have hl := lv_entry ([.ref o0]) (n := 5) (Nat.le_of_ble_eq_true rfl)
  rw [lg_entry_eq]
  generalize (lg_sl ([.ref o0]) ++ List.replicate (5 - (lg_sl ([.ref o0])).length) Slot.unset).toArray = ls at hl ⊢
  have hl : lv_has ls 5 [(0, .ref o0)] := hl
  refine lv_iconst (v := 1) hx hb dX0_countWays_0 (by decide) ?_
  refine lv_aload_n hx hb dX0_countWays_1 rfl (lv_at hl 0 rfl) ?_
  refine va_get (D := (dC, dI)) (ci := 0) (v := .int 0) (C := RX0) (T := TX0) (N := 8) hx hb hts iw_X0_countWays_X0 hown hK hP 0 rfl rfl 4 (by decide) (hts (.fieldLink RX0 25 "HolelessHouse$Benches" "width" "I") (by decide +kernel)) (fun _ h9 => h9) rfl dX0_countWays_2 ?_
  refine lv_ishl hx hb dX0_countWays_5 (tk_i (v := 1) (by decide +kernel) ?_)
  refine lv_iconst (v := 1) hx hb dX0_countWays_6 (by decide) ?_
  refine lv_isub hx hb dX0_countWays_7 (tk_i (v := 0) (by decide +kernel) ?_)
  refine lv_istore_n (lv' := [(1, .int 0), (0, .ref o0)]) hx hb dX0_countWays_8 rfl hl (by decide) rfl (fun ls hl => ?_)
  refine lv_aload_n hx hb dX0_countWays_9 rfl (lv_at hl 1 rfl) ?_
  refine va_get (D := (dC, dI)) (ci := 0) (v := .ref o1) (C := RX0) (T := TX0) (N := 8) hx hb hts iw_X0_countWays_X0 hown hK hP 0 rfl rfl 0 (by decide) (hts (.fieldLink RX0 38 "HolelessHouse$Benches" "notes" "[I") (by decide +kernel)) (fun _ h9 => h9) rfl dX0_countWays_10 ?_
  refine lv_iconst (v := 0) hx hb dX0_countWays_13 (by decide) ?_
  refine lv_iload_n hx hb dX0_countWays_14 rfl (lv_at hl 0 rfl) ?_
  refine lv_iconst (v := 1) hx hb dX0_countWays_15 (by decide) ?_
  refine lv_iadd hx hb dX0_countWays_16 (tk_i (v := 1) (by decide +kernel) ?_)
  refine lv_iconst (v := 0) hx hb dX0_countWays_17 (by decide) ?_
  refine kcall_v (D := (dC, dI)) (S := Unit) (wc := [(o1, .inl (cI, 256, .inl (upd (fun _ => 0) (Int32.toNatClampNeg 0) 0)))]) (wr := [(o0, .inr (0, [.ref o1, .ref o2, .ref o3, .int 0, .int 0, .int 0, .int 1, .int 0]))]) (w1 := fun _ => [(o1, .inl (cI, 256, .inl (upd (upd (fun _ => 0) (Int32.toNatClampNeg 0) 0) (Int32.toNatClampNeg 0) 0)))]) (fun hPc hDc => va_runS (As := [.ref o1, .int 0, .int 1, .int 0]) (rest := []) ⟨hx, hb, hml, hown, hts⟩ (kJ7_fill_fda19_4 l dC dI cI c2 o1 s.heap.size) (va_cwS 4 hts gX0_countWays_J7_fill_fda19 rfl rfl rfl (by decide +kernel) ⟨Nat.le_of_ble_eq_true rfl, Nat.le_of_ble_eq_true rfl⟩) (pre_S hPc hK hDc hN) rfl rfl hl.1 rfl (lv_room (Nat.le_of_ble_eq_true rfl)) dX0_countWays_18 ⟨Nat.le_of_ble_eq_true rfl, Nat.le_of_ble_eq_true rfl⟩) hP hD hS hA [1] [0] rfl rfl (by decide) (by decide) (by decide) (fun u H locs hP hD hS => ?_)
  have hP : va_P (dC, dI) vwCl [(o0, .inr (0, [.ref o1, .ref o2, .ref o3, .int 0, .int 0, .int 0, .int 1, .int 0])), (o1, .inl (cI, 256, .inl (upd (upd (fun _ => 0) (Int32.toNatClampNeg 0) 0) (Int32.toNatClampNeg 0) 0)))] H := hP
  have hD : va_D A [(o0, .inr (0, [.ref o1, .ref o2, .ref o3, .int 0, .int 0, .int 0, .int 1, .int 0])), (o1, .inl (cI, 256, .inl (upd (upd (fun _ => 0) (Int32.toNatClampNeg 0) 0) (Int32.toNatClampNeg 0) 0)))] := hD
  refine lv_aload_n hx hb dX0_countWays_21 rfl (lv_at hl 1 rfl) ?_
  refine va_get (D := (dC, dI)) (ci := 0) (v := .ref o1) (C := RX0) (T := TX0) (N := 8) hx hb hts iw_X0_countWays_X0 hown hK hP 0 rfl rfl 0 (by decide) (hts (.fieldLink RX0 38 "HolelessHouse$Benches" "notes" "[I") (by decide +kernel)) (fun _ h9 => h9) rfl dX0_countWays_22 ?_
  refine lv_iconst (v := 0) hx hb dX0_countWays_25 (by decide) ?_
  refine lv_iconst (v := 1) hx hb dX0_countWays_26 (by decide) ?_
  refine va_iast hx hb hK hP hD hS 1 0 rfl rfl (vin (by decide +kernel)) dX0_countWays_27 (fun H locs hP hD hS => ?_)
  have hP : va_P (dC, dI) vwCl [(o0, .inr (0, [.ref o1, .ref o2, .ref o3, .int 0, .int 0, .int 0, .int 1, .int 0])), (o1, .inl (cI, 256, .inl (upd (upd (upd (fun _ => 0) (Int32.toNatClampNeg 0) 0) (Int32.toNatClampNeg 0) 0) (Int32.toNatClampNeg 0) 1)))] H := hP
  have hD : va_D A [(o0, .inr (0, [.ref o1, .ref o2, .ref o3, .int 0, .int 0, .int 0, .int 1, .int 0])), (o1, .inl (cI, 256, .inl (upd (upd (upd (fun _ => 0) (Int32.toNatClampNeg 0) 0) (Int32.toNatClampNeg 0) 0) (Int32.toNatClampNeg 0) 1)))] := hD
  refine lv_iconst (v := 0) hx hb dX0_countWays_28 (by decide) ?_
  refine lv_istore_n (lv' := [(2, .int 0), (1, .int 0), (0, .ref o0)]) hx hb dX0_countWays_29 rfl hl (by decide) rfl (fun ls hl => ?_)
  refine lv_iload_n hx hb dX0_countWays_30 rfl (lv_at hl 0 rfl) ?_
  refine lv_iload_n hx hb dX0_countWays_31 rfl (lv_at hl 1 rfl) ?_
  refine lv_icmp_ge (tgt := 107) hx hb dX0_countWays_32 (by decide) (fun _ => ?_) (fun h9 => absurd (by decide +kernel) h9)
  refine lv_aload_n hx hb dX0_countWays_107 rfl (lv_at hl 2 rfl) ?_
  refine lv_aload_n hx hb dX0_countWays_108 rfl (lv_at hl 2 rfl) ?_
  refine va_get (D := (dC, dI)) (ci := 0) (v := .ref o1) (C := RX0) (T := TX0) (N := 8) hx hb hts iw_X0_countWays_X0 hown hK hP 0 rfl rfl 0 (by decide) (hts (.fieldLink RX0 38 "HolelessHouse$Benches" "notes" "[I") (by decide +kernel)) (fun _ h9 => h9) rfl dX0_countWays_109 ?_
  refine lv_iload_n hx hb dX0_countWays_112 rfl (lv_at hl 1 rfl) ?_
  refine va_iald hx hb hK hP 1 0 rfl rfl (vin (by decide +kernel)) dX0_countWays_113 (tk_i (v := 1) (by decide +kernel) ?_)
  refine va_put (D := (dC, dI)) (ci := 0) (v := .int 1) (ty := .int) (C := RX0) (T := TX0) (N := 8) hx hb hts iw_X0_countWays_X0 tyX0 tyX0_ok nmX0 hown hK hP hD hS 0 rfl rfl 5 (by decide) (hts (.fieldLink RX0 28 "HolelessHouse$Benches" "ways" "I") (by decide +kernel)) (fun _ h9 => h9) rfl (by decide +kernel) rfl rfl (Nat.le_of_ble_eq_true rfl) dX0_countWays_114 (fun H locs hP hD hS => ?_)
  have hP : va_P (dC, dI) vwCl [(o0, .inr (0, [.ref o1, .ref o2, .ref o3, .int 0, .int 0, .int 1, .int 1, .int 0])), (o1, .inl (cI, 256, .inl (upd (upd (upd (fun _ => 0) (Int32.toNatClampNeg 0) 0) (Int32.toNatClampNeg 0) 0) (Int32.toNatClampNeg 0) 1)))] H := hP
  have hD : va_D A [(o0, .inr (0, [.ref o1, .ref o2, .ref o3, .int 0, .int 0, .int 1, .int 1, .int 0])), (o1, .inl (cI, 256, .inl (upd (upd (upd (fun _ => 0) (Int32.toNatClampNeg 0) 0) (Int32.toNatClampNeg 0) 0) (Int32.toNatClampNeg 0) 1)))] := hD
  have hP9 := hP.sub (ws' := [(o0, .inr (0, [.ref o1, .ref o2, .ref o3, .int 0, .int 0, .int 1, .int 1, .int 0])), (o1, .inl (cI, 256, .inl (upd (upd (upd (fun _ => 0) (Int32.toNatClampNeg 0) 0) (Int32.toNatClampNeg 0) 0) (Int32.toNatClampNeg 0) 1)))]) [0, 1] rfl
  have hD9 := hD.sub (ws' := [(o0, .inr (0, [.ref o1, .ref o2, .ref o3, .int 0, .int 0, .int 1, .int 1, .int 0])), (o1, .inl (cI, 256, .inl (upd (upd (upd (fun _ => 0) (Int32.toNatClampNeg 0) 0) (Int32.toNatClampNeg 0) 0) (Int32.toNatClampNeg 0) 1)))]) [0, 1] (by decide) rfl
  exact W.vret hx hb hr (fun t ht hW => ⟨⟨(), rfl, trivial, by rw [ht]; exact hP9, va_K.moved hW.alike hK, hD9⟩, hS.F ht⟩) hS.2.2 dX0_countWays_117
theorem iw_X11_bringSeats_X0 : ∀ w ∈ wsX00, w ∈ wsX11_bringSeats := by decide +kernel
theorem iw_X11_bringSeats_X10 : ∀ w ∈ wsX100, w ∈ wsX11_bringSeats := by decide +kernel
theorem iw_X11_bringSeats_X11 : ∀ w ∈ wsX110, w ∈ wsX11_bringSeats := by decide +kernel
set_option maxHeartbeats 1000000 in
set_option maxRecDepth 100000 in
theorem kX11_bringSeats_1 (l : Launch) (dC : Nat → ClassId) (dI : Nat → Nat → Nat) (cI c2 : ClassId) (o0 : Nat) (o1 : Nat) (o2 : Nat) (o3 : Nat) (o4 : Nat) (o5 : Nat) (o6 : Nat) (o7 : Nat) (o8 : Nat) (o9 : Nat) (o10 : Nat) (o11 : Nat) (o12 : Nat) (o13 : Nat) (o14 : Nat) (o15 : Nat) (o16 : Nat) (sz : Nat) : Met l yX11_bringSeats wsX11_bringSeats ({ frames := 3, cells := 0, slots := 0, locals := 70 }) (va_Pc [.ref o0] (wPre (dC, dI) [(cI, .int), (c2, .array .int)] [(o0, .inr (11, [.ref o5, .ref o2, .ref o6, .ref o7, .ref o8, .ref o9, .ref o10, .ref o11, .ref o12, .ref o13, .ref o1, .ref o14, .int 0])), (o1, .inr (0, [.ref o4, .ref o15, .ref o16, .int 0, .int 0, .int 0, .int 0, .int (-1)])), (o2, .inr (10, [.ref o3, .int 0, .int 0])), (o3, .inl (cI, 12, .inl (fun _ => (-1)))), (o4, .inl (cI, 256, .inl (fun _ => 0)))] sz)) (va_Qv (fun (_ : Unit) => True) (fun _ t => wPost (dC, dI) [(cI, .int), (c2, .array .int)] (va_A [(o0, .inr (11, [.ref o5, .ref o2, .ref o6, .ref o7, .ref o8, .ref o9, .ref o10, .ref o11, .ref o12, .ref o13, .ref o1, .ref o14, .int 0])), (o1, .inr (0, [.ref o4, .ref o15, .ref o16, .int 0, .int 0, .int 0, .int 0, .int (-1)])), (o2, .inr (10, [.ref o3, .int 0, .int 0])), (o3, .inl (cI, 12, .inl (fun _ => (-1)))), (o4, .inl (cI, 256, .inl (fun _ => 0)))] sz) [(o0, .inr (11, [.ref o5, .ref o2, .ref o6, .ref o7, .ref o8, .ref o9, .ref o10, .ref o11, .ref o12, .ref o13, .ref o1, .ref o14, .int 0])), (o2, .inr (10, [.ref o3, .int 0, .int 0])), (o3, .inl (cI, 12, .inl (fun _ => (-1)))), (o1, .inr (0, [.ref o4, .ref o15, .ref o16, .int 0, .int 0, .int 1, .int 1, .int 0])), (o4, .inl (cI, 256, .inl (upd (upd (upd (fun _ => 0) (Int32.toNatClampNeg 0) 0) (Int32.toNatClampNeg 0) 0) (Int32.toNatClampNeg 0) 1)))] t) (va_A [(o0, .inr (11, [.ref o5, .ref o2, .ref o6, .ref o7, .ref o8, .ref o9, .ref o10, .ref o11, .ref o12, .ref o13, .ref o1, .ref o14, .int 0])), (o1, .inr (0, [.ref o4, .ref o15, .ref o16, .int 0, .int 0, .int 0, .int 0, .int (-1)])), (o2, .inr (10, [.ref o3, .int 0, .int 0])), (o3, .inl (cI, 12, .inl (fun _ => (-1)))), (o4, .inl (cI, 256, .inl (fun _ => 0)))] sz)) 0 0 (va_A [(o0, .inr (11, [.ref o5, .ref o2, .ref o6, .ref o7, .ref o8, .ref o9, .ref o10, .ref o11, .ref o12, .ref o13, .ref o1, .ref o14, .int 0])), (o1, .inr (0, [.ref o4, .ref o15, .ref o16, .int 0, .int 0, .int 0, .int 0, .int (-1)])), (o2, .inr (10, [.ref o3, .int 0, .int 0])), (o3, .inl (cI, 12, .inl (fun _ => (-1)))), (o4, .inl (cI, 256, .inl (fun _ => 0)))] sz) := by
  refine Met.ofW (cc := cX11_bringSeats) (maxL := 2) (ret := none) (by decide) rfl ?_
  intro p e s m args below meth c s₁ B hml hv
  obtain ⟨rfl, hsz, hP, hK, hD0, hN⟩ := hv
  have hx := B.exec
  have hb := B.bytes
  have hr := B.returns
  have hts := atoms_spec (ws := wsX11_bringSeats) B.pre
  have hown : s.vm.findClass RX11 = some m.cls := findClass_of_methodNamed B.named
  have hlocks := B.notSynchronized
  subst hsz
  have hD := hD0.self (sz := s.heap.size)
  generalize hAe : va_A [(o0, .inr (11, [.ref o5, .ref o2, .ref o6, .ref o7, .ref o8, .ref o9, .ref o10, .ref o11, .ref o12, .ref o13, .ref o1, .ref o14, .int 0])), (o1, .inr (0, [.ref o4, .ref o15, .ref o16, .int 0, .int 0, .int 0, .int 0, .int (-1)])), (o2, .inr (10, [.ref o3, .int 0, .int 0])), (o3, .inl (cI, 12, .inl (fun _ => (-1)))), (o4, .inl (cI, 256, .inl (fun _ => 0)))] s.heap.size = A at hD ⊢
  have hA : ∀ q : Nat, s.heap.size ≤ q → A q := fun q h => by rw [← hAe]; exact Or.inr h
  have hS : va_S A s.heap s.heap [] := va_S.rf
  have hP : va_P (dC, dI) vwCl [(o0, .inr (11, [.ref o5, .ref o2, .ref o6, .ref o7, .ref o8, .ref o9, .ref o10, .ref o11, .ref o12, .ref o13, .ref o1, .ref o14, .int 0])), (o1, .inr (0, [.ref o4, .ref o15, .ref o16, .int 0, .int 0, .int 0, .int 0, .int (-1)])), (o2, .inr (10, [.ref o3, .int 0, .int 0])), (o3, .inl (cI, 12, .inl (fun _ => (-1)))), (o4, .inl (cI, 256, .inl (fun _ => 0)))] s.heap := hP
  have hl := lv_entry ([.ref o0]) (n := 2) (Nat.le_of_ble_eq_true rfl)
  rw [lg_entry_eq]
  generalize (lg_sl ([.ref o0]) ++ List.replicate (2 - (lg_sl ([.ref o0])).length) Slot.unset).toArray = ls at hl ⊢
  have hl : lv_has ls 2 [(0, .ref o0)] := hl
  refine lv_aload_n hx hb dX11_bringSeats_0 rfl (lv_at hl 0 rfl) ?_
  refine va_get (D := (dC, dI)) (ci := 11) (v := .ref o1) (C := RX11) (T := TX11) (N := 13) hx hb hts iw_X11_bringSeats_X11 hown hK hP 0 rfl rfl 10 (by decide) (hts (.fieldLink RX11 79 "HolelessHouse" "seats" "LHolelessHouse$Benches;") (by decide +kernel)) (fun _ h9 => h9) rfl dX11_bringSeats_1 ?_
  refine va_getN (D := (dC, dI)) (ci := 0) (v := .int (-1)) (C := RX0) (T := TX0) (N := 8) hx hb hts iw_X11_bringSeats_X0 hown hK hP 1 rfl rfl 7 (by decide) (hN.use ns_47) (fun _ h9 => h9) rfl dX11_bringSeats_4 ?_
  refine lv_aload_n hx hb dX11_bringSeats_7 rfl (lv_at hl 0 rfl) ?_
  refine va_get (D := (dC, dI)) (ci := 11) (v := .ref o2) (C := RX11) (T := TX11) (N := 13) hx hb hts iw_X11_bringSeats_X11 hown hK hP 0 rfl rfl 1 (by decide) (hts (.fieldLink RX11 19 "HolelessHouse" "table" "LHolelessHouse$Table;") (by decide +kernel)) (fun _ h9 => h9) rfl dX11_bringSeats_8 ?_
  refine va_getN (D := (dC, dI)) (ci := 10) (v := .int 0) (C := RX10) (T := TX10) (N := 3) hx hb hts iw_X11_bringSeats_X10 hown hK hP 2 rfl rfl 2 (by decide) (hN.use ns_23) (fun _ h9 => h9) rfl dX11_bringSeats_11 ?_
  refine lv_icmp_ne (tgt := 18) hx hb dX11_bringSeats_14 (by decide) (fun _ => ?_) (fun h9 => absurd h9 (by decide +kernel))
  refine lv_aload_n hx hb dX11_bringSeats_18 rfl (lv_at hl 0 rfl) ?_
  refine va_get (D := (dC, dI)) (ci := 11) (v := .ref o1) (C := RX11) (T := TX11) (N := 13) hx hb hts iw_X11_bringSeats_X11 hown hK hP 0 rfl rfl 10 (by decide) (hts (.fieldLink RX11 79 "HolelessHouse" "seats" "LHolelessHouse$Benches;") (by decide +kernel)) (fun _ h9 => h9) rfl dX11_bringSeats_19 ?_
  refine lv_aload_n hx hb dX11_bringSeats_22 rfl (lv_at hl 0 rfl) ?_
  refine va_get (D := (dC, dI)) (ci := 11) (v := .ref o2) (C := RX11) (T := TX11) (N := 13) hx hb hts iw_X11_bringSeats_X11 hown hK hP 0 rfl rfl 1 (by decide) (hts (.fieldLink RX11 19 "HolelessHouse" "table" "LHolelessHouse$Table;") (by decide +kernel)) (fun _ h9 => h9) rfl dX11_bringSeats_23 ?_
  refine va_getN (D := (dC, dI)) (ci := 10) (v := .int 0) (C := RX10) (T := TX10) (N := 3) hx hb hts iw_X11_bringSeats_X10 hown hK hP 2 rfl rfl 2 (by decide) (hN.use ns_23) (fun _ h9 => h9) rfl dX11_bringSeats_26 ?_
  refine va_putN (D := (dC, dI)) (ci := 0) (v := .int 0) (ty := .int) (C := RX0) (T := TX0) (N := 8) hx hb hts iw_X11_bringSeats_X0 tyX0 tyX0_ok nmX0 hown hK hP hD hS 1 rfl rfl 7 (by decide) (hN.use ns_47) (fun _ h9 => h9) rfl (by decide +kernel) rfl rfl (Nat.le_of_ble_eq_true rfl) dX11_bringSeats_29 (fun H locs hP hD hS => ?_)
  have hP : va_P (dC, dI) vwCl [(o0, .inr (11, [.ref o5, .ref o2, .ref o6, .ref o7, .ref o8, .ref o9, .ref o10, .ref o11, .ref o12, .ref o13, .ref o1, .ref o14, .int 0])), (o1, .inr (0, [.ref o4, .ref o15, .ref o16, .int 0, .int 0, .int 0, .int 0, .int 0])), (o2, .inr (10, [.ref o3, .int 0, .int 0])), (o3, .inl (cI, 12, .inl (fun _ => (-1)))), (o4, .inl (cI, 256, .inl (fun _ => 0)))] H := hP
  have hD : va_D A [(o0, .inr (11, [.ref o5, .ref o2, .ref o6, .ref o7, .ref o8, .ref o9, .ref o10, .ref o11, .ref o12, .ref o13, .ref o1, .ref o14, .int 0])), (o1, .inr (0, [.ref o4, .ref o15, .ref o16, .int 0, .int 0, .int 0, .int 0, .int 0])), (o2, .inr (10, [.ref o3, .int 0, .int 0])), (o3, .inl (cI, 12, .inl (fun _ => (-1)))), (o4, .inl (cI, 256, .inl (fun _ => 0)))] := hD
  refine lv_aload_n hx hb dX11_bringSeats_32 rfl (lv_at hl 0 rfl) ?_
  refine va_get (D := (dC, dI)) (ci := 11) (v := .ref o1) (C := RX11) (T := TX11) (N := 13) hx hb hts iw_X11_bringSeats_X11 hown hK hP 0 rfl rfl 10 (by decide) (hts (.fieldLink RX11 79 "HolelessHouse" "seats" "LHolelessHouse$Benches;") (by decide +kernel)) (fun _ h9 => h9) rfl dX11_bringSeats_33 ?_
  refine lv_aload_n hx hb dX11_bringSeats_36 rfl (lv_at hl 0 rfl) ?_
  refine va_get (D := (dC, dI)) (ci := 11) (v := .ref o2) (C := RX11) (T := TX11) (N := 13) hx hb hts iw_X11_bringSeats_X11 hown hK hP 0 rfl rfl 1 (by decide) (hts (.fieldLink RX11 19 "HolelessHouse" "table" "LHolelessHouse$Table;") (by decide +kernel)) (fun _ h9 => h9) rfl dX11_bringSeats_37 ?_
  refine va_getN (D := (dC, dI)) (ci := 10) (v := .int 0) (C := RX10) (T := TX10) (N := 3) hx hb hts iw_X11_bringSeats_X10 hown hK hP 2 rfl rfl 1 (by decide) (hN.use ns_22) (fun _ h9 => h9) rfl dX11_bringSeats_40 ?_
  refine kcall_v (D := (dC, dI)) (S := Unit) (wc := [(o1, .inr (0, [.ref o4, .ref o15, .ref o16, .int 0, .int 0, .int 0, .int 0, .int 0]))]) (wr := [(o0, .inr (11, [.ref o5, .ref o2, .ref o6, .ref o7, .ref o8, .ref o9, .ref o10, .ref o11, .ref o12, .ref o13, .ref o1, .ref o14, .int 0])), (o2, .inr (10, [.ref o3, .int 0, .int 0])), (o3, .inl (cI, 12, .inl (fun _ => (-1)))), (o4, .inl (cI, 256, .inl (fun _ => 0)))]) (w1 := fun _ => [(o1, .inr (0, [.ref o4, .ref o15, .ref o16, .int 0, .int 0, .int 0, .int 0, .int 0]))]) (fun hPc hDc => va_runVN (As := [.int 0]) (rest := []) ⟨hx, hb, hml, hown, hts⟩ (kX0_restart_1 l dC dI cI c2 o1 o4 o15 o16 H.size) ⟨va_cnB 1 hts gX11_bringSeats_X0_restart_n303 rfl rfl rfl (hN.1 _ ns_121) (hts (.initialized RX0) (by decide +kernel)) (by decide +kernel) ⟨Nat.le_of_ble_eq_true rfl, Nat.le_of_ble_eq_true rfl⟩, (hts (.instanceMethod yX0_restart) (by decide +kernel)), (hts (.selects RX0 yX0_restart yX0_restart) (by decide +kernel))⟩ (pre_V hPc hK hDc hN (ci := 0) (q0 := 0) rfl rfl) rfl rfl hl.1 rfl (lv_room (Nat.le_of_ble_eq_true rfl)) dX11_bringSeats_43 ⟨Nat.le_of_ble_eq_true rfl, Nat.le_of_ble_eq_true rfl⟩) hP hD hS hA [1] [0, 2, 3, 4] rfl rfl (by decide) (by decide) (by decide) (fun u H locs hP hD hS => ?_)
  have hP : va_P (dC, dI) vwCl [(o0, .inr (11, [.ref o5, .ref o2, .ref o6, .ref o7, .ref o8, .ref o9, .ref o10, .ref o11, .ref o12, .ref o13, .ref o1, .ref o14, .int 0])), (o2, .inr (10, [.ref o3, .int 0, .int 0])), (o3, .inl (cI, 12, .inl (fun _ => (-1)))), (o4, .inl (cI, 256, .inl (fun _ => 0))), (o1, .inr (0, [.ref o4, .ref o15, .ref o16, .int 0, .int 0, .int 0, .int 0, .int 0]))] H := hP
  have hD : va_D A [(o0, .inr (11, [.ref o5, .ref o2, .ref o6, .ref o7, .ref o8, .ref o9, .ref o10, .ref o11, .ref o12, .ref o13, .ref o1, .ref o14, .int 0])), (o2, .inr (10, [.ref o3, .int 0, .int 0])), (o3, .inl (cI, 12, .inl (fun _ => (-1)))), (o4, .inl (cI, 256, .inl (fun _ => 0))), (o1, .inr (0, [.ref o4, .ref o15, .ref o16, .int 0, .int 0, .int 0, .int 0, .int 0]))] := hD
  refine lv_iconst (v := 0) hx hb dX11_bringSeats_46 (by decide) ?_
  refine lv_istore_n (lv' := [(1, .int 0), (0, .ref o0)]) hx hb dX11_bringSeats_47 rfl hl (by decide) rfl (fun ls hl => ?_)
  refine lv_iload_n hx hb dX11_bringSeats_48 rfl (lv_at hl 0 rfl) ?_
  refine lv_bipush (v := 12) hx hb dX11_bringSeats_49 (by decide) ?_
  refine lv_icmp_ge (tgt := 89) hx hb dX11_bringSeats_51 (by decide) (fun h9 => absurd h9 (by decide +kernel)) (fun _ => ?_)
  refine lv_aload_n hx hb dX11_bringSeats_54 rfl (lv_at hl 1 rfl) ?_
  refine va_get (D := (dC, dI)) (ci := 11) (v := .ref o2) (C := RX11) (T := TX11) (N := 13) hx hb hts iw_X11_bringSeats_X11 hown hK hP 0 rfl rfl 1 (by decide) (hts (.fieldLink RX11 19 "HolelessHouse" "table" "LHolelessHouse$Table;") (by decide +kernel)) (fun _ h9 => h9) rfl dX11_bringSeats_55 ?_
  refine va_getN (D := (dC, dI)) (ci := 10) (v := .ref o3) (C := RX10) (T := TX10) (N := 3) hx hb hts iw_X11_bringSeats_X10 hown hK hP 1 rfl rfl 0 (by decide) (hN.use ns_21) (fun _ h9 => h9) rfl dX11_bringSeats_58 ?_
  refine lv_iload_n hx hb dX11_bringSeats_61 rfl (lv_at hl 0 rfl) ?_
  refine va_iald hx hb hK hP 2 0 rfl rfl (vin (by decide +kernel)) dX11_bringSeats_62 (tk_i (v := (-1)) (by decide +kernel) ?_)
  refine lv_iconst (v := (-1)) hx hb dX11_bringSeats_63 (by decide) ?_
  refine lv_icmp_eq (tgt := 83) hx hb dX11_bringSeats_64 (by decide) (fun _ => ?_) (fun h9 => absurd (by decide +kernel) h9)
  refine lv_iinc (v := 1) (lv' := [(1, .int 1), (0, .ref o0)]) hx hb dX11_bringSeats_83 hl (k := 0) rfl (by decide +kernel) (by decide) rfl (fun ls hl => ?_)
  refine lv_goto (tgt := 48) hx hb dX11_bringSeats_86 (by decide) ?_
  refine lv_iload_n hx hb dX11_bringSeats_48 rfl (lv_at hl 0 rfl) ?_
  refine lv_bipush (v := 12) hx hb dX11_bringSeats_49 (by decide) ?_
  refine lv_icmp_ge (tgt := 89) hx hb dX11_bringSeats_51 (by decide) (fun h9 => absurd h9 (by decide +kernel)) (fun _ => ?_)
  refine lv_aload_n hx hb dX11_bringSeats_54 rfl (lv_at hl 1 rfl) ?_
  refine va_get (D := (dC, dI)) (ci := 11) (v := .ref o2) (C := RX11) (T := TX11) (N := 13) hx hb hts iw_X11_bringSeats_X11 hown hK hP 0 rfl rfl 1 (by decide) (hts (.fieldLink RX11 19 "HolelessHouse" "table" "LHolelessHouse$Table;") (by decide +kernel)) (fun _ h9 => h9) rfl dX11_bringSeats_55 ?_
  refine va_getN (D := (dC, dI)) (ci := 10) (v := .ref o3) (C := RX10) (T := TX10) (N := 3) hx hb hts iw_X11_bringSeats_X10 hown hK hP 1 rfl rfl 0 (by decide) (hN.use ns_21) (fun _ h9 => h9) rfl dX11_bringSeats_58 ?_
  refine lv_iload_n hx hb dX11_bringSeats_61 rfl (lv_at hl 0 rfl) ?_
  refine va_iald hx hb hK hP 2 0 rfl rfl (vin (by decide +kernel)) dX11_bringSeats_62 (tk_i (v := (-1)) (by decide +kernel) ?_)
  refine lv_iconst (v := (-1)) hx hb dX11_bringSeats_63 (by decide) ?_
  refine lv_icmp_eq (tgt := 83) hx hb dX11_bringSeats_64 (by decide) (fun _ => ?_) (fun h9 => absurd (by decide +kernel) h9)
  refine lv_iinc (v := 2) (lv' := [(1, .int 2), (0, .ref o0)]) hx hb dX11_bringSeats_83 hl (k := 0) rfl (by decide +kernel) (by decide) rfl (fun ls hl => ?_)
  refine lv_goto (tgt := 48) hx hb dX11_bringSeats_86 (by decide) ?_
  refine lv_iload_n hx hb dX11_bringSeats_48 rfl (lv_at hl 0 rfl) ?_
  refine lv_bipush (v := 12) hx hb dX11_bringSeats_49 (by decide) ?_
  refine lv_icmp_ge (tgt := 89) hx hb dX11_bringSeats_51 (by decide) (fun h9 => absurd h9 (by decide +kernel)) (fun _ => ?_)
  refine lv_aload_n hx hb dX11_bringSeats_54 rfl (lv_at hl 1 rfl) ?_
  refine va_get (D := (dC, dI)) (ci := 11) (v := .ref o2) (C := RX11) (T := TX11) (N := 13) hx hb hts iw_X11_bringSeats_X11 hown hK hP 0 rfl rfl 1 (by decide) (hts (.fieldLink RX11 19 "HolelessHouse" "table" "LHolelessHouse$Table;") (by decide +kernel)) (fun _ h9 => h9) rfl dX11_bringSeats_55 ?_
  refine va_getN (D := (dC, dI)) (ci := 10) (v := .ref o3) (C := RX10) (T := TX10) (N := 3) hx hb hts iw_X11_bringSeats_X10 hown hK hP 1 rfl rfl 0 (by decide) (hN.use ns_21) (fun _ h9 => h9) rfl dX11_bringSeats_58 ?_
  refine lv_iload_n hx hb dX11_bringSeats_61 rfl (lv_at hl 0 rfl) ?_
  refine va_iald hx hb hK hP 2 0 rfl rfl (vin (by decide +kernel)) dX11_bringSeats_62 (tk_i (v := (-1)) (by decide +kernel) ?_)
  refine lv_iconst (v := (-1)) hx hb dX11_bringSeats_63 (by decide) ?_
  refine lv_icmp_eq (tgt := 83) hx hb dX11_bringSeats_64 (by decide) (fun _ => ?_) (fun h9 => absurd (by decide +kernel) h9)
  refine lv_iinc (v := 3) (lv' := [(1, .int 3), (0, .ref o0)]) hx hb dX11_bringSeats_83 hl (k := 0) rfl (by decide +kernel) (by decide) rfl (fun ls hl => ?_)
  refine lv_goto (tgt := 48) hx hb dX11_bringSeats_86 (by decide) ?_
  refine lv_iload_n hx hb dX11_bringSeats_48 rfl (lv_at hl 0 rfl) ?_
  refine lv_bipush (v := 12) hx hb dX11_bringSeats_49 (by decide) ?_
  refine lv_icmp_ge (tgt := 89) hx hb dX11_bringSeats_51 (by decide) (fun h9 => absurd h9 (by decide +kernel)) (fun _ => ?_)
  refine lv_aload_n hx hb dX11_bringSeats_54 rfl (lv_at hl 1 rfl) ?_
  refine va_get (D := (dC, dI)) (ci := 11) (v := .ref o2) (C := RX11) (T := TX11) (N := 13) hx hb hts iw_X11_bringSeats_X11 hown hK hP 0 rfl rfl 1 (by decide) (hts (.fieldLink RX11 19 "HolelessHouse" "table" "LHolelessHouse$Table;") (by decide +kernel)) (fun _ h9 => h9) rfl dX11_bringSeats_55 ?_
  refine va_getN (D := (dC, dI)) (ci := 10) (v := .ref o3) (C := RX10) (T := TX10) (N := 3) hx hb hts iw_X11_bringSeats_X10 hown hK hP 1 rfl rfl 0 (by decide) (hN.use ns_21) (fun _ h9 => h9) rfl dX11_bringSeats_58 ?_
  refine lv_iload_n hx hb dX11_bringSeats_61 rfl (lv_at hl 0 rfl) ?_
  refine va_iald hx hb hK hP 2 0 rfl rfl (vin (by decide +kernel)) dX11_bringSeats_62 (tk_i (v := (-1)) (by decide +kernel) ?_)
  refine lv_iconst (v := (-1)) hx hb dX11_bringSeats_63 (by decide) ?_
  refine lv_icmp_eq (tgt := 83) hx hb dX11_bringSeats_64 (by decide) (fun _ => ?_) (fun h9 => absurd (by decide +kernel) h9)
  refine lv_iinc (v := 4) (lv' := [(1, .int 4), (0, .ref o0)]) hx hb dX11_bringSeats_83 hl (k := 0) rfl (by decide +kernel) (by decide) rfl (fun ls hl => ?_)
  refine lv_goto (tgt := 48) hx hb dX11_bringSeats_86 (by decide) ?_
  refine lv_iload_n hx hb dX11_bringSeats_48 rfl (lv_at hl 0 rfl) ?_
  refine lv_bipush (v := 12) hx hb dX11_bringSeats_49 (by decide) ?_
  refine lv_icmp_ge (tgt := 89) hx hb dX11_bringSeats_51 (by decide) (fun h9 => absurd h9 (by decide +kernel)) (fun _ => ?_)
  refine lv_aload_n hx hb dX11_bringSeats_54 rfl (lv_at hl 1 rfl) ?_
  refine va_get (D := (dC, dI)) (ci := 11) (v := .ref o2) (C := RX11) (T := TX11) (N := 13) hx hb hts iw_X11_bringSeats_X11 hown hK hP 0 rfl rfl 1 (by decide) (hts (.fieldLink RX11 19 "HolelessHouse" "table" "LHolelessHouse$Table;") (by decide +kernel)) (fun _ h9 => h9) rfl dX11_bringSeats_55 ?_
  refine va_getN (D := (dC, dI)) (ci := 10) (v := .ref o3) (C := RX10) (T := TX10) (N := 3) hx hb hts iw_X11_bringSeats_X10 hown hK hP 1 rfl rfl 0 (by decide) (hN.use ns_21) (fun _ h9 => h9) rfl dX11_bringSeats_58 ?_
  refine lv_iload_n hx hb dX11_bringSeats_61 rfl (lv_at hl 0 rfl) ?_
  refine va_iald hx hb hK hP 2 0 rfl rfl (vin (by decide +kernel)) dX11_bringSeats_62 (tk_i (v := (-1)) (by decide +kernel) ?_)
  refine lv_iconst (v := (-1)) hx hb dX11_bringSeats_63 (by decide) ?_
  refine lv_icmp_eq (tgt := 83) hx hb dX11_bringSeats_64 (by decide) (fun _ => ?_) (fun h9 => absurd (by decide +kernel) h9)
  refine lv_iinc (v := 5) (lv' := [(1, .int 5), (0, .ref o0)]) hx hb dX11_bringSeats_83 hl (k := 0) rfl (by decide +kernel) (by decide) rfl (fun ls hl => ?_)
  refine lv_goto (tgt := 48) hx hb dX11_bringSeats_86 (by decide) ?_
  refine lv_iload_n hx hb dX11_bringSeats_48 rfl (lv_at hl 0 rfl) ?_
  refine lv_bipush (v := 12) hx hb dX11_bringSeats_49 (by decide) ?_
  refine lv_icmp_ge (tgt := 89) hx hb dX11_bringSeats_51 (by decide) (fun h9 => absurd h9 (by decide +kernel)) (fun _ => ?_)
  refine lv_aload_n hx hb dX11_bringSeats_54 rfl (lv_at hl 1 rfl) ?_
  refine va_get (D := (dC, dI)) (ci := 11) (v := .ref o2) (C := RX11) (T := TX11) (N := 13) hx hb hts iw_X11_bringSeats_X11 hown hK hP 0 rfl rfl 1 (by decide) (hts (.fieldLink RX11 19 "HolelessHouse" "table" "LHolelessHouse$Table;") (by decide +kernel)) (fun _ h9 => h9) rfl dX11_bringSeats_55 ?_
  refine va_getN (D := (dC, dI)) (ci := 10) (v := .ref o3) (C := RX10) (T := TX10) (N := 3) hx hb hts iw_X11_bringSeats_X10 hown hK hP 1 rfl rfl 0 (by decide) (hN.use ns_21) (fun _ h9 => h9) rfl dX11_bringSeats_58 ?_
  refine lv_iload_n hx hb dX11_bringSeats_61 rfl (lv_at hl 0 rfl) ?_
  refine va_iald hx hb hK hP 2 0 rfl rfl (vin (by decide +kernel)) dX11_bringSeats_62 (tk_i (v := (-1)) (by decide +kernel) ?_)
  refine lv_iconst (v := (-1)) hx hb dX11_bringSeats_63 (by decide) ?_
  refine lv_icmp_eq (tgt := 83) hx hb dX11_bringSeats_64 (by decide) (fun _ => ?_) (fun h9 => absurd (by decide +kernel) h9)
  refine lv_iinc (v := 6) (lv' := [(1, .int 6), (0, .ref o0)]) hx hb dX11_bringSeats_83 hl (k := 0) rfl (by decide +kernel) (by decide) rfl (fun ls hl => ?_)
  refine lv_goto (tgt := 48) hx hb dX11_bringSeats_86 (by decide) ?_
  refine lv_iload_n hx hb dX11_bringSeats_48 rfl (lv_at hl 0 rfl) ?_
  refine lv_bipush (v := 12) hx hb dX11_bringSeats_49 (by decide) ?_
  refine lv_icmp_ge (tgt := 89) hx hb dX11_bringSeats_51 (by decide) (fun h9 => absurd h9 (by decide +kernel)) (fun _ => ?_)
  refine lv_aload_n hx hb dX11_bringSeats_54 rfl (lv_at hl 1 rfl) ?_
  refine va_get (D := (dC, dI)) (ci := 11) (v := .ref o2) (C := RX11) (T := TX11) (N := 13) hx hb hts iw_X11_bringSeats_X11 hown hK hP 0 rfl rfl 1 (by decide) (hts (.fieldLink RX11 19 "HolelessHouse" "table" "LHolelessHouse$Table;") (by decide +kernel)) (fun _ h9 => h9) rfl dX11_bringSeats_55 ?_
  refine va_getN (D := (dC, dI)) (ci := 10) (v := .ref o3) (C := RX10) (T := TX10) (N := 3) hx hb hts iw_X11_bringSeats_X10 hown hK hP 1 rfl rfl 0 (by decide) (hN.use ns_21) (fun _ h9 => h9) rfl dX11_bringSeats_58 ?_
  refine lv_iload_n hx hb dX11_bringSeats_61 rfl (lv_at hl 0 rfl) ?_
  refine va_iald hx hb hK hP 2 0 rfl rfl (vin (by decide +kernel)) dX11_bringSeats_62 (tk_i (v := (-1)) (by decide +kernel) ?_)
  refine lv_iconst (v := (-1)) hx hb dX11_bringSeats_63 (by decide) ?_
  refine lv_icmp_eq (tgt := 83) hx hb dX11_bringSeats_64 (by decide) (fun _ => ?_) (fun h9 => absurd (by decide +kernel) h9)
  refine lv_iinc (v := 7) (lv' := [(1, .int 7), (0, .ref o0)]) hx hb dX11_bringSeats_83 hl (k := 0) rfl (by decide +kernel) (by decide) rfl (fun ls hl => ?_)
  refine lv_goto (tgt := 48) hx hb dX11_bringSeats_86 (by decide) ?_
  refine lv_iload_n hx hb dX11_bringSeats_48 rfl (lv_at hl 0 rfl) ?_
  refine lv_bipush (v := 12) hx hb dX11_bringSeats_49 (by decide) ?_
  refine lv_icmp_ge (tgt := 89) hx hb dX11_bringSeats_51 (by decide) (fun h9 => absurd h9 (by decide +kernel)) (fun _ => ?_)
  refine lv_aload_n hx hb dX11_bringSeats_54 rfl (lv_at hl 1 rfl) ?_
  refine va_get (D := (dC, dI)) (ci := 11) (v := .ref o2) (C := RX11) (T := TX11) (N := 13) hx hb hts iw_X11_bringSeats_X11 hown hK hP 0 rfl rfl 1 (by decide) (hts (.fieldLink RX11 19 "HolelessHouse" "table" "LHolelessHouse$Table;") (by decide +kernel)) (fun _ h9 => h9) rfl dX11_bringSeats_55 ?_
  refine va_getN (D := (dC, dI)) (ci := 10) (v := .ref o3) (C := RX10) (T := TX10) (N := 3) hx hb hts iw_X11_bringSeats_X10 hown hK hP 1 rfl rfl 0 (by decide) (hN.use ns_21) (fun _ h9 => h9) rfl dX11_bringSeats_58 ?_
  refine lv_iload_n hx hb dX11_bringSeats_61 rfl (lv_at hl 0 rfl) ?_
  refine va_iald hx hb hK hP 2 0 rfl rfl (vin (by decide +kernel)) dX11_bringSeats_62 (tk_i (v := (-1)) (by decide +kernel) ?_)
  refine lv_iconst (v := (-1)) hx hb dX11_bringSeats_63 (by decide) ?_
  refine lv_icmp_eq (tgt := 83) hx hb dX11_bringSeats_64 (by decide) (fun _ => ?_) (fun h9 => absurd (by decide +kernel) h9)
  refine lv_iinc (v := 8) (lv' := [(1, .int 8), (0, .ref o0)]) hx hb dX11_bringSeats_83 hl (k := 0) rfl (by decide +kernel) (by decide) rfl (fun ls hl => ?_)
  refine lv_goto (tgt := 48) hx hb dX11_bringSeats_86 (by decide) ?_
  refine lv_iload_n hx hb dX11_bringSeats_48 rfl (lv_at hl 0 rfl) ?_
  refine lv_bipush (v := 12) hx hb dX11_bringSeats_49 (by decide) ?_
  refine lv_icmp_ge (tgt := 89) hx hb dX11_bringSeats_51 (by decide) (fun h9 => absurd h9 (by decide +kernel)) (fun _ => ?_)
  refine lv_aload_n hx hb dX11_bringSeats_54 rfl (lv_at hl 1 rfl) ?_
  refine va_get (D := (dC, dI)) (ci := 11) (v := .ref o2) (C := RX11) (T := TX11) (N := 13) hx hb hts iw_X11_bringSeats_X11 hown hK hP 0 rfl rfl 1 (by decide) (hts (.fieldLink RX11 19 "HolelessHouse" "table" "LHolelessHouse$Table;") (by decide +kernel)) (fun _ h9 => h9) rfl dX11_bringSeats_55 ?_
  refine va_getN (D := (dC, dI)) (ci := 10) (v := .ref o3) (C := RX10) (T := TX10) (N := 3) hx hb hts iw_X11_bringSeats_X10 hown hK hP 1 rfl rfl 0 (by decide) (hN.use ns_21) (fun _ h9 => h9) rfl dX11_bringSeats_58 ?_
  refine lv_iload_n hx hb dX11_bringSeats_61 rfl (lv_at hl 0 rfl) ?_
  refine va_iald hx hb hK hP 2 0 rfl rfl (vin (by decide +kernel)) dX11_bringSeats_62 (tk_i (v := (-1)) (by decide +kernel) ?_)
  refine lv_iconst (v := (-1)) hx hb dX11_bringSeats_63 (by decide) ?_
  refine lv_icmp_eq (tgt := 83) hx hb dX11_bringSeats_64 (by decide) (fun _ => ?_) (fun h9 => absurd (by decide +kernel) h9)
  refine lv_iinc (v := 9) (lv' := [(1, .int 9), (0, .ref o0)]) hx hb dX11_bringSeats_83 hl (k := 0) rfl (by decide +kernel) (by decide) rfl (fun ls hl => ?_)
  refine lv_goto (tgt := 48) hx hb dX11_bringSeats_86 (by decide) ?_
  refine lv_iload_n hx hb dX11_bringSeats_48 rfl (lv_at hl 0 rfl) ?_
  refine lv_bipush (v := 12) hx hb dX11_bringSeats_49 (by decide) ?_
  refine lv_icmp_ge (tgt := 89) hx hb dX11_bringSeats_51 (by decide) (fun h9 => absurd h9 (by decide +kernel)) (fun _ => ?_)
  refine lv_aload_n hx hb dX11_bringSeats_54 rfl (lv_at hl 1 rfl) ?_
  refine va_get (D := (dC, dI)) (ci := 11) (v := .ref o2) (C := RX11) (T := TX11) (N := 13) hx hb hts iw_X11_bringSeats_X11 hown hK hP 0 rfl rfl 1 (by decide) (hts (.fieldLink RX11 19 "HolelessHouse" "table" "LHolelessHouse$Table;") (by decide +kernel)) (fun _ h9 => h9) rfl dX11_bringSeats_55 ?_
  refine va_getN (D := (dC, dI)) (ci := 10) (v := .ref o3) (C := RX10) (T := TX10) (N := 3) hx hb hts iw_X11_bringSeats_X10 hown hK hP 1 rfl rfl 0 (by decide) (hN.use ns_21) (fun _ h9 => h9) rfl dX11_bringSeats_58 ?_
  refine lv_iload_n hx hb dX11_bringSeats_61 rfl (lv_at hl 0 rfl) ?_
  refine va_iald hx hb hK hP 2 0 rfl rfl (vin (by decide +kernel)) dX11_bringSeats_62 (tk_i (v := (-1)) (by decide +kernel) ?_)
  refine lv_iconst (v := (-1)) hx hb dX11_bringSeats_63 (by decide) ?_
  refine lv_icmp_eq (tgt := 83) hx hb dX11_bringSeats_64 (by decide) (fun _ => ?_) (fun h9 => absurd (by decide +kernel) h9)
  refine lv_iinc (v := 10) (lv' := [(1, .int 10), (0, .ref o0)]) hx hb dX11_bringSeats_83 hl (k := 0) rfl (by decide +kernel) (by decide) rfl (fun ls hl => ?_)
  refine lv_goto (tgt := 48) hx hb dX11_bringSeats_86 (by decide) ?_
  refine lv_iload_n hx hb dX11_bringSeats_48 rfl (lv_at hl 0 rfl) ?_
  refine lv_bipush (v := 12) hx hb dX11_bringSeats_49 (by decide) ?_
  refine lv_icmp_ge (tgt := 89) hx hb dX11_bringSeats_51 (by decide) (fun h9 => absurd h9 (by decide +kernel)) (fun _ => ?_)
  refine lv_aload_n hx hb dX11_bringSeats_54 rfl (lv_at hl 1 rfl) ?_
  refine va_get (D := (dC, dI)) (ci := 11) (v := .ref o2) (C := RX11) (T := TX11) (N := 13) hx hb hts iw_X11_bringSeats_X11 hown hK hP 0 rfl rfl 1 (by decide) (hts (.fieldLink RX11 19 "HolelessHouse" "table" "LHolelessHouse$Table;") (by decide +kernel)) (fun _ h9 => h9) rfl dX11_bringSeats_55 ?_
  refine va_getN (D := (dC, dI)) (ci := 10) (v := .ref o3) (C := RX10) (T := TX10) (N := 3) hx hb hts iw_X11_bringSeats_X10 hown hK hP 1 rfl rfl 0 (by decide) (hN.use ns_21) (fun _ h9 => h9) rfl dX11_bringSeats_58 ?_
  refine lv_iload_n hx hb dX11_bringSeats_61 rfl (lv_at hl 0 rfl) ?_
  refine va_iald hx hb hK hP 2 0 rfl rfl (vin (by decide +kernel)) dX11_bringSeats_62 (tk_i (v := (-1)) (by decide +kernel) ?_)
  refine lv_iconst (v := (-1)) hx hb dX11_bringSeats_63 (by decide) ?_
  refine lv_icmp_eq (tgt := 83) hx hb dX11_bringSeats_64 (by decide) (fun _ => ?_) (fun h9 => absurd (by decide +kernel) h9)
  refine lv_iinc (v := 11) (lv' := [(1, .int 11), (0, .ref o0)]) hx hb dX11_bringSeats_83 hl (k := 0) rfl (by decide +kernel) (by decide) rfl (fun ls hl => ?_)
  refine lv_goto (tgt := 48) hx hb dX11_bringSeats_86 (by decide) ?_
  refine lv_iload_n hx hb dX11_bringSeats_48 rfl (lv_at hl 0 rfl) ?_
  refine lv_bipush (v := 12) hx hb dX11_bringSeats_49 (by decide) ?_
  refine lv_icmp_ge (tgt := 89) hx hb dX11_bringSeats_51 (by decide) (fun h9 => absurd h9 (by decide +kernel)) (fun _ => ?_)
  refine lv_aload_n hx hb dX11_bringSeats_54 rfl (lv_at hl 1 rfl) ?_
  refine va_get (D := (dC, dI)) (ci := 11) (v := .ref o2) (C := RX11) (T := TX11) (N := 13) hx hb hts iw_X11_bringSeats_X11 hown hK hP 0 rfl rfl 1 (by decide) (hts (.fieldLink RX11 19 "HolelessHouse" "table" "LHolelessHouse$Table;") (by decide +kernel)) (fun _ h9 => h9) rfl dX11_bringSeats_55 ?_
  refine va_getN (D := (dC, dI)) (ci := 10) (v := .ref o3) (C := RX10) (T := TX10) (N := 3) hx hb hts iw_X11_bringSeats_X10 hown hK hP 1 rfl rfl 0 (by decide) (hN.use ns_21) (fun _ h9 => h9) rfl dX11_bringSeats_58 ?_
  refine lv_iload_n hx hb dX11_bringSeats_61 rfl (lv_at hl 0 rfl) ?_
  refine va_iald hx hb hK hP 2 0 rfl rfl (vin (by decide +kernel)) dX11_bringSeats_62 (tk_i (v := (-1)) (by decide +kernel) ?_)
  refine lv_iconst (v := (-1)) hx hb dX11_bringSeats_63 (by decide) ?_
  refine lv_icmp_eq (tgt := 83) hx hb dX11_bringSeats_64 (by decide) (fun _ => ?_) (fun h9 => absurd (by decide +kernel) h9)
  refine lv_iinc (v := 12) (lv' := [(1, .int 12), (0, .ref o0)]) hx hb dX11_bringSeats_83 hl (k := 0) rfl (by decide +kernel) (by decide) rfl (fun ls hl => ?_)
  refine lv_goto (tgt := 48) hx hb dX11_bringSeats_86 (by decide) ?_
  refine lv_iload_n hx hb dX11_bringSeats_48 rfl (lv_at hl 0 rfl) ?_
  refine lv_bipush (v := 12) hx hb dX11_bringSeats_49 (by decide) ?_
  refine lv_icmp_ge (tgt := 89) hx hb dX11_bringSeats_51 (by decide) (fun _ => ?_) (fun h9 => absurd (by decide +kernel) h9)
  refine lv_aload_n hx hb dX11_bringSeats_89 rfl (lv_at hl 1 rfl) ?_
  refine va_get (D := (dC, dI)) (ci := 11) (v := .ref o1) (C := RX11) (T := TX11) (N := 13) hx hb hts iw_X11_bringSeats_X11 hown hK hP 0 rfl rfl 10 (by decide) (hts (.fieldLink RX11 79 "HolelessHouse" "seats" "LHolelessHouse$Benches;") (by decide +kernel)) (fun _ h9 => h9) rfl dX11_bringSeats_90 ?_
  refine kcall_v (D := (dC, dI)) (S := Unit) (wc := [(o1, .inr (0, [.ref o4, .ref o15, .ref o16, .int 0, .int 0, .int 0, .int 0, .int 0])), (o4, .inl (cI, 256, .inl (fun _ => 0)))]) (wr := [(o0, .inr (11, [.ref o5, .ref o2, .ref o6, .ref o7, .ref o8, .ref o9, .ref o10, .ref o11, .ref o12, .ref o13, .ref o1, .ref o14, .int 0])), (o2, .inr (10, [.ref o3, .int 0, .int 0])), (o3, .inl (cI, 12, .inl (fun _ => (-1))))]) (w1 := fun _ => [(o4, .inl (cI, 256, .inl (upd (fun _ => 0) (Int32.toNatClampNeg 0) 0))), (o1, .inr (0, [.ref o4, .ref o15, .ref o16, .int 0, .int 0, .int 0, .int 1, .int 0]))]) (fun hPc hDc => va_runVN (As := []) (rest := []) ⟨hx, hb, hml, hown, hts⟩ (kX0_findFirst_2 l dC dI cI c2 o1 o4 o15 o16 H.size) ⟨va_cnB 0 hts gX11_bringSeats_X0_findFirst_n310 rfl rfl rfl (hN.1 _ ns_124) (hts (.initialized RX0) (by decide +kernel)) (by decide +kernel) ⟨Nat.le_of_ble_eq_true rfl, Nat.le_of_ble_eq_true rfl⟩, (hts (.instanceMethod yX0_findFirst) (by decide +kernel)), (hts (.selects RX0 yX0_findFirst yX0_findFirst) (by decide +kernel))⟩ (pre_V hPc hK hDc hN (ci := 0) (q0 := 0) rfl rfl) rfl rfl hl.1 rfl (lv_room (Nat.le_of_ble_eq_true rfl)) dX11_bringSeats_93 ⟨Nat.le_of_ble_eq_true rfl, Nat.le_of_ble_eq_true rfl⟩) hP hD hS hA [4, 3] [0, 1, 2] rfl rfl (by decide) (by decide) (by decide) (fun u H locs hP hD hS => ?_)
  have hP : va_P (dC, dI) vwCl [(o0, .inr (11, [.ref o5, .ref o2, .ref o6, .ref o7, .ref o8, .ref o9, .ref o10, .ref o11, .ref o12, .ref o13, .ref o1, .ref o14, .int 0])), (o2, .inr (10, [.ref o3, .int 0, .int 0])), (o3, .inl (cI, 12, .inl (fun _ => (-1)))), (o4, .inl (cI, 256, .inl (upd (fun _ => 0) (Int32.toNatClampNeg 0) 0))), (o1, .inr (0, [.ref o4, .ref o15, .ref o16, .int 0, .int 0, .int 0, .int 1, .int 0]))] H := hP
  have hD : va_D A [(o0, .inr (11, [.ref o5, .ref o2, .ref o6, .ref o7, .ref o8, .ref o9, .ref o10, .ref o11, .ref o12, .ref o13, .ref o1, .ref o14, .int 0])), (o2, .inr (10, [.ref o3, .int 0, .int 0])), (o3, .inl (cI, 12, .inl (fun _ => (-1)))), (o4, .inl (cI, 256, .inl (upd (fun _ => 0) (Int32.toNatClampNeg 0) 0))), (o1, .inr (0, [.ref o4, .ref o15, .ref o16, .int 0, .int 0, .int 0, .int 1, .int 0]))] := hD
  refine lv_aload_n hx hb dX11_bringSeats_96 rfl (lv_at hl 1 rfl) ?_
  refine va_get (D := (dC, dI)) (ci := 11) (v := .ref o1) (C := RX11) (T := TX11) (N := 13) hx hb hts iw_X11_bringSeats_X11 hown hK hP 0 rfl rfl 10 (by decide) (hts (.fieldLink RX11 79 "HolelessHouse" "seats" "LHolelessHouse$Benches;") (by decide +kernel)) (fun _ h9 => h9) rfl dX11_bringSeats_97 ?_
  refine kcall_v (D := (dC, dI)) (S := Unit) (wc := [(o1, .inr (0, [.ref o4, .ref o15, .ref o16, .int 0, .int 0, .int 0, .int 1, .int 0])), (o4, .inl (cI, 256, .inl (upd (fun _ => 0) (Int32.toNatClampNeg 0) 0)))]) (wr := [(o0, .inr (11, [.ref o5, .ref o2, .ref o6, .ref o7, .ref o8, .ref o9, .ref o10, .ref o11, .ref o12, .ref o13, .ref o1, .ref o14, .int 0])), (o2, .inr (10, [.ref o3, .int 0, .int 0])), (o3, .inl (cI, 12, .inl (fun _ => (-1))))]) (w1 := fun _ => [(o1, .inr (0, [.ref o4, .ref o15, .ref o16, .int 0, .int 0, .int 1, .int 1, .int 0])), (o4, .inl (cI, 256, .inl (upd (upd (upd (fun _ => 0) (Int32.toNatClampNeg 0) 0) (Int32.toNatClampNeg 0) 0) (Int32.toNatClampNeg 0) 1)))]) (fun hPc hDc => va_runVN (As := []) (rest := []) ⟨hx, hb, hml, hown, hts⟩ (kX0_countWays_1 l dC dI cI c2 o1 o4 o15 o16 H.size) ⟨va_cnB 0 hts gX11_bringSeats_X0_countWays_n314 rfl rfl rfl (hN.1 _ ns_137) (hts (.initialized RX0) (by decide +kernel)) (by decide +kernel) ⟨Nat.le_of_ble_eq_true rfl, Nat.le_of_ble_eq_true rfl⟩, (hts (.instanceMethod yX0_countWays) (by decide +kernel)), (hts (.selects RX0 yX0_countWays yX0_countWays) (by decide +kernel))⟩ (pre_V hPc hK hDc hN (ci := 0) (q0 := 0) rfl rfl) rfl rfl hl.1 rfl (lv_room (Nat.le_of_ble_eq_true rfl)) dX11_bringSeats_100 ⟨Nat.le_of_ble_eq_true rfl, Nat.le_of_ble_eq_true rfl⟩) hP hD hS hA [4, 3] [0, 1, 2] rfl rfl (by decide) (by decide) (by decide) (fun u H locs hP hD hS => ?_)
  have hP : va_P (dC, dI) vwCl [(o0, .inr (11, [.ref o5, .ref o2, .ref o6, .ref o7, .ref o8, .ref o9, .ref o10, .ref o11, .ref o12, .ref o13, .ref o1, .ref o14, .int 0])), (o2, .inr (10, [.ref o3, .int 0, .int 0])), (o3, .inl (cI, 12, .inl (fun _ => (-1)))), (o1, .inr (0, [.ref o4, .ref o15, .ref o16, .int 0, .int 0, .int 1, .int 1, .int 0])), (o4, .inl (cI, 256, .inl (upd (upd (upd (fun _ => 0) (Int32.toNatClampNeg 0) 0) (Int32.toNatClampNeg 0) 0) (Int32.toNatClampNeg 0) 1)))] H := hP
  have hD : va_D A [(o0, .inr (11, [.ref o5, .ref o2, .ref o6, .ref o7, .ref o8, .ref o9, .ref o10, .ref o11, .ref o12, .ref o13, .ref o1, .ref o14, .int 0])), (o2, .inr (10, [.ref o3, .int 0, .int 0])), (o3, .inl (cI, 12, .inl (fun _ => (-1)))), (o1, .inr (0, [.ref o4, .ref o15, .ref o16, .int 0, .int 0, .int 1, .int 1, .int 0])), (o4, .inl (cI, 256, .inl (upd (upd (upd (fun _ => 0) (Int32.toNatClampNeg 0) 0) (Int32.toNatClampNeg 0) 0) (Int32.toNatClampNeg 0) 1)))] := hD
  have hP9 := hP.sub (ws' := [(o0, .inr (11, [.ref o5, .ref o2, .ref o6, .ref o7, .ref o8, .ref o9, .ref o10, .ref o11, .ref o12, .ref o13, .ref o1, .ref o14, .int 0])), (o2, .inr (10, [.ref o3, .int 0, .int 0])), (o3, .inl (cI, 12, .inl (fun _ => (-1)))), (o1, .inr (0, [.ref o4, .ref o15, .ref o16, .int 0, .int 0, .int 1, .int 1, .int 0])), (o4, .inl (cI, 256, .inl (upd (upd (upd (fun _ => 0) (Int32.toNatClampNeg 0) 0) (Int32.toNatClampNeg 0) 0) (Int32.toNatClampNeg 0) 1)))]) [0, 1, 2, 3, 4] rfl
  have hD9 := hD.sub (ws' := [(o0, .inr (11, [.ref o5, .ref o2, .ref o6, .ref o7, .ref o8, .ref o9, .ref o10, .ref o11, .ref o12, .ref o13, .ref o1, .ref o14, .int 0])), (o2, .inr (10, [.ref o3, .int 0, .int 0])), (o3, .inl (cI, 12, .inl (fun _ => (-1)))), (o1, .inr (0, [.ref o4, .ref o15, .ref o16, .int 0, .int 0, .int 1, .int 1, .int 0])), (o4, .inl (cI, 256, .inl (upd (upd (upd (fun _ => 0) (Int32.toNatClampNeg 0) 0) (Int32.toNatClampNeg 0) 0) (Int32.toNatClampNeg 0) 1)))]) [0, 1, 2, 3, 4] (by decide) rfl
  exact W.vret hx hb hr (fun t ht hW => ⟨⟨(), rfl, trivial, by rw [ht]; exact hP9, va_K.moved hW.alike hK, hD9⟩, hS.F ht⟩) hS.2.2 dX11_bringSeats_103
theorem iw_X11_seatings_X0 : ∀ w ∈ wsX00, w ∈ wsX11_seatings := by decide +kernel
theorem iw_X11_seatings_X11 : ∀ w ∈ wsX110, w ∈ wsX11_seatings := by decide +kernel
set_option maxHeartbeats 1000000 in
set_option maxRecDepth 100000 in
theorem kX11_seatings_1 (l : Launch) (dC : Nat → ClassId) (dI : Nat → Nat → Nat) (cI c2 : ClassId) (o0 : Nat) (o1 : Nat) (o2 : Nat) (o3 : Nat) (o4 : Nat) (o5 : Nat) (o6 : Nat) (o7 : Nat) (o8 : Nat) (o9 : Nat) (o10 : Nat) (o11 : Nat) (o12 : Nat) (o13 : Nat) (o14 : Nat) (o15 : Nat) (o16 : Nat) (sz : Nat) : Met l yX11_seatings wsX11_seatings ({ frames := 4, cells := 0, slots := 0, locals := 91 }) (va_Pc [.ref o0] (wPre (dC, dI) [(cI, .int), (c2, .array .int)] [(o0, .inr (11, [.ref o5, .ref o2, .ref o6, .ref o7, .ref o8, .ref o9, .ref o10, .ref o11, .ref o12, .ref o13, .ref o1, .ref o14, .int 0])), (o1, .inr (0, [.ref o4, .ref o15, .ref o16, .int 0, .int 0, .int 0, .int 0, .int (-1)])), (o2, .inr (10, [.ref o3, .int 0, .int 0])), (o3, .inl (cI, 12, .inl (fun _ => (-1)))), (o4, .inl (cI, 256, .inl (fun _ => 0)))] sz)) (va_Qi (fun (r : Int32) (_ : Unit) => r = 1) (fun _ t => wPost (dC, dI) [(cI, .int), (c2, .array .int)] (va_A [(o0, .inr (11, [.ref o5, .ref o2, .ref o6, .ref o7, .ref o8, .ref o9, .ref o10, .ref o11, .ref o12, .ref o13, .ref o1, .ref o14, .int 0])), (o1, .inr (0, [.ref o4, .ref o15, .ref o16, .int 0, .int 0, .int 0, .int 0, .int (-1)])), (o2, .inr (10, [.ref o3, .int 0, .int 0])), (o3, .inl (cI, 12, .inl (fun _ => (-1)))), (o4, .inl (cI, 256, .inl (fun _ => 0)))] sz) [] t) (va_A [(o0, .inr (11, [.ref o5, .ref o2, .ref o6, .ref o7, .ref o8, .ref o9, .ref o10, .ref o11, .ref o12, .ref o13, .ref o1, .ref o14, .int 0])), (o1, .inr (0, [.ref o4, .ref o15, .ref o16, .int 0, .int 0, .int 0, .int 0, .int (-1)])), (o2, .inr (10, [.ref o3, .int 0, .int 0])), (o3, .inl (cI, 12, .inl (fun _ => (-1)))), (o4, .inl (cI, 256, .inl (fun _ => 0)))] sz)) 0 0 (va_A [(o0, .inr (11, [.ref o5, .ref o2, .ref o6, .ref o7, .ref o8, .ref o9, .ref o10, .ref o11, .ref o12, .ref o13, .ref o1, .ref o14, .int 0])), (o1, .inr (0, [.ref o4, .ref o15, .ref o16, .int 0, .int 0, .int 0, .int 0, .int (-1)])), (o2, .inr (10, [.ref o3, .int 0, .int 0])), (o3, .inl (cI, 12, .inl (fun _ => (-1)))), (o4, .inl (cI, 256, .inl (fun _ => 0)))] sz) := by
  refine Met.ofW (cc := cX11_seatings) (maxL := 1) (ret := (some .int)) (by decide) rfl ?_
  intro p e s m args below meth c s₁ B hml hv
  obtain ⟨rfl, hsz, hP, hK, hD0, hN⟩ := hv
  have hx := B.exec
  have hb := B.bytes
  have hr := B.returns
  have hts := atoms_spec (ws := wsX11_seatings) B.pre
  have hown : s.vm.findClass RX11 = some m.cls := findClass_of_methodNamed B.named
  have hlocks := B.notSynchronized
  subst hsz
  have hD := hD0.self (sz := s.heap.size)
  generalize hAe : va_A [(o0, .inr (11, [.ref o5, .ref o2, .ref o6, .ref o7, .ref o8, .ref o9, .ref o10, .ref o11, .ref o12, .ref o13, .ref o1, .ref o14, .int 0])), (o1, .inr (0, [.ref o4, .ref o15, .ref o16, .int 0, .int 0, .int 0, .int 0, .int (-1)])), (o2, .inr (10, [.ref o3, .int 0, .int 0])), (o3, .inl (cI, 12, .inl (fun _ => (-1)))), (o4, .inl (cI, 256, .inl (fun _ => 0)))] s.heap.size = A at hD ⊢
  have hA : ∀ q : Nat, s.heap.size ≤ q → A q := fun q h => by rw [← hAe]; exact Or.inr h
  have hS : va_S A s.heap s.heap [] := va_S.rf
  have hP : va_P (dC, dI) vwCl [(o0, .inr (11, [.ref o5, .ref o2, .ref o6, .ref o7, .ref o8, .ref o9, .ref o10, .ref o11, .ref o12, .ref o13, .ref o1, .ref o14, .int 0])), (o1, .inr (0, [.ref o4, .ref o15, .ref o16, .int 0, .int 0, .int 0, .int 0, .int (-1)])), (o2, .inr (10, [.ref o3, .int 0, .int 0])), (o3, .inl (cI, 12, .inl (fun _ => (-1)))), (o4, .inl (cI, 256, .inl (fun _ => 0)))] s.heap := hP
  have hl := lv_entry ([.ref o0]) (n := 1) (Nat.le_of_ble_eq_true rfl)
  rw [lg_entry_eq]
  generalize (lg_sl ([.ref o0]) ++ List.replicate (1 - (lg_sl ([.ref o0])).length) Slot.unset).toArray = ls at hl ⊢
  have hl : lv_has ls 1 [(0, .ref o0)] := hl
  refine lv_aload_n hx hb dX11_seatings_0 rfl (lv_at hl 0 rfl) ?_
  refine kcall_v (D := (dC, dI)) (S := Unit) (wc := [(o0, .inr (11, [.ref o5, .ref o2, .ref o6, .ref o7, .ref o8, .ref o9, .ref o10, .ref o11, .ref o12, .ref o13, .ref o1, .ref o14, .int 0])), (o1, .inr (0, [.ref o4, .ref o15, .ref o16, .int 0, .int 0, .int 0, .int 0, .int (-1)])), (o2, .inr (10, [.ref o3, .int 0, .int 0])), (o3, .inl (cI, 12, .inl (fun _ => (-1)))), (o4, .inl (cI, 256, .inl (fun _ => 0)))]) (wr := []) (w1 := fun _ => [(o0, .inr (11, [.ref o5, .ref o2, .ref o6, .ref o7, .ref o8, .ref o9, .ref o10, .ref o11, .ref o12, .ref o13, .ref o1, .ref o14, .int 0])), (o2, .inr (10, [.ref o3, .int 0, .int 0])), (o3, .inl (cI, 12, .inl (fun _ => (-1)))), (o1, .inr (0, [.ref o4, .ref o15, .ref o16, .int 0, .int 0, .int 1, .int 1, .int 0])), (o4, .inl (cI, 256, .inl (upd (upd (upd (fun _ => 0) (Int32.toNatClampNeg 0) 0) (Int32.toNatClampNeg 0) 0) (Int32.toNatClampNeg 0) 1)))]) (fun hPc hDc => va_runV (As := []) (rest := []) ⟨hx, hb, hml, hown, hts⟩ (kX11_bringSeats_1 l dC dI cI c2 o0 o1 o2 o3 o4 o5 o6 o7 o8 o9 o10 o11 o12 o13 o14 o15 o16 s.heap.size) (cwV 0 hts gX11_seatings_X11_bringSeats rfl rfl rfl (by decide +kernel) ⟨Nat.le_of_ble_eq_true rfl, Nat.le_of_ble_eq_true rfl⟩) (pre_V hPc hK hDc hN (ci := 11) (q0 := 0) rfl rfl) rfl rfl hl.1 rfl (lv_room (Nat.le_of_ble_eq_true rfl)) dX11_seatings_1 ⟨Nat.le_of_ble_eq_true rfl, Nat.le_of_ble_eq_true rfl⟩) hP hD hS hA [0, 1, 2, 3, 4] [] rfl rfl (by decide) (by decide) (by decide) (fun u H locs hP hD hS => ?_)
  have hP : va_P (dC, dI) vwCl [(o0, .inr (11, [.ref o5, .ref o2, .ref o6, .ref o7, .ref o8, .ref o9, .ref o10, .ref o11, .ref o12, .ref o13, .ref o1, .ref o14, .int 0])), (o2, .inr (10, [.ref o3, .int 0, .int 0])), (o3, .inl (cI, 12, .inl (fun _ => (-1)))), (o1, .inr (0, [.ref o4, .ref o15, .ref o16, .int 0, .int 0, .int 1, .int 1, .int 0])), (o4, .inl (cI, 256, .inl (upd (upd (upd (fun _ => 0) (Int32.toNatClampNeg 0) 0) (Int32.toNatClampNeg 0) 0) (Int32.toNatClampNeg 0) 1)))] H := hP
  have hD : va_D A [(o0, .inr (11, [.ref o5, .ref o2, .ref o6, .ref o7, .ref o8, .ref o9, .ref o10, .ref o11, .ref o12, .ref o13, .ref o1, .ref o14, .int 0])), (o2, .inr (10, [.ref o3, .int 0, .int 0])), (o3, .inl (cI, 12, .inl (fun _ => (-1)))), (o1, .inr (0, [.ref o4, .ref o15, .ref o16, .int 0, .int 0, .int 1, .int 1, .int 0])), (o4, .inl (cI, 256, .inl (upd (upd (upd (fun _ => 0) (Int32.toNatClampNeg 0) 0) (Int32.toNatClampNeg 0) 0) (Int32.toNatClampNeg 0) 1)))] := hD
  refine lv_aload_n hx hb dX11_seatings_4 rfl (lv_at hl 0 rfl) ?_
  refine va_get (D := (dC, dI)) (ci := 11) (v := .ref o1) (C := RX11) (T := TX11) (N := 13) hx hb hts iw_X11_seatings_X11 hown hK hP 0 rfl rfl 10 (by decide) (hts (.fieldLink RX11 79 "HolelessHouse" "seats" "LHolelessHouse$Benches;") (by decide +kernel)) (fun _ h9 => h9) rfl dX11_seatings_5 ?_
  refine va_getN (D := (dC, dI)) (ci := 0) (v := .int 1) (C := RX0) (T := TX0) (N := 8) hx hb hts iw_X11_seatings_X0 hown hK hP 3 rfl rfl 5 (by decide) (hN.use ns_45) (fun _ h9 => h9) rfl dX11_seatings_8 ?_
  have hP9 := hP.sub (ws' := []) [] rfl
  have hD9 := hD.sub (ws' := []) [] (by decide) rfl
  exact W.iret (v := 1) hx hb hr (fun t ht hW => ⟨⟨1, (), rfl, rfl, by rw [ht]; exact hP9, va_K.moved hW.alike hK, hD9⟩, hS.F ht⟩) hS.2.2 dX11_seatings_11
theorem iw_X12_seat_X12 : ∀ w ∈ wsX120, w ∈ wsX12_seat := by decide +kernel
set_option maxHeartbeats 1000000 in
set_option maxRecDepth 100000 in
theorem kX12_seat_1 (l : Launch) (dC : Nat → ClassId) (dI : Nat → Nat → Nat) (cI c2 : ClassId) (o0 : Nat) (o1 : Nat) (o2 : Nat) (o3 : Nat) (o4 : Nat) (o5 : Nat) (o6 : Nat) (o7 : Nat) (o8 : Nat) (o9 : Nat) (o10 : Nat) (o11 : Nat) (o12 : Nat) (o13 : Nat) (o14 : Nat) (o15 : Nat) (o16 : Nat) (o17 : Nat) (o18 : Nat) (sz : Nat) : Met l yX12_seat wsX12_seat ({ frames := 1, cells := 0, slots := 0, locals := 25 }) (va_Pc [.ref o0] (wPre (dC, dI) [(cI, .int), (c2, .array .int)] [(o0, .inr (12, [.int 0, .ref o1, .int 0, .ref o2, .int 0, .ref o3, .ref o4, .int 0, .ref o5, .int 0, .ref o6, .int (-9), .int 0, .int 0, .ref o7, .ref o8, .ref o9, .ref o10, .ref o11, .int 0, .ref o12, .ref o13, .ref o14, .int 0, .ref o15, .ref o16, .ref o17, .int 0, .ref o18]))] sz)) (va_Qv (fun (_ : Unit) => True) (fun _ t => wPost (dC, dI) [(cI, .int), (c2, .array .int)] (va_A [(o0, .inr (12, [.int 0, .ref o1, .int 0, .ref o2, .int 0, .ref o3, .ref o4, .int 0, .ref o5, .int 0, .ref o6, .int (-9), .int 0, .int 0, .ref o7, .ref o8, .ref o9, .ref o10, .ref o11, .int 0, .ref o12, .ref o13, .ref o14, .int 0, .ref o15, .ref o16, .ref o17, .int 0, .ref o18]))] sz) [(o0, .inr (12, [.int 0, .ref o1, .int 0, .ref o2, .int 0, .ref o3, .ref o4, .int 0, .ref o5, .int 0, .ref o6, .int (-9), .int 0, .int 0, .ref o7, .ref o8, .ref o9, .ref o10, .ref o11, .int 0, .ref o12, .ref o13, .ref o14, .int 0, .ref o15, .ref o16, .ref o17, .int 0, .ref o18]))] t) (va_A [(o0, .inr (12, [.int 0, .ref o1, .int 0, .ref o2, .int 0, .ref o3, .ref o4, .int 0, .ref o5, .int 0, .ref o6, .int (-9), .int 0, .int 0, .ref o7, .ref o8, .ref o9, .ref o10, .ref o11, .int 0, .ref o12, .ref o13, .ref o14, .int 0, .ref o15, .ref o16, .ref o17, .int 0, .ref o18]))] sz)) 0 0 (va_A [(o0, .inr (12, [.int 0, .ref o1, .int 0, .ref o2, .int 0, .ref o3, .ref o4, .int 0, .ref o5, .int 0, .ref o6, .int (-9), .int 0, .int 0, .ref o7, .ref o8, .ref o9, .ref o10, .ref o11, .int 0, .ref o12, .ref o13, .ref o14, .int 0, .ref o15, .ref o16, .ref o17, .int 0, .ref o18]))] sz) := by
  refine Met.ofW (cc := cX12_seat) (maxL := 3) (ret := none) (by decide) rfl ?_
  intro p e s m args below meth c s₁ B hml hv
  obtain ⟨rfl, hsz, hP, hK, hD0, hN⟩ := hv
  have hx := B.exec
  have hb := B.bytes
  have hr := B.returns
  have hts := atoms_spec (ws := wsX12_seat) B.pre
  have hown : s.vm.findClass RX12 = some m.cls := findClass_of_methodNamed B.named
  have hlocks := B.notSynchronized
  subst hsz
  have hD := hD0.self (sz := s.heap.size)
  generalize hAe : va_A [(o0, .inr (12, [.int 0, .ref o1, .int 0, .ref o2, .int 0, .ref o3, .ref o4, .int 0, .ref o5, .int 0, .ref o6, .int (-9), .int 0, .int 0, .ref o7, .ref o8, .ref o9, .ref o10, .ref o11, .int 0, .ref o12, .ref o13, .ref o14, .int 0, .ref o15, .ref o16, .ref o17, .int 0, .ref o18]))] s.heap.size = A at hD ⊢
  have hA : ∀ q : Nat, s.heap.size ≤ q → A q := fun q h => by rw [← hAe]; exact Or.inr h
  have hS : va_S A s.heap s.heap [] := va_S.rf
  have hP : va_P (dC, dI) vwCl [(o0, .inr (12, [.int 0, .ref o1, .int 0, .ref o2, .int 0, .ref o3, .ref o4, .int 0, .ref o5, .int 0, .ref o6, .int (-9), .int 0, .int 0, .ref o7, .ref o8, .ref o9, .ref o10, .ref o11, .int 0, .ref o12, .ref o13, .ref o14, .int 0, .ref o15, .ref o16, .ref o17, .int 0, .ref o18]))] s.heap := hP
  have hl := lv_entry ([.ref o0]) (n := 3) (Nat.le_of_ble_eq_true rfl)
  rw [lg_entry_eq]
  generalize (lg_sl ([.ref o0]) ++ List.replicate (3 - (lg_sl ([.ref o0])).length) Slot.unset).toArray = ls at hl ⊢
  have hl : lv_has ls 3 [(0, .ref o0)] := hl
  refine lv_aload_n hx hb dX12_seat_0 rfl (lv_at hl 0 rfl) ?_
  refine lv_aload_n hx hb dX12_seat_1 rfl (lv_at hl 0 rfl) ?_
  refine va_get (D := (dC, dI)) (ci := 12) (v := .int 0) (C := RX12) (T := TX12) (N := 29) hx hb hts iw_X12_seat_X12 hown hK hP 0 rfl rfl 4 (by decide) (hts (.fieldLink RX12 128 "HolelessHouseModel" "columns" "I") (by decide +kernel)) (fun _ h9 => h9) rfl dX12_seat_2 ?_
  refine va_put (D := (dC, dI)) (ci := 12) (v := .int 0) (ty := .int) (C := RX12) (T := TX12) (N := 29) hx hb hts iw_X12_seat_X12 tyX12 tyX12_ok nmX12 hown hK hP hD hS 0 rfl rfl 23 (by decide) (hts (.fieldLink RX12 191 "HolelessHouseModel" "thingMany" "I") (by decide +kernel)) (fun _ h9 => h9) rfl (by decide +kernel) rfl rfl (Nat.le_of_ble_eq_true rfl) dX12_seat_5 (fun H locs hP hD hS => ?_)
  have hP : va_P (dC, dI) vwCl [(o0, .inr (12, [.int 0, .ref o1, .int 0, .ref o2, .int 0, .ref o3, .ref o4, .int 0, .ref o5, .int 0, .ref o6, .int (-9), .int 0, .int 0, .ref o7, .ref o8, .ref o9, .ref o10, .ref o11, .int 0, .ref o12, .ref o13, .ref o14, .int 0, .ref o15, .ref o16, .ref o17, .int 0, .ref o18]))] H := hP
  have hD : va_D A [(o0, .inr (12, [.int 0, .ref o1, .int 0, .ref o2, .int 0, .ref o3, .ref o4, .int 0, .ref o5, .int 0, .ref o6, .int (-9), .int 0, .int 0, .ref o7, .ref o8, .ref o9, .ref o10, .ref o11, .int 0, .ref o12, .ref o13, .ref o14, .int 0, .ref o15, .ref o16, .ref o17, .int 0, .ref o18]))] := hD
  refine lv_iconst (v := 0) hx hb dX12_seat_8 (by decide) ?_
  refine lv_istore_n (lv' := [(1, .int 0), (0, .ref o0)]) hx hb dX12_seat_9 rfl hl (by decide) rfl (fun ls hl => ?_)
  refine lv_iload_n hx hb dX12_seat_10 rfl (lv_at hl 0 rfl) ?_
  refine lv_aload_n hx hb dX12_seat_11 rfl (lv_at hl 1 rfl) ?_
  refine va_get (D := (dC, dI)) (ci := 12) (v := .int 0) (C := RX12) (T := TX12) (N := 29) hx hb hts iw_X12_seat_X12 hown hK hP 0 rfl rfl 4 (by decide) (hts (.fieldLink RX12 128 "HolelessHouseModel" "columns" "I") (by decide +kernel)) (fun _ h9 => h9) rfl dX12_seat_12 ?_
  refine lv_icmp_ge (tgt := 83) hx hb dX12_seat_15 (by decide) (fun _ => ?_) (fun h9 => absurd (by decide +kernel) h9)
  refine lv_aload_n hx hb dX12_seat_83 rfl (lv_at hl 1 rfl) ?_
  refine kcall_v (D := (dC, dI)) (S := Unit) (wc := [(o0, .inr (12, [.int 0, .ref o1, .int 0, .ref o2, .int 0, .ref o3, .ref o4, .int 0, .ref o5, .int 0, .ref o6, .int (-9), .int 0, .int 0, .ref o7, .ref o8, .ref o9, .ref o10, .ref o11, .int 0, .ref o12, .ref o13, .ref o14, .int 0, .ref o15, .ref o16, .ref o17, .int 0, .ref o18]))]) (wr := []) (w1 := fun _ => [(o0, .inr (12, [.int 0, .ref o1, .int 0, .ref o2, .int 0, .ref o3, .ref o4, .int 0, .ref o5, .int 0, .ref o6, .int (-9), .int 0, .int 0, .ref o7, .ref o8, .ref o9, .ref o10, .ref o11, .int 0, .ref o12, .ref o13, .ref o14, .int 0, .ref o15, .ref o16, .ref o17, .int 0, .ref o18]))]) (fun hPc hDc => va_runV (As := []) (rest := []) ⟨hx, hb, hml, hown, hts⟩ (kX12_setLine_1 l dC dI cI c2 o0 o1 o2 o3 o4 o5 o6 o7 o8 o9 o10 o11 o12 o13 o14 o15 o16 o17 o18 H.size) (cwV 0 hts gX12_seat_X12_setLine rfl rfl rfl (by decide +kernel) ⟨Nat.le_of_ble_eq_true rfl, Nat.le_of_ble_eq_true rfl⟩) (pre_V hPc hK hDc hN (ci := 12) (q0 := 0) rfl rfl) rfl rfl hl.1 rfl (lv_room (Nat.le_of_ble_eq_true rfl)) dX12_seat_84 ⟨Nat.le_of_ble_eq_true rfl, Nat.le_of_ble_eq_true rfl⟩) hP hD hS hA [0] [] rfl rfl (by decide) (by decide) (by decide) (fun u H locs hP hD hS => ?_)
  have hP : va_P (dC, dI) vwCl [(o0, .inr (12, [.int 0, .ref o1, .int 0, .ref o2, .int 0, .ref o3, .ref o4, .int 0, .ref o5, .int 0, .ref o6, .int (-9), .int 0, .int 0, .ref o7, .ref o8, .ref o9, .ref o10, .ref o11, .int 0, .ref o12, .ref o13, .ref o14, .int 0, .ref o15, .ref o16, .ref o17, .int 0, .ref o18]))] H := hP
  have hD : va_D A [(o0, .inr (12, [.int 0, .ref o1, .int 0, .ref o2, .int 0, .ref o3, .ref o4, .int 0, .ref o5, .int 0, .ref o6, .int (-9), .int 0, .int 0, .ref o7, .ref o8, .ref o9, .ref o10, .ref o11, .int 0, .ref o12, .ref o13, .ref o14, .int 0, .ref o15, .ref o16, .ref o17, .int 0, .ref o18]))] := hD
  have hP9 := hP.sub (ws' := [(o0, .inr (12, [.int 0, .ref o1, .int 0, .ref o2, .int 0, .ref o3, .ref o4, .int 0, .ref o5, .int 0, .ref o6, .int (-9), .int 0, .int 0, .ref o7, .ref o8, .ref o9, .ref o10, .ref o11, .int 0, .ref o12, .ref o13, .ref o14, .int 0, .ref o15, .ref o16, .ref o17, .int 0, .ref o18]))]) [0] rfl
  have hD9 := hD.sub (ws' := [(o0, .inr (12, [.int 0, .ref o1, .int 0, .ref o2, .int 0, .ref o3, .ref o4, .int 0, .ref o5, .int 0, .ref o6, .int (-9), .int 0, .int 0, .ref o7, .ref o8, .ref o9, .ref o10, .ref o11, .int 0, .ref o12, .ref o13, .ref o14, .int 0, .ref o15, .ref o16, .ref o17, .int 0, .ref o18]))]) [0] (by decide) rfl
  exact W.vret hx hb hr (fun t ht hW => ⟨⟨(), rfl, trivial, by rw [ht]; exact hP9, va_K.moved hW.alike hK, hD9⟩, hS.F ht⟩) hS.2.2 dX12_seat_87
theorem iw_X12_lines_X12 : ∀ w ∈ wsX120, w ∈ wsX12_lines := by decide +kernel
set_option maxHeartbeats 1000000 in
set_option maxRecDepth 100000 in
theorem kX12_lines_1 (l : Launch) (dC : Nat → ClassId) (dI : Nat → Nat → Nat) (cI c2 : ClassId) (o0 : Nat) (o1 : Nat) (o2 : Nat) (o3 : Nat) (o4 : Nat) (o5 : Nat) (o6 : Nat) (o7 : Nat) (o8 : Nat) (o9 : Nat) (o10 : Nat) (o11 : Nat) (o12 : Nat) (o13 : Nat) (o14 : Nat) (o15 : Nat) (o16 : Nat) (o17 : Nat) (o18 : Nat) (sz : Nat) : Met l yX12_lines wsX12_lines ({ frames := 0, cells := 0, slots := 0, locals := 0 }) (va_Pc [.ref o0] (wPre (dC, dI) [(cI, .int), (c2, .array .int)] [(o0, .inr (12, [.int 0, .ref o1, .int 0, .ref o2, .int 0, .ref o3, .ref o4, .int 0, .ref o5, .int 0, .ref o6, .int (-9), .int 0, .int 0, .ref o7, .ref o8, .ref o9, .ref o10, .ref o11, .int 0, .ref o12, .ref o13, .ref o14, .int 0, .ref o15, .ref o16, .ref o17, .int 0, .ref o18]))] sz)) (va_Qi (fun (r : Int32) (_ : Unit) => r = 1) (fun _ t => wPost (dC, dI) [(cI, .int), (c2, .array .int)] (va_A [(o0, .inr (12, [.int 0, .ref o1, .int 0, .ref o2, .int 0, .ref o3, .ref o4, .int 0, .ref o5, .int 0, .ref o6, .int (-9), .int 0, .int 0, .ref o7, .ref o8, .ref o9, .ref o10, .ref o11, .int 0, .ref o12, .ref o13, .ref o14, .int 0, .ref o15, .ref o16, .ref o17, .int 0, .ref o18]))] sz) [(o0, .inr (12, [.int 0, .ref o1, .int 0, .ref o2, .int 0, .ref o3, .ref o4, .int 0, .ref o5, .int 0, .ref o6, .int (-9), .int 0, .int 0, .ref o7, .ref o8, .ref o9, .ref o10, .ref o11, .int 0, .ref o12, .ref o13, .ref o14, .int 0, .ref o15, .ref o16, .ref o17, .int 0, .ref o18]))] t) (va_A [(o0, .inr (12, [.int 0, .ref o1, .int 0, .ref o2, .int 0, .ref o3, .ref o4, .int 0, .ref o5, .int 0, .ref o6, .int (-9), .int 0, .int 0, .ref o7, .ref o8, .ref o9, .ref o10, .ref o11, .int 0, .ref o12, .ref o13, .ref o14, .int 0, .ref o15, .ref o16, .ref o17, .int 0, .ref o18]))] sz)) 0 0 (va_A [(o0, .inr (12, [.int 0, .ref o1, .int 0, .ref o2, .int 0, .ref o3, .ref o4, .int 0, .ref o5, .int 0, .ref o6, .int (-9), .int 0, .int 0, .ref o7, .ref o8, .ref o9, .ref o10, .ref o11, .int 0, .ref o12, .ref o13, .ref o14, .int 0, .ref o15, .ref o16, .ref o17, .int 0, .ref o18]))] sz) := by
  refine Met.ofW (cc := cX12_lines) (maxL := 3) (ret := (some .int)) (by decide) rfl ?_
  intro p e s m args below meth c s₁ B hml hv
  obtain ⟨rfl, hsz, hP, hK, hD0, hN⟩ := hv
  have hx := B.exec
  have hb := B.bytes
  have hr := B.returns
  have hts := atoms_spec (ws := wsX12_lines) B.pre
  have hown : s.vm.findClass RX12 = some m.cls := findClass_of_methodNamed B.named
  have hlocks := B.notSynchronized
  subst hsz
  have hD := hD0.self (sz := s.heap.size)
  generalize hAe : va_A [(o0, .inr (12, [.int 0, .ref o1, .int 0, .ref o2, .int 0, .ref o3, .ref o4, .int 0, .ref o5, .int 0, .ref o6, .int (-9), .int 0, .int 0, .ref o7, .ref o8, .ref o9, .ref o10, .ref o11, .int 0, .ref o12, .ref o13, .ref o14, .int 0, .ref o15, .ref o16, .ref o17, .int 0, .ref o18]))] s.heap.size = A at hD ⊢
  have hA : ∀ q : Nat, s.heap.size ≤ q → A q := fun q h => by rw [← hAe]; exact Or.inr h
  have hS : va_S A s.heap s.heap [] := va_S.rf
  have hP : va_P (dC, dI) vwCl [(o0, .inr (12, [.int 0, .ref o1, .int 0, .ref o2, .int 0, .ref o3, .ref o4, .int 0, .ref o5, .int 0, .ref o6, .int (-9), .int 0, .int 0, .ref o7, .ref o8, .ref o9, .ref o10, .ref o11, .int 0, .ref o12, .ref o13, .ref o14, .int 0, .ref o15, .ref o16, .ref o17, .int 0, .ref o18]))] s.heap := hP
  have hl := lv_entry ([.ref o0]) (n := 3) (Nat.le_of_ble_eq_true rfl)
  rw [lg_entry_eq]
  generalize (lg_sl ([.ref o0]) ++ List.replicate (3 - (lg_sl ([.ref o0])).length) Slot.unset).toArray = ls at hl ⊢
  have hl : lv_has ls 3 [(0, .ref o0)] := hl
  refine lv_aload_n hx hb dX12_lines_0 rfl (lv_at hl 0 rfl) ?_
  refine va_get (D := (dC, dI)) (ci := 12) (v := .int 0) (C := RX12) (T := TX12) (N := 29) hx hb hts iw_X12_lines_X12 hown hK hP 0 rfl rfl 23 (by decide) (hts (.fieldLink RX12 191 "HolelessHouseModel" "thingMany" "I") (by decide +kernel)) (fun _ h9 => h9) rfl dX12_lines_1 ?_
  refine lv_if_ne (tgt := 11) hx hb dX12_lines_4 (by decide) (fun h9 => absurd (by decide +kernel) h9) (fun _ => ?_)
  refine lv_iconst (v := 1) hx hb dX12_lines_7 (by decide) ?_
  refine lv_goto (tgt := 12) hx hb dX12_lines_8 (by decide) ?_
  refine lv_istore_n (lv' := [(1, .int 1), (0, .ref o0)]) hx hb dX12_lines_12 rfl hl (by decide) rfl (fun ls hl => ?_)
  refine lv_iconst (v := 0) hx hb dX12_lines_13 (by decide) ?_
  refine lv_istore_n (lv' := [(2, .int 0), (1, .int 1), (0, .ref o0)]) hx hb dX12_lines_14 rfl hl (by decide) rfl (fun ls hl => ?_)
  refine lv_iload_n hx hb dX12_lines_15 rfl (lv_at hl 0 rfl) ?_
  refine lv_aload_n hx hb dX12_lines_16 rfl (lv_at hl 2 rfl) ?_
  refine va_get (D := (dC, dI)) (ci := 12) (v := .int 0) (C := RX12) (T := TX12) (N := 29) hx hb hts iw_X12_lines_X12 hown hK hP 0 rfl rfl 23 (by decide) (hts (.fieldLink RX12 191 "HolelessHouseModel" "thingMany" "I") (by decide +kernel)) (fun _ h9 => h9) rfl dX12_lines_17 ?_
  refine lv_icmp_ge (tgt := 45) hx hb dX12_lines_20 (by decide) (fun _ => ?_) (fun h9 => absurd (by decide +kernel) h9)
  refine lv_iload_n hx hb dX12_lines_45 rfl (lv_at hl 1 rfl) ?_
  have hP9 := hP.sub (ws' := [(o0, .inr (12, [.int 0, .ref o1, .int 0, .ref o2, .int 0, .ref o3, .ref o4, .int 0, .ref o5, .int 0, .ref o6, .int (-9), .int 0, .int 0, .ref o7, .ref o8, .ref o9, .ref o10, .ref o11, .int 0, .ref o12, .ref o13, .ref o14, .int 0, .ref o15, .ref o16, .ref o17, .int 0, .ref o18]))]) [0] rfl
  have hD9 := hD.sub (ws' := [(o0, .inr (12, [.int 0, .ref o1, .int 0, .ref o2, .int 0, .ref o3, .ref o4, .int 0, .ref o5, .int 0, .ref o6, .int (-9), .int 0, .int 0, .ref o7, .ref o8, .ref o9, .ref o10, .ref o11, .int 0, .ref o12, .ref o13, .ref o14, .int 0, .ref o15, .ref o16, .ref o17, .int 0, .ref o18]))]) [0] (by decide) rfl
  exact W.iret (v := 1) hx hb hr (fun t ht hW => ⟨⟨1, (), rfl, rfl, by rw [ht]; exact hP9, va_K.moved hW.alike hK, hD9⟩, hS.F ht⟩) hS.2.2 dX12_lines_46
set_option maxHeartbeats 1000000 in
set_option maxRecDepth 100000 in
theorem kX12_seatings_1 (l : Launch) (dC : Nat → ClassId) (dI : Nat → Nat → Nat) (cI c2 : ClassId) (o0 : Nat) (o1 : Nat) (o2 : Nat) (o3 : Nat) (o4 : Nat) (o5 : Nat) (o6 : Nat) (o7 : Nat) (o8 : Nat) (o9 : Nat) (o10 : Nat) (o11 : Nat) (o12 : Nat) (o13 : Nat) (o14 : Nat) (o15 : Nat) (o16 : Nat) (o17 : Nat) (o18 : Nat) (sz : Nat) : Met l yX12_seatings wsX12_seatings ({ frames := 2, cells := 0, slots := 0, locals := 47 }) (va_Pc [.ref o0] (wPre (dC, dI) [(cI, .int), (c2, .array .int)] [(o0, .inr (12, [.int 0, .ref o1, .int 0, .ref o2, .int 0, .ref o3, .ref o4, .int 0, .ref o5, .int 0, .ref o6, .int (-9), .int 0, .int 0, .ref o7, .ref o8, .ref o9, .ref o10, .ref o11, .int 0, .ref o12, .ref o13, .ref o14, .int 0, .ref o15, .ref o16, .ref o17, .int 0, .ref o18]))] sz)) (va_Qi (fun (r : Int32) (_ : Unit) => r = 1) (fun _ t => wPost (dC, dI) [(cI, .int), (c2, .array .int)] (va_A [(o0, .inr (12, [.int 0, .ref o1, .int 0, .ref o2, .int 0, .ref o3, .ref o4, .int 0, .ref o5, .int 0, .ref o6, .int (-9), .int 0, .int 0, .ref o7, .ref o8, .ref o9, .ref o10, .ref o11, .int 0, .ref o12, .ref o13, .ref o14, .int 0, .ref o15, .ref o16, .ref o17, .int 0, .ref o18]))] sz) [] t) (va_A [(o0, .inr (12, [.int 0, .ref o1, .int 0, .ref o2, .int 0, .ref o3, .ref o4, .int 0, .ref o5, .int 0, .ref o6, .int (-9), .int 0, .int 0, .ref o7, .ref o8, .ref o9, .ref o10, .ref o11, .int 0, .ref o12, .ref o13, .ref o14, .int 0, .ref o15, .ref o16, .ref o17, .int 0, .ref o18]))] sz)) 0 0 (va_A [(o0, .inr (12, [.int 0, .ref o1, .int 0, .ref o2, .int 0, .ref o3, .ref o4, .int 0, .ref o5, .int 0, .ref o6, .int (-9), .int 0, .int 0, .ref o7, .ref o8, .ref o9, .ref o10, .ref o11, .int 0, .ref o12, .ref o13, .ref o14, .int 0, .ref o15, .ref o16, .ref o17, .int 0, .ref o18]))] sz) := by
  refine Met.ofW (cc := cX12_seatings) (maxL := 1) (ret := (some .int)) (by decide) rfl ?_
  intro p e s m args below meth c s₁ B hml hv
  obtain ⟨rfl, hsz, hP, hK, hD0, hN⟩ := hv
  have hx := B.exec
  have hb := B.bytes
  have hr := B.returns
  have hts := atoms_spec (ws := wsX12_seatings) B.pre
  have hown : s.vm.findClass RX12 = some m.cls := findClass_of_methodNamed B.named
  have hlocks := B.notSynchronized
  subst hsz
  have hD := hD0.self (sz := s.heap.size)
  generalize hAe : va_A [(o0, .inr (12, [.int 0, .ref o1, .int 0, .ref o2, .int 0, .ref o3, .ref o4, .int 0, .ref o5, .int 0, .ref o6, .int (-9), .int 0, .int 0, .ref o7, .ref o8, .ref o9, .ref o10, .ref o11, .int 0, .ref o12, .ref o13, .ref o14, .int 0, .ref o15, .ref o16, .ref o17, .int 0, .ref o18]))] s.heap.size = A at hD ⊢
  have hA : ∀ q : Nat, s.heap.size ≤ q → A q := fun q h => by rw [← hAe]; exact Or.inr h
  have hS : va_S A s.heap s.heap [] := va_S.rf
  have hP : va_P (dC, dI) vwCl [(o0, .inr (12, [.int 0, .ref o1, .int 0, .ref o2, .int 0, .ref o3, .ref o4, .int 0, .ref o5, .int 0, .ref o6, .int (-9), .int 0, .int 0, .ref o7, .ref o8, .ref o9, .ref o10, .ref o11, .int 0, .ref o12, .ref o13, .ref o14, .int 0, .ref o15, .ref o16, .ref o17, .int 0, .ref o18]))] s.heap := hP
  have hl := lv_entry ([.ref o0]) (n := 1) (Nat.le_of_ble_eq_true rfl)
  rw [lg_entry_eq]
  generalize (lg_sl ([.ref o0]) ++ List.replicate (1 - (lg_sl ([.ref o0])).length) Slot.unset).toArray = ls at hl ⊢
  have hl : lv_has ls 1 [(0, .ref o0)] := hl
  refine lv_aload_n hx hb dX12_seatings_0 rfl (lv_at hl 0 rfl) ?_
  refine kcall_v (D := (dC, dI)) (S := Unit) (wc := [(o0, .inr (12, [.int 0, .ref o1, .int 0, .ref o2, .int 0, .ref o3, .ref o4, .int 0, .ref o5, .int 0, .ref o6, .int (-9), .int 0, .int 0, .ref o7, .ref o8, .ref o9, .ref o10, .ref o11, .int 0, .ref o12, .ref o13, .ref o14, .int 0, .ref o15, .ref o16, .ref o17, .int 0, .ref o18]))]) (wr := []) (w1 := fun _ => [(o0, .inr (12, [.int 0, .ref o1, .int 0, .ref o2, .int 0, .ref o3, .ref o4, .int 0, .ref o5, .int 0, .ref o6, .int (-9), .int 0, .int 0, .ref o7, .ref o8, .ref o9, .ref o10, .ref o11, .int 0, .ref o12, .ref o13, .ref o14, .int 0, .ref o15, .ref o16, .ref o17, .int 0, .ref o18]))]) (fun hPc hDc => va_runV (As := []) (rest := []) ⟨hx, hb, hml, hown, hts⟩ (kX12_seat_1 l dC dI cI c2 o0 o1 o2 o3 o4 o5 o6 o7 o8 o9 o10 o11 o12 o13 o14 o15 o16 o17 o18 s.heap.size) (cwV 0 hts gX12_seatings_X12_seat rfl rfl rfl (by decide +kernel) ⟨Nat.le_of_ble_eq_true rfl, Nat.le_of_ble_eq_true rfl⟩) (pre_V hPc hK hDc hN (ci := 12) (q0 := 0) rfl rfl) rfl rfl hl.1 rfl (lv_room (Nat.le_of_ble_eq_true rfl)) dX12_seatings_1 ⟨Nat.le_of_ble_eq_true rfl, Nat.le_of_ble_eq_true rfl⟩) hP hD hS hA [0] [] rfl rfl (by decide) (by decide) (by decide) (fun u H locs hP hD hS => ?_)
  have hP : va_P (dC, dI) vwCl [(o0, .inr (12, [.int 0, .ref o1, .int 0, .ref o2, .int 0, .ref o3, .ref o4, .int 0, .ref o5, .int 0, .ref o6, .int (-9), .int 0, .int 0, .ref o7, .ref o8, .ref o9, .ref o10, .ref o11, .int 0, .ref o12, .ref o13, .ref o14, .int 0, .ref o15, .ref o16, .ref o17, .int 0, .ref o18]))] H := hP
  have hD : va_D A [(o0, .inr (12, [.int 0, .ref o1, .int 0, .ref o2, .int 0, .ref o3, .ref o4, .int 0, .ref o5, .int 0, .ref o6, .int (-9), .int 0, .int 0, .ref o7, .ref o8, .ref o9, .ref o10, .ref o11, .int 0, .ref o12, .ref o13, .ref o14, .int 0, .ref o15, .ref o16, .ref o17, .int 0, .ref o18]))] := hD
  refine lv_aload_n hx hb dX12_seatings_4 rfl (lv_at hl 0 rfl) ?_
  refine kcall_i (D := (dC, dI)) (S := Unit) (v := 1) (wc := [(o0, .inr (12, [.int 0, .ref o1, .int 0, .ref o2, .int 0, .ref o3, .ref o4, .int 0, .ref o5, .int 0, .ref o6, .int (-9), .int 0, .int 0, .ref o7, .ref o8, .ref o9, .ref o10, .ref o11, .int 0, .ref o12, .ref o13, .ref o14, .int 0, .ref o15, .ref o16, .ref o17, .int 0, .ref o18]))]) (wr := []) (w1 := fun _ => [(o0, .inr (12, [.int 0, .ref o1, .int 0, .ref o2, .int 0, .ref o3, .ref o4, .int 0, .ref o5, .int 0, .ref o6, .int (-9), .int 0, .int 0, .ref o7, .ref o8, .ref o9, .ref o10, .ref o11, .int 0, .ref o12, .ref o13, .ref o14, .int 0, .ref o15, .ref o16, .ref o17, .int 0, .ref o18]))]) (fun hPc hDc => va_runV (As := []) (rest := []) ⟨hx, hb, hml, hown, hts⟩ (kX12_lines_1 l dC dI cI c2 o0 o1 o2 o3 o4 o5 o6 o7 o8 o9 o10 o11 o12 o13 o14 o15 o16 o17 o18 H.size) (cwV 0 hts gX12_seatings_X12_lines rfl rfl rfl (by decide +kernel) ⟨Nat.le_of_ble_eq_true rfl, Nat.le_of_ble_eq_true rfl⟩) (pre_V hPc hK hDc hN (ci := 12) (q0 := 0) rfl rfl) rfl rfl hl.1 rfl (lv_room (Nat.le_of_ble_eq_true rfl)) dX12_seatings_5 ⟨Nat.le_of_ble_eq_true rfl, Nat.le_of_ble_eq_true rfl⟩) hP hD hS hA [0] [] rfl rfl (by decide) (by decide) (by decide) (fun u H locs hP hD hS => ?_)
  have hP : va_P (dC, dI) vwCl [(o0, .inr (12, [.int 0, .ref o1, .int 0, .ref o2, .int 0, .ref o3, .ref o4, .int 0, .ref o5, .int 0, .ref o6, .int (-9), .int 0, .int 0, .ref o7, .ref o8, .ref o9, .ref o10, .ref o11, .int 0, .ref o12, .ref o13, .ref o14, .int 0, .ref o15, .ref o16, .ref o17, .int 0, .ref o18]))] H := hP
  have hD : va_D A [(o0, .inr (12, [.int 0, .ref o1, .int 0, .ref o2, .int 0, .ref o3, .ref o4, .int 0, .ref o5, .int 0, .ref o6, .int (-9), .int 0, .int 0, .ref o7, .ref o8, .ref o9, .ref o10, .ref o11, .int 0, .ref o12, .ref o13, .ref o14, .int 0, .ref o15, .ref o16, .ref o17, .int 0, .ref o18]))] := hD
  have hP9 := hP.sub (ws' := []) [] rfl
  have hD9 := hD.sub (ws' := []) [] (by decide) rfl
  exact W.iret (v := 1) hx hb hr (fun t ht hW => ⟨⟨1, (), rfl, rfl, by rw [ht]; exact hP9, va_K.moved hW.alike hK, hD9⟩, hS.F ht⟩) hS.2.2 dX12_seatings_8
theorem iw_X11_seat_X0 : ∀ w ∈ wsX00, w ∈ wsX11_seat := by decide +kernel
theorem iw_X11_seat_X11 : ∀ w ∈ wsX110, w ∈ wsX11_seat := by decide +kernel
set_option maxHeartbeats 1000000 in
set_option maxRecDepth 100000 in
theorem kX11_seat_1 (l : Launch) (dC : Nat → ClassId) (dI : Nat → Nat → Nat) (cI c2 : ClassId) (o0 : Nat) (o1 : Nat) (o2 : Nat) (o3 : Nat) (o4 : Nat) (o5 : Nat) (o6 : Nat) (o7 : Nat) (o8 : Nat) (o9 : Nat) (o10 : Nat) (o11 : Nat) (o12 : Nat) (o13 : Nat) (o14 : Nat) (o15 : Nat) (o16 : Nat) (sz : Nat) (a1 : Int32) (a1_lo : (-2147483648) ≤ a1.toInt) (a1_hi : a1.toInt ≤ (-1)) : Met l yX11_seat wsX11_seat ({ frames := 4, cells := 0, slots := 0, locals := 91 }) (va_Pc [.ref o0, .int a1] (wPre (dC, dI) [(cI, .int), (c2, .array .int)] [(o0, .inr (11, [.ref o5, .ref o2, .ref o6, .ref o7, .ref o8, .ref o9, .ref o10, .ref o11, .ref o12, .ref o13, .ref o1, .ref o14, .int 0])), (o1, .inr (0, [.ref o4, .ref o15, .ref o16, .int 0, .int 0, .int 0, .int 0, .int (-1)])), (o2, .inr (10, [.ref o3, .int 0, .int 0])), (o3, .inl (cI, 12, .inl (fun _ => (-1)))), (o4, .inl (cI, 256, .inl (fun _ => 0)))] sz)) (va_Qi (fun (r : Int32) (_ : Unit) => r = (-9)) (fun _ t => wPost (dC, dI) [(cI, .int), (c2, .array .int)] (va_A [(o0, .inr (11, [.ref o5, .ref o2, .ref o6, .ref o7, .ref o8, .ref o9, .ref o10, .ref o11, .ref o12, .ref o13, .ref o1, .ref o14, .int 0])), (o1, .inr (0, [.ref o4, .ref o15, .ref o16, .int 0, .int 0, .int 0, .int 0, .int (-1)])), (o2, .inr (10, [.ref o3, .int 0, .int 0])), (o3, .inl (cI, 12, .inl (fun _ => (-1)))), (o4, .inl (cI, 256, .inl (fun _ => 0)))] sz) [] t) (va_A [(o0, .inr (11, [.ref o5, .ref o2, .ref o6, .ref o7, .ref o8, .ref o9, .ref o10, .ref o11, .ref o12, .ref o13, .ref o1, .ref o14, .int 0])), (o1, .inr (0, [.ref o4, .ref o15, .ref o16, .int 0, .int 0, .int 0, .int 0, .int (-1)])), (o2, .inr (10, [.ref o3, .int 0, .int 0])), (o3, .inl (cI, 12, .inl (fun _ => (-1)))), (o4, .inl (cI, 256, .inl (fun _ => 0)))] sz)) 0 0 (va_A [(o0, .inr (11, [.ref o5, .ref o2, .ref o6, .ref o7, .ref o8, .ref o9, .ref o10, .ref o11, .ref o12, .ref o13, .ref o1, .ref o14, .int 0])), (o1, .inr (0, [.ref o4, .ref o15, .ref o16, .int 0, .int 0, .int 0, .int 0, .int (-1)])), (o2, .inr (10, [.ref o3, .int 0, .int 0])), (o3, .inl (cI, 12, .inl (fun _ => (-1)))), (o4, .inl (cI, 256, .inl (fun _ => 0)))] sz) := by
  refine Met.ofW (cc := cX11_seat) (maxL := 2) (ret := (some .int)) (by decide) rfl ?_
  intro p e s m args below meth c s₁ B hml hv
  obtain ⟨rfl, hsz, hP, hK, hD0, hN⟩ := hv
  have hx := B.exec
  have hb := B.bytes
  have hr := B.returns
  have hts := atoms_spec (ws := wsX11_seat) B.pre
  have hown : s.vm.findClass RX11 = some m.cls := findClass_of_methodNamed B.named
  have hlocks := B.notSynchronized
  subst hsz
  have hD := hD0.self (sz := s.heap.size)
  generalize hAe : va_A [(o0, .inr (11, [.ref o5, .ref o2, .ref o6, .ref o7, .ref o8, .ref o9, .ref o10, .ref o11, .ref o12, .ref o13, .ref o1, .ref o14, .int 0])), (o1, .inr (0, [.ref o4, .ref o15, .ref o16, .int 0, .int 0, .int 0, .int 0, .int (-1)])), (o2, .inr (10, [.ref o3, .int 0, .int 0])), (o3, .inl (cI, 12, .inl (fun _ => (-1)))), (o4, .inl (cI, 256, .inl (fun _ => 0)))] s.heap.size = A at hD ⊢
  have hA : ∀ q : Nat, s.heap.size ≤ q → A q := fun q h => by rw [← hAe]; exact Or.inr h
  have hS : va_S A s.heap s.heap [] := va_S.rf
  have hP : va_P (dC, dI) vwCl [(o0, .inr (11, [.ref o5, .ref o2, .ref o6, .ref o7, .ref o8, .ref o9, .ref o10, .ref o11, .ref o12, .ref o13, .ref o1, .ref o14, .int 0])), (o1, .inr (0, [.ref o4, .ref o15, .ref o16, .int 0, .int 0, .int 0, .int 0, .int (-1)])), (o2, .inr (10, [.ref o3, .int 0, .int 0])), (o3, .inl (cI, 12, .inl (fun _ => (-1)))), (o4, .inl (cI, 256, .inl (fun _ => 0)))] s.heap := hP
  have hl := lv_entry ([.ref o0, .int a1]) (n := 2) (Nat.le_of_ble_eq_true rfl)
  rw [lg_entry_eq]
  generalize (lg_sl ([.ref o0, .int a1]) ++ List.replicate (2 - (lg_sl ([.ref o0, .int a1])).length) Slot.unset).toArray = ls at hl ⊢
  have hl : lv_has ls 2 [(0, .ref o0), (1, .int a1)] := hl
  refine lv_aload_n hx hb dX11_seat_0 rfl (lv_at hl 0 rfl) ?_
  refine kcall_v (D := (dC, dI)) (S := Unit) (wc := [(o0, .inr (11, [.ref o5, .ref o2, .ref o6, .ref o7, .ref o8, .ref o9, .ref o10, .ref o11, .ref o12, .ref o13, .ref o1, .ref o14, .int 0])), (o1, .inr (0, [.ref o4, .ref o15, .ref o16, .int 0, .int 0, .int 0, .int 0, .int (-1)])), (o2, .inr (10, [.ref o3, .int 0, .int 0])), (o3, .inl (cI, 12, .inl (fun _ => (-1)))), (o4, .inl (cI, 256, .inl (fun _ => 0)))]) (wr := []) (w1 := fun _ => [(o0, .inr (11, [.ref o5, .ref o2, .ref o6, .ref o7, .ref o8, .ref o9, .ref o10, .ref o11, .ref o12, .ref o13, .ref o1, .ref o14, .int 0])), (o2, .inr (10, [.ref o3, .int 0, .int 0])), (o3, .inl (cI, 12, .inl (fun _ => (-1)))), (o1, .inr (0, [.ref o4, .ref o15, .ref o16, .int 0, .int 0, .int 1, .int 1, .int 0])), (o4, .inl (cI, 256, .inl (upd (upd (upd (fun _ => 0) (Int32.toNatClampNeg 0) 0) (Int32.toNatClampNeg 0) 0) (Int32.toNatClampNeg 0) 1)))]) (fun hPc hDc => va_runV (As := []) (rest := []) ⟨hx, hb, hml, hown, hts⟩ (kX11_bringSeats_1 l dC dI cI c2 o0 o1 o2 o3 o4 o5 o6 o7 o8 o9 o10 o11 o12 o13 o14 o15 o16 s.heap.size) (cwV 0 hts gX11_seat_X11_bringSeats rfl rfl rfl (by decide +kernel) ⟨Nat.le_of_ble_eq_true rfl, Nat.le_of_ble_eq_true rfl⟩) (pre_V hPc hK hDc hN (ci := 11) (q0 := 0) rfl rfl) rfl rfl hl.1 rfl (lv_room (Nat.le_of_ble_eq_true rfl)) dX11_seat_1 ⟨Nat.le_of_ble_eq_true rfl, Nat.le_of_ble_eq_true rfl⟩) hP hD hS hA [0, 1, 2, 3, 4] [] rfl rfl (by decide) (by decide) (by decide) (fun u H locs hP hD hS => ?_)
  have hP : va_P (dC, dI) vwCl [(o0, .inr (11, [.ref o5, .ref o2, .ref o6, .ref o7, .ref o8, .ref o9, .ref o10, .ref o11, .ref o12, .ref o13, .ref o1, .ref o14, .int 0])), (o2, .inr (10, [.ref o3, .int 0, .int 0])), (o3, .inl (cI, 12, .inl (fun _ => (-1)))), (o1, .inr (0, [.ref o4, .ref o15, .ref o16, .int 0, .int 0, .int 1, .int 1, .int 0])), (o4, .inl (cI, 256, .inl (upd (upd (upd (fun _ => 0) (Int32.toNatClampNeg 0) 0) (Int32.toNatClampNeg 0) 0) (Int32.toNatClampNeg 0) 1)))] H := hP
  have hD : va_D A [(o0, .inr (11, [.ref o5, .ref o2, .ref o6, .ref o7, .ref o8, .ref o9, .ref o10, .ref o11, .ref o12, .ref o13, .ref o1, .ref o14, .int 0])), (o2, .inr (10, [.ref o3, .int 0, .int 0])), (o3, .inl (cI, 12, .inl (fun _ => (-1)))), (o1, .inr (0, [.ref o4, .ref o15, .ref o16, .int 0, .int 0, .int 1, .int 1, .int 0])), (o4, .inl (cI, 256, .inl (upd (upd (upd (fun _ => 0) (Int32.toNatClampNeg 0) 0) (Int32.toNatClampNeg 0) 0) (Int32.toNatClampNeg 0) 1)))] := hD
  refine lv_aload_n hx hb dX11_seat_4 rfl (lv_at hl 0 rfl) ?_
  refine va_get (D := (dC, dI)) (ci := 11) (v := .ref o1) (C := RX11) (T := TX11) (N := 13) hx hb hts iw_X11_seat_X11 hown hK hP 0 rfl rfl 10 (by decide) (hts (.fieldLink RX11 79 "HolelessHouse" "seats" "LHolelessHouse$Benches;") (by decide +kernel)) (fun _ h9 => h9) rfl dX11_seat_5 ?_
  refine va_getN (D := (dC, dI)) (ci := 0) (v := .int 1) (C := RX0) (T := TX0) (N := 8) hx hb hts iw_X11_seat_X0 hown hK hP 3 rfl rfl 6 (by decide) (hN.use ns_46) (fun _ h9 => h9) rfl dX11_seat_8 ?_
  refine lv_if_eq (tgt := 41) hx hb dX11_seat_11 (by decide) (fun h9 => absurd h9 (by decide +kernel)) (fun _ => ?_)
  refine lv_iload_n hx hb dX11_seat_14 rfl (lv_at hl 1 rfl) ?_
  refine lv_if_lt (tgt := 41) hx hb dX11_seat_15 (by decide) (fun _ => ?_) (fun h9 => absurd (ib_lt (X := a1.toInt) (Y := 0) rfl (by decide +kernel) (by omega)) h9)
  refine lv_bipush (v := (-9)) hx hb dX11_seat_41 (by decide) ?_
  have hP9 := hP.sub (ws' := []) [] rfl
  have hD9 := hD.sub (ws' := []) [] (by decide) rfl
  exact W.iret (v := (-9)) hx hb hr (fun t ht hW => ⟨⟨(-9), (), rfl, rfl, by rw [ht]; exact hP9, va_K.moved hW.alike hK, hD9⟩, hS.F ht⟩) hS.2.2 dX11_seat_43
theorem iw_X12_seat__X12 : ∀ w ∈ wsX120, w ∈ wsX12_seat_ := by decide +kernel
set_option maxHeartbeats 1000000 in
set_option maxRecDepth 100000 in
theorem kX12_seat__1 (l : Launch) (dC : Nat → ClassId) (dI : Nat → Nat → Nat) (cI c2 : ClassId) (o0 : Nat) (o1 : Nat) (o2 : Nat) (o3 : Nat) (o4 : Nat) (o5 : Nat) (o6 : Nat) (o7 : Nat) (o8 : Nat) (o9 : Nat) (o10 : Nat) (o11 : Nat) (o12 : Nat) (o13 : Nat) (o14 : Nat) (o15 : Nat) (o16 : Nat) (o17 : Nat) (o18 : Nat) (sz : Nat) (a1 : Int32) (a1_lo : (-2147483648) ≤ a1.toInt) (a1_hi : a1.toInt ≤ (-1)) : Met l yX12_seat_ wsX12_seat_ ({ frames := 2, cells := 0, slots := 0, locals := 47 }) (va_Pc [.ref o0, .int a1] (wPre (dC, dI) [(cI, .int), (c2, .array .int)] [(o0, .inr (12, [.int 0, .ref o1, .int 0, .ref o2, .int 0, .ref o3, .ref o4, .int 0, .ref o5, .int 0, .ref o6, .int (-9), .int 0, .int 0, .ref o7, .ref o8, .ref o9, .ref o10, .ref o11, .int 0, .ref o12, .ref o13, .ref o14, .int 0, .ref o15, .ref o16, .ref o17, .int 0, .ref o18]))] sz)) (va_Qi (fun (r : Int32) (_ : Unit) => r = (-9)) (fun _ t => wPost (dC, dI) [(cI, .int), (c2, .array .int)] (va_A [(o0, .inr (12, [.int 0, .ref o1, .int 0, .ref o2, .int 0, .ref o3, .ref o4, .int 0, .ref o5, .int 0, .ref o6, .int (-9), .int 0, .int 0, .ref o7, .ref o8, .ref o9, .ref o10, .ref o11, .int 0, .ref o12, .ref o13, .ref o14, .int 0, .ref o15, .ref o16, .ref o17, .int 0, .ref o18]))] sz) [] t) (va_A [(o0, .inr (12, [.int 0, .ref o1, .int 0, .ref o2, .int 0, .ref o3, .ref o4, .int 0, .ref o5, .int 0, .ref o6, .int (-9), .int 0, .int 0, .ref o7, .ref o8, .ref o9, .ref o10, .ref o11, .int 0, .ref o12, .ref o13, .ref o14, .int 0, .ref o15, .ref o16, .ref o17, .int 0, .ref o18]))] sz)) 0 0 (va_A [(o0, .inr (12, [.int 0, .ref o1, .int 0, .ref o2, .int 0, .ref o3, .ref o4, .int 0, .ref o5, .int 0, .ref o6, .int (-9), .int 0, .int 0, .ref o7, .ref o8, .ref o9, .ref o10, .ref o11, .int 0, .ref o12, .ref o13, .ref o14, .int 0, .ref o15, .ref o16, .ref o17, .int 0, .ref o18]))] sz) := by
  refine Met.ofW (cc := cX12_seat_) (maxL := 2) (ret := (some .int)) (by decide) rfl ?_
  intro p e s m args below meth c s₁ B hml hv
  obtain ⟨rfl, hsz, hP, hK, hD0, hN⟩ := hv
  have hx := B.exec
  have hb := B.bytes
  have hr := B.returns
  have hts := atoms_spec (ws := wsX12_seat_) B.pre
  have hown : s.vm.findClass RX12 = some m.cls := findClass_of_methodNamed B.named
  have hlocks := B.notSynchronized
  subst hsz
  have hD := hD0.self (sz := s.heap.size)
  generalize hAe : va_A [(o0, .inr (12, [.int 0, .ref o1, .int 0, .ref o2, .int 0, .ref o3, .ref o4, .int 0, .ref o5, .int 0, .ref o6, .int (-9), .int 0, .int 0, .ref o7, .ref o8, .ref o9, .ref o10, .ref o11, .int 0, .ref o12, .ref o13, .ref o14, .int 0, .ref o15, .ref o16, .ref o17, .int 0, .ref o18]))] s.heap.size = A at hD ⊢
  have hA : ∀ q : Nat, s.heap.size ≤ q → A q := fun q h => by rw [← hAe]; exact Or.inr h
  have hS : va_S A s.heap s.heap [] := va_S.rf
  have hP : va_P (dC, dI) vwCl [(o0, .inr (12, [.int 0, .ref o1, .int 0, .ref o2, .int 0, .ref o3, .ref o4, .int 0, .ref o5, .int 0, .ref o6, .int (-9), .int 0, .int 0, .ref o7, .ref o8, .ref o9, .ref o10, .ref o11, .int 0, .ref o12, .ref o13, .ref o14, .int 0, .ref o15, .ref o16, .ref o17, .int 0, .ref o18]))] s.heap := hP
  have hl := lv_entry ([.ref o0, .int a1]) (n := 2) (Nat.le_of_ble_eq_true rfl)
  rw [lg_entry_eq]
  generalize (lg_sl ([.ref o0, .int a1]) ++ List.replicate (2 - (lg_sl ([.ref o0, .int a1])).length) Slot.unset).toArray = ls at hl ⊢
  have hl : lv_has ls 2 [(0, .ref o0), (1, .int a1)] := hl
  refine lv_aload_n hx hb dX12_seat__0 rfl (lv_at hl 0 rfl) ?_
  refine kcall_v (D := (dC, dI)) (S := Unit) (wc := [(o0, .inr (12, [.int 0, .ref o1, .int 0, .ref o2, .int 0, .ref o3, .ref o4, .int 0, .ref o5, .int 0, .ref o6, .int (-9), .int 0, .int 0, .ref o7, .ref o8, .ref o9, .ref o10, .ref o11, .int 0, .ref o12, .ref o13, .ref o14, .int 0, .ref o15, .ref o16, .ref o17, .int 0, .ref o18]))]) (wr := []) (w1 := fun _ => [(o0, .inr (12, [.int 0, .ref o1, .int 0, .ref o2, .int 0, .ref o3, .ref o4, .int 0, .ref o5, .int 0, .ref o6, .int (-9), .int 0, .int 0, .ref o7, .ref o8, .ref o9, .ref o10, .ref o11, .int 0, .ref o12, .ref o13, .ref o14, .int 0, .ref o15, .ref o16, .ref o17, .int 0, .ref o18]))]) (fun hPc hDc => va_runV (As := []) (rest := []) ⟨hx, hb, hml, hown, hts⟩ (kX12_seat_1 l dC dI cI c2 o0 o1 o2 o3 o4 o5 o6 o7 o8 o9 o10 o11 o12 o13 o14 o15 o16 o17 o18 s.heap.size) (cwV 0 hts gX12_seat__X12_seat rfl rfl rfl (by decide +kernel) ⟨Nat.le_of_ble_eq_true rfl, Nat.le_of_ble_eq_true rfl⟩) (pre_V hPc hK hDc hN (ci := 12) (q0 := 0) rfl rfl) rfl rfl hl.1 rfl (lv_room (Nat.le_of_ble_eq_true rfl)) dX12_seat__1 ⟨Nat.le_of_ble_eq_true rfl, Nat.le_of_ble_eq_true rfl⟩) hP hD hS hA [0] [] rfl rfl (by decide) (by decide) (by decide) (fun u H locs hP hD hS => ?_)
  have hP : va_P (dC, dI) vwCl [(o0, .inr (12, [.int 0, .ref o1, .int 0, .ref o2, .int 0, .ref o3, .ref o4, .int 0, .ref o5, .int 0, .ref o6, .int (-9), .int 0, .int 0, .ref o7, .ref o8, .ref o9, .ref o10, .ref o11, .int 0, .ref o12, .ref o13, .ref o14, .int 0, .ref o15, .ref o16, .ref o17, .int 0, .ref o18]))] H := hP
  have hD : va_D A [(o0, .inr (12, [.int 0, .ref o1, .int 0, .ref o2, .int 0, .ref o3, .ref o4, .int 0, .ref o5, .int 0, .ref o6, .int (-9), .int 0, .int 0, .ref o7, .ref o8, .ref o9, .ref o10, .ref o11, .int 0, .ref o12, .ref o13, .ref o14, .int 0, .ref o15, .ref o16, .ref o17, .int 0, .ref o18]))] := hD
  refine lv_aload_n hx hb dX12_seat__4 rfl (lv_at hl 0 rfl) ?_
  refine va_get (D := (dC, dI)) (ci := 12) (v := .int 0) (C := RX12) (T := TX12) (N := 29) hx hb hts iw_X12_seat__X12 hown hK hP 0 rfl rfl 27 (by decide) (hts (.fieldLink RX12 197 "HolelessHouseModel" "lined" "I") (by decide +kernel)) (fun _ h9 => h9) rfl dX12_seat__5 ?_
  refine lv_aload_n hx hb dX12_seat__8 rfl (lv_at hl 0 rfl) ?_
  refine va_get (D := (dC, dI)) (ci := 12) (v := .int 0) (C := RX12) (T := TX12) (N := 29) hx hb hts iw_X12_seat__X12 hown hK hP 0 rfl rfl 4 (by decide) (hts (.fieldLink RX12 128 "HolelessHouseModel" "columns" "I") (by decide +kernel)) (fun _ h9 => h9) rfl dX12_seat__9 ?_
  refine lv_icmp_ne (tgt := 38) hx hb dX12_seat__12 (by decide) (fun h9 => absurd (by decide +kernel) h9) (fun _ => ?_)
  refine lv_iload_n hx hb dX12_seat__15 rfl (lv_at hl 1 rfl) ?_
  refine lv_iconst (v := 0) hx hb dX12_seat__16 (by decide) ?_
  refine lv_aload_n hx hb dX12_seat__17 rfl (lv_at hl 0 rfl) ?_
  refine va_get (D := (dC, dI)) (ci := 12) (v := .int 0) (C := RX12) (T := TX12) (N := 29) hx hb hts iw_X12_seat__X12 hown hK hP 0 rfl rfl 27 (by decide) (hts (.fieldLink RX12 197 "HolelessHouseModel" "lined" "I") (by decide +kernel)) (fun _ h9 => h9) rfl dX12_seat__18 ?_
  refine lv_iconst (v := 1) hx hb dX12_seat__21 (by decide) ?_
  refine lv_isub hx hb dX12_seat__22 (tk_i (v := (-1)) (by decide +kernel) ?_)
  refine kcall_i (D := (dC, dI)) (S := Unit) (v := 0) (wc := []) (wr := [(o0, .inr (12, [.int 0, .ref o1, .int 0, .ref o2, .int 0, .ref o3, .ref o4, .int 0, .ref o5, .int 0, .ref o6, .int (-9), .int 0, .int 0, .ref o7, .ref o8, .ref o9, .ref o10, .ref o11, .int 0, .ref o12, .ref o13, .ref o14, .int 0, .ref o15, .ref o16, .ref o17, .int 0, .ref o18]))]) (w1 := fun _ => []) (fun hPc hDc => va_runS (As := [.int a1, .int 0, .int (-1)]) (rest := []) ⟨hx, hb, hml, hown, hts⟩ (kX12_in_4 l dC dI cI c2 H.size a1 (by omega) (by omega)) (va_cwS 3 hts gX12_seat__X12_in rfl rfl rfl (by decide +kernel) ⟨Nat.le_of_ble_eq_true rfl, Nat.le_of_ble_eq_true rfl⟩) (pre_S hPc hK hDc hN) rfl rfl hl.1 rfl (lv_room (Nat.le_of_ble_eq_true rfl)) dX12_seat__23 ⟨Nat.le_of_ble_eq_true rfl, Nat.le_of_ble_eq_true rfl⟩) hP hD hS hA [] [0] rfl rfl (by decide) (by decide) (by decide) (fun u H locs hP hD hS => ?_)
  have hP : va_P (dC, dI) vwCl [(o0, .inr (12, [.int 0, .ref o1, .int 0, .ref o2, .int 0, .ref o3, .ref o4, .int 0, .ref o5, .int 0, .ref o6, .int (-9), .int 0, .int 0, .ref o7, .ref o8, .ref o9, .ref o10, .ref o11, .int 0, .ref o12, .ref o13, .ref o14, .int 0, .ref o15, .ref o16, .ref o17, .int 0, .ref o18]))] H := hP
  have hD : va_D A [(o0, .inr (12, [.int 0, .ref o1, .int 0, .ref o2, .int 0, .ref o3, .ref o4, .int 0, .ref o5, .int 0, .ref o6, .int (-9), .int 0, .int 0, .ref o7, .ref o8, .ref o9, .ref o10, .ref o11, .int 0, .ref o12, .ref o13, .ref o14, .int 0, .ref o15, .ref o16, .ref o17, .int 0, .ref o18]))] := hD
  refine lv_if_eq (tgt := 38) hx hb dX12_seat__26 (by decide) (fun _ => ?_) (fun h9 => absurd (by decide +kernel) h9)
  refine lv_bipush (v := (-9)) hx hb dX12_seat__38 (by decide) ?_
  have hP9 := hP.sub (ws' := []) [] rfl
  have hD9 := hD.sub (ws' := []) [] (by decide) rfl
  exact W.iret (v := (-9)) hx hb hr (fun t ht hW => ⟨⟨(-9), (), rfl, rfl, by rw [ht]; exact hP9, va_K.moved hW.alike hK, hD9⟩, hS.F ht⟩) hS.2.2 dX12_seat__40
set_option maxHeartbeats 1000000 in
set_option maxRecDepth 100000 in
theorem kX11_seat_2 (l : Launch) (dC : Nat → ClassId) (dI : Nat → Nat → Nat) (cI c2 : ClassId) (o0 : Nat) (o1 : Nat) (o2 : Nat) (o3 : Nat) (o4 : Nat) (o5 : Nat) (o6 : Nat) (o7 : Nat) (o8 : Nat) (o9 : Nat) (o10 : Nat) (o11 : Nat) (o12 : Nat) (o13 : Nat) (o14 : Nat) (o15 : Nat) (o16 : Nat) (sz : Nat) (a1 : Int32) (a1_lo : 0 ≤ a1.toInt) (a1_hi : a1.toInt ≤ 2147483647) : Met l yX11_seat wsX11_seat ({ frames := 4, cells := 0, slots := 0, locals := 91 }) (va_Pc [.ref o0, .int a1] (wPre (dC, dI) [(cI, .int), (c2, .array .int)] [(o0, .inr (11, [.ref o5, .ref o2, .ref o6, .ref o7, .ref o8, .ref o9, .ref o10, .ref o11, .ref o12, .ref o13, .ref o1, .ref o14, .int 0])), (o1, .inr (0, [.ref o4, .ref o15, .ref o16, .int 0, .int 0, .int 0, .int 0, .int (-1)])), (o2, .inr (10, [.ref o3, .int 0, .int 0])), (o3, .inl (cI, 12, .inl (fun _ => (-1)))), (o4, .inl (cI, 256, .inl (fun _ => 0)))] sz)) (va_Qi (fun (r : Int32) (_ : Unit) => r = (-9)) (fun _ t => wPost (dC, dI) [(cI, .int), (c2, .array .int)] (va_A [(o0, .inr (11, [.ref o5, .ref o2, .ref o6, .ref o7, .ref o8, .ref o9, .ref o10, .ref o11, .ref o12, .ref o13, .ref o1, .ref o14, .int 0])), (o1, .inr (0, [.ref o4, .ref o15, .ref o16, .int 0, .int 0, .int 0, .int 0, .int (-1)])), (o2, .inr (10, [.ref o3, .int 0, .int 0])), (o3, .inl (cI, 12, .inl (fun _ => (-1)))), (o4, .inl (cI, 256, .inl (fun _ => 0)))] sz) [] t) (va_A [(o0, .inr (11, [.ref o5, .ref o2, .ref o6, .ref o7, .ref o8, .ref o9, .ref o10, .ref o11, .ref o12, .ref o13, .ref o1, .ref o14, .int 0])), (o1, .inr (0, [.ref o4, .ref o15, .ref o16, .int 0, .int 0, .int 0, .int 0, .int (-1)])), (o2, .inr (10, [.ref o3, .int 0, .int 0])), (o3, .inl (cI, 12, .inl (fun _ => (-1)))), (o4, .inl (cI, 256, .inl (fun _ => 0)))] sz)) 0 0 (va_A [(o0, .inr (11, [.ref o5, .ref o2, .ref o6, .ref o7, .ref o8, .ref o9, .ref o10, .ref o11, .ref o12, .ref o13, .ref o1, .ref o14, .int 0])), (o1, .inr (0, [.ref o4, .ref o15, .ref o16, .int 0, .int 0, .int 0, .int 0, .int (-1)])), (o2, .inr (10, [.ref o3, .int 0, .int 0])), (o3, .inl (cI, 12, .inl (fun _ => (-1)))), (o4, .inl (cI, 256, .inl (fun _ => 0)))] sz) := by
  refine Met.ofW (cc := cX11_seat) (maxL := 2) (ret := (some .int)) (by decide) rfl ?_
  intro p e s m args below meth c s₁ B hml hv
  obtain ⟨rfl, hsz, hP, hK, hD0, hN⟩ := hv
  have hx := B.exec
  have hb := B.bytes
  have hr := B.returns
  have hts := atoms_spec (ws := wsX11_seat) B.pre
  have hown : s.vm.findClass RX11 = some m.cls := findClass_of_methodNamed B.named
  have hlocks := B.notSynchronized
  subst hsz
  have hD := hD0.self (sz := s.heap.size)
  generalize hAe : va_A [(o0, .inr (11, [.ref o5, .ref o2, .ref o6, .ref o7, .ref o8, .ref o9, .ref o10, .ref o11, .ref o12, .ref o13, .ref o1, .ref o14, .int 0])), (o1, .inr (0, [.ref o4, .ref o15, .ref o16, .int 0, .int 0, .int 0, .int 0, .int (-1)])), (o2, .inr (10, [.ref o3, .int 0, .int 0])), (o3, .inl (cI, 12, .inl (fun _ => (-1)))), (o4, .inl (cI, 256, .inl (fun _ => 0)))] s.heap.size = A at hD ⊢
  have hA : ∀ q : Nat, s.heap.size ≤ q → A q := fun q h => by rw [← hAe]; exact Or.inr h
  have hS : va_S A s.heap s.heap [] := va_S.rf
  have hP : va_P (dC, dI) vwCl [(o0, .inr (11, [.ref o5, .ref o2, .ref o6, .ref o7, .ref o8, .ref o9, .ref o10, .ref o11, .ref o12, .ref o13, .ref o1, .ref o14, .int 0])), (o1, .inr (0, [.ref o4, .ref o15, .ref o16, .int 0, .int 0, .int 0, .int 0, .int (-1)])), (o2, .inr (10, [.ref o3, .int 0, .int 0])), (o3, .inl (cI, 12, .inl (fun _ => (-1)))), (o4, .inl (cI, 256, .inl (fun _ => 0)))] s.heap := hP
  have hl := lv_entry ([.ref o0, .int a1]) (n := 2) (Nat.le_of_ble_eq_true rfl)
  rw [lg_entry_eq]
  generalize (lg_sl ([.ref o0, .int a1]) ++ List.replicate (2 - (lg_sl ([.ref o0, .int a1])).length) Slot.unset).toArray = ls at hl ⊢
  have hl : lv_has ls 2 [(0, .ref o0), (1, .int a1)] := hl
  refine lv_aload_n hx hb dX11_seat_0 rfl (lv_at hl 0 rfl) ?_
  refine kcall_v (D := (dC, dI)) (S := Unit) (wc := [(o0, .inr (11, [.ref o5, .ref o2, .ref o6, .ref o7, .ref o8, .ref o9, .ref o10, .ref o11, .ref o12, .ref o13, .ref o1, .ref o14, .int 0])), (o1, .inr (0, [.ref o4, .ref o15, .ref o16, .int 0, .int 0, .int 0, .int 0, .int (-1)])), (o2, .inr (10, [.ref o3, .int 0, .int 0])), (o3, .inl (cI, 12, .inl (fun _ => (-1)))), (o4, .inl (cI, 256, .inl (fun _ => 0)))]) (wr := []) (w1 := fun _ => [(o0, .inr (11, [.ref o5, .ref o2, .ref o6, .ref o7, .ref o8, .ref o9, .ref o10, .ref o11, .ref o12, .ref o13, .ref o1, .ref o14, .int 0])), (o2, .inr (10, [.ref o3, .int 0, .int 0])), (o3, .inl (cI, 12, .inl (fun _ => (-1)))), (o1, .inr (0, [.ref o4, .ref o15, .ref o16, .int 0, .int 0, .int 1, .int 1, .int 0])), (o4, .inl (cI, 256, .inl (upd (upd (upd (fun _ => 0) (Int32.toNatClampNeg 0) 0) (Int32.toNatClampNeg 0) 0) (Int32.toNatClampNeg 0) 1)))]) (fun hPc hDc => va_runV (As := []) (rest := []) ⟨hx, hb, hml, hown, hts⟩ (kX11_bringSeats_1 l dC dI cI c2 o0 o1 o2 o3 o4 o5 o6 o7 o8 o9 o10 o11 o12 o13 o14 o15 o16 s.heap.size) (cwV 0 hts gX11_seat_X11_bringSeats rfl rfl rfl (by decide +kernel) ⟨Nat.le_of_ble_eq_true rfl, Nat.le_of_ble_eq_true rfl⟩) (pre_V hPc hK hDc hN (ci := 11) (q0 := 0) rfl rfl) rfl rfl hl.1 rfl (lv_room (Nat.le_of_ble_eq_true rfl)) dX11_seat_1 ⟨Nat.le_of_ble_eq_true rfl, Nat.le_of_ble_eq_true rfl⟩) hP hD hS hA [0, 1, 2, 3, 4] [] rfl rfl (by decide) (by decide) (by decide) (fun u H locs hP hD hS => ?_)
  have hP : va_P (dC, dI) vwCl [(o0, .inr (11, [.ref o5, .ref o2, .ref o6, .ref o7, .ref o8, .ref o9, .ref o10, .ref o11, .ref o12, .ref o13, .ref o1, .ref o14, .int 0])), (o2, .inr (10, [.ref o3, .int 0, .int 0])), (o3, .inl (cI, 12, .inl (fun _ => (-1)))), (o1, .inr (0, [.ref o4, .ref o15, .ref o16, .int 0, .int 0, .int 1, .int 1, .int 0])), (o4, .inl (cI, 256, .inl (upd (upd (upd (fun _ => 0) (Int32.toNatClampNeg 0) 0) (Int32.toNatClampNeg 0) 0) (Int32.toNatClampNeg 0) 1)))] H := hP
  have hD : va_D A [(o0, .inr (11, [.ref o5, .ref o2, .ref o6, .ref o7, .ref o8, .ref o9, .ref o10, .ref o11, .ref o12, .ref o13, .ref o1, .ref o14, .int 0])), (o2, .inr (10, [.ref o3, .int 0, .int 0])), (o3, .inl (cI, 12, .inl (fun _ => (-1)))), (o1, .inr (0, [.ref o4, .ref o15, .ref o16, .int 0, .int 0, .int 1, .int 1, .int 0])), (o4, .inl (cI, 256, .inl (upd (upd (upd (fun _ => 0) (Int32.toNatClampNeg 0) 0) (Int32.toNatClampNeg 0) 0) (Int32.toNatClampNeg 0) 1)))] := hD
  refine lv_aload_n hx hb dX11_seat_4 rfl (lv_at hl 0 rfl) ?_
  refine va_get (D := (dC, dI)) (ci := 11) (v := .ref o1) (C := RX11) (T := TX11) (N := 13) hx hb hts iw_X11_seat_X11 hown hK hP 0 rfl rfl 10 (by decide) (hts (.fieldLink RX11 79 "HolelessHouse" "seats" "LHolelessHouse$Benches;") (by decide +kernel)) (fun _ h9 => h9) rfl dX11_seat_5 ?_
  refine va_getN (D := (dC, dI)) (ci := 0) (v := .int 1) (C := RX0) (T := TX0) (N := 8) hx hb hts iw_X11_seat_X0 hown hK hP 3 rfl rfl 6 (by decide) (hN.use ns_46) (fun _ h9 => h9) rfl dX11_seat_8 ?_
  refine lv_if_eq (tgt := 41) hx hb dX11_seat_11 (by decide) (fun h9 => absurd h9 (by decide +kernel)) (fun _ => ?_)
  refine lv_iload_n hx hb dX11_seat_14 rfl (lv_at hl 1 rfl) ?_
  refine lv_if_lt (tgt := 41) hx hb dX11_seat_15 (by decide) (fun h9 => absurd h9 (ib_nlt (X := a1.toInt) (Y := 0) rfl (by decide +kernel) (by omega))) (fun _ => ?_)
  refine lv_iload_n hx hb dX11_seat_18 rfl (lv_at hl 1 rfl) ?_
  refine lv_aload_n hx hb dX11_seat_19 rfl (lv_at hl 0 rfl) ?_
  refine va_get (D := (dC, dI)) (ci := 11) (v := .ref o1) (C := RX11) (T := TX11) (N := 13) hx hb hts iw_X11_seat_X11 hown hK hP 0 rfl rfl 10 (by decide) (hts (.fieldLink RX11 79 "HolelessHouse" "seats" "LHolelessHouse$Benches;") (by decide +kernel)) (fun _ h9 => h9) rfl dX11_seat_20 ?_
  refine va_getN (D := (dC, dI)) (ci := 0) (v := .int 0) (C := RX0) (T := TX0) (N := 8) hx hb hts iw_X11_seat_X0 hown hK hP 3 rfl rfl 4 (by decide) (hN.use ns_44) (fun _ h9 => h9) rfl dX11_seat_23 ?_
  refine lv_icmp_ge (tgt := 41) hx hb dX11_seat_26 (by decide) (fun _ => ?_) (fun h9 => absurd (ib_le (X := 0) (Y := a1.toInt) (by decide +kernel) rfl (by omega)) h9)
  refine lv_bipush (v := (-9)) hx hb dX11_seat_41 (by decide) ?_
  have hP9 := hP.sub (ws' := []) [] rfl
  have hD9 := hD.sub (ws' := []) [] (by decide) rfl
  exact W.iret (v := (-9)) hx hb hr (fun t ht hW => ⟨⟨(-9), (), rfl, rfl, by rw [ht]; exact hP9, va_K.moved hW.alike hK, hD9⟩, hS.F ht⟩) hS.2.2 dX11_seat_43
set_option maxHeartbeats 1000000 in
set_option maxRecDepth 100000 in
theorem kX12_seat__2 (l : Launch) (dC : Nat → ClassId) (dI : Nat → Nat → Nat) (cI c2 : ClassId) (o0 : Nat) (o1 : Nat) (o2 : Nat) (o3 : Nat) (o4 : Nat) (o5 : Nat) (o6 : Nat) (o7 : Nat) (o8 : Nat) (o9 : Nat) (o10 : Nat) (o11 : Nat) (o12 : Nat) (o13 : Nat) (o14 : Nat) (o15 : Nat) (o16 : Nat) (o17 : Nat) (o18 : Nat) (sz : Nat) (a1 : Int32) (a1_lo : 0 ≤ a1.toInt) (a1_hi : a1.toInt ≤ 2147483647) : Met l yX12_seat_ wsX12_seat_ ({ frames := 2, cells := 0, slots := 0, locals := 47 }) (va_Pc [.ref o0, .int a1] (wPre (dC, dI) [(cI, .int), (c2, .array .int)] [(o0, .inr (12, [.int 0, .ref o1, .int 0, .ref o2, .int 0, .ref o3, .ref o4, .int 0, .ref o5, .int 0, .ref o6, .int (-9), .int 0, .int 0, .ref o7, .ref o8, .ref o9, .ref o10, .ref o11, .int 0, .ref o12, .ref o13, .ref o14, .int 0, .ref o15, .ref o16, .ref o17, .int 0, .ref o18]))] sz)) (va_Qi (fun (r : Int32) (_ : Unit) => r = (-9)) (fun _ t => wPost (dC, dI) [(cI, .int), (c2, .array .int)] (va_A [(o0, .inr (12, [.int 0, .ref o1, .int 0, .ref o2, .int 0, .ref o3, .ref o4, .int 0, .ref o5, .int 0, .ref o6, .int (-9), .int 0, .int 0, .ref o7, .ref o8, .ref o9, .ref o10, .ref o11, .int 0, .ref o12, .ref o13, .ref o14, .int 0, .ref o15, .ref o16, .ref o17, .int 0, .ref o18]))] sz) [] t) (va_A [(o0, .inr (12, [.int 0, .ref o1, .int 0, .ref o2, .int 0, .ref o3, .ref o4, .int 0, .ref o5, .int 0, .ref o6, .int (-9), .int 0, .int 0, .ref o7, .ref o8, .ref o9, .ref o10, .ref o11, .int 0, .ref o12, .ref o13, .ref o14, .int 0, .ref o15, .ref o16, .ref o17, .int 0, .ref o18]))] sz)) 0 0 (va_A [(o0, .inr (12, [.int 0, .ref o1, .int 0, .ref o2, .int 0, .ref o3, .ref o4, .int 0, .ref o5, .int 0, .ref o6, .int (-9), .int 0, .int 0, .ref o7, .ref o8, .ref o9, .ref o10, .ref o11, .int 0, .ref o12, .ref o13, .ref o14, .int 0, .ref o15, .ref o16, .ref o17, .int 0, .ref o18]))] sz) := by
  refine Met.ofW (cc := cX12_seat_) (maxL := 2) (ret := (some .int)) (by decide) rfl ?_
  intro p e s m args below meth c s₁ B hml hv
  obtain ⟨rfl, hsz, hP, hK, hD0, hN⟩ := hv
  have hx := B.exec
  have hb := B.bytes
  have hr := B.returns
  have hts := atoms_spec (ws := wsX12_seat_) B.pre
  have hown : s.vm.findClass RX12 = some m.cls := findClass_of_methodNamed B.named
  have hlocks := B.notSynchronized
  subst hsz
  have hD := hD0.self (sz := s.heap.size)
  generalize hAe : va_A [(o0, .inr (12, [.int 0, .ref o1, .int 0, .ref o2, .int 0, .ref o3, .ref o4, .int 0, .ref o5, .int 0, .ref o6, .int (-9), .int 0, .int 0, .ref o7, .ref o8, .ref o9, .ref o10, .ref o11, .int 0, .ref o12, .ref o13, .ref o14, .int 0, .ref o15, .ref o16, .ref o17, .int 0, .ref o18]))] s.heap.size = A at hD ⊢
  have hA : ∀ q : Nat, s.heap.size ≤ q → A q := fun q h => by rw [← hAe]; exact Or.inr h
  have hS : va_S A s.heap s.heap [] := va_S.rf
  have hP : va_P (dC, dI) vwCl [(o0, .inr (12, [.int 0, .ref o1, .int 0, .ref o2, .int 0, .ref o3, .ref o4, .int 0, .ref o5, .int 0, .ref o6, .int (-9), .int 0, .int 0, .ref o7, .ref o8, .ref o9, .ref o10, .ref o11, .int 0, .ref o12, .ref o13, .ref o14, .int 0, .ref o15, .ref o16, .ref o17, .int 0, .ref o18]))] s.heap := hP
  have hl := lv_entry ([.ref o0, .int a1]) (n := 2) (Nat.le_of_ble_eq_true rfl)
  rw [lg_entry_eq]
  generalize (lg_sl ([.ref o0, .int a1]) ++ List.replicate (2 - (lg_sl ([.ref o0, .int a1])).length) Slot.unset).toArray = ls at hl ⊢
  have hl : lv_has ls 2 [(0, .ref o0), (1, .int a1)] := hl
  refine lv_aload_n hx hb dX12_seat__0 rfl (lv_at hl 0 rfl) ?_
  refine kcall_v (D := (dC, dI)) (S := Unit) (wc := [(o0, .inr (12, [.int 0, .ref o1, .int 0, .ref o2, .int 0, .ref o3, .ref o4, .int 0, .ref o5, .int 0, .ref o6, .int (-9), .int 0, .int 0, .ref o7, .ref o8, .ref o9, .ref o10, .ref o11, .int 0, .ref o12, .ref o13, .ref o14, .int 0, .ref o15, .ref o16, .ref o17, .int 0, .ref o18]))]) (wr := []) (w1 := fun _ => [(o0, .inr (12, [.int 0, .ref o1, .int 0, .ref o2, .int 0, .ref o3, .ref o4, .int 0, .ref o5, .int 0, .ref o6, .int (-9), .int 0, .int 0, .ref o7, .ref o8, .ref o9, .ref o10, .ref o11, .int 0, .ref o12, .ref o13, .ref o14, .int 0, .ref o15, .ref o16, .ref o17, .int 0, .ref o18]))]) (fun hPc hDc => va_runV (As := []) (rest := []) ⟨hx, hb, hml, hown, hts⟩ (kX12_seat_1 l dC dI cI c2 o0 o1 o2 o3 o4 o5 o6 o7 o8 o9 o10 o11 o12 o13 o14 o15 o16 o17 o18 s.heap.size) (cwV 0 hts gX12_seat__X12_seat rfl rfl rfl (by decide +kernel) ⟨Nat.le_of_ble_eq_true rfl, Nat.le_of_ble_eq_true rfl⟩) (pre_V hPc hK hDc hN (ci := 12) (q0 := 0) rfl rfl) rfl rfl hl.1 rfl (lv_room (Nat.le_of_ble_eq_true rfl)) dX12_seat__1 ⟨Nat.le_of_ble_eq_true rfl, Nat.le_of_ble_eq_true rfl⟩) hP hD hS hA [0] [] rfl rfl (by decide) (by decide) (by decide) (fun u H locs hP hD hS => ?_)
  have hP : va_P (dC, dI) vwCl [(o0, .inr (12, [.int 0, .ref o1, .int 0, .ref o2, .int 0, .ref o3, .ref o4, .int 0, .ref o5, .int 0, .ref o6, .int (-9), .int 0, .int 0, .ref o7, .ref o8, .ref o9, .ref o10, .ref o11, .int 0, .ref o12, .ref o13, .ref o14, .int 0, .ref o15, .ref o16, .ref o17, .int 0, .ref o18]))] H := hP
  have hD : va_D A [(o0, .inr (12, [.int 0, .ref o1, .int 0, .ref o2, .int 0, .ref o3, .ref o4, .int 0, .ref o5, .int 0, .ref o6, .int (-9), .int 0, .int 0, .ref o7, .ref o8, .ref o9, .ref o10, .ref o11, .int 0, .ref o12, .ref o13, .ref o14, .int 0, .ref o15, .ref o16, .ref o17, .int 0, .ref o18]))] := hD
  refine lv_aload_n hx hb dX12_seat__4 rfl (lv_at hl 0 rfl) ?_
  refine va_get (D := (dC, dI)) (ci := 12) (v := .int 0) (C := RX12) (T := TX12) (N := 29) hx hb hts iw_X12_seat__X12 hown hK hP 0 rfl rfl 27 (by decide) (hts (.fieldLink RX12 197 "HolelessHouseModel" "lined" "I") (by decide +kernel)) (fun _ h9 => h9) rfl dX12_seat__5 ?_
  refine lv_aload_n hx hb dX12_seat__8 rfl (lv_at hl 0 rfl) ?_
  refine va_get (D := (dC, dI)) (ci := 12) (v := .int 0) (C := RX12) (T := TX12) (N := 29) hx hb hts iw_X12_seat__X12 hown hK hP 0 rfl rfl 4 (by decide) (hts (.fieldLink RX12 128 "HolelessHouseModel" "columns" "I") (by decide +kernel)) (fun _ h9 => h9) rfl dX12_seat__9 ?_
  refine lv_icmp_ne (tgt := 38) hx hb dX12_seat__12 (by decide) (fun h9 => absurd (by decide +kernel) h9) (fun _ => ?_)
  refine lv_iload_n hx hb dX12_seat__15 rfl (lv_at hl 1 rfl) ?_
  refine lv_iconst (v := 0) hx hb dX12_seat__16 (by decide) ?_
  refine lv_aload_n hx hb dX12_seat__17 rfl (lv_at hl 0 rfl) ?_
  refine va_get (D := (dC, dI)) (ci := 12) (v := .int 0) (C := RX12) (T := TX12) (N := 29) hx hb hts iw_X12_seat__X12 hown hK hP 0 rfl rfl 27 (by decide) (hts (.fieldLink RX12 197 "HolelessHouseModel" "lined" "I") (by decide +kernel)) (fun _ h9 => h9) rfl dX12_seat__18 ?_
  refine lv_iconst (v := 1) hx hb dX12_seat__21 (by decide) ?_
  refine lv_isub hx hb dX12_seat__22 (tk_i (v := (-1)) (by decide +kernel) ?_)
  refine kcall_i (D := (dC, dI)) (S := Unit) (v := 0) (wc := []) (wr := [(o0, .inr (12, [.int 0, .ref o1, .int 0, .ref o2, .int 0, .ref o3, .ref o4, .int 0, .ref o5, .int 0, .ref o6, .int (-9), .int 0, .int 0, .ref o7, .ref o8, .ref o9, .ref o10, .ref o11, .int 0, .ref o12, .ref o13, .ref o14, .int 0, .ref o15, .ref o16, .ref o17, .int 0, .ref o18]))]) (w1 := fun _ => []) (fun hPc hDc => va_runS (As := [.int a1, .int 0, .int (-1)]) (rest := []) ⟨hx, hb, hml, hown, hts⟩ (kX12_in_5 l dC dI cI c2 H.size a1 (by omega) (by omega)) (va_cwS 3 hts gX12_seat__X12_in rfl rfl rfl (by decide +kernel) ⟨Nat.le_of_ble_eq_true rfl, Nat.le_of_ble_eq_true rfl⟩) (pre_S hPc hK hDc hN) rfl rfl hl.1 rfl (lv_room (Nat.le_of_ble_eq_true rfl)) dX12_seat__23 ⟨Nat.le_of_ble_eq_true rfl, Nat.le_of_ble_eq_true rfl⟩) hP hD hS hA [] [0] rfl rfl (by decide) (by decide) (by decide) (fun u H locs hP hD hS => ?_)
  have hP : va_P (dC, dI) vwCl [(o0, .inr (12, [.int 0, .ref o1, .int 0, .ref o2, .int 0, .ref o3, .ref o4, .int 0, .ref o5, .int 0, .ref o6, .int (-9), .int 0, .int 0, .ref o7, .ref o8, .ref o9, .ref o10, .ref o11, .int 0, .ref o12, .ref o13, .ref o14, .int 0, .ref o15, .ref o16, .ref o17, .int 0, .ref o18]))] H := hP
  have hD : va_D A [(o0, .inr (12, [.int 0, .ref o1, .int 0, .ref o2, .int 0, .ref o3, .ref o4, .int 0, .ref o5, .int 0, .ref o6, .int (-9), .int 0, .int 0, .ref o7, .ref o8, .ref o9, .ref o10, .ref o11, .int 0, .ref o12, .ref o13, .ref o14, .int 0, .ref o15, .ref o16, .ref o17, .int 0, .ref o18]))] := hD
  refine lv_if_eq (tgt := 38) hx hb dX12_seat__26 (by decide) (fun _ => ?_) (fun h9 => absurd (by decide +kernel) h9)
  refine lv_bipush (v := (-9)) hx hb dX12_seat__38 (by decide) ?_
  have hP9 := hP.sub (ws' := []) [] rfl
  have hD9 := hD.sub (ws' := []) [] (by decide) rfl
  exact W.iret (v := (-9)) hx hb hr (fun t ht hW => ⟨⟨(-9), (), rfl, rfl, by rw [ht]; exact hP9, va_K.moved hW.alike hK, hD9⟩, hS.F ht⟩) hS.2.2 dX12_seat__40
set_option maxHeartbeats 1000000 in
set_option maxRecDepth 100000 in
theorem kX11_count_1 (l : Launch) (dC : Nat → ClassId) (dI : Nat → Nat → Nat) (cI c2 : ClassId) (o0 : Nat) (o1 : Nat) (o2 : Nat) (o3 : Nat) (o4 : Nat) (o5 : Nat) (o6 : Nat) (o7 : Nat) (o8 : Nat) (o9 : Nat) (o10 : Nat) (o11 : Nat) (o12 : Nat) (sz : Nat) (a1 : Int32) (a1_lo : (-2147483648) ≤ a1.toInt) (a1_hi : a1.toInt ≤ (-1)) : Met l yX11_count wsX11_count ({ frames := 0, cells := 0, slots := 0, locals := 0 }) (va_Pc [.ref o0, .int a1] (wPre (dC, dI) [(cI, .int), (c2, .array .int)] [(o0, .inr (11, [.ref o1, .ref o2, .ref o3, .ref o4, .ref o5, .ref o6, .ref o7, .ref o8, .ref o9, .ref o10, .ref o11, .ref o12, .int 0]))] sz)) (va_Qi (fun (r : Int32) (_ : Unit) => r = (-1)) (fun _ t => wPost (dC, dI) [(cI, .int), (c2, .array .int)] (va_A [(o0, .inr (11, [.ref o1, .ref o2, .ref o3, .ref o4, .ref o5, .ref o6, .ref o7, .ref o8, .ref o9, .ref o10, .ref o11, .ref o12, .int 0]))] sz) [] t) (va_A [(o0, .inr (11, [.ref o1, .ref o2, .ref o3, .ref o4, .ref o5, .ref o6, .ref o7, .ref o8, .ref o9, .ref o10, .ref o11, .ref o12, .int 0]))] sz)) 0 0 (va_A [(o0, .inr (11, [.ref o1, .ref o2, .ref o3, .ref o4, .ref o5, .ref o6, .ref o7, .ref o8, .ref o9, .ref o10, .ref o11, .ref o12, .int 0]))] sz) := by
  refine Met.ofW (cc := cX11_count) (maxL := 2) (ret := (some .int)) (by decide) rfl ?_
  intro p e s m args below meth c s₁ B hml hv
  obtain ⟨rfl, hsz, hP, hK, hD0, hN⟩ := hv
  have hx := B.exec
  have hb := B.bytes
  have hr := B.returns
  have hts := atoms_spec (ws := wsX11_count) B.pre
  have hown : s.vm.findClass RX11 = some m.cls := findClass_of_methodNamed B.named
  have hlocks := B.notSynchronized
  subst hsz
  have hD := hD0.self (sz := s.heap.size)
  generalize hAe : va_A [(o0, .inr (11, [.ref o1, .ref o2, .ref o3, .ref o4, .ref o5, .ref o6, .ref o7, .ref o8, .ref o9, .ref o10, .ref o11, .ref o12, .int 0]))] s.heap.size = A at hD ⊢
  have hA : ∀ q : Nat, s.heap.size ≤ q → A q := fun q h => by rw [← hAe]; exact Or.inr h
  have hS : va_S A s.heap s.heap [] := va_S.rf
  have hP : va_P (dC, dI) vwCl [(o0, .inr (11, [.ref o1, .ref o2, .ref o3, .ref o4, .ref o5, .ref o6, .ref o7, .ref o8, .ref o9, .ref o10, .ref o11, .ref o12, .int 0]))] s.heap := hP
  have hl := lv_entry ([.ref o0, .int a1]) (n := 2) (Nat.le_of_ble_eq_true rfl)
  rw [lg_entry_eq]
  generalize (lg_sl ([.ref o0, .int a1]) ++ List.replicate (2 - (lg_sl ([.ref o0, .int a1])).length) Slot.unset).toArray = ls at hl ⊢
  have hl : lv_has ls 2 [(0, .ref o0), (1, .int a1)] := hl
  refine lv_iload_n hx hb dX11_count_0 rfl (lv_at hl 1 rfl) ?_
  refine lv_tableOut (tgt := 76) hx hb dX11_count_1 (by omega) (by decide) ?_
  refine lv_iconst (v := (-1)) hx hb dX11_count_76 (by decide) ?_
  have hP9 := hP.sub (ws' := []) [] rfl
  have hD9 := hD.sub (ws' := []) [] (by decide) rfl
  exact W.iret (v := (-1)) hx hb hr (fun t ht hW => ⟨⟨(-1), (), rfl, rfl, by rw [ht]; exact hP9, va_K.moved hW.alike hK, hD9⟩, hS.F ht⟩) hS.2.2 dX11_count_77
theorem iw_X12_count_X12 : ∀ w ∈ wsX120, w ∈ wsX12_count := by decide +kernel
set_option maxHeartbeats 1000000 in
set_option maxRecDepth 100000 in
theorem kX12_count_1 (l : Launch) (dC : Nat → ClassId) (dI : Nat → Nat → Nat) (cI c2 : ClassId) (o0 : Nat) (o1 : Nat) (o2 : Nat) (o3 : Nat) (o4 : Nat) (o5 : Nat) (o6 : Nat) (o7 : Nat) (o8 : Nat) (o9 : Nat) (o10 : Nat) (o11 : Nat) (o12 : Nat) (o13 : Nat) (o14 : Nat) (o15 : Nat) (o16 : Nat) (o17 : Nat) (o18 : Nat) (sz : Nat) (a1 : Int32) (a1_lo : (-2147483648) ≤ a1.toInt) (a1_hi : a1.toInt ≤ (-1)) : Met l yX12_count wsX12_count ({ frames := 0, cells := 0, slots := 0, locals := 0 }) (va_Pc [.ref o0, .int a1] (wPre (dC, dI) [(cI, .int), (c2, .array .int)] [(o0, .inr (12, [.int 0, .ref o2, .int 0, .ref o3, .int 0, .ref o1, .ref o4, .int 0, .ref o5, .int 0, .ref o6, .int (-9), .int 0, .int 0, .ref o7, .ref o8, .ref o9, .ref o10, .ref o11, .int 0, .ref o12, .ref o13, .ref o14, .int 0, .ref o15, .ref o16, .ref o17, .int 0, .ref o18])), (o1, .inl (cI, 12, .inl (fun _ => (-9))))] sz)) (va_Qi (fun (r : Int32) (_ : Unit) => r = (-1)) (fun _ t => wPost (dC, dI) [(cI, .int), (c2, .array .int)] (va_A [(o0, .inr (12, [.int 0, .ref o2, .int 0, .ref o3, .int 0, .ref o1, .ref o4, .int 0, .ref o5, .int 0, .ref o6, .int (-9), .int 0, .int 0, .ref o7, .ref o8, .ref o9, .ref o10, .ref o11, .int 0, .ref o12, .ref o13, .ref o14, .int 0, .ref o15, .ref o16, .ref o17, .int 0, .ref o18])), (o1, .inl (cI, 12, .inl (fun _ => (-9))))] sz) [] t) (va_A [(o0, .inr (12, [.int 0, .ref o2, .int 0, .ref o3, .int 0, .ref o1, .ref o4, .int 0, .ref o5, .int 0, .ref o6, .int (-9), .int 0, .int 0, .ref o7, .ref o8, .ref o9, .ref o10, .ref o11, .int 0, .ref o12, .ref o13, .ref o14, .int 0, .ref o15, .ref o16, .ref o17, .int 0, .ref o18])), (o1, .inl (cI, 12, .inl (fun _ => (-9))))] sz)) 0 0 (va_A [(o0, .inr (12, [.int 0, .ref o2, .int 0, .ref o3, .int 0, .ref o1, .ref o4, .int 0, .ref o5, .int 0, .ref o6, .int (-9), .int 0, .int 0, .ref o7, .ref o8, .ref o9, .ref o10, .ref o11, .int 0, .ref o12, .ref o13, .ref o14, .int 0, .ref o15, .ref o16, .ref o17, .int 0, .ref o18])), (o1, .inl (cI, 12, .inl (fun _ => (-9))))] sz) := by
  refine Met.ofW (cc := cX12_count) (maxL := 4) (ret := (some .int)) (by decide) rfl ?_
  intro p e s m args below meth c s₁ B hml hv
  obtain ⟨rfl, hsz, hP, hK, hD0, hN⟩ := hv
  have hx := B.exec
  have hb := B.bytes
  have hr := B.returns
  have hts := atoms_spec (ws := wsX12_count) B.pre
  have hown : s.vm.findClass RX12 = some m.cls := findClass_of_methodNamed B.named
  have hlocks := B.notSynchronized
  subst hsz
  have hD := hD0.self (sz := s.heap.size)
  generalize hAe : va_A [(o0, .inr (12, [.int 0, .ref o2, .int 0, .ref o3, .int 0, .ref o1, .ref o4, .int 0, .ref o5, .int 0, .ref o6, .int (-9), .int 0, .int 0, .ref o7, .ref o8, .ref o9, .ref o10, .ref o11, .int 0, .ref o12, .ref o13, .ref o14, .int 0, .ref o15, .ref o16, .ref o17, .int 0, .ref o18])), (o1, .inl (cI, 12, .inl (fun _ => (-9))))] s.heap.size = A at hD ⊢
  have hA : ∀ q : Nat, s.heap.size ≤ q → A q := fun q h => by rw [← hAe]; exact Or.inr h
  have hS : va_S A s.heap s.heap [] := va_S.rf
  have hP : va_P (dC, dI) vwCl [(o0, .inr (12, [.int 0, .ref o2, .int 0, .ref o3, .int 0, .ref o1, .ref o4, .int 0, .ref o5, .int 0, .ref o6, .int (-9), .int 0, .int 0, .ref o7, .ref o8, .ref o9, .ref o10, .ref o11, .int 0, .ref o12, .ref o13, .ref o14, .int 0, .ref o15, .ref o16, .ref o17, .int 0, .ref o18])), (o1, .inl (cI, 12, .inl (fun _ => (-9))))] s.heap := hP
  have hl := lv_entry ([.ref o0, .int a1]) (n := 4) (Nat.le_of_ble_eq_true rfl)
  rw [lg_entry_eq]
  generalize (lg_sl ([.ref o0, .int a1]) ++ List.replicate (4 - (lg_sl ([.ref o0, .int a1])).length) Slot.unset).toArray = ls at hl ⊢
  have hl : lv_has ls 4 [(0, .ref o0), (1, .int a1)] := hl
  refine lv_iconst (v := 0) hx hb dX12_count_0 (by decide) ?_
  refine lv_istore_n (lv' := [(2, .int 0), (0, .ref o0), (1, .int a1)]) hx hb dX12_count_1 rfl hl (by decide) rfl (fun ls hl => ?_)
  refine lv_iconst (v := 0) hx hb dX12_count_2 (by decide) ?_
  refine lv_istore_n (lv' := [(3, .int 0), (2, .int 0), (0, .ref o0), (1, .int a1)]) hx hb dX12_count_3 rfl hl (by decide) rfl (fun ls hl => ?_)
  refine lv_iload_n hx hb dX12_count_4 rfl (lv_at hl 0 rfl) ?_
  refine lv_bipush (v := 12) hx hb dX12_count_5 (by decide) ?_
  refine lv_icmp_ge (tgt := 33) hx hb dX12_count_7 (by decide) (fun h9 => absurd h9 (by decide +kernel)) (fun _ => ?_)
  refine lv_iload_n hx hb dX12_count_10 rfl (lv_at hl 1 rfl) ?_
  refine lv_aload_n hx hb dX12_count_11 rfl (lv_at hl 2 rfl) ?_
  refine va_get (D := (dC, dI)) (ci := 12) (v := .ref o1) (C := RX12) (T := TX12) (N := 29) hx hb hts iw_X12_count_X12 hown hK hP 0 rfl rfl 5 (by decide) (hts (.fieldLink RX12 16 "HolelessHouseModel" "rows" "[I") (by decide +kernel)) (fun _ h9 => h9) rfl dX12_count_12 ?_
  refine lv_iload_n hx hb dX12_count_15 rfl (lv_at hl 0 rfl) ?_
  refine va_iald hx hb hK hP 1 0 rfl rfl (vin (by decide +kernel)) dX12_count_16 (tk_i (v := (-9)) (by decide +kernel) ?_)
  refine lv_if_lt (tgt := 24) hx hb dX12_count_17 (by decide) (fun _ => ?_) (fun h9 => absurd (by decide +kernel) h9)
  refine lv_iconst (v := 0) hx hb dX12_count_24 (by decide) ?_
  refine lv_iadd hx hb dX12_count_25 (tk_i (v := 0) (by decide +kernel) ?_)
  refine lv_istore_n (lv' := [(2, .int 0), (3, .int 0), (0, .ref o0), (1, .int a1)]) hx hb dX12_count_26 rfl hl (by decide) rfl (fun ls hl => ?_)
  refine lv_iinc (v := 1) (lv' := [(3, .int 1), (2, .int 0), (0, .ref o0), (1, .int a1)]) hx hb dX12_count_27 hl (k := 1) rfl (by decide +kernel) (by decide) rfl (fun ls hl => ?_)
  refine lv_goto (tgt := 4) hx hb dX12_count_30 (by decide) ?_
  refine lv_iload_n hx hb dX12_count_4 rfl (lv_at hl 0 rfl) ?_
  refine lv_bipush (v := 12) hx hb dX12_count_5 (by decide) ?_
  refine lv_icmp_ge (tgt := 33) hx hb dX12_count_7 (by decide) (fun h9 => absurd h9 (by decide +kernel)) (fun _ => ?_)
  refine lv_iload_n hx hb dX12_count_10 rfl (lv_at hl 1 rfl) ?_
  refine lv_aload_n hx hb dX12_count_11 rfl (lv_at hl 2 rfl) ?_
  refine va_get (D := (dC, dI)) (ci := 12) (v := .ref o1) (C := RX12) (T := TX12) (N := 29) hx hb hts iw_X12_count_X12 hown hK hP 0 rfl rfl 5 (by decide) (hts (.fieldLink RX12 16 "HolelessHouseModel" "rows" "[I") (by decide +kernel)) (fun _ h9 => h9) rfl dX12_count_12 ?_
  refine lv_iload_n hx hb dX12_count_15 rfl (lv_at hl 0 rfl) ?_
  refine va_iald hx hb hK hP 1 0 rfl rfl (vin (by decide +kernel)) dX12_count_16 (tk_i (v := (-9)) (by decide +kernel) ?_)
  refine lv_if_lt (tgt := 24) hx hb dX12_count_17 (by decide) (fun _ => ?_) (fun h9 => absurd (by decide +kernel) h9)
  refine lv_iconst (v := 0) hx hb dX12_count_24 (by decide) ?_
  refine lv_iadd hx hb dX12_count_25 (tk_i (v := 0) (by decide +kernel) ?_)
  refine lv_istore_n (lv' := [(2, .int 0), (3, .int 1), (0, .ref o0), (1, .int a1)]) hx hb dX12_count_26 rfl hl (by decide) rfl (fun ls hl => ?_)
  refine lv_iinc (v := 2) (lv' := [(3, .int 2), (2, .int 0), (0, .ref o0), (1, .int a1)]) hx hb dX12_count_27 hl (k := 1) rfl (by decide +kernel) (by decide) rfl (fun ls hl => ?_)
  refine lv_goto (tgt := 4) hx hb dX12_count_30 (by decide) ?_
  refine lv_iload_n hx hb dX12_count_4 rfl (lv_at hl 0 rfl) ?_
  refine lv_bipush (v := 12) hx hb dX12_count_5 (by decide) ?_
  refine lv_icmp_ge (tgt := 33) hx hb dX12_count_7 (by decide) (fun h9 => absurd h9 (by decide +kernel)) (fun _ => ?_)
  refine lv_iload_n hx hb dX12_count_10 rfl (lv_at hl 1 rfl) ?_
  refine lv_aload_n hx hb dX12_count_11 rfl (lv_at hl 2 rfl) ?_
  refine va_get (D := (dC, dI)) (ci := 12) (v := .ref o1) (C := RX12) (T := TX12) (N := 29) hx hb hts iw_X12_count_X12 hown hK hP 0 rfl rfl 5 (by decide) (hts (.fieldLink RX12 16 "HolelessHouseModel" "rows" "[I") (by decide +kernel)) (fun _ h9 => h9) rfl dX12_count_12 ?_
  refine lv_iload_n hx hb dX12_count_15 rfl (lv_at hl 0 rfl) ?_
  refine va_iald hx hb hK hP 1 0 rfl rfl (vin (by decide +kernel)) dX12_count_16 (tk_i (v := (-9)) (by decide +kernel) ?_)
  refine lv_if_lt (tgt := 24) hx hb dX12_count_17 (by decide) (fun _ => ?_) (fun h9 => absurd (by decide +kernel) h9)
  refine lv_iconst (v := 0) hx hb dX12_count_24 (by decide) ?_
  refine lv_iadd hx hb dX12_count_25 (tk_i (v := 0) (by decide +kernel) ?_)
  refine lv_istore_n (lv' := [(2, .int 0), (3, .int 2), (0, .ref o0), (1, .int a1)]) hx hb dX12_count_26 rfl hl (by decide) rfl (fun ls hl => ?_)
  refine lv_iinc (v := 3) (lv' := [(3, .int 3), (2, .int 0), (0, .ref o0), (1, .int a1)]) hx hb dX12_count_27 hl (k := 1) rfl (by decide +kernel) (by decide) rfl (fun ls hl => ?_)
  refine lv_goto (tgt := 4) hx hb dX12_count_30 (by decide) ?_
  refine lv_iload_n hx hb dX12_count_4 rfl (lv_at hl 0 rfl) ?_
  refine lv_bipush (v := 12) hx hb dX12_count_5 (by decide) ?_
  refine lv_icmp_ge (tgt := 33) hx hb dX12_count_7 (by decide) (fun h9 => absurd h9 (by decide +kernel)) (fun _ => ?_)
  refine lv_iload_n hx hb dX12_count_10 rfl (lv_at hl 1 rfl) ?_
  refine lv_aload_n hx hb dX12_count_11 rfl (lv_at hl 2 rfl) ?_
  refine va_get (D := (dC, dI)) (ci := 12) (v := .ref o1) (C := RX12) (T := TX12) (N := 29) hx hb hts iw_X12_count_X12 hown hK hP 0 rfl rfl 5 (by decide) (hts (.fieldLink RX12 16 "HolelessHouseModel" "rows" "[I") (by decide +kernel)) (fun _ h9 => h9) rfl dX12_count_12 ?_
  refine lv_iload_n hx hb dX12_count_15 rfl (lv_at hl 0 rfl) ?_
  refine va_iald hx hb hK hP 1 0 rfl rfl (vin (by decide +kernel)) dX12_count_16 (tk_i (v := (-9)) (by decide +kernel) ?_)
  refine lv_if_lt (tgt := 24) hx hb dX12_count_17 (by decide) (fun _ => ?_) (fun h9 => absurd (by decide +kernel) h9)
  refine lv_iconst (v := 0) hx hb dX12_count_24 (by decide) ?_
  refine lv_iadd hx hb dX12_count_25 (tk_i (v := 0) (by decide +kernel) ?_)
  refine lv_istore_n (lv' := [(2, .int 0), (3, .int 3), (0, .ref o0), (1, .int a1)]) hx hb dX12_count_26 rfl hl (by decide) rfl (fun ls hl => ?_)
  refine lv_iinc (v := 4) (lv' := [(3, .int 4), (2, .int 0), (0, .ref o0), (1, .int a1)]) hx hb dX12_count_27 hl (k := 1) rfl (by decide +kernel) (by decide) rfl (fun ls hl => ?_)
  refine lv_goto (tgt := 4) hx hb dX12_count_30 (by decide) ?_
  refine lv_iload_n hx hb dX12_count_4 rfl (lv_at hl 0 rfl) ?_
  refine lv_bipush (v := 12) hx hb dX12_count_5 (by decide) ?_
  refine lv_icmp_ge (tgt := 33) hx hb dX12_count_7 (by decide) (fun h9 => absurd h9 (by decide +kernel)) (fun _ => ?_)
  refine lv_iload_n hx hb dX12_count_10 rfl (lv_at hl 1 rfl) ?_
  refine lv_aload_n hx hb dX12_count_11 rfl (lv_at hl 2 rfl) ?_
  refine va_get (D := (dC, dI)) (ci := 12) (v := .ref o1) (C := RX12) (T := TX12) (N := 29) hx hb hts iw_X12_count_X12 hown hK hP 0 rfl rfl 5 (by decide) (hts (.fieldLink RX12 16 "HolelessHouseModel" "rows" "[I") (by decide +kernel)) (fun _ h9 => h9) rfl dX12_count_12 ?_
  refine lv_iload_n hx hb dX12_count_15 rfl (lv_at hl 0 rfl) ?_
  refine va_iald hx hb hK hP 1 0 rfl rfl (vin (by decide +kernel)) dX12_count_16 (tk_i (v := (-9)) (by decide +kernel) ?_)
  refine lv_if_lt (tgt := 24) hx hb dX12_count_17 (by decide) (fun _ => ?_) (fun h9 => absurd (by decide +kernel) h9)
  refine lv_iconst (v := 0) hx hb dX12_count_24 (by decide) ?_
  refine lv_iadd hx hb dX12_count_25 (tk_i (v := 0) (by decide +kernel) ?_)
  refine lv_istore_n (lv' := [(2, .int 0), (3, .int 4), (0, .ref o0), (1, .int a1)]) hx hb dX12_count_26 rfl hl (by decide) rfl (fun ls hl => ?_)
  refine lv_iinc (v := 5) (lv' := [(3, .int 5), (2, .int 0), (0, .ref o0), (1, .int a1)]) hx hb dX12_count_27 hl (k := 1) rfl (by decide +kernel) (by decide) rfl (fun ls hl => ?_)
  refine lv_goto (tgt := 4) hx hb dX12_count_30 (by decide) ?_
  refine lv_iload_n hx hb dX12_count_4 rfl (lv_at hl 0 rfl) ?_
  refine lv_bipush (v := 12) hx hb dX12_count_5 (by decide) ?_
  refine lv_icmp_ge (tgt := 33) hx hb dX12_count_7 (by decide) (fun h9 => absurd h9 (by decide +kernel)) (fun _ => ?_)
  refine lv_iload_n hx hb dX12_count_10 rfl (lv_at hl 1 rfl) ?_
  refine lv_aload_n hx hb dX12_count_11 rfl (lv_at hl 2 rfl) ?_
  refine va_get (D := (dC, dI)) (ci := 12) (v := .ref o1) (C := RX12) (T := TX12) (N := 29) hx hb hts iw_X12_count_X12 hown hK hP 0 rfl rfl 5 (by decide) (hts (.fieldLink RX12 16 "HolelessHouseModel" "rows" "[I") (by decide +kernel)) (fun _ h9 => h9) rfl dX12_count_12 ?_
  refine lv_iload_n hx hb dX12_count_15 rfl (lv_at hl 0 rfl) ?_
  refine va_iald hx hb hK hP 1 0 rfl rfl (vin (by decide +kernel)) dX12_count_16 (tk_i (v := (-9)) (by decide +kernel) ?_)
  refine lv_if_lt (tgt := 24) hx hb dX12_count_17 (by decide) (fun _ => ?_) (fun h9 => absurd (by decide +kernel) h9)
  refine lv_iconst (v := 0) hx hb dX12_count_24 (by decide) ?_
  refine lv_iadd hx hb dX12_count_25 (tk_i (v := 0) (by decide +kernel) ?_)
  refine lv_istore_n (lv' := [(2, .int 0), (3, .int 5), (0, .ref o0), (1, .int a1)]) hx hb dX12_count_26 rfl hl (by decide) rfl (fun ls hl => ?_)
  refine lv_iinc (v := 6) (lv' := [(3, .int 6), (2, .int 0), (0, .ref o0), (1, .int a1)]) hx hb dX12_count_27 hl (k := 1) rfl (by decide +kernel) (by decide) rfl (fun ls hl => ?_)
  refine lv_goto (tgt := 4) hx hb dX12_count_30 (by decide) ?_
  refine lv_iload_n hx hb dX12_count_4 rfl (lv_at hl 0 rfl) ?_
  refine lv_bipush (v := 12) hx hb dX12_count_5 (by decide) ?_
  refine lv_icmp_ge (tgt := 33) hx hb dX12_count_7 (by decide) (fun h9 => absurd h9 (by decide +kernel)) (fun _ => ?_)
  refine lv_iload_n hx hb dX12_count_10 rfl (lv_at hl 1 rfl) ?_
  refine lv_aload_n hx hb dX12_count_11 rfl (lv_at hl 2 rfl) ?_
  refine va_get (D := (dC, dI)) (ci := 12) (v := .ref o1) (C := RX12) (T := TX12) (N := 29) hx hb hts iw_X12_count_X12 hown hK hP 0 rfl rfl 5 (by decide) (hts (.fieldLink RX12 16 "HolelessHouseModel" "rows" "[I") (by decide +kernel)) (fun _ h9 => h9) rfl dX12_count_12 ?_
  refine lv_iload_n hx hb dX12_count_15 rfl (lv_at hl 0 rfl) ?_
  refine va_iald hx hb hK hP 1 0 rfl rfl (vin (by decide +kernel)) dX12_count_16 (tk_i (v := (-9)) (by decide +kernel) ?_)
  refine lv_if_lt (tgt := 24) hx hb dX12_count_17 (by decide) (fun _ => ?_) (fun h9 => absurd (by decide +kernel) h9)
  refine lv_iconst (v := 0) hx hb dX12_count_24 (by decide) ?_
  refine lv_iadd hx hb dX12_count_25 (tk_i (v := 0) (by decide +kernel) ?_)
  refine lv_istore_n (lv' := [(2, .int 0), (3, .int 6), (0, .ref o0), (1, .int a1)]) hx hb dX12_count_26 rfl hl (by decide) rfl (fun ls hl => ?_)
  refine lv_iinc (v := 7) (lv' := [(3, .int 7), (2, .int 0), (0, .ref o0), (1, .int a1)]) hx hb dX12_count_27 hl (k := 1) rfl (by decide +kernel) (by decide) rfl (fun ls hl => ?_)
  refine lv_goto (tgt := 4) hx hb dX12_count_30 (by decide) ?_
  refine lv_iload_n hx hb dX12_count_4 rfl (lv_at hl 0 rfl) ?_
  refine lv_bipush (v := 12) hx hb dX12_count_5 (by decide) ?_
  refine lv_icmp_ge (tgt := 33) hx hb dX12_count_7 (by decide) (fun h9 => absurd h9 (by decide +kernel)) (fun _ => ?_)
  refine lv_iload_n hx hb dX12_count_10 rfl (lv_at hl 1 rfl) ?_
  refine lv_aload_n hx hb dX12_count_11 rfl (lv_at hl 2 rfl) ?_
  refine va_get (D := (dC, dI)) (ci := 12) (v := .ref o1) (C := RX12) (T := TX12) (N := 29) hx hb hts iw_X12_count_X12 hown hK hP 0 rfl rfl 5 (by decide) (hts (.fieldLink RX12 16 "HolelessHouseModel" "rows" "[I") (by decide +kernel)) (fun _ h9 => h9) rfl dX12_count_12 ?_
  refine lv_iload_n hx hb dX12_count_15 rfl (lv_at hl 0 rfl) ?_
  refine va_iald hx hb hK hP 1 0 rfl rfl (vin (by decide +kernel)) dX12_count_16 (tk_i (v := (-9)) (by decide +kernel) ?_)
  refine lv_if_lt (tgt := 24) hx hb dX12_count_17 (by decide) (fun _ => ?_) (fun h9 => absurd (by decide +kernel) h9)
  refine lv_iconst (v := 0) hx hb dX12_count_24 (by decide) ?_
  refine lv_iadd hx hb dX12_count_25 (tk_i (v := 0) (by decide +kernel) ?_)
  refine lv_istore_n (lv' := [(2, .int 0), (3, .int 7), (0, .ref o0), (1, .int a1)]) hx hb dX12_count_26 rfl hl (by decide) rfl (fun ls hl => ?_)
  refine lv_iinc (v := 8) (lv' := [(3, .int 8), (2, .int 0), (0, .ref o0), (1, .int a1)]) hx hb dX12_count_27 hl (k := 1) rfl (by decide +kernel) (by decide) rfl (fun ls hl => ?_)
  refine lv_goto (tgt := 4) hx hb dX12_count_30 (by decide) ?_
  refine lv_iload_n hx hb dX12_count_4 rfl (lv_at hl 0 rfl) ?_
  refine lv_bipush (v := 12) hx hb dX12_count_5 (by decide) ?_
  refine lv_icmp_ge (tgt := 33) hx hb dX12_count_7 (by decide) (fun h9 => absurd h9 (by decide +kernel)) (fun _ => ?_)
  refine lv_iload_n hx hb dX12_count_10 rfl (lv_at hl 1 rfl) ?_
  refine lv_aload_n hx hb dX12_count_11 rfl (lv_at hl 2 rfl) ?_
  refine va_get (D := (dC, dI)) (ci := 12) (v := .ref o1) (C := RX12) (T := TX12) (N := 29) hx hb hts iw_X12_count_X12 hown hK hP 0 rfl rfl 5 (by decide) (hts (.fieldLink RX12 16 "HolelessHouseModel" "rows" "[I") (by decide +kernel)) (fun _ h9 => h9) rfl dX12_count_12 ?_
  refine lv_iload_n hx hb dX12_count_15 rfl (lv_at hl 0 rfl) ?_
  refine va_iald hx hb hK hP 1 0 rfl rfl (vin (by decide +kernel)) dX12_count_16 (tk_i (v := (-9)) (by decide +kernel) ?_)
  refine lv_if_lt (tgt := 24) hx hb dX12_count_17 (by decide) (fun _ => ?_) (fun h9 => absurd (by decide +kernel) h9)
  refine lv_iconst (v := 0) hx hb dX12_count_24 (by decide) ?_
  refine lv_iadd hx hb dX12_count_25 (tk_i (v := 0) (by decide +kernel) ?_)
  refine lv_istore_n (lv' := [(2, .int 0), (3, .int 8), (0, .ref o0), (1, .int a1)]) hx hb dX12_count_26 rfl hl (by decide) rfl (fun ls hl => ?_)
  refine lv_iinc (v := 9) (lv' := [(3, .int 9), (2, .int 0), (0, .ref o0), (1, .int a1)]) hx hb dX12_count_27 hl (k := 1) rfl (by decide +kernel) (by decide) rfl (fun ls hl => ?_)
  refine lv_goto (tgt := 4) hx hb dX12_count_30 (by decide) ?_
  refine lv_iload_n hx hb dX12_count_4 rfl (lv_at hl 0 rfl) ?_
  refine lv_bipush (v := 12) hx hb dX12_count_5 (by decide) ?_
  refine lv_icmp_ge (tgt := 33) hx hb dX12_count_7 (by decide) (fun h9 => absurd h9 (by decide +kernel)) (fun _ => ?_)
  refine lv_iload_n hx hb dX12_count_10 rfl (lv_at hl 1 rfl) ?_
  refine lv_aload_n hx hb dX12_count_11 rfl (lv_at hl 2 rfl) ?_
  refine va_get (D := (dC, dI)) (ci := 12) (v := .ref o1) (C := RX12) (T := TX12) (N := 29) hx hb hts iw_X12_count_X12 hown hK hP 0 rfl rfl 5 (by decide) (hts (.fieldLink RX12 16 "HolelessHouseModel" "rows" "[I") (by decide +kernel)) (fun _ h9 => h9) rfl dX12_count_12 ?_
  refine lv_iload_n hx hb dX12_count_15 rfl (lv_at hl 0 rfl) ?_
  refine va_iald hx hb hK hP 1 0 rfl rfl (vin (by decide +kernel)) dX12_count_16 (tk_i (v := (-9)) (by decide +kernel) ?_)
  refine lv_if_lt (tgt := 24) hx hb dX12_count_17 (by decide) (fun _ => ?_) (fun h9 => absurd (by decide +kernel) h9)
  refine lv_iconst (v := 0) hx hb dX12_count_24 (by decide) ?_
  refine lv_iadd hx hb dX12_count_25 (tk_i (v := 0) (by decide +kernel) ?_)
  refine lv_istore_n (lv' := [(2, .int 0), (3, .int 9), (0, .ref o0), (1, .int a1)]) hx hb dX12_count_26 rfl hl (by decide) rfl (fun ls hl => ?_)
  refine lv_iinc (v := 10) (lv' := [(3, .int 10), (2, .int 0), (0, .ref o0), (1, .int a1)]) hx hb dX12_count_27 hl (k := 1) rfl (by decide +kernel) (by decide) rfl (fun ls hl => ?_)
  refine lv_goto (tgt := 4) hx hb dX12_count_30 (by decide) ?_
  refine lv_iload_n hx hb dX12_count_4 rfl (lv_at hl 0 rfl) ?_
  refine lv_bipush (v := 12) hx hb dX12_count_5 (by decide) ?_
  refine lv_icmp_ge (tgt := 33) hx hb dX12_count_7 (by decide) (fun h9 => absurd h9 (by decide +kernel)) (fun _ => ?_)
  refine lv_iload_n hx hb dX12_count_10 rfl (lv_at hl 1 rfl) ?_
  refine lv_aload_n hx hb dX12_count_11 rfl (lv_at hl 2 rfl) ?_
  refine va_get (D := (dC, dI)) (ci := 12) (v := .ref o1) (C := RX12) (T := TX12) (N := 29) hx hb hts iw_X12_count_X12 hown hK hP 0 rfl rfl 5 (by decide) (hts (.fieldLink RX12 16 "HolelessHouseModel" "rows" "[I") (by decide +kernel)) (fun _ h9 => h9) rfl dX12_count_12 ?_
  refine lv_iload_n hx hb dX12_count_15 rfl (lv_at hl 0 rfl) ?_
  refine va_iald hx hb hK hP 1 0 rfl rfl (vin (by decide +kernel)) dX12_count_16 (tk_i (v := (-9)) (by decide +kernel) ?_)
  refine lv_if_lt (tgt := 24) hx hb dX12_count_17 (by decide) (fun _ => ?_) (fun h9 => absurd (by decide +kernel) h9)
  refine lv_iconst (v := 0) hx hb dX12_count_24 (by decide) ?_
  refine lv_iadd hx hb dX12_count_25 (tk_i (v := 0) (by decide +kernel) ?_)
  refine lv_istore_n (lv' := [(2, .int 0), (3, .int 10), (0, .ref o0), (1, .int a1)]) hx hb dX12_count_26 rfl hl (by decide) rfl (fun ls hl => ?_)
  refine lv_iinc (v := 11) (lv' := [(3, .int 11), (2, .int 0), (0, .ref o0), (1, .int a1)]) hx hb dX12_count_27 hl (k := 1) rfl (by decide +kernel) (by decide) rfl (fun ls hl => ?_)
  refine lv_goto (tgt := 4) hx hb dX12_count_30 (by decide) ?_
  refine lv_iload_n hx hb dX12_count_4 rfl (lv_at hl 0 rfl) ?_
  refine lv_bipush (v := 12) hx hb dX12_count_5 (by decide) ?_
  refine lv_icmp_ge (tgt := 33) hx hb dX12_count_7 (by decide) (fun h9 => absurd h9 (by decide +kernel)) (fun _ => ?_)
  refine lv_iload_n hx hb dX12_count_10 rfl (lv_at hl 1 rfl) ?_
  refine lv_aload_n hx hb dX12_count_11 rfl (lv_at hl 2 rfl) ?_
  refine va_get (D := (dC, dI)) (ci := 12) (v := .ref o1) (C := RX12) (T := TX12) (N := 29) hx hb hts iw_X12_count_X12 hown hK hP 0 rfl rfl 5 (by decide) (hts (.fieldLink RX12 16 "HolelessHouseModel" "rows" "[I") (by decide +kernel)) (fun _ h9 => h9) rfl dX12_count_12 ?_
  refine lv_iload_n hx hb dX12_count_15 rfl (lv_at hl 0 rfl) ?_
  refine va_iald hx hb hK hP 1 0 rfl rfl (vin (by decide +kernel)) dX12_count_16 (tk_i (v := (-9)) (by decide +kernel) ?_)
  refine lv_if_lt (tgt := 24) hx hb dX12_count_17 (by decide) (fun _ => ?_) (fun h9 => absurd (by decide +kernel) h9)
  refine lv_iconst (v := 0) hx hb dX12_count_24 (by decide) ?_
  refine lv_iadd hx hb dX12_count_25 (tk_i (v := 0) (by decide +kernel) ?_)
  refine lv_istore_n (lv' := [(2, .int 0), (3, .int 11), (0, .ref o0), (1, .int a1)]) hx hb dX12_count_26 rfl hl (by decide) rfl (fun ls hl => ?_)
  refine lv_iinc (v := 12) (lv' := [(3, .int 12), (2, .int 0), (0, .ref o0), (1, .int a1)]) hx hb dX12_count_27 hl (k := 1) rfl (by decide +kernel) (by decide) rfl (fun ls hl => ?_)
  refine lv_goto (tgt := 4) hx hb dX12_count_30 (by decide) ?_
  refine lv_iload_n hx hb dX12_count_4 rfl (lv_at hl 0 rfl) ?_
  refine lv_bipush (v := 12) hx hb dX12_count_5 (by decide) ?_
  refine lv_icmp_ge (tgt := 33) hx hb dX12_count_7 (by decide) (fun _ => ?_) (fun h9 => absurd (by decide +kernel) h9)
  refine lv_iload_n hx hb dX12_count_33 rfl (lv_at hl 3 rfl) ?_
  refine lv_tableOut (tgt := 90) hx hb dX12_count_34 (by omega) (by decide) ?_
  refine lv_iconst (v := (-1)) hx hb dX12_count_90 (by decide) ?_
  have hP9 := hP.sub (ws' := []) [] rfl
  have hD9 := hD.sub (ws' := []) [] (by decide) rfl
  exact W.iret (v := (-1)) hx hb hr (fun t ht hW => ⟨⟨(-1), (), rfl, rfl, by rw [ht]; exact hP9, va_K.moved hW.alike hK, hD9⟩, hS.F ht⟩) hS.2.2 dX12_count_91
theorem iw_X11_count_X11 : ∀ w ∈ wsX110, w ∈ wsX11_count := by decide +kernel
theorem iw_X11_count_X4 : ∀ w ∈ wsX40, w ∈ wsX11_count := by decide +kernel
set_option maxHeartbeats 1000000 in
set_option maxRecDepth 100000 in
theorem kX11_count_2 (l : Launch) (dC : Nat → ClassId) (dI : Nat → Nat → Nat) (cI c2 : ClassId) (o0 : Nat) (o1 : Nat) (o2 : Nat) (o3 : Nat) (o4 : Nat) (o5 : Nat) (o6 : Nat) (o7 : Nat) (o8 : Nat) (o9 : Nat) (o10 : Nat) (o11 : Nat) (o12 : Nat) (o13 : Nat) (sz : Nat) : Met l yX11_count wsX11_count ({ frames := 0, cells := 0, slots := 0, locals := 0 }) (va_Pc [.ref o0, .int 0] (wPre (dC, dI) [(cI, .int), (c2, .array .int)] [(o0, .inr (11, [.ref o1, .ref o2, .ref o3, .ref o4, .ref o5, .ref o6, .ref o7, .ref o8, .ref o9, .ref o10, .ref o11, .ref o12, .int 0])), (o1, .inr (4, [.ref o13, .int 0, .int 0]))] sz)) (va_Qi (fun (r : Int32) (_ : Unit) => r = 0) (fun _ t => wPost (dC, dI) [(cI, .int), (c2, .array .int)] (va_A [(o0, .inr (11, [.ref o1, .ref o2, .ref o3, .ref o4, .ref o5, .ref o6, .ref o7, .ref o8, .ref o9, .ref o10, .ref o11, .ref o12, .int 0])), (o1, .inr (4, [.ref o13, .int 0, .int 0]))] sz) [] t) (va_A [(o0, .inr (11, [.ref o1, .ref o2, .ref o3, .ref o4, .ref o5, .ref o6, .ref o7, .ref o8, .ref o9, .ref o10, .ref o11, .ref o12, .int 0])), (o1, .inr (4, [.ref o13, .int 0, .int 0]))] sz)) 0 0 (va_A [(o0, .inr (11, [.ref o1, .ref o2, .ref o3, .ref o4, .ref o5, .ref o6, .ref o7, .ref o8, .ref o9, .ref o10, .ref o11, .ref o12, .int 0])), (o1, .inr (4, [.ref o13, .int 0, .int 0]))] sz) := by
  refine Met.ofW (cc := cX11_count) (maxL := 2) (ret := (some .int)) (by decide) rfl ?_
  intro p e s m args below meth c s₁ B hml hv
  obtain ⟨rfl, hsz, hP, hK, hD0, hN⟩ := hv
  have hx := B.exec
  have hb := B.bytes
  have hr := B.returns
  have hts := atoms_spec (ws := wsX11_count) B.pre
  have hown : s.vm.findClass RX11 = some m.cls := findClass_of_methodNamed B.named
  have hlocks := B.notSynchronized
  subst hsz
  have hD := hD0.self (sz := s.heap.size)
  generalize hAe : va_A [(o0, .inr (11, [.ref o1, .ref o2, .ref o3, .ref o4, .ref o5, .ref o6, .ref o7, .ref o8, .ref o9, .ref o10, .ref o11, .ref o12, .int 0])), (o1, .inr (4, [.ref o13, .int 0, .int 0]))] s.heap.size = A at hD ⊢
  have hA : ∀ q : Nat, s.heap.size ≤ q → A q := fun q h => by rw [← hAe]; exact Or.inr h
  have hS : va_S A s.heap s.heap [] := va_S.rf
  have hP : va_P (dC, dI) vwCl [(o0, .inr (11, [.ref o1, .ref o2, .ref o3, .ref o4, .ref o5, .ref o6, .ref o7, .ref o8, .ref o9, .ref o10, .ref o11, .ref o12, .int 0])), (o1, .inr (4, [.ref o13, .int 0, .int 0]))] s.heap := hP
  have hl := lv_entry ([.ref o0, .int 0]) (n := 2) (Nat.le_of_ble_eq_true rfl)
  rw [lg_entry_eq]
  generalize (lg_sl ([.ref o0, .int 0]) ++ List.replicate (2 - (lg_sl ([.ref o0, .int 0])).length) Slot.unset).toArray = ls at hl ⊢
  have hl : lv_has ls 2 [(0, .ref o0), (1, .int 0)] := hl
  refine lv_iload_n hx hb dX11_count_0 rfl (lv_at hl 1 rfl) ?_
  refine lv_tableIn (off := 35) (tgt := 36) hx hb dX11_count_1 (by decide +kernel) (by decide +kernel) (by decide +kernel) (by decide) ?_
  refine lv_aload_n hx hb dX11_count_36 rfl (lv_at hl 0 rfl) ?_
  refine va_get (D := (dC, dI)) (ci := 11) (v := .ref o1) (C := RX11) (T := TX11) (N := 13) hx hb hts iw_X11_count_X11 hown hK hP 0 rfl rfl 0 (by decide) (hts (.fieldLink RX11 10 "HolelessHouse" "graph" "LHolelessHouse$Graph;") (by decide +kernel)) (fun _ h9 => h9) rfl dX11_count_37 ?_
  refine va_getN (D := (dC, dI)) (ci := 4) (v := .int 0) (C := RX4) (T := TX4) (N := 3) hx hb hts iw_X11_count_X4 hown hK hP 1 rfl rfl 1 (by decide) (hN.use ns_14) (fun _ h9 => h9) rfl dX11_count_40 ?_
  have hP9 := hP.sub (ws' := []) [] rfl
  have hD9 := hD.sub (ws' := []) [] (by decide) rfl
  exact W.iret (v := 0) hx hb hr (fun t ht hW => ⟨⟨0, (), rfl, rfl, by rw [ht]; exact hP9, va_K.moved hW.alike hK, hD9⟩, hS.F ht⟩) hS.2.2 dX11_count_43
set_option maxHeartbeats 1000000 in
set_option maxRecDepth 100000 in
theorem kX12_count_2 (l : Launch) (dC : Nat → ClassId) (dI : Nat → Nat → Nat) (cI c2 : ClassId) (o0 : Nat) (o1 : Nat) (o2 : Nat) (o3 : Nat) (o4 : Nat) (o5 : Nat) (o6 : Nat) (o7 : Nat) (o8 : Nat) (o9 : Nat) (o10 : Nat) (o11 : Nat) (o12 : Nat) (o13 : Nat) (o14 : Nat) (o15 : Nat) (o16 : Nat) (o17 : Nat) (o18 : Nat) (sz : Nat) : Met l yX12_count wsX12_count ({ frames := 0, cells := 0, slots := 0, locals := 0 }) (va_Pc [.ref o0, .int 0] (wPre (dC, dI) [(cI, .int), (c2, .array .int)] [(o0, .inr (12, [.int 0, .ref o2, .int 0, .ref o3, .int 0, .ref o1, .ref o4, .int 0, .ref o5, .int 0, .ref o6, .int (-9), .int 0, .int 0, .ref o7, .ref o8, .ref o9, .ref o10, .ref o11, .int 0, .ref o12, .ref o13, .ref o14, .int 0, .ref o15, .ref o16, .ref o17, .int 0, .ref o18])), (o1, .inl (cI, 12, .inl (fun _ => (-9))))] sz)) (va_Qi (fun (r : Int32) (_ : Unit) => r = 0) (fun _ t => wPost (dC, dI) [(cI, .int), (c2, .array .int)] (va_A [(o0, .inr (12, [.int 0, .ref o2, .int 0, .ref o3, .int 0, .ref o1, .ref o4, .int 0, .ref o5, .int 0, .ref o6, .int (-9), .int 0, .int 0, .ref o7, .ref o8, .ref o9, .ref o10, .ref o11, .int 0, .ref o12, .ref o13, .ref o14, .int 0, .ref o15, .ref o16, .ref o17, .int 0, .ref o18])), (o1, .inl (cI, 12, .inl (fun _ => (-9))))] sz) [] t) (va_A [(o0, .inr (12, [.int 0, .ref o2, .int 0, .ref o3, .int 0, .ref o1, .ref o4, .int 0, .ref o5, .int 0, .ref o6, .int (-9), .int 0, .int 0, .ref o7, .ref o8, .ref o9, .ref o10, .ref o11, .int 0, .ref o12, .ref o13, .ref o14, .int 0, .ref o15, .ref o16, .ref o17, .int 0, .ref o18])), (o1, .inl (cI, 12, .inl (fun _ => (-9))))] sz)) 0 0 (va_A [(o0, .inr (12, [.int 0, .ref o2, .int 0, .ref o3, .int 0, .ref o1, .ref o4, .int 0, .ref o5, .int 0, .ref o6, .int (-9), .int 0, .int 0, .ref o7, .ref o8, .ref o9, .ref o10, .ref o11, .int 0, .ref o12, .ref o13, .ref o14, .int 0, .ref o15, .ref o16, .ref o17, .int 0, .ref o18])), (o1, .inl (cI, 12, .inl (fun _ => (-9))))] sz) := by
  refine Met.ofW (cc := cX12_count) (maxL := 4) (ret := (some .int)) (by decide) rfl ?_
  intro p e s m args below meth c s₁ B hml hv
  obtain ⟨rfl, hsz, hP, hK, hD0, hN⟩ := hv
  have hx := B.exec
  have hb := B.bytes
  have hr := B.returns
  have hts := atoms_spec (ws := wsX12_count) B.pre
  have hown : s.vm.findClass RX12 = some m.cls := findClass_of_methodNamed B.named
  have hlocks := B.notSynchronized
  subst hsz
  have hD := hD0.self (sz := s.heap.size)
  generalize hAe : va_A [(o0, .inr (12, [.int 0, .ref o2, .int 0, .ref o3, .int 0, .ref o1, .ref o4, .int 0, .ref o5, .int 0, .ref o6, .int (-9), .int 0, .int 0, .ref o7, .ref o8, .ref o9, .ref o10, .ref o11, .int 0, .ref o12, .ref o13, .ref o14, .int 0, .ref o15, .ref o16, .ref o17, .int 0, .ref o18])), (o1, .inl (cI, 12, .inl (fun _ => (-9))))] s.heap.size = A at hD ⊢
  have hA : ∀ q : Nat, s.heap.size ≤ q → A q := fun q h => by rw [← hAe]; exact Or.inr h
  have hS : va_S A s.heap s.heap [] := va_S.rf
  have hP : va_P (dC, dI) vwCl [(o0, .inr (12, [.int 0, .ref o2, .int 0, .ref o3, .int 0, .ref o1, .ref o4, .int 0, .ref o5, .int 0, .ref o6, .int (-9), .int 0, .int 0, .ref o7, .ref o8, .ref o9, .ref o10, .ref o11, .int 0, .ref o12, .ref o13, .ref o14, .int 0, .ref o15, .ref o16, .ref o17, .int 0, .ref o18])), (o1, .inl (cI, 12, .inl (fun _ => (-9))))] s.heap := hP
  have hl := lv_entry ([.ref o0, .int 0]) (n := 4) (Nat.le_of_ble_eq_true rfl)
  rw [lg_entry_eq]
  generalize (lg_sl ([.ref o0, .int 0]) ++ List.replicate (4 - (lg_sl ([.ref o0, .int 0])).length) Slot.unset).toArray = ls at hl ⊢
  have hl : lv_has ls 4 [(0, .ref o0), (1, .int 0)] := hl
  refine lv_iconst (v := 0) hx hb dX12_count_0 (by decide) ?_
  refine lv_istore_n (lv' := [(2, .int 0), (0, .ref o0), (1, .int 0)]) hx hb dX12_count_1 rfl hl (by decide) rfl (fun ls hl => ?_)
  refine lv_iconst (v := 0) hx hb dX12_count_2 (by decide) ?_
  refine lv_istore_n (lv' := [(3, .int 0), (2, .int 0), (0, .ref o0), (1, .int 0)]) hx hb dX12_count_3 rfl hl (by decide) rfl (fun ls hl => ?_)
  refine lv_iload_n hx hb dX12_count_4 rfl (lv_at hl 0 rfl) ?_
  refine lv_bipush (v := 12) hx hb dX12_count_5 (by decide) ?_
  refine lv_icmp_ge (tgt := 33) hx hb dX12_count_7 (by decide) (fun h9 => absurd h9 (by decide +kernel)) (fun _ => ?_)
  refine lv_iload_n hx hb dX12_count_10 rfl (lv_at hl 1 rfl) ?_
  refine lv_aload_n hx hb dX12_count_11 rfl (lv_at hl 2 rfl) ?_
  refine va_get (D := (dC, dI)) (ci := 12) (v := .ref o1) (C := RX12) (T := TX12) (N := 29) hx hb hts iw_X12_count_X12 hown hK hP 0 rfl rfl 5 (by decide) (hts (.fieldLink RX12 16 "HolelessHouseModel" "rows" "[I") (by decide +kernel)) (fun _ h9 => h9) rfl dX12_count_12 ?_
  refine lv_iload_n hx hb dX12_count_15 rfl (lv_at hl 0 rfl) ?_
  refine va_iald hx hb hK hP 1 0 rfl rfl (vin (by decide +kernel)) dX12_count_16 (tk_i (v := (-9)) (by decide +kernel) ?_)
  refine lv_if_lt (tgt := 24) hx hb dX12_count_17 (by decide) (fun _ => ?_) (fun h9 => absurd (by decide +kernel) h9)
  refine lv_iconst (v := 0) hx hb dX12_count_24 (by decide) ?_
  refine lv_iadd hx hb dX12_count_25 (tk_i (v := 0) (by decide +kernel) ?_)
  refine lv_istore_n (lv' := [(2, .int 0), (3, .int 0), (0, .ref o0), (1, .int 0)]) hx hb dX12_count_26 rfl hl (by decide) rfl (fun ls hl => ?_)
  refine lv_iinc (v := 1) (lv' := [(3, .int 1), (2, .int 0), (0, .ref o0), (1, .int 0)]) hx hb dX12_count_27 hl (k := 1) rfl (by decide +kernel) (by decide) rfl (fun ls hl => ?_)
  refine lv_goto (tgt := 4) hx hb dX12_count_30 (by decide) ?_
  refine lv_iload_n hx hb dX12_count_4 rfl (lv_at hl 0 rfl) ?_
  refine lv_bipush (v := 12) hx hb dX12_count_5 (by decide) ?_
  refine lv_icmp_ge (tgt := 33) hx hb dX12_count_7 (by decide) (fun h9 => absurd h9 (by decide +kernel)) (fun _ => ?_)
  refine lv_iload_n hx hb dX12_count_10 rfl (lv_at hl 1 rfl) ?_
  refine lv_aload_n hx hb dX12_count_11 rfl (lv_at hl 2 rfl) ?_
  refine va_get (D := (dC, dI)) (ci := 12) (v := .ref o1) (C := RX12) (T := TX12) (N := 29) hx hb hts iw_X12_count_X12 hown hK hP 0 rfl rfl 5 (by decide) (hts (.fieldLink RX12 16 "HolelessHouseModel" "rows" "[I") (by decide +kernel)) (fun _ h9 => h9) rfl dX12_count_12 ?_
  refine lv_iload_n hx hb dX12_count_15 rfl (lv_at hl 0 rfl) ?_
  refine va_iald hx hb hK hP 1 0 rfl rfl (vin (by decide +kernel)) dX12_count_16 (tk_i (v := (-9)) (by decide +kernel) ?_)
  refine lv_if_lt (tgt := 24) hx hb dX12_count_17 (by decide) (fun _ => ?_) (fun h9 => absurd (by decide +kernel) h9)
  refine lv_iconst (v := 0) hx hb dX12_count_24 (by decide) ?_
  refine lv_iadd hx hb dX12_count_25 (tk_i (v := 0) (by decide +kernel) ?_)
  refine lv_istore_n (lv' := [(2, .int 0), (3, .int 1), (0, .ref o0), (1, .int 0)]) hx hb dX12_count_26 rfl hl (by decide) rfl (fun ls hl => ?_)
  refine lv_iinc (v := 2) (lv' := [(3, .int 2), (2, .int 0), (0, .ref o0), (1, .int 0)]) hx hb dX12_count_27 hl (k := 1) rfl (by decide +kernel) (by decide) rfl (fun ls hl => ?_)
  refine lv_goto (tgt := 4) hx hb dX12_count_30 (by decide) ?_
  refine lv_iload_n hx hb dX12_count_4 rfl (lv_at hl 0 rfl) ?_
  refine lv_bipush (v := 12) hx hb dX12_count_5 (by decide) ?_
  refine lv_icmp_ge (tgt := 33) hx hb dX12_count_7 (by decide) (fun h9 => absurd h9 (by decide +kernel)) (fun _ => ?_)
  refine lv_iload_n hx hb dX12_count_10 rfl (lv_at hl 1 rfl) ?_
  refine lv_aload_n hx hb dX12_count_11 rfl (lv_at hl 2 rfl) ?_
  refine va_get (D := (dC, dI)) (ci := 12) (v := .ref o1) (C := RX12) (T := TX12) (N := 29) hx hb hts iw_X12_count_X12 hown hK hP 0 rfl rfl 5 (by decide) (hts (.fieldLink RX12 16 "HolelessHouseModel" "rows" "[I") (by decide +kernel)) (fun _ h9 => h9) rfl dX12_count_12 ?_
  refine lv_iload_n hx hb dX12_count_15 rfl (lv_at hl 0 rfl) ?_
  refine va_iald hx hb hK hP 1 0 rfl rfl (vin (by decide +kernel)) dX12_count_16 (tk_i (v := (-9)) (by decide +kernel) ?_)
  refine lv_if_lt (tgt := 24) hx hb dX12_count_17 (by decide) (fun _ => ?_) (fun h9 => absurd (by decide +kernel) h9)
  refine lv_iconst (v := 0) hx hb dX12_count_24 (by decide) ?_
  refine lv_iadd hx hb dX12_count_25 (tk_i (v := 0) (by decide +kernel) ?_)
  refine lv_istore_n (lv' := [(2, .int 0), (3, .int 2), (0, .ref o0), (1, .int 0)]) hx hb dX12_count_26 rfl hl (by decide) rfl (fun ls hl => ?_)
  refine lv_iinc (v := 3) (lv' := [(3, .int 3), (2, .int 0), (0, .ref o0), (1, .int 0)]) hx hb dX12_count_27 hl (k := 1) rfl (by decide +kernel) (by decide) rfl (fun ls hl => ?_)
  refine lv_goto (tgt := 4) hx hb dX12_count_30 (by decide) ?_
  refine lv_iload_n hx hb dX12_count_4 rfl (lv_at hl 0 rfl) ?_
  refine lv_bipush (v := 12) hx hb dX12_count_5 (by decide) ?_
  refine lv_icmp_ge (tgt := 33) hx hb dX12_count_7 (by decide) (fun h9 => absurd h9 (by decide +kernel)) (fun _ => ?_)
  refine lv_iload_n hx hb dX12_count_10 rfl (lv_at hl 1 rfl) ?_
  refine lv_aload_n hx hb dX12_count_11 rfl (lv_at hl 2 rfl) ?_
  refine va_get (D := (dC, dI)) (ci := 12) (v := .ref o1) (C := RX12) (T := TX12) (N := 29) hx hb hts iw_X12_count_X12 hown hK hP 0 rfl rfl 5 (by decide) (hts (.fieldLink RX12 16 "HolelessHouseModel" "rows" "[I") (by decide +kernel)) (fun _ h9 => h9) rfl dX12_count_12 ?_
  refine lv_iload_n hx hb dX12_count_15 rfl (lv_at hl 0 rfl) ?_
  refine va_iald hx hb hK hP 1 0 rfl rfl (vin (by decide +kernel)) dX12_count_16 (tk_i (v := (-9)) (by decide +kernel) ?_)
  refine lv_if_lt (tgt := 24) hx hb dX12_count_17 (by decide) (fun _ => ?_) (fun h9 => absurd (by decide +kernel) h9)
  refine lv_iconst (v := 0) hx hb dX12_count_24 (by decide) ?_
  refine lv_iadd hx hb dX12_count_25 (tk_i (v := 0) (by decide +kernel) ?_)
  refine lv_istore_n (lv' := [(2, .int 0), (3, .int 3), (0, .ref o0), (1, .int 0)]) hx hb dX12_count_26 rfl hl (by decide) rfl (fun ls hl => ?_)
  refine lv_iinc (v := 4) (lv' := [(3, .int 4), (2, .int 0), (0, .ref o0), (1, .int 0)]) hx hb dX12_count_27 hl (k := 1) rfl (by decide +kernel) (by decide) rfl (fun ls hl => ?_)
  refine lv_goto (tgt := 4) hx hb dX12_count_30 (by decide) ?_
  refine lv_iload_n hx hb dX12_count_4 rfl (lv_at hl 0 rfl) ?_
  refine lv_bipush (v := 12) hx hb dX12_count_5 (by decide) ?_
  refine lv_icmp_ge (tgt := 33) hx hb dX12_count_7 (by decide) (fun h9 => absurd h9 (by decide +kernel)) (fun _ => ?_)
  refine lv_iload_n hx hb dX12_count_10 rfl (lv_at hl 1 rfl) ?_
  refine lv_aload_n hx hb dX12_count_11 rfl (lv_at hl 2 rfl) ?_
  refine va_get (D := (dC, dI)) (ci := 12) (v := .ref o1) (C := RX12) (T := TX12) (N := 29) hx hb hts iw_X12_count_X12 hown hK hP 0 rfl rfl 5 (by decide) (hts (.fieldLink RX12 16 "HolelessHouseModel" "rows" "[I") (by decide +kernel)) (fun _ h9 => h9) rfl dX12_count_12 ?_
  refine lv_iload_n hx hb dX12_count_15 rfl (lv_at hl 0 rfl) ?_
  refine va_iald hx hb hK hP 1 0 rfl rfl (vin (by decide +kernel)) dX12_count_16 (tk_i (v := (-9)) (by decide +kernel) ?_)
  refine lv_if_lt (tgt := 24) hx hb dX12_count_17 (by decide) (fun _ => ?_) (fun h9 => absurd (by decide +kernel) h9)
  refine lv_iconst (v := 0) hx hb dX12_count_24 (by decide) ?_
  refine lv_iadd hx hb dX12_count_25 (tk_i (v := 0) (by decide +kernel) ?_)
  refine lv_istore_n (lv' := [(2, .int 0), (3, .int 4), (0, .ref o0), (1, .int 0)]) hx hb dX12_count_26 rfl hl (by decide) rfl (fun ls hl => ?_)
  refine lv_iinc (v := 5) (lv' := [(3, .int 5), (2, .int 0), (0, .ref o0), (1, .int 0)]) hx hb dX12_count_27 hl (k := 1) rfl (by decide +kernel) (by decide) rfl (fun ls hl => ?_)
  refine lv_goto (tgt := 4) hx hb dX12_count_30 (by decide) ?_
  refine lv_iload_n hx hb dX12_count_4 rfl (lv_at hl 0 rfl) ?_
  refine lv_bipush (v := 12) hx hb dX12_count_5 (by decide) ?_
  refine lv_icmp_ge (tgt := 33) hx hb dX12_count_7 (by decide) (fun h9 => absurd h9 (by decide +kernel)) (fun _ => ?_)
  refine lv_iload_n hx hb dX12_count_10 rfl (lv_at hl 1 rfl) ?_
  refine lv_aload_n hx hb dX12_count_11 rfl (lv_at hl 2 rfl) ?_
  refine va_get (D := (dC, dI)) (ci := 12) (v := .ref o1) (C := RX12) (T := TX12) (N := 29) hx hb hts iw_X12_count_X12 hown hK hP 0 rfl rfl 5 (by decide) (hts (.fieldLink RX12 16 "HolelessHouseModel" "rows" "[I") (by decide +kernel)) (fun _ h9 => h9) rfl dX12_count_12 ?_
  refine lv_iload_n hx hb dX12_count_15 rfl (lv_at hl 0 rfl) ?_
  refine va_iald hx hb hK hP 1 0 rfl rfl (vin (by decide +kernel)) dX12_count_16 (tk_i (v := (-9)) (by decide +kernel) ?_)
  refine lv_if_lt (tgt := 24) hx hb dX12_count_17 (by decide) (fun _ => ?_) (fun h9 => absurd (by decide +kernel) h9)
  refine lv_iconst (v := 0) hx hb dX12_count_24 (by decide) ?_
  refine lv_iadd hx hb dX12_count_25 (tk_i (v := 0) (by decide +kernel) ?_)
  refine lv_istore_n (lv' := [(2, .int 0), (3, .int 5), (0, .ref o0), (1, .int 0)]) hx hb dX12_count_26 rfl hl (by decide) rfl (fun ls hl => ?_)
  refine lv_iinc (v := 6) (lv' := [(3, .int 6), (2, .int 0), (0, .ref o0), (1, .int 0)]) hx hb dX12_count_27 hl (k := 1) rfl (by decide +kernel) (by decide) rfl (fun ls hl => ?_)
  refine lv_goto (tgt := 4) hx hb dX12_count_30 (by decide) ?_
  refine lv_iload_n hx hb dX12_count_4 rfl (lv_at hl 0 rfl) ?_
  refine lv_bipush (v := 12) hx hb dX12_count_5 (by decide) ?_
  refine lv_icmp_ge (tgt := 33) hx hb dX12_count_7 (by decide) (fun h9 => absurd h9 (by decide +kernel)) (fun _ => ?_)
  refine lv_iload_n hx hb dX12_count_10 rfl (lv_at hl 1 rfl) ?_
  refine lv_aload_n hx hb dX12_count_11 rfl (lv_at hl 2 rfl) ?_
  refine va_get (D := (dC, dI)) (ci := 12) (v := .ref o1) (C := RX12) (T := TX12) (N := 29) hx hb hts iw_X12_count_X12 hown hK hP 0 rfl rfl 5 (by decide) (hts (.fieldLink RX12 16 "HolelessHouseModel" "rows" "[I") (by decide +kernel)) (fun _ h9 => h9) rfl dX12_count_12 ?_
  refine lv_iload_n hx hb dX12_count_15 rfl (lv_at hl 0 rfl) ?_
  refine va_iald hx hb hK hP 1 0 rfl rfl (vin (by decide +kernel)) dX12_count_16 (tk_i (v := (-9)) (by decide +kernel) ?_)
  refine lv_if_lt (tgt := 24) hx hb dX12_count_17 (by decide) (fun _ => ?_) (fun h9 => absurd (by decide +kernel) h9)
  refine lv_iconst (v := 0) hx hb dX12_count_24 (by decide) ?_
  refine lv_iadd hx hb dX12_count_25 (tk_i (v := 0) (by decide +kernel) ?_)
  refine lv_istore_n (lv' := [(2, .int 0), (3, .int 6), (0, .ref o0), (1, .int 0)]) hx hb dX12_count_26 rfl hl (by decide) rfl (fun ls hl => ?_)
  refine lv_iinc (v := 7) (lv' := [(3, .int 7), (2, .int 0), (0, .ref o0), (1, .int 0)]) hx hb dX12_count_27 hl (k := 1) rfl (by decide +kernel) (by decide) rfl (fun ls hl => ?_)
  refine lv_goto (tgt := 4) hx hb dX12_count_30 (by decide) ?_
  refine lv_iload_n hx hb dX12_count_4 rfl (lv_at hl 0 rfl) ?_
  refine lv_bipush (v := 12) hx hb dX12_count_5 (by decide) ?_
  refine lv_icmp_ge (tgt := 33) hx hb dX12_count_7 (by decide) (fun h9 => absurd h9 (by decide +kernel)) (fun _ => ?_)
  refine lv_iload_n hx hb dX12_count_10 rfl (lv_at hl 1 rfl) ?_
  refine lv_aload_n hx hb dX12_count_11 rfl (lv_at hl 2 rfl) ?_
  refine va_get (D := (dC, dI)) (ci := 12) (v := .ref o1) (C := RX12) (T := TX12) (N := 29) hx hb hts iw_X12_count_X12 hown hK hP 0 rfl rfl 5 (by decide) (hts (.fieldLink RX12 16 "HolelessHouseModel" "rows" "[I") (by decide +kernel)) (fun _ h9 => h9) rfl dX12_count_12 ?_
  refine lv_iload_n hx hb dX12_count_15 rfl (lv_at hl 0 rfl) ?_
  refine va_iald hx hb hK hP 1 0 rfl rfl (vin (by decide +kernel)) dX12_count_16 (tk_i (v := (-9)) (by decide +kernel) ?_)
  refine lv_if_lt (tgt := 24) hx hb dX12_count_17 (by decide) (fun _ => ?_) (fun h9 => absurd (by decide +kernel) h9)
  refine lv_iconst (v := 0) hx hb dX12_count_24 (by decide) ?_
  refine lv_iadd hx hb dX12_count_25 (tk_i (v := 0) (by decide +kernel) ?_)
  refine lv_istore_n (lv' := [(2, .int 0), (3, .int 7), (0, .ref o0), (1, .int 0)]) hx hb dX12_count_26 rfl hl (by decide) rfl (fun ls hl => ?_)
  refine lv_iinc (v := 8) (lv' := [(3, .int 8), (2, .int 0), (0, .ref o0), (1, .int 0)]) hx hb dX12_count_27 hl (k := 1) rfl (by decide +kernel) (by decide) rfl (fun ls hl => ?_)
  refine lv_goto (tgt := 4) hx hb dX12_count_30 (by decide) ?_
  refine lv_iload_n hx hb dX12_count_4 rfl (lv_at hl 0 rfl) ?_
  refine lv_bipush (v := 12) hx hb dX12_count_5 (by decide) ?_
  refine lv_icmp_ge (tgt := 33) hx hb dX12_count_7 (by decide) (fun h9 => absurd h9 (by decide +kernel)) (fun _ => ?_)
  refine lv_iload_n hx hb dX12_count_10 rfl (lv_at hl 1 rfl) ?_
  refine lv_aload_n hx hb dX12_count_11 rfl (lv_at hl 2 rfl) ?_
  refine va_get (D := (dC, dI)) (ci := 12) (v := .ref o1) (C := RX12) (T := TX12) (N := 29) hx hb hts iw_X12_count_X12 hown hK hP 0 rfl rfl 5 (by decide) (hts (.fieldLink RX12 16 "HolelessHouseModel" "rows" "[I") (by decide +kernel)) (fun _ h9 => h9) rfl dX12_count_12 ?_
  refine lv_iload_n hx hb dX12_count_15 rfl (lv_at hl 0 rfl) ?_
  refine va_iald hx hb hK hP 1 0 rfl rfl (vin (by decide +kernel)) dX12_count_16 (tk_i (v := (-9)) (by decide +kernel) ?_)
  refine lv_if_lt (tgt := 24) hx hb dX12_count_17 (by decide) (fun _ => ?_) (fun h9 => absurd (by decide +kernel) h9)
  refine lv_iconst (v := 0) hx hb dX12_count_24 (by decide) ?_
  refine lv_iadd hx hb dX12_count_25 (tk_i (v := 0) (by decide +kernel) ?_)
  refine lv_istore_n (lv' := [(2, .int 0), (3, .int 8), (0, .ref o0), (1, .int 0)]) hx hb dX12_count_26 rfl hl (by decide) rfl (fun ls hl => ?_)
  refine lv_iinc (v := 9) (lv' := [(3, .int 9), (2, .int 0), (0, .ref o0), (1, .int 0)]) hx hb dX12_count_27 hl (k := 1) rfl (by decide +kernel) (by decide) rfl (fun ls hl => ?_)
  refine lv_goto (tgt := 4) hx hb dX12_count_30 (by decide) ?_
  refine lv_iload_n hx hb dX12_count_4 rfl (lv_at hl 0 rfl) ?_
  refine lv_bipush (v := 12) hx hb dX12_count_5 (by decide) ?_
  refine lv_icmp_ge (tgt := 33) hx hb dX12_count_7 (by decide) (fun h9 => absurd h9 (by decide +kernel)) (fun _ => ?_)
  refine lv_iload_n hx hb dX12_count_10 rfl (lv_at hl 1 rfl) ?_
  refine lv_aload_n hx hb dX12_count_11 rfl (lv_at hl 2 rfl) ?_
  refine va_get (D := (dC, dI)) (ci := 12) (v := .ref o1) (C := RX12) (T := TX12) (N := 29) hx hb hts iw_X12_count_X12 hown hK hP 0 rfl rfl 5 (by decide) (hts (.fieldLink RX12 16 "HolelessHouseModel" "rows" "[I") (by decide +kernel)) (fun _ h9 => h9) rfl dX12_count_12 ?_
  refine lv_iload_n hx hb dX12_count_15 rfl (lv_at hl 0 rfl) ?_
  refine va_iald hx hb hK hP 1 0 rfl rfl (vin (by decide +kernel)) dX12_count_16 (tk_i (v := (-9)) (by decide +kernel) ?_)
  refine lv_if_lt (tgt := 24) hx hb dX12_count_17 (by decide) (fun _ => ?_) (fun h9 => absurd (by decide +kernel) h9)
  refine lv_iconst (v := 0) hx hb dX12_count_24 (by decide) ?_
  refine lv_iadd hx hb dX12_count_25 (tk_i (v := 0) (by decide +kernel) ?_)
  refine lv_istore_n (lv' := [(2, .int 0), (3, .int 9), (0, .ref o0), (1, .int 0)]) hx hb dX12_count_26 rfl hl (by decide) rfl (fun ls hl => ?_)
  refine lv_iinc (v := 10) (lv' := [(3, .int 10), (2, .int 0), (0, .ref o0), (1, .int 0)]) hx hb dX12_count_27 hl (k := 1) rfl (by decide +kernel) (by decide) rfl (fun ls hl => ?_)
  refine lv_goto (tgt := 4) hx hb dX12_count_30 (by decide) ?_
  refine lv_iload_n hx hb dX12_count_4 rfl (lv_at hl 0 rfl) ?_
  refine lv_bipush (v := 12) hx hb dX12_count_5 (by decide) ?_
  refine lv_icmp_ge (tgt := 33) hx hb dX12_count_7 (by decide) (fun h9 => absurd h9 (by decide +kernel)) (fun _ => ?_)
  refine lv_iload_n hx hb dX12_count_10 rfl (lv_at hl 1 rfl) ?_
  refine lv_aload_n hx hb dX12_count_11 rfl (lv_at hl 2 rfl) ?_
  refine va_get (D := (dC, dI)) (ci := 12) (v := .ref o1) (C := RX12) (T := TX12) (N := 29) hx hb hts iw_X12_count_X12 hown hK hP 0 rfl rfl 5 (by decide) (hts (.fieldLink RX12 16 "HolelessHouseModel" "rows" "[I") (by decide +kernel)) (fun _ h9 => h9) rfl dX12_count_12 ?_
  refine lv_iload_n hx hb dX12_count_15 rfl (lv_at hl 0 rfl) ?_
  refine va_iald hx hb hK hP 1 0 rfl rfl (vin (by decide +kernel)) dX12_count_16 (tk_i (v := (-9)) (by decide +kernel) ?_)
  refine lv_if_lt (tgt := 24) hx hb dX12_count_17 (by decide) (fun _ => ?_) (fun h9 => absurd (by decide +kernel) h9)
  refine lv_iconst (v := 0) hx hb dX12_count_24 (by decide) ?_
  refine lv_iadd hx hb dX12_count_25 (tk_i (v := 0) (by decide +kernel) ?_)
  refine lv_istore_n (lv' := [(2, .int 0), (3, .int 10), (0, .ref o0), (1, .int 0)]) hx hb dX12_count_26 rfl hl (by decide) rfl (fun ls hl => ?_)
  refine lv_iinc (v := 11) (lv' := [(3, .int 11), (2, .int 0), (0, .ref o0), (1, .int 0)]) hx hb dX12_count_27 hl (k := 1) rfl (by decide +kernel) (by decide) rfl (fun ls hl => ?_)
  refine lv_goto (tgt := 4) hx hb dX12_count_30 (by decide) ?_
  refine lv_iload_n hx hb dX12_count_4 rfl (lv_at hl 0 rfl) ?_
  refine lv_bipush (v := 12) hx hb dX12_count_5 (by decide) ?_
  refine lv_icmp_ge (tgt := 33) hx hb dX12_count_7 (by decide) (fun h9 => absurd h9 (by decide +kernel)) (fun _ => ?_)
  refine lv_iload_n hx hb dX12_count_10 rfl (lv_at hl 1 rfl) ?_
  refine lv_aload_n hx hb dX12_count_11 rfl (lv_at hl 2 rfl) ?_
  refine va_get (D := (dC, dI)) (ci := 12) (v := .ref o1) (C := RX12) (T := TX12) (N := 29) hx hb hts iw_X12_count_X12 hown hK hP 0 rfl rfl 5 (by decide) (hts (.fieldLink RX12 16 "HolelessHouseModel" "rows" "[I") (by decide +kernel)) (fun _ h9 => h9) rfl dX12_count_12 ?_
  refine lv_iload_n hx hb dX12_count_15 rfl (lv_at hl 0 rfl) ?_
  refine va_iald hx hb hK hP 1 0 rfl rfl (vin (by decide +kernel)) dX12_count_16 (tk_i (v := (-9)) (by decide +kernel) ?_)
  refine lv_if_lt (tgt := 24) hx hb dX12_count_17 (by decide) (fun _ => ?_) (fun h9 => absurd (by decide +kernel) h9)
  refine lv_iconst (v := 0) hx hb dX12_count_24 (by decide) ?_
  refine lv_iadd hx hb dX12_count_25 (tk_i (v := 0) (by decide +kernel) ?_)
  refine lv_istore_n (lv' := [(2, .int 0), (3, .int 11), (0, .ref o0), (1, .int 0)]) hx hb dX12_count_26 rfl hl (by decide) rfl (fun ls hl => ?_)
  refine lv_iinc (v := 12) (lv' := [(3, .int 12), (2, .int 0), (0, .ref o0), (1, .int 0)]) hx hb dX12_count_27 hl (k := 1) rfl (by decide +kernel) (by decide) rfl (fun ls hl => ?_)
  refine lv_goto (tgt := 4) hx hb dX12_count_30 (by decide) ?_
  refine lv_iload_n hx hb dX12_count_4 rfl (lv_at hl 0 rfl) ?_
  refine lv_bipush (v := 12) hx hb dX12_count_5 (by decide) ?_
  refine lv_icmp_ge (tgt := 33) hx hb dX12_count_7 (by decide) (fun _ => ?_) (fun h9 => absurd (by decide +kernel) h9)
  refine lv_iload_n hx hb dX12_count_33 rfl (lv_at hl 3 rfl) ?_
  refine lv_tableIn (off := 34) (tgt := 68) hx hb dX12_count_34 (by decide +kernel) (by decide +kernel) (by decide +kernel) (by decide) ?_
  refine lv_aload_n hx hb dX12_count_68 rfl (lv_at hl 2 rfl) ?_
  refine va_get (D := (dC, dI)) (ci := 12) (v := .int 0) (C := RX12) (T := TX12) (N := 29) hx hb hts iw_X12_count_X12 hown hK hP 0 rfl rfl 2 (by decide) (hts (.fieldLink RX12 73 "HolelessHouseModel" "n" "I") (by decide +kernel)) (fun _ h9 => h9) rfl dX12_count_69 ?_
  have hP9 := hP.sub (ws' := []) [] rfl
  have hD9 := hD.sub (ws' := []) [] (by decide) rfl
  exact W.iret (v := 0) hx hb hr (fun t ht hW => ⟨⟨0, (), rfl, rfl, by rw [ht]; exact hP9, va_K.moved hW.alike hK, hD9⟩, hS.F ht⟩) hS.2.2 dX12_count_72
set_option maxHeartbeats 1000000 in
set_option maxRecDepth 100000 in
theorem kX4_pairs_2 (l : Launch) (dC : Nat → ClassId) (dI : Nat → Nat → Nat) (cI c2 : ClassId) (o0 : Nat) (o1 : Nat) (sz : Nat) : Met l yX4_pairs wsX4_pairs ({ frames := 0, cells := 0, slots := 0, locals := 0 }) (va_Pc [.ref o0] (wPre (dC, dI) [(cI, .int), (c2, .array .int)] [(o0, .inr (4, [.ref o1, .int 0, .int 0]))] sz)) (va_Qi (fun (r : Int32) (_ : Unit) => r = 0) (fun _ t => wPost (dC, dI) [(cI, .int), (c2, .array .int)] (va_A [(o0, .inr (4, [.ref o1, .int 0, .int 0]))] sz) [(o0, .inr (4, [.ref o1, .int 0, .int 0]))] t) (va_A [(o0, .inr (4, [.ref o1, .int 0, .int 0]))] sz)) 0 0 (va_A [(o0, .inr (4, [.ref o1, .int 0, .int 0]))] sz) := by
  refine Met.ofW (cc := cX4_pairs) (maxL := 3) (ret := (some .int)) (by decide) rfl ?_
  intro p e s m args below meth c s₁ B hml hv
  obtain ⟨rfl, hsz, hP, hK, hD0, hN⟩ := hv
  have hx := B.exec
  have hb := B.bytes
  have hr := B.returns
  have hts := atoms_spec (ws := wsX4_pairs) B.pre
  have hown : s.vm.findClass RX4 = some m.cls := findClass_of_methodNamed B.named
  have hlocks := B.notSynchronized
  subst hsz
  have hD := hD0.self (sz := s.heap.size)
  generalize hAe : va_A [(o0, .inr (4, [.ref o1, .int 0, .int 0]))] s.heap.size = A at hD ⊢
  have hA : ∀ q : Nat, s.heap.size ≤ q → A q := fun q h => by rw [← hAe]; exact Or.inr h
  have hS : va_S A s.heap s.heap [] := va_S.rf
  have hP : va_P (dC, dI) vwCl [(o0, .inr (4, [.ref o1, .int 0, .int 0]))] s.heap := hP
  have hl := lv_entry ([.ref o0]) (n := 3) (Nat.le_of_ble_eq_true rfl)
  rw [lg_entry_eq]
  generalize (lg_sl ([.ref o0]) ++ List.replicate (3 - (lg_sl ([.ref o0])).length) Slot.unset).toArray = ls at hl ⊢
  have hl : lv_has ls 3 [(0, .ref o0)] := hl
  refine lv_iconst (v := 0) hx hb dX4_pairs_0 (by decide) ?_
  refine lv_istore_n (lv' := [(1, .int 0), (0, .ref o0)]) hx hb dX4_pairs_1 rfl hl (by decide) rfl (fun ls hl => ?_)
  refine lv_iconst (v := 0) hx hb dX4_pairs_2 (by decide) ?_
  refine lv_istore_n (lv' := [(2, .int 0), (1, .int 0), (0, .ref o0)]) hx hb dX4_pairs_3 rfl hl (by decide) rfl (fun ls hl => ?_)
  refine lv_iload_n hx hb dX4_pairs_4 rfl (lv_at hl 0 rfl) ?_
  refine lv_aload_n hx hb dX4_pairs_5 rfl (lv_at hl 2 rfl) ?_
  refine va_get (D := (dC, dI)) (ci := 4) (v := .int 0) (C := RX4) (T := TX4) (N := 3) hx hb hts iw_X4_pairs_X4 hown hK hP 0 rfl rfl 1 (by decide) (hts (.fieldLink RX4 15 "HolelessHouse$Graph" "size" "I") (by decide +kernel)) (fun _ h9 => h9) rfl dX4_pairs_6 ?_
  refine lv_icmp_ge (tgt := 30) hx hb dX4_pairs_9 (by decide) (fun _ => ?_) (fun h9 => absurd (by decide +kernel) h9)
  refine lv_iload_n hx hb dX4_pairs_30 rfl (lv_at hl 1 rfl) ?_
  refine lv_iconst (v := 2) hx hb dX4_pairs_31 (by decide) ?_
  refine lv_idiv hx hb dX4_pairs_32 (by decide +kernel) (tk_i (v := 0) (by decide +kernel) ?_)
  have hP9 := hP.sub (ws' := [(o0, .inr (4, [.ref o1, .int 0, .int 0]))]) [0] rfl
  have hD9 := hD.sub (ws' := [(o0, .inr (4, [.ref o1, .int 0, .int 0]))]) [0] (by decide) rfl
  exact W.iret (v := 0) hx hb hr (fun t ht hW => ⟨⟨0, (), rfl, rfl, by rw [ht]; exact hP9, va_K.moved hW.alike hK, hD9⟩, hS.F ht⟩) hS.2.2 dX4_pairs_33
