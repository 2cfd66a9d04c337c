theorem hm_X4_reach_1 : (.fieldLink RX4 9 "HolelessHouse$Graph" "near" "[I" : Cond) ∈ wsX4_reach := List.mem_of_getElem? (i := 1) rfl
theorem hm_X4_reach_3 : (.initialized RX11 : Cond) ∈ wsX4_reach := List.mem_of_getElem? (i := 3) rfl
theorem hm_X4_reach_2 : (.static yX11_reached : Cond) ∈ wsX4_reach := List.mem_of_getElem? (i := 2) rfl
theorem hm_X4_around_1 : (.fieldLink RX4 15 "HolelessHouse$Graph" "size" "I" : Cond) ∈ wsX4_around := List.mem_of_getElem? (i := 1) rfl
theorem hm_X4_around_2 : (.fieldLink RX4 9 "HolelessHouse$Graph" "near" "[I" : Cond) ∈ wsX4_around := List.mem_of_getElem? (i := 2) rfl
theorem hm_X4_around_9 : (.initialized RX11 : Cond) ∈ wsX4_around := List.mem_of_getElem? (i := 9) rfl
theorem hm_X4_around_8 : (.static yX11_withoutLeast : Cond) ∈ wsX4_around := List.mem_of_getElem? (i := 8) rfl
theorem hm_X8_isPart_4 : (.initialized RX4 : Cond) ∈ wsX8_isPart := List.mem_of_getElem? (i := 4) rfl
theorem hm_X8_isPart_3 : (.instanceMethod yX4_all : Cond) ∈ wsX8_isPart := List.mem_of_getElem? (i := 3) rfl
theorem hm_X8_isPart_5 : (.selects RX4 yX4_all yX4_all : Cond) ∈ wsX8_isPart := List.mem_of_getElem? (i := 5) rfl
theorem hm_X8_isPart_1 : (.fieldLink RX8 22 "HolelessHouse$Parts" "one" "I" : Cond) ∈ wsX8_isPart := List.mem_of_getElem? (i := 1) rfl
theorem hm_X8_isPart_8 : (.instanceMethod yX4_reach : Cond) ∈ wsX8_isPart := List.mem_of_getElem? (i := 8) rfl
theorem hm_X8_isPart_9 : (.selects RX4 yX4_reach yX4_reach : Cond) ∈ wsX8_isPart := List.mem_of_getElem? (i := 9) rfl
theorem hm_X8_isPart_2 : (.fieldLink RX8 25 "HolelessHouse$Parts" "other" "I" : Cond) ∈ wsX8_isPart := List.mem_of_getElem? (i := 2) rfl
theorem hm_X8_isPart_13 : (.initialized RX11 : Cond) ∈ wsX8_isPart := List.mem_of_getElem? (i := 13) rfl
theorem hm_X8_isPart_23 : (.static yX11_in : Cond) ∈ wsX8_isPart := List.mem_of_getElem? (i := 23) rfl
theorem hm_X8_isPart_25 : (.instanceMethod yX4_around : Cond) ∈ wsX8_isPart := List.mem_of_getElem? (i := 25) rfl
theorem hm_X8_isPart_26 : (.selects RX4 yX4_around yX4_around : Cond) ∈ wsX8_isPart := List.mem_of_getElem? (i := 26) rfl
theorem hm_X8_keep_1 : (.fieldLink RX8 15 "HolelessHouse$Parts" "size" "I" : Cond) ∈ wsX8_keep := List.mem_of_getElem? (i := 1) rfl
theorem hm_X8_keep_2 : (.fieldLink RX8 9 "HolelessHouse$Parts" "sets" "[I" : Cond) ∈ wsX8_keep := List.mem_of_getElem? (i := 2) rfl
theorem hm_X8_bring_1 : (.fieldLink RX8 19 "HolelessHouse$Parts" "madeFor" "I" : Cond) ∈ wsX8_bring := List.mem_of_getElem? (i := 1) rfl
theorem hm_X8_bring_2 : (.fieldLink RX8 22 "HolelessHouse$Parts" "one" "I" : Cond) ∈ wsX8_bring := List.mem_of_getElem? (i := 2) rfl
theorem hm_X8_bring_3 : (.fieldLink RX8 25 "HolelessHouse$Parts" "other" "I" : Cond) ∈ wsX8_bring := List.mem_of_getElem? (i := 3) rfl
theorem hm_X8_bring_4 : (.fieldLink RX8 15 "HolelessHouse$Parts" "size" "I" : Cond) ∈ wsX8_bring := List.mem_of_getElem? (i := 4) rfl
theorem hm_X8_bring_6 : (.initialized RX4 : Cond) ∈ wsX8_bring := List.mem_of_getElem? (i := 6) rfl
theorem hm_X8_bring_5 : (.instanceMethod yX4_all : Cond) ∈ wsX8_bring := List.mem_of_getElem? (i := 5) rfl
theorem hm_X8_bring_7 : (.selects RX4 yX4_all yX4_all : Cond) ∈ wsX8_bring := List.mem_of_getElem? (i := 7) rfl
theorem hm_X11_part_1 : (.fieldLink RX11 10 "HolelessHouse" "graph" "LHolelessHouse$Graph;" : Cond) ∈ wsX11_part := List.mem_of_getElem? (i := 1) rfl
theorem hm_X11_part_4 : (.initialized RX4 : Cond) ∈ wsX11_part := List.mem_of_getElem? (i := 4) rfl
theorem hm_X11_part_3 : (.instanceMethod yX4_has : Cond) ∈ wsX11_part := List.mem_of_getElem? (i := 3) rfl
theorem hm_X11_part_5 : (.selects RX4 yX4_has yX4_has : Cond) ∈ wsX11_part := List.mem_of_getElem? (i := 5) rfl
theorem hm_X11_part_8 : (.instanceMethod yX4_touches : Cond) ∈ wsX11_part := List.mem_of_getElem? (i := 8) rfl
theorem hm_X11_part_9 : (.selects RX4 yX4_touches yX4_touches : Cond) ∈ wsX11_part := List.mem_of_getElem? (i := 9) rfl
theorem hm_X11_part_2 : (.fieldLink RX11 59 "HolelessHouse" "parts" "LHolelessHouse$Parts;" : Cond) ∈ wsX11_part := List.mem_of_getElem? (i := 2) rfl
theorem hm_X11_part_16 : (.initialized RX8 : Cond) ∈ wsX11_part := List.mem_of_getElem? (i := 16) rfl
theorem hm_X11_part_15 : (.instanceMethod yX8_bring : Cond) ∈ wsX11_part := List.mem_of_getElem? (i := 15) rfl
theorem hm_X11_part_17 : (.selects RX8 yX8_bring yX8_bring : Cond) ∈ wsX11_part := List.mem_of_getElem? (i := 17) rfl
theorem hm_X0_restart_1 : (.fieldLink RX0 25 "HolelessHouse$Benches" "width" "I" : Cond) ∈ wsX0_restart := List.mem_of_getElem? (i := 1) rfl
theorem hm_X0_restart_2 : (.fieldLink RX0 21 "HolelessHouse$Benches" "rowCount" "I" : Cond) ∈ wsX0_restart := List.mem_of_getElem? (i := 2) rfl
theorem hm_X1_with_1 : (.fieldLink RX1 24 "HolelessHouse$Cliques" "size" "I" : Cond) ∈ wsX1_with := List.mem_of_getElem? (i := 1) rfl
theorem hm_X1_with_2 : (.fieldLink RX1 15 "HolelessHouse$Cliques" "sets" "[I" : Cond) ∈ wsX1_with := List.mem_of_getElem? (i := 2) rfl
theorem hm_X1_with_4 : (.initialized RX11 : Cond) ∈ wsX1_with := List.mem_of_getElem? (i := 4) rfl
theorem hm_X1_with_3 : (.static yX11_in : Cond) ∈ wsX1_with := List.mem_of_getElem? (i := 3) rfl
theorem hm_X0_addRow_1 : (.fieldLink RX0 21 "HolelessHouse$Benches" "rowCount" "I" : Cond) ∈ wsX0_addRow := List.mem_of_getElem? (i := 1) rfl
theorem hm_X0_addRow_2 : (.fieldLink RX0 15 "HolelessHouse$Benches" "rows" "[I" : Cond) ∈ wsX0_addRow := List.mem_of_getElem? (i := 2) rfl
theorem hm_X0_mayCome_1 : (.fieldLink RX0 25 "HolelessHouse$Benches" "width" "I" : Cond) ∈ wsX0_mayCome := List.mem_of_getElem? (i := 1) rfl
theorem hm_X0_mayCome_2 : (.fieldLink RX0 21 "HolelessHouse$Benches" "rowCount" "I" : Cond) ∈ wsX0_mayCome := List.mem_of_getElem? (i := 2) rfl
theorem hm_X0_mayCome_3 : (.fieldLink RX0 15 "HolelessHouse$Benches" "rows" "[I" : Cond) ∈ wsX0_mayCome := List.mem_of_getElem? (i := 3) rfl
theorem iw_X4_reach_X4 : ∀ w ∈ wsX40, w ∈ wsX4_reach := fun _ h => List.mem_cons.mpr (Or.inr (List.mem_append.mpr (Or.inr h)))
set_option maxHeartbeats 4000000 in
set_option maxRecDepth 100000 in
theorem kX4_reach_1 (l : Launch) (dC : Nat → ClassId) (dI : Nat → Nat → Nat) (cI c2 cZ : ClassId) (o1 : Nat) (o2 : Nat) (fw3 : Nat → Int32) (v4 : Int32) (v5 : Int32) (a1 : Int32) (a2 : Int32) (sz : Nat) (fw3_b : Bd 12 0 4095 fw3) (v4_h : Iv 0 12 v4) (a1_h : Iv 0 11 a1) (a2_h : Iv 0 4095 a2) : Met l yX4_reach wsX4_reach ({ frames := 2, cells := 0, slots := 0, locals := 47 }) (va_Pc [.ref o1, .int a1, .int a2] (wPre (dC, dI) [(cI, .int), (c2, .array .int), (cZ, .boolean)] ([(o1, .inr (4, [.ref o2, .int v4, .int v5])), (o2, .inl (cI, 12, .inl fw3))]) sz)) (va_Qi (fun (r : Int32) (_ : Unit) => Iv 0 4095 r) (fun _ t => wPost (dC, dI) [(cI, .int), (c2, .array .int), (cZ, .boolean)] (va_A ([(o1, .inr (4, [.ref o2, .int v4, .int v5])), (o2, .inl (cI, 12, .inl fw3))]) sz) ([(o1, .inr (4, [.ref o2, .int v4, .int v5])), (o2, .inl (cI, 12, .inl fw3))]) t) (va_A ([(o1, .inr (4, [.ref o2, .int v4, .int v5])), (o2, .inl (cI, 12, .inl fw3))]) sz)) 0 0 (va_A ([(o1, .inr (4, [.ref o2, .int v4, .int v5])), (o2, .inl (cI, 12, .inl fw3))]) sz) := by
  refine Met.ofW (cc := cX4_reach) (maxL := 3) (ret := (some .int)) (by decide) rfl ?_
  intro p e s m args below meth c s₁ B hml hv
  obtain ⟨rfl, hsz, hP, hK, hD0, hN⟩ := hv
  have hx := B.exec
  have hb := B.bytes
  have hr := B.returns
  have hts := atoms_spec (ws := wsX4_reach) B.pre
  have hown : s.vm.findClass RX4 = some m.cls := findClass_of_methodNamed B.named
  have hlocks := B.notSynchronized
  subst hsz
  have hD := hD0.self (sz := s.heap.size)
  generalize hAe : va_A ([(o1, .inr (4, [.ref o2, .int v4, .int v5])), (o2, .inl (cI, 12, .inl fw3))]) s.heap.size = A at hD ⊢
  have hA : ∀ q : Nat, s.heap.size ≤ q → A q := fun q h => by rw [← hAe]; exact Or.inr h
  have hS : va_S A s.heap s.heap [] := va_S.rf
  have hP : va_P (dC, dI) vwCl ([(o1, .inr (4, [.ref o2, .int v4, .int v5])), (o2, .inl (cI, 12, .inl fw3))]) s.heap := hP
  have hl := lv_entry ([.ref o1, .int a1, .int a2]) (n := 3) (Nat.le_of_ble_eq_true rfl)
  rw [lg_entry_eq]
  generalize (lg_sl ([.ref o1, .int a1, .int a2]) ++ List.replicate (3 - (lg_sl ([.ref o1, .int a1, .int a2])).length) Slot.unset).toArray = ls at hl ⊢
  have hl : lv_has ls 3 [(0, .ref o1), (1, .int a1), (2, .int a2)] := hl
  refine gen_Q (fun Q hQ => ?_)
  refine lv_aload_n hx hb dX4_reach_0 rfl (lv_at hl 0 rfl) ?_
  refine va_get (D := (dC, dI)) (ci := 4) (v := .ref o2) (C := RX4) (T := TX4) (N := 3) hx hb hts iw_X4_reach_X4 hown hK hP 0 rfl rfl 0 (by decide) (hts (.fieldLink RX4 9 "HolelessHouse$Graph" "near" "[I") hm_X4_reach_1) (fun _ h9 => h9) rfl dX4_reach_1 ?_
  refine lv_iload_n hx hb dX4_reach_4 rfl (lv_at hl 1 rfl) ?_
  refine lv_iload_n hx hb dX4_reach_5 rfl (lv_at hl 2 rfl) ?_
  refine kc_i (D := (dC, dI)) (S := Unit) (wc := [(o2, .inl (cI, 12, .inl fw3))]) (wr := [(o1, .inr (4, [.ref o2, .int v4, .int v5]))]) (w1 := fun _ => [(o2, .inl (cI, 12, .inl fw3))]) (wn := fun _ => [(o1, .inr (4, [.ref o2, .int v4, .int v5])), (o2, .inl (cI, 12, .inl fw3))]) (fun hPc hDc => va_runSN (As := [.ref o2, .int a1, .int a2]) (rest := []) ⟨hx, hb, hml, hown, hts⟩ (kX11_reached_2 l dC dI cI c2 cZ o2 fw3 a1 a2 s.heap.size fw3_b a1_h a2_h) ⟨va_cnB 3 hts gX4_reach_X11_reached_n48 rfl rfl rfl (hN.1 _ ns_116) (hts (.initialized RX11) hm_X4_reach_3) (by decide +kernel) ⟨Nat.le_of_ble_eq_true rfl, Nat.le_of_ble_eq_true rfl⟩, (hts (.static yX11_reached) hm_X4_reach_2), trivial⟩ (pre_S hPc hK hDc hN) rfl rfl hl.1 rfl (lv_room (Nat.le_of_ble_eq_true rfl)) dX4_reach_6 ⟨Nat.le_of_ble_eq_true rfl, Nat.le_of_ble_eq_true rfl⟩) hP hD hS hA [1] [0] [0, 1] rfl rfl (by decide +kernel) (by decide +kernel) (by decide +kernel) (by decide +kernel) (fun _ => rfl) (fun x1 _ H locs hq hP hD hS => ?_)
  have x1_h := hq
  have hP : va_P (dC, dI) vwCl ([(o1, .inr (4, [.ref o2, .int v4, .int v5])), (o2, .inl (cI, 12, .inl fw3))]) H := hP
  have hD : va_D A ([(o1, .inr (4, [.ref o2, .int v4, .int v5])), (o2, .inl (cI, 12, .inl fw3))]) := hD
  rw [hQ]
  exact W.iret (v := x1) hx hb hr (fun t ht hW => ⟨⟨x1, (), rfl, x1_h, by rw [ht]; exact hP, va_K.moved hW.alike hK, hD⟩, hS.F ht⟩) hS.2.2 dX4_reach_9
theorem iw_X4_around_X4 : ∀ w ∈ wsX40, w ∈ wsX4_around := fun _ h => List.mem_cons.mpr (Or.inr (List.mem_append.mpr (Or.inr h)))
set_option maxHeartbeats 4000000 in
set_option maxRecDepth 100000 in
theorem kX4_around_1 (l : Launch) (dC : Nat → ClassId) (dI : Nat → Nat → Nat) (cI c2 cZ : ClassId) (o1 : Nat) (o2 : Nat) (fw3 : Nat → Int32) (v4 : Int32) (v5 : Int32) (a1 : Int32) (sz : Nat) (fw3_b : Bd 12 0 4095 fw3) (v4_h : Iv 0 12 v4) (a1_h : Iv 0 4095 a1) : Met l yX4_around wsX4_around ({ frames := 1, cells := 0, slots := 0, locals := 21 }) (va_Pc [.ref o1, .int a1] (wPre (dC, dI) [(cI, .int), (c2, .array .int), (cZ, .boolean)] ([(o1, .inr (4, [.ref o2, .int v4, .int v5])), (o2, .inl (cI, 12, .inl fw3))]) sz)) (va_Qi (fun (r : Int32) (_ : Unit) => Iv 0 4095 r) (fun _ t => wPost (dC, dI) [(cI, .int), (c2, .array .int), (cZ, .boolean)] (va_A ([(o1, .inr (4, [.ref o2, .int v4, .int v5])), (o2, .inl (cI, 12, .inl fw3))]) sz) ([(o1, .inr (4, [.ref o2, .int v4, .int v5])), (o2, .inl (cI, 12, .inl fw3))]) t) (va_A ([(o1, .inr (4, [.ref o2, .int v4, .int v5])), (o2, .inl (cI, 12, .inl fw3))]) sz)) 0 0 (va_A ([(o1, .inr (4, [.ref o2, .int v4, .int v5])), (o2, .inl (cI, 12, .inl fw3))]) sz) := by
  refine Met.ofW (cc := cX4_around) (maxL := 5) (ret := (some .int)) (by decide) rfl ?_
  intro p e s m args below meth c s₁ B hml hv
  obtain ⟨rfl, hsz, hP, hK, hD0, hN⟩ := hv
  have hx := B.exec
  have hb := B.bytes
  have hr := B.returns
  have hts := atoms_spec (ws := wsX4_around) B.pre
  have hown : s.vm.findClass RX4 = some m.cls := findClass_of_methodNamed B.named
  have hlocks := B.notSynchronized
  subst hsz
  have hD := hD0.self (sz := s.heap.size)
  generalize hAe : va_A ([(o1, .inr (4, [.ref o2, .int v4, .int v5])), (o2, .inl (cI, 12, .inl fw3))]) s.heap.size = A at hD ⊢
  have hA : ∀ q : Nat, s.heap.size ≤ q → A q := fun q h => by rw [← hAe]; exact Or.inr h
  have hS : va_S A s.heap s.heap [] := va_S.rf
  have hP : va_P (dC, dI) vwCl ([(o1, .inr (4, [.ref o2, .int v4, .int v5])), (o2, .inl (cI, 12, .inl fw3))]) s.heap := hP
  have hl := lv_entry ([.ref o1, .int a1]) (n := 5) (Nat.le_of_ble_eq_true rfl)
  rw [lg_entry_eq]
  generalize (lg_sl ([.ref o1, .int a1]) ++ List.replicate (5 - (lg_sl ([.ref o1, .int a1])).length) Slot.unset).toArray = ls at hl ⊢
  have hl : lv_has ls 5 [(0, .ref o1), (1, .int a1)] := hl
  refine gen_Q (fun Q hQ => ?_)
  refine lv_iconst (v := 0) hx hb dX4_around_0 (by decide) ?_
  refine lv_istore_n (lv' := [(2, .int 0), (0, .ref o1), (1, .int a1)]) hx hb dX4_around_1 rfl hl (by decide) rfl (fun ls hl => ?_)
  refine lv_iload_n hx hb dX4_around_2 rfl (lv_at hl 2 rfl) ?_
  refine lv_istore_n (lv' := [(3, .int a1), (2, .int 0), (0, .ref o1), (1, .int a1)]) hx hb dX4_around_3 rfl hl (by decide) rfl (fun ls hl => ?_)
  refine lv_iconst (v := 0) hx hb dX4_around_4 (by decide) ?_
  refine lv_istore (lv' := [(4, .int 0), (3, .int a1), (2, .int 0), (0, .ref o1), (1, .int a1)]) hx hb dX4_around_5 hl (by decide) rfl (fun ls hl => ?_)
  have L1 : ∀ (N : Nat) (x109 : Int32) (x110 : Int32) (x111 : Int32) (H : Heap) (locs : List Loc) (ls : Array Slot), (12 - x109.toInt).toNat < N → Iv 0 12 x109 → Iv 0 4095 x110 → Iv 0 4095 x111 → va_P (dC, dI) vwCl ([(o1, .inr (4, [.ref o2, .int v4, .int v5])), (o2, .inl (cI, 12, .inl fw3))]) H → va_D A ([(o1, .inr (4, [.ref o2, .int v4, .int v5])), (o2, .inl (cI, 12, .inl fw3))]) → va_S A s.heap H locs → lv_has ls 5 [(4, .int x109), (3, .int x110), (2, .int x111), (0, .ref o1), (1, .int a1)] → W p l e ({ frames := 1, cells := 0, slots := 0, locals := 21 }) s m ([.ref o1, .int a1] : List Value).toArray below meth c H locs 0 0 Q (F0 m 7 ls []) := by
    intro N
    induction N with
    | zero =>
      intro x109 x110 x111 H locs ls hM
      exact absurd hM (Nat.not_lt_zero _)
    | succ N ih1 =>
      intro x109 x110 x111 H locs ls hM1 x109_h x110_h x111_h hP hD hS hl
      refine lv_iload hx hb dX4_around_7 (lv_at hl 0 rfl) ?_
      refine lv_aload_n hx hb dX4_around_9 rfl (lv_at hl 3 rfl) ?_
      refine va_get (D := (dC, dI)) (ci := 4) (v := .int v4) (C := RX4) (T := TX4) (N := 3) hx hb hts iw_X4_around_X4 hown hK hP 0 rfl rfl 1 (by decide) (hts (.fieldLink RX4 15 "HolelessHouse$Graph" "size" "I") hm_X4_around_1) (fun _ h9 => h9) rfl dX4_around_10 ?_
      refine lv_icmp_ge (tgt := 43) hx hb dX4_around_13 (by decide) (fun h112 => ?_) (fun h112 => ?_)
      ·
        have qh112 := le_i h112
        refine lv_iload_n hx hb dX4_around_43 rfl (lv_at hl 2 rfl) ?_
        refine lv_iload_n hx hb dX4_around_44 rfl (lv_at hl 4 rfl) ?_
        refine lv_iconst (v := (-1)) hx hb dX4_around_45 (by decide) ?_
        refine lv_ixor hx hb dX4_around_46 (lv_topi (fun x113 x113_e => ?_))
        refine lv_iand hx hb dX4_around_47 (lv_topi (fun x114 x114_e => ?_))
        have x114_h : Iv 0 4095 x114 := iv_e x114_e (iv_andL _ x111_h (by decide))
        rw [hQ]
        exact W.iret (v := x114) hx hb hr (fun t ht hW => ⟨⟨x114, (), rfl, x114_h, by rw [ht]; exact hP, va_K.moved hW.alike hK, hD⟩, hS.F ht⟩) hS.2.2 dX4_around_48
      ·
        have qh112 := nle_i h112
        have j115 : Iv 0 11 x109 := r_ltl qh112 x109_h v4_h (by decide)
        have j116 : Iv 1 12 v4 := r_ltr qh112 x109_h v4_h (by decide)
        refine lv_iload_n hx hb dX4_around_16 rfl (lv_at hl 1 rfl) ?_
        refine lv_if_eq (tgt := 43) hx hb dX4_around_17 (by decide) (fun h117 => ?_) (fun h117 => ?_)
        ·
          have j118 : Iv 0 0 x110 := r_eq h117 ik_0
          refine lv_iload_n hx hb dX4_around_43 rfl (lv_at hl 2 rfl) ?_
          refine lv_iload_n hx hb dX4_around_44 rfl (lv_at hl 4 rfl) ?_
          refine lv_iconst (v := (-1)) hx hb dX4_around_45 (by decide) ?_
          refine lv_ixor hx hb dX4_around_46 (lv_topi (fun x119 x119_e => ?_))
          refine lv_iand hx hb dX4_around_47 (lv_topi (fun x120 x120_e => ?_))
          have x120_h : Iv 0 4095 x120 := iv_e x120_e (iv_andL _ x111_h (by decide))
          rw [hQ]
          exact W.iret (v := x120) hx hb hr (fun t ht hW => ⟨⟨x120, (), rfl, x120_h, by rw [ht]; exact hP, va_K.moved hW.alike hK, hD⟩, hS.F ht⟩) hS.2.2 dX4_around_48
        ·
          have j121 : Iv 1 4095 x110 := r_nelo h117 x110_h ik_0 (by decide)
          refine lv_iload_n hx hb dX4_around_20 rfl (lv_at hl 2 rfl) ?_
          refine lv_aload_n hx hb dX4_around_21 rfl (lv_at hl 3 rfl) ?_
          refine va_get (D := (dC, dI)) (ci := 4) (v := .ref o2) (C := RX4) (T := TX4) (N := 3) hx hb hts iw_X4_around_X4 hown hK hP 0 rfl rfl 0 (by decide) (hts (.fieldLink RX4 9 "HolelessHouse$Graph" "near" "[I") hm_X4_around_2) (fun _ h9 => h9) rfl dX4_around_22 ?_
          refine lv_iload_n hx hb dX4_around_25 rfl (lv_at hl 1 rfl) ?_
          refine kc_i (D := (dC, dI)) (S := Unit) (wc := []) (wr := [(o1, .inr (4, [.ref o2, .int v4, .int v5])), (o2, .inl (cI, 12, .inl fw3))]) (w1 := fun _ => []) (wn := fun _ => [(o1, .inr (4, [.ref o2, .int v4, .int v5])), (o2, .inl (cI, 12, .inl fw3))]) (fun hPc hDc => va_runS (As := [.int x110]) (rest := [.ref o2, .int x111]) ⟨hx, hb, hml, hown, hts⟩ (kJ6_numberOfTrailingZeros_0f7a4_1 l dC dI cI c2 cZ x110 H.size j121) (va_cwS 1 hts gX4_around_J6_numberOfTrailingZeros_0f7a4 rfl rfl rfl (by decide +kernel) ⟨Nat.le_of_ble_eq_true rfl, Nat.le_of_ble_eq_true rfl⟩) (pre_S hPc hK hDc hN) rfl rfl hl.1 rfl (lv_room (Nat.le_of_ble_eq_true rfl)) dX4_around_26 ⟨Nat.le_of_ble_eq_true rfl, Nat.le_of_ble_eq_true rfl⟩) hP hD hS hA [] [0, 1] [0, 1] rfl rfl (by decide +kernel) (by decide +kernel) (by decide +kernel) (by decide +kernel) (fun _ => rfl) (fun x122 _ H locs hq hP hD hS => ?_)
          have x122_h := hq
          have hP : va_P (dC, dI) vwCl ([(o1, .inr (4, [.ref o2, .int v4, .int v5])), (o2, .inl (cI, 12, .inl fw3))]) H := hP
          have hD : va_D A ([(o1, .inr (4, [.ref o2, .int v4, .int v5])), (o2, .inl (cI, 12, .inl fw3))]) := hD
          refine va_iald hx hb hK hP 1 0 rfl rfl (vin_iv x122_h (by decide)) dX4_around_29 (lv_topi (fun x123 x123_e => ?_))
          have x123_h : Iv 0 4095 x123 := iv_e x123_e (bd_at fw3_b (vin_iv x122_h (by decide)))
          refine lv_ior hx hb dX4_around_30 (lv_topi (fun x124 x124_e => ?_))
          have x124_h : Iv 0 4095 x124 := iv_e x124_e (iv_or 12 x111_h x123_h (by decide))
          refine lv_istore_n (lv' := [(2, .int x124), (4, .int x109), (3, .int x110), (0, .ref o1), (1, .int a1)]) hx hb dX4_around_31 rfl hl (by decide) rfl (fun ls hl => ?_)
          refine lv_iload_n hx hb dX4_around_32 rfl (lv_at hl 2 rfl) ?_
          refine kc_i (D := (dC, dI)) (S := Unit) (wc := []) (wr := [(o1, .inr (4, [.ref o2, .int v4, .int v5])), (o2, .inl (cI, 12, .inl fw3))]) (w1 := fun _ => []) (wn := fun _ => [(o1, .inr (4, [.ref o2, .int v4, .int v5])), (o2, .inl (cI, 12, .inl fw3))]) (fun hPc hDc => va_runSN (As := [.int x110]) (rest := []) ⟨hx, hb, hml, hown, hts⟩ (kX11_withoutLeast_1 l dC dI cI c2 cZ x110 H.size (iv_w j121 (by decide))) ⟨va_cnB 1 hts gX4_around_X11_withoutLeast_n45 rfl rfl rfl (hN.1 _ ns_119) (hts (.initialized RX11) hm_X4_around_9) (by decide +kernel) ⟨Nat.le_of_ble_eq_true rfl, Nat.le_of_ble_eq_true rfl⟩, (hts (.static yX11_withoutLeast) hm_X4_around_8), trivial⟩ (pre_S hPc hK hDc hN) rfl rfl hl.1 rfl (lv_room (Nat.le_of_ble_eq_true rfl)) dX4_around_33 ⟨Nat.le_of_ble_eq_true rfl, Nat.le_of_ble_eq_true rfl⟩) hP hD hS hA [] [0, 1] [0, 1] rfl rfl (by decide +kernel) (by decide +kernel) (by decide +kernel) (by decide +kernel) (fun _ => rfl) (fun x125 _ H locs hq hP hD hS => ?_)
          have x125_h := hq
          have hP : va_P (dC, dI) vwCl ([(o1, .inr (4, [.ref o2, .int v4, .int v5])), (o2, .inl (cI, 12, .inl fw3))]) H := hP
          have hD : va_D A ([(o1, .inr (4, [.ref o2, .int v4, .int v5])), (o2, .inl (cI, 12, .inl fw3))]) := hD
          refine lv_istore_n (lv' := [(3, .int x125), (2, .int x124), (4, .int x109), (0, .ref o1), (1, .int a1)]) hx hb dX4_around_36 rfl hl (by decide) rfl (fun ls hl => ?_)
          obtain ⟨x126, x126_e⟩ : ∃ z : Int32, z = x109 + 1 := ⟨_, rfl⟩
          have x126_h : Iv 1 12 x126 := iv_e x126_e (iv_add j115 ik_1 (by decide))
          refine lv_iinc (v := x126) (lv' := [(4, .int x126), (3, .int x125), (2, .int x124), (0, .ref o1), (1, .int a1)]) hx hb dX4_around_37 hl (k := 2) rfl (incN (by decide +kernel) x126_e) (by decide) rfl (fun ls hl => ?_)
          refine lv_goto (tgt := 7) hx hb dX4_around_40 (by decide) ?_
          exact ih1 x126 x125 x124 _ _ _ (ms_up x126_e j115 (by decide) hM1) (iv_w x126_h (by decide)) x125_h x124_h hP hD hS hl
  exact L1 _ 0 a1 0 _ _ _ (Nat.lt_succ_self _) (iv_w ik_0 (by decide)) a1_h (iv_w ik_0 (by decide)) hP hD hS hl
theorem iw_X8_isPart_X8 : ∀ w ∈ wsX80, w ∈ wsX8_isPart := fun _ h => List.mem_cons.mpr (Or.inr (List.mem_append.mpr (Or.inl (List.mem_append.mpr (Or.inr h)))))
set_option maxHeartbeats 4000000 in
set_option maxRecDepth 100000 in
theorem kX8_isPart_1 (l : Launch) (dC : Nat → ClassId) (dI : Nat → Nat → Nat) (cI c2 cZ : ClassId) (o1 : Nat) (o8 : Nat) (o9 : Nat) (o2 : Nat) (v4 : Int32) (v5 : Int32) (v6 : Int32) (v7 : Int32) (fw10 : Nat → Int32) (v11 : Int32) (v12 : Int32) (a2 : Int32) (sz : Nat) (v4_h : Iv 0 252 v4) (v6_h : Iv 0 11 v6) (v7_h : Iv 0 11 v7) (fw10_b : Bd 12 0 4095 fw10) (v11_h : Iv 0 12 v11) (a2_h : Iv 0 4095 a2) : Met l yX8_isPart wsX8_isPart ({ frames := 3, cells := 0, slots := 0, locals := 69 }) (va_Pc [.ref o1, .ref o8, .int a2] (wPre (dC, dI) [(cI, .int), (c2, .array .int), (cZ, .boolean)] ([(o8, .inr (4, [.ref o9, .int v11, .int v12])), (o1, .inr (8, [.ref o2, .int v4, .int v5, .int v6, .int v7])), (o9, .inl (cI, 12, .inl fw10))]) sz)) (va_Qi (fun (r : Int32) (_ : Unit) => Iv 0 1 r) (fun _ t => wPost (dC, dI) [(cI, .int), (c2, .array .int), (cZ, .boolean)] (va_A ([(o8, .inr (4, [.ref o9, .int v11, .int v12])), (o1, .inr (8, [.ref o2, .int v4, .int v5, .int v6, .int v7])), (o9, .inl (cI, 12, .inl fw10))]) sz) ([(o8, .inr (4, [.ref o9, .int v11, .int v12])), (o1, .inr (8, [.ref o2, .int v4, .int v5, .int v6, .int v7])), (o9, .inl (cI, 12, .inl fw10))]) t) (va_A ([(o8, .inr (4, [.ref o9, .int v11, .int v12])), (o1, .inr (8, [.ref o2, .int v4, .int v5, .int v6, .int v7])), (o9, .inl (cI, 12, .inl fw10))]) sz)) 0 0 (va_A ([(o8, .inr (4, [.ref o9, .int v11, .int v12])), (o1, .inr (8, [.ref o2, .int v4, .int v5, .int v6, .int v7])), (o9, .inl (cI, 12, .inl fw10))]) sz) := by
  refine Met.ofW (cc := cX8_isPart) (maxL := 5) (ret := (some .boolean)) (by decide) rfl ?_
  intro p e s m args below meth c s₁ B hml hv
  obtain ⟨rfl, hsz, hP, hK, hD0, hN⟩ := hv
  have hx := B.exec
  have hb := B.bytes
  have hr := B.returns
  have hts := atoms_spec (ws := wsX8_isPart) B.pre
  have hown : s.vm.findClass RX8 = some m.cls := findClass_of_methodNamed B.named
  have hlocks := B.notSynchronized
  subst hsz
  have hD := hD0.self (sz := s.heap.size)
  generalize hAe : va_A ([(o8, .inr (4, [.ref o9, .int v11, .int v12])), (o1, .inr (8, [.ref o2, .int v4, .int v5, .int v6, .int v7])), (o9, .inl (cI, 12, .inl fw10))]) s.heap.size = A at hD ⊢
  have hA : ∀ q : Nat, s.heap.size ≤ q → A q := fun q h => by rw [← hAe]; exact Or.inr h
  have hS : va_S A s.heap s.heap [] := va_S.rf
  have hP : va_P (dC, dI) vwCl ([(o8, .inr (4, [.ref o9, .int v11, .int v12])), (o1, .inr (8, [.ref o2, .int v4, .int v5, .int v6, .int v7])), (o9, .inl (cI, 12, .inl fw10))]) s.heap := hP
  have hl := lv_entry ([.ref o1, .ref o8, .int a2]) (n := 5) (Nat.le_of_ble_eq_true rfl)
  rw [lg_entry_eq]
  generalize (lg_sl ([.ref o1, .ref o8, .int a2]) ++ List.replicate (5 - (lg_sl ([.ref o1, .ref o8, .int a2])).length) Slot.unset).toArray = ls at hl ⊢
  have hl : lv_has ls 5 [(0, .ref o1), (1, .ref o8), (2, .int a2)] := hl
  refine gen_Q (fun Q hQ => ?_)
  refine lv_aload_n hx hb dX8_isPart_0 rfl (lv_at hl 1 rfl) ?_
  refine kc_i (D := (dC, dI)) (S := Unit) (wc := [(o8, .inr (4, [.ref o9, .int v11, .int v12]))]) (wr := [(o1, .inr (8, [.ref o2, .int v4, .int v5, .int v6, .int v7])), (o9, .inl (cI, 12, .inl fw10))]) (w1 := fun _ => [(o8, .inr (4, [.ref o9, .int v11, .int v12]))]) (wn := fun _ => [(o8, .inr (4, [.ref o9, .int v11, .int v12])), (o1, .inr (8, [.ref o2, .int v4, .int v5, .int v6, .int v7])), (o9, .inl (cI, 12, .inl fw10))]) (fun hPc hDc => va_runVN (As := []) (rest := []) ⟨hx, hb, hml, hown, hts⟩ (kX4_all_1 l dC dI cI c2 cZ o8 o9 v11 v12 s.heap.size v11_h) ⟨va_cnB 0 hts gX8_isPart_X4_all_n33 rfl rfl rfl (hN.1 _ ns_114) (hts (.initialized RX4) hm_X8_isPart_4) (by decide +kernel) ⟨Nat.le_of_ble_eq_true rfl, Nat.le_of_ble_eq_true rfl⟩, (hts (.instanceMethod yX4_all) hm_X8_isPart_3), (hts (.selects RX4 yX4_all yX4_all) hm_X8_isPart_5)⟩ (pre_V hPc hK hDc hN (ci := 4) (q0 := 0) rfl rfl) rfl rfl hl.1 rfl (lv_room (Nat.le_of_ble_eq_true rfl)) dX8_isPart_1 ⟨Nat.le_of_ble_eq_true rfl, Nat.le_of_ble_eq_true rfl⟩) hP hD hS hA [0] [1, 2] [2, 0, 1] rfl rfl (by decide +kernel) (by decide +kernel) (by decide +kernel) (by decide +kernel) (fun _ => rfl) (fun x1 _ H locs hq hP hD hS => ?_)
  have x1_h := hq
  have hP : va_P (dC, dI) vwCl ([(o8, .inr (4, [.ref o9, .int v11, .int v12])), (o1, .inr (8, [.ref o2, .int v4, .int v5, .int v6, .int v7])), (o9, .inl (cI, 12, .inl fw10))]) H := hP
  have hD : va_D A ([(o8, .inr (4, [.ref o9, .int v11, .int v12])), (o1, .inr (8, [.ref o2, .int v4, .int v5, .int v6, .int v7])), (o9, .inl (cI, 12, .inl fw10))]) := hD
  refine lv_iload_n hx hb dX8_isPart_4 rfl (lv_at hl 2 rfl) ?_
  refine lv_iconst (v := (-1)) hx hb dX8_isPart_5 (by decide) ?_
  refine lv_ixor hx hb dX8_isPart_6 (lv_topi (fun x2 x2_e => ?_))
  refine lv_iand hx hb dX8_isPart_7 (lv_topi (fun x3 x3_e => ?_))
  have x3_h : Iv 0 4095 x3 := iv_e x3_e (iv_andL _ x1_h (by decide))
  refine lv_istore_n (lv' := [(3, .int x3), (0, .ref o1), (1, .ref o8), (2, .int a2)]) hx hb dX8_isPart_8 rfl hl (by decide) rfl (fun ls hl => ?_)
  refine lv_aload_n hx hb dX8_isPart_9 rfl (lv_at hl 2 rfl) ?_
  refine lv_aload_n hx hb dX8_isPart_10 rfl (lv_at hl 1 rfl) ?_
  refine va_get (D := (dC, dI)) (ci := 8) (v := .int v6) (C := RX8) (T := TX8) (N := 5) hx hb hts iw_X8_isPart_X8 hown hK hP 1 rfl rfl 3 (by decide) (hts (.fieldLink RX8 22 "HolelessHouse$Parts" "one" "I") hm_X8_isPart_1) (fun _ h9 => h9) rfl dX8_isPart_11 ?_
  refine lv_iload_n hx hb dX8_isPart_14 rfl (lv_at hl 0 rfl) ?_
  refine kc_i (D := (dC, dI)) (S := Unit) (wc := [(o8, .inr (4, [.ref o9, .int v11, .int v12])), (o9, .inl (cI, 12, .inl fw10))]) (wr := [(o1, .inr (8, [.ref o2, .int v4, .int v5, .int v6, .int v7]))]) (w1 := fun _ => [(o8, .inr (4, [.ref o9, .int v11, .int v12])), (o9, .inl (cI, 12, .inl fw10))]) (wn := fun _ => [(o8, .inr (4, [.ref o9, .int v11, .int v12])), (o1, .inr (8, [.ref o2, .int v4, .int v5, .int v6, .int v7])), (o9, .inl (cI, 12, .inl fw10))]) (fun hPc hDc => va_runVN (As := [.int v6, .int x3]) (rest := []) ⟨hx, hb, hml, hown, hts⟩ (kX4_reach_1 l dC dI cI c2 cZ o8 o9 fw10 v11 v12 v6 x3 H.size fw10_b v11_h v6_h x3_h) ⟨va_cnB 2 hts gX8_isPart_X4_reach_n48 rfl rfl rfl (hN.1 _ ns_115) (hts (.initialized RX4) hm_X8_isPart_4) (by decide +kernel) ⟨Nat.le_of_ble_eq_true rfl, Nat.le_of_ble_eq_true rfl⟩, (hts (.instanceMethod yX4_reach) hm_X8_isPart_8), (hts (.selects RX4 yX4_reach yX4_reach) hm_X8_isPart_9)⟩ (pre_V hPc hK hDc hN (ci := 4) (q0 := 0) rfl rfl) rfl rfl hl.1 rfl (lv_room (Nat.le_of_ble_eq_true rfl)) dX8_isPart_15 ⟨Nat.le_of_ble_eq_true rfl, Nat.le_of_ble_eq_true rfl⟩) hP hD hS hA [0, 2] [1] [1, 0, 2] rfl rfl (by decide +kernel) (by decide +kernel) (by decide +kernel) (by decide +kernel) (fun _ => rfl) (fun x4 _ H locs hq hP hD hS => ?_)
  have x4_h := hq
  have hP : va_P (dC, dI) vwCl ([(o8, .inr (4, [.ref o9, .int v11, .int v12])), (o1, .inr (8, [.ref o2, .int v4, .int v5, .int v6, .int v7])), (o9, .inl (cI, 12, .inl fw10))]) H := hP
  have hD : va_D A ([(o8, .inr (4, [.ref o9, .int v11, .int v12])), (o1, .inr (8, [.ref o2, .int v4, .int v5, .int v6, .int v7])), (o9, .inl (cI, 12, .inl fw10))]) := hD
  refine lv_istore (lv' := [(4, .int x4), (3, .int x3), (0, .ref o1), (1, .ref o8), (2, .int a2)]) hx hb dX8_isPart_18 hl (by decide) rfl (fun ls hl => ?_)
  refine lv_iload hx hb dX8_isPart_20 (lv_at hl 0 rfl) ?_
  refine lv_aload_n hx hb dX8_isPart_22 rfl (lv_at hl 2 rfl) ?_
  refine va_get (D := (dC, dI)) (ci := 8) (v := .int v7) (C := RX8) (T := TX8) (N := 5) hx hb hts iw_X8_isPart_X8 hown hK hP 1 rfl rfl 4 (by decide) (hts (.fieldLink RX8 25 "HolelessHouse$Parts" "other" "I") hm_X8_isPart_2) (fun _ h9 => h9) rfl dX8_isPart_23 ?_
  refine kc_i (D := (dC, dI)) (S := Unit) (wc := []) (wr := [(o8, .inr (4, [.ref o9, .int v11, .int v12])), (o1, .inr (8, [.ref o2, .int v4, .int v5, .int v6, .int v7])), (o9, .inl (cI, 12, .inl fw10))]) (w1 := fun _ => []) (wn := fun _ => [(o8, .inr (4, [.ref o9, .int v11, .int v12])), (o1, .inr (8, [.ref o2, .int v4, .int v5, .int v6, .int v7])), (o9, .inl (cI, 12, .inl fw10))]) (fun hPc hDc => va_runSN (As := [.int x4, .int v7]) (rest := []) ⟨hx, hb, hml, hown, hts⟩ (kX11_in_1 l dC dI cI c2 cZ x4 v7 H.size) ⟨va_cnB 2 hts gX8_isPart_X11_in_n52 rfl rfl rfl (hN.1 _ ns_117) (hts (.initialized RX11) hm_X8_isPart_13) (by decide +kernel) ⟨Nat.le_of_ble_eq_true rfl, Nat.le_of_ble_eq_true rfl⟩, (hts (.static yX11_in) hm_X8_isPart_23), trivial⟩ (pre_S hPc hK hDc hN) rfl rfl hl.1 rfl (lv_room (Nat.le_of_ble_eq_true rfl)) dX8_isPart_26 ⟨Nat.le_of_ble_eq_true rfl, Nat.le_of_ble_eq_true rfl⟩) hP hD hS hA [] [0, 1, 2] [0, 1, 2] rfl rfl (by decide +kernel) (by decide +kernel) (by decide +kernel) (by decide +kernel) (fun _ => rfl) (fun x5 _ H locs hq hP hD hS => ?_)
  have x5_h := hq
  have hP : va_P (dC, dI) vwCl ([(o8, .inr (4, [.ref o9, .int v11, .int v12])), (o1, .inr (8, [.ref o2, .int v4, .int v5, .int v6, .int v7])), (o9, .inl (cI, 12, .inl fw10))]) H := hP
  have hD : va_D A ([(o8, .inr (4, [.ref o9, .int v11, .int v12])), (o1, .inr (8, [.ref o2, .int v4, .int v5, .int v6, .int v7])), (o9, .inl (cI, 12, .inl fw10))]) := hD
  refine lv_if_ne (tgt := 63) hx hb dX8_isPart_29 (by decide) (fun h6 => ?_) (fun h6 => ?_)
  ·
    have j7 : Iv 1 1 x5 := r_nelo h6 x5_h ik_0 (by decide)
    refine lv_iconst (v := 0) hx hb dX8_isPart_63 (by decide) ?_
    rw [hQ]
    exact W.zret (v := 0) (ty := .boolean) hx hb hr rfl (fun t ht hW => ⟨⟨0, (), rfl, (iv_w ik_0 (by decide)), by rw [ht]; exact hP, va_K.moved hW.alike hK, hD⟩, hS.F ht⟩) hS.2.2 dX8_isPart_64
  ·
    have j8 : Iv 0 0 x5 := r_eq h6 ik_0
    refine lv_aload_n hx hb dX8_isPart_32 rfl (lv_at hl 3 rfl) ?_
    refine lv_iload hx hb dX8_isPart_33 (lv_at hl 0 rfl) ?_
    refine kc_i (D := (dC, dI)) (S := Unit) (wc := [(o8, .inr (4, [.ref o9, .int v11, .int v12])), (o9, .inl (cI, 12, .inl fw10))]) (wr := [(o1, .inr (8, [.ref o2, .int v4, .int v5, .int v6, .int v7]))]) (w1 := fun _ => [(o8, .inr (4, [.ref o9, .int v11, .int v12])), (o9, .inl (cI, 12, .inl fw10))]) (wn := fun _ => [(o8, .inr (4, [.ref o9, .int v11, .int v12])), (o1, .inr (8, [.ref o2, .int v4, .int v5, .int v6, .int v7])), (o9, .inl (cI, 12, .inl fw10))]) (fun hPc hDc => va_runVN (As := [.int x4]) (rest := []) ⟨hx, hb, hml, hown, hts⟩ (kX4_around_1 l dC dI cI c2 cZ o8 o9 fw10 v11 v12 x4 H.size fw10_b v11_h x4_h) ⟨va_cnB 1 hts gX8_isPart_X4_around_n56 rfl rfl rfl (hN.1 _ ns_118) (hts (.initialized RX4) hm_X8_isPart_4) (by decide +kernel) ⟨Nat.le_of_ble_eq_true rfl, Nat.le_of_ble_eq_true rfl⟩, (hts (.instanceMethod yX4_around) hm_X8_isPart_25), (hts (.selects RX4 yX4_around yX4_around) hm_X8_isPart_26)⟩ (pre_V hPc hK hDc hN (ci := 4) (q0 := 0) rfl rfl) rfl rfl hl.1 rfl (lv_room (Nat.le_of_ble_eq_true rfl)) dX8_isPart_35 ⟨Nat.le_of_ble_eq_true rfl, Nat.le_of_ble_eq_true rfl⟩) hP hD hS hA [0, 2] [1] [1, 0, 2] rfl rfl (by decide +kernel) (by decide +kernel) (by decide +kernel) (by decide +kernel) (fun _ => rfl) (fun x9 _ H locs hq hP hD hS => ?_)
    have x9_h := hq
    have hP : va_P (dC, dI) vwCl ([(o8, .inr (4, [.ref o9, .int v11, .int v12])), (o1, .inr (8, [.ref o2, .int v4, .int v5, .int v6, .int v7])), (o9, .inl (cI, 12, .inl fw10))]) H := hP
    have hD : va_D A ([(o8, .inr (4, [.ref o9, .int v11, .int v12])), (o1, .inr (8, [.ref o2, .int v4, .int v5, .int v6, .int v7])), (o9, .inl (cI, 12, .inl fw10))]) := hD
    refine lv_iload_n hx hb dX8_isPart_38 rfl (lv_at hl 4 rfl) ?_
    refine lv_icmp_ne (tgt := 63) hx hb dX8_isPart_39 (by decide) (fun h10 => ?_) (fun h10 => ?_)
    ·
      refine lv_iconst (v := 0) hx hb dX8_isPart_63 (by decide) ?_
      rw [hQ]
      exact W.zret (v := 0) (ty := .boolean) hx hb hr rfl (fun t ht hW => ⟨⟨0, (), rfl, (iv_w ik_0 (by decide)), by rw [ht]; exact hP, va_K.moved hW.alike hK, hD⟩, hS.F ht⟩) hS.2.2 dX8_isPart_64
    ·
      refine lv_aload_n hx hb dX8_isPart_42 rfl (lv_at hl 3 rfl) ?_
      refine lv_aload_n hx hb dX8_isPart_43 rfl (lv_at hl 3 rfl) ?_
      refine lv_aload_n hx hb dX8_isPart_44 rfl (lv_at hl 2 rfl) ?_
      refine va_get (D := (dC, dI)) (ci := 8) (v := .int v7) (C := RX8) (T := TX8) (N := 5) hx hb hts iw_X8_isPart_X8 hown hK hP 1 rfl rfl 4 (by decide) (hts (.fieldLink RX8 25 "HolelessHouse$Parts" "other" "I") hm_X8_isPart_2) (fun _ h9 => h9) rfl dX8_isPart_45 ?_
      refine lv_iload_n hx hb dX8_isPart_48 rfl (lv_at hl 1 rfl) ?_
      refine kc_i (D := (dC, dI)) (S := Unit) (wc := [(o8, .inr (4, [.ref o9, .int v11, .int v12])), (o9, .inl (cI, 12, .inl fw10))]) (wr := [(o1, .inr (8, [.ref o2, .int v4, .int v5, .int v6, .int v7]))]) (w1 := fun _ => [(o8, .inr (4, [.ref o9, .int v11, .int v12])), (o9, .inl (cI, 12, .inl fw10))]) (wn := fun _ => [(o8, .inr (4, [.ref o9, .int v11, .int v12])), (o1, .inr (8, [.ref o2, .int v4, .int v5, .int v6, .int v7])), (o9, .inl (cI, 12, .inl fw10))]) (fun hPc hDc => va_runVN (As := [.int v7, .int x3]) (rest := [.ref o8]) ⟨hx, hb, hml, hown, hts⟩ (kX4_reach_1 l dC dI cI c2 cZ o8 o9 fw10 v11 v12 v7 x3 H.size fw10_b v11_h v7_h x3_h) ⟨va_cnB 2 hts gX8_isPart_X4_reach_n48 rfl rfl rfl (hN.1 _ ns_115) (hts (.initialized RX4) hm_X8_isPart_4) (by decide +kernel) ⟨Nat.le_of_ble_eq_true rfl, Nat.le_of_ble_eq_true rfl⟩, (hts (.instanceMethod yX4_reach) hm_X8_isPart_8), (hts (.selects RX4 yX4_reach yX4_reach) hm_X8_isPart_9)⟩ (pre_V hPc hK hDc hN (ci := 4) (q0 := 0) rfl rfl) rfl rfl hl.1 rfl (lv_room (Nat.le_of_ble_eq_true rfl)) dX8_isPart_49 ⟨Nat.le_of_ble_eq_true rfl, Nat.le_of_ble_eq_true rfl⟩) hP hD hS hA [0, 2] [1] [1, 0, 2] rfl rfl (by decide +kernel) (by decide +kernel) (by decide +kernel) (by decide +kernel) (fun _ => rfl) (fun x11 _ H locs hq hP hD hS => ?_)
      have x11_h := hq
      have hP : va_P (dC, dI) vwCl ([(o8, .inr (4, [.ref o9, .int v11, .int v12])), (o1, .inr (8, [.ref o2, .int v4, .int v5, .int v6, .int v7])), (o9, .inl (cI, 12, .inl fw10))]) H := hP
      have hD : va_D A ([(o8, .inr (4, [.ref o9, .int v11, .int v12])), (o1, .inr (8, [.ref o2, .int v4, .int v5, .int v6, .int v7])), (o9, .inl (cI, 12, .inl fw10))]) := hD
      refine kc_i (D := (dC, dI)) (S := Unit) (wc := [(o8, .inr (4, [.ref o9, .int v11, .int v12])), (o9, .inl (cI, 12, .inl fw10))]) (wr := [(o1, .inr (8, [.ref o2, .int v4, .int v5, .int v6, .int v7]))]) (w1 := fun _ => [(o8, .inr (4, [.ref o9, .int v11, .int v12])), (o9, .inl (cI, 12, .inl fw10))]) (wn := fun _ => [(o8, .inr (4, [.ref o9, .int v11, .int v12])), (o1, .inr (8, [.ref o2, .int v4, .int v5, .int v6, .int v7])), (o9, .inl (cI, 12, .inl fw10))]) (fun hPc hDc => va_runVN (As := [.int x11]) (rest := []) ⟨hx, hb, hml, hown, hts⟩ (kX4_around_1 l dC dI cI c2 cZ o8 o9 fw10 v11 v12 x11 H.size fw10_b v11_h x11_h) ⟨va_cnB 1 hts gX8_isPart_X4_around_n56 rfl rfl rfl (hN.1 _ ns_118) (hts (.initialized RX4) hm_X8_isPart_4) (by decide +kernel) ⟨Nat.le_of_ble_eq_true rfl, Nat.le_of_ble_eq_true rfl⟩, (hts (.instanceMethod yX4_around) hm_X8_isPart_25), (hts (.selects RX4 yX4_around yX4_around) hm_X8_isPart_26)⟩ (pre_V hPc hK hDc hN (ci := 4) (q0 := 0) rfl rfl) rfl rfl hl.1 rfl (lv_room (Nat.le_of_ble_eq_true rfl)) dX8_isPart_52 ⟨Nat.le_of_ble_eq_true rfl, Nat.le_of_ble_eq_true rfl⟩) hP hD hS hA [0, 2] [1] [1, 0, 2] rfl rfl (by decide +kernel) (by decide +kernel) (by decide +kernel) (by decide +kernel) (fun _ => rfl) (fun x12 _ H locs hq hP hD hS => ?_)
      have x12_h := hq
      have hP : va_P (dC, dI) vwCl ([(o8, .inr (4, [.ref o9, .int v11, .int v12])), (o1, .inr (8, [.ref o2, .int v4, .int v5, .int v6, .int v7])), (o9, .inl (cI, 12, .inl fw10))]) H := hP
      have hD : va_D A ([(o8, .inr (4, [.ref o9, .int v11, .int v12])), (o1, .inr (8, [.ref o2, .int v4, .int v5, .int v6, .int v7])), (o9, .inl (cI, 12, .inl fw10))]) := hD
      refine lv_iload_n hx hb dX8_isPart_55 rfl (lv_at hl 4 rfl) ?_
      refine lv_icmp_ne (tgt := 63) hx hb dX8_isPart_56 (by decide) (fun h13 => ?_) (fun h13 => ?_)
      ·
        refine lv_iconst (v := 0) hx hb dX8_isPart_63 (by decide) ?_
        rw [hQ]
        exact W.zret (v := 0) (ty := .boolean) hx hb hr rfl (fun t ht hW => ⟨⟨0, (), rfl, (iv_w ik_0 (by decide)), by rw [ht]; exact hP, va_K.moved hW.alike hK, hD⟩, hS.F ht⟩) hS.2.2 dX8_isPart_64
      ·
        refine lv_iconst (v := 1) hx hb dX8_isPart_59 (by decide) ?_
        refine lv_goto (tgt := 64) hx hb dX8_isPart_60 (by decide) ?_
        rw [hQ]
        exact W.zret (v := 1) (ty := .boolean) hx hb hr rfl (fun t ht hW => ⟨⟨1, (), rfl, (iv_w ik_1 (by decide)), by rw [ht]; exact hP, va_K.moved hW.alike hK, hD⟩, hS.F ht⟩) hS.2.2 dX8_isPart_64
theorem iw_X8_keep_X8 : ∀ w ∈ wsX80, w ∈ wsX8_keep := fun _ h => List.mem_cons.mpr (Or.inr (List.mem_append.mpr (Or.inr h)))
set_option maxHeartbeats 4000000 in
set_option maxRecDepth 100000 in
theorem kX8_keep_1 (l : Launch) (dC : Nat → ClassId) (dI : Nat → Nat → Nat) (cI c2 cZ : ClassId) (o1 : Nat) (o2 : Nat) (fw3 : Nat → Int32) (v4 : Int32) (v5 : Int32) (v6 : Int32) (v7 : Int32) (a1 : Int32) (sz : Nat) (v4_h : Iv 0 252 v4) (v6_h : Iv 0 11 v6) (v7_h : Iv 0 11 v7) : Met l yX8_keep wsX8_keep ({ frames := 0, cells := 0, slots := 0, locals := 0 }) (va_Pc [.ref o1, .int a1] (wPre (dC, dI) [(cI, .int), (c2, .array .int), (cZ, .boolean)] ([(o1, .inr (8, [.ref o2, .int v4, .int v5, .int v6, .int v7])), (o2, .inl (cI, 252, .inl fw3))]) sz)) (va_Qv (fun (u : Int32 × (Nat → Int32)) => Iv 0 252 u.1) (fun u t => wPost (dC, dI) [(cI, .int), (c2, .array .int), (cZ, .boolean)] (va_A ([(o1, .inr (8, [.ref o2, .int v4, .int v5, .int v6, .int v7])), (o2, .inl (cI, 252, .inl fw3))]) sz) ([(o1, .inr (8, [.ref o2, .int u.1, .int v5, .int v6, .int v7])), (o2, .inl (cI, 252, .inl u.2))]) t) (va_A ([(o1, .inr (8, [.ref o2, .int v4, .int v5, .int v6, .int v7])), (o2, .inl (cI, 252, .inl fw3))]) sz)) 0 0 (va_A ([(o1, .inr (8, [.ref o2, .int v4, .int v5, .int v6, .int v7])), (o2, .inl (cI, 252, .inl fw3))]) sz) := by
  refine Met.ofW (cc := cX8_keep) (maxL := 2) (ret := none) (by decide) rfl ?_
  intro p e s m args below meth c s₁ B hml hv
  obtain ⟨rfl, hsz, hP, hK, hD0, hN⟩ := hv
  have hx := B.exec
  have hb := B.bytes
  have hr := B.returns
  have hts := atoms_spec (ws := wsX8_keep) B.pre
  have hown : s.vm.findClass RX8 = some m.cls := findClass_of_methodNamed B.named
  have hlocks := B.notSynchronized
  subst hsz
  have hD := hD0.self (sz := s.heap.size)
  generalize hAe : va_A ([(o1, .inr (8, [.ref o2, .int v4, .int v5, .int v6, .int v7])), (o2, .inl (cI, 252, .inl fw3))]) s.heap.size = A at hD ⊢
  have hA : ∀ q : Nat, s.heap.size ≤ q → A q := fun q h => by rw [← hAe]; exact Or.inr h
  have hS : va_S A s.heap s.heap [] := va_S.rf
  have hP : va_P (dC, dI) vwCl ([(o1, .inr (8, [.ref o2, .int v4, .int v5, .int v6, .int v7])), (o2, .inl (cI, 252, .inl fw3))]) s.heap := hP
  have hl := lv_entry ([.ref o1, .int a1]) (n := 2) (Nat.le_of_ble_eq_true rfl)
  rw [lg_entry_eq]
  generalize (lg_sl ([.ref o1, .int a1]) ++ List.replicate (2 - (lg_sl ([.ref o1, .int a1])).length) Slot.unset).toArray = ls at hl ⊢
  have hl : lv_has ls 2 [(0, .ref o1), (1, .int a1)] := hl
  refine gen_Q (fun Q hQ => ?_)
  refine lv_aload_n hx hb dX8_keep_0 rfl (lv_at hl 0 rfl) ?_
  refine va_get (D := (dC, dI)) (ci := 8) (v := .int v4) (C := RX8) (T := TX8) (N := 5) hx hb hts iw_X8_keep_X8 hown hK hP 0 rfl rfl 1 (by decide) (hts (.fieldLink RX8 15 "HolelessHouse$Parts" "size" "I") hm_X8_keep_1) (fun _ h9 => h9) rfl dX8_keep_1 ?_
  refine lv_sipush (v := 252) hx hb dX8_keep_4 (by decide) ?_
  refine lv_icmp_ge (tgt := 30) hx hb dX8_keep_7 (by decide) (fun h1 => ?_) (fun h1 => ?_)
  ·
    have qh1 := le_i h1
    have j2 : Iv 252 252 v4 := r_ler qh1 ik_252 v4_h (by decide)
    rw [hQ]
    exact W.vret hx hb hr (fun t ht hW => ⟨⟨(v4, fw3), rfl, (iv_w j2 (by decide)), by rw [ht]; exact hP, va_K.moved hW.alike hK, hD⟩, hS.F ht⟩) hS.2.2 dX8_keep_30
  ·
    have qh1 := nle_i h1
    have j3 : Iv 0 251 v4 := r_ltl qh1 v4_h ik_252 (by decide)
    refine lv_aload_n hx hb dX8_keep_10 rfl (lv_at hl 0 rfl) ?_
    refine va_get (D := (dC, dI)) (ci := 8) (v := .ref o2) (C := RX8) (T := TX8) (N := 5) hx hb hts iw_X8_keep_X8 hown hK hP 0 rfl rfl 0 (by decide) (hts (.fieldLink RX8 9 "HolelessHouse$Parts" "sets" "[I") hm_X8_keep_2) (fun _ h9 => h9) rfl dX8_keep_11 ?_
    refine lv_aload_n hx hb dX8_keep_14 rfl (lv_at hl 0 rfl) ?_
    refine va_get (D := (dC, dI)) (ci := 8) (v := .int v4) (C := RX8) (T := TX8) (N := 5) hx hb hts iw_X8_keep_X8 hown hK hP 0 rfl rfl 1 (by decide) (hts (.fieldLink RX8 15 "HolelessHouse$Parts" "size" "I") hm_X8_keep_1) (fun _ h9 => h9) rfl dX8_keep_15 ?_
    refine lv_iload_n hx hb dX8_keep_18 rfl (lv_at hl 1 rfl) ?_
    refine k_iast hx hb hK hP hD hS 1 0 rfl rfl (vin_iv j3 (by decide)) dX8_keep_19 (fun f4 H locs f4_e hP hD hS => ?_)
    have hP : va_P (dC, dI) vwCl ([(o1, .inr (8, [.ref o2, .int v4, .int v5, .int v6, .int v7])), (o2, .inl (cI, 252, .inl f4))]) H := hP
    have hD : va_D A ([(o1, .inr (8, [.ref o2, .int v4, .int v5, .int v6, .int v7])), (o2, .inl (cI, 252, .inl f4))]) := hD
    refine lv_aload_n hx hb dX8_keep_20 rfl (lv_at hl 0 rfl) ?_
    refine lv_dup hx hb dX8_keep_21 rfl ?_
    refine va_get (D := (dC, dI)) (ci := 8) (v := .int v4) (C := RX8) (T := TX8) (N := 5) hx hb hts iw_X8_keep_X8 hown hK hP 0 rfl rfl 1 (by decide) (hts (.fieldLink RX8 15 "HolelessHouse$Parts" "size" "I") hm_X8_keep_1) (fun _ h9 => h9) rfl dX8_keep_22 ?_
    refine lv_iconst (v := 1) hx hb dX8_keep_25 (by decide) ?_
    refine lv_iadd hx hb dX8_keep_26 (lv_topi (fun x5 x5_e => ?_))
    have x5_h : Iv 1 252 x5 := iv_e x5_e (iv_add j3 ik_1 (by decide))
    refine va_put (D := (dC, dI)) (ci := 8) (v := .int x5) (ty := .int) (C := RX8) (T := TX8) (N := 5) hx hb hts iw_X8_keep_X8 tyX8 tyX8_ok nmX8 hown hK hP hD hS 0 rfl rfl 1 (by decide) (hts (.fieldLink RX8 15 "HolelessHouse$Parts" "size" "I") hm_X8_keep_1) (fun _ h9 => h9) rfl (by decide +kernel) rfl rfl (Nat.le_of_ble_eq_true rfl) dX8_keep_27 (fun H locs hP hD hS => ?_)
    have hP : va_P (dC, dI) vwCl ([(o1, .inr (8, [.ref o2, .int x5, .int v5, .int v6, .int v7])), (o2, .inl (cI, 252, .inl f4))]) H := hP
    have hD : va_D A ([(o1, .inr (8, [.ref o2, .int x5, .int v5, .int v6, .int v7])), (o2, .inl (cI, 252, .inl f4))]) := hD
    rw [hQ]
    exact W.vret hx hb hr (fun t ht hW => ⟨⟨(x5, f4), rfl, (iv_w x5_h (by decide)), by rw [ht]; exact hP, va_K.moved hW.alike hK, hD⟩, hS.F ht⟩) hS.2.2 dX8_keep_30
theorem iw_X8_bring_X4 : ∀ w ∈ wsX40, w ∈ wsX8_bring := fun _ h => List.mem_cons.mpr (Or.inr (List.mem_append.mpr (Or.inr h)))
theorem iw_X8_bring_X8 : ∀ w ∈ wsX80, w ∈ wsX8_bring := fun _ h => List.mem_cons.mpr (Or.inr (List.mem_append.mpr (Or.inl (List.mem_append.mpr (Or.inr h)))))
set_option maxHeartbeats 4000000 in
set_option maxRecDepth 100000 in
theorem kX8_bring_1 (l : Launch) (dC : Nat → ClassId) (dI : Nat → Nat → Nat) (cI c2 cZ : ClassId) (o1 : Nat) (o8 : Nat) (o2 : Nat) (o9 : Nat) (fw3 : Nat → Int32) (v4 : Int32) (v5 : Int32) (v6 : Int32) (v7 : Int32) (fw10 : Nat → Int32) (v11 : Int32) (v12 : Int32) (a2 : Int32) (a3 : Int32) (sz : Nat) (v4_h : Iv 0 252 v4) (v6_h : Iv (-1) 11 v6) (v7_h : Iv (-1) 11 v7) (fw10_b : Bd 12 0 4095 fw10) (v11_h : Iv 0 12 v11) (a2_h : Iv 0 11 a2) (a3_h : Iv 0 11 a3) : Met l yX8_bring wsX8_bring ({ frames := 4, cells := 0, slots := 0, locals := 93 }) (va_Pc [.ref o1, .ref o8, .int a2, .int a3] (wPre (dC, dI) [(cI, .int), (c2, .array .int), (cZ, .boolean)] ([(o1, .inr (8, [.ref o2, .int v4, .int v5, .int v6, .int v7])), (o8, .inr (4, [.ref o9, .int v11, .int v12])), (o9, .inl (cI, 12, .inl fw10)), (o2, .inl (cI, 252, .inl fw3))]) sz)) (va_Qv (fun (u : Int32 × Int32 × Int32 × Int32 × (Nat → Int32)) => Iv 0 252 u.1 ∧ Iv 0 11 u.2.2.1 ∧ Iv 0 11 u.2.2.2.1) (fun u t => wPost (dC, dI) [(cI, .int), (c2, .array .int), (cZ, .boolean)] (va_A ([(o1, .inr (8, [.ref o2, .int v4, .int v5, .int v6, .int v7])), (o8, .inr (4, [.ref o9, .int v11, .int v12])), (o9, .inl (cI, 12, .inl fw10)), (o2, .inl (cI, 252, .inl fw3))]) sz) ([(o1, .inr (8, [.ref o2, .int u.1, .int u.2.1, .int u.2.2.1, .int u.2.2.2.1])), (o8, .inr (4, [.ref o9, .int v11, .int v12])), (o9, .inl (cI, 12, .inl fw10)), (o2, .inl (cI, 252, .inl u.2.2.2.2))]) t) (va_A ([(o1, .inr (8, [.ref o2, .int v4, .int v5, .int v6, .int v7])), (o8, .inr (4, [.ref o9, .int v11, .int v12])), (o9, .inl (cI, 12, .inl fw10)), (o2, .inl (cI, 252, .inl fw3))]) sz)) 0 0 (va_A ([(o1, .inr (8, [.ref o2, .int v4, .int v5, .int v6, .int v7])), (o8, .inr (4, [.ref o9, .int v11, .int v12])), (o9, .inl (cI, 12, .inl fw10)), (o2, .inl (cI, 252, .inl fw3))]) sz) := by
  refine Met.ofW (cc := cX8_bring) (maxL := 7) (ret := none) (by decide) rfl ?_
  intro p e s m args below meth c s₁ B hml hv
  obtain ⟨rfl, hsz, hP, hK, hD0, hN⟩ := hv
  have hx := B.exec
  have hb := B.bytes
  have hr := B.returns
  have hts := atoms_spec (ws := wsX8_bring) B.pre
  have hown : s.vm.findClass RX8 = some m.cls := findClass_of_methodNamed B.named
  have hlocks := B.notSynchronized
  subst hsz
  have hD := hD0.self (sz := s.heap.size)
  generalize hAe : va_A ([(o1, .inr (8, [.ref o2, .int v4, .int v5, .int v6, .int v7])), (o8, .inr (4, [.ref o9, .int v11, .int v12])), (o9, .inl (cI, 12, .inl fw10)), (o2, .inl (cI, 252, .inl fw3))]) s.heap.size = A at hD ⊢
  have hA : ∀ q : Nat, s.heap.size ≤ q → A q := fun q h => by rw [← hAe]; exact Or.inr h
  have hS : va_S A s.heap s.heap [] := va_S.rf
  have hP : va_P (dC, dI) vwCl ([(o1, .inr (8, [.ref o2, .int v4, .int v5, .int v6, .int v7])), (o8, .inr (4, [.ref o9, .int v11, .int v12])), (o9, .inl (cI, 12, .inl fw10)), (o2, .inl (cI, 252, .inl fw3))]) s.heap := hP
  have hl := lv_entry ([.ref o1, .ref o8, .int a2, .int a3]) (n := 7) (Nat.le_of_ble_eq_true rfl)
  rw [lg_entry_eq]
  generalize (lg_sl ([.ref o1, .ref o8, .int a2, .int a3]) ++ List.replicate (7 - (lg_sl ([.ref o1, .ref o8, .int a2, .int a3])).length) Slot.unset).toArray = ls at hl ⊢
  have hl : lv_has ls 7 [(0, .ref o1), (1, .ref o8), (2, .int a2), (3, .int a3)] := hl
  refine gen_Q (fun Q hQ => ?_)
  refine lv_aload_n hx hb dX8_bring_0 rfl (lv_at hl 0 rfl) ?_
  refine va_get (D := (dC, dI)) (ci := 8) (v := .int v5) (C := RX8) (T := TX8) (N := 5) hx hb hts iw_X8_bring_X8 hown hK hP 0 rfl rfl 2 (by decide) (hts (.fieldLink RX8 19 "HolelessHouse$Parts" "madeFor" "I") hm_X8_bring_1) (fun _ h9 => h9) rfl dX8_bring_1 ?_
  refine lv_aload_n hx hb dX8_bring_4 rfl (lv_at hl 1 rfl) ?_
  refine va_getN (D := (dC, dI)) (ci := 4) (v := .int v12) (C := RX4) (T := TX4) (N := 3) hx hb hts iw_X8_bring_X4 hown hK hP 1 rfl rfl 2 (by decide) (hN.use ns_17) (fun _ h9 => h9) rfl dX8_bring_5 ?_
  refine lv_icmp_ne (tgt := 28) hx hb dX8_bring_8 (by decide) (fun h1 => ?_) (fun h1 => ?_)
  ·
    refine lv_aload_n hx hb dX8_bring_28 rfl (lv_at hl 0 rfl) ?_
    refine lv_aload_n hx hb dX8_bring_29 rfl (lv_at hl 1 rfl) ?_
    refine va_getN (D := (dC, dI)) (ci := 4) (v := .int v12) (C := RX4) (T := TX4) (N := 3) hx hb hts iw_X8_bring_X4 hown hK hP 1 rfl rfl 2 (by decide) (hN.use ns_17) (fun _ h9 => h9) rfl dX8_bring_30 ?_
    refine va_put (D := (dC, dI)) (ci := 8) (v := .int v12) (ty := .int) (C := RX8) (T := TX8) (N := 5) hx hb hts iw_X8_bring_X8 tyX8 tyX8_ok nmX8 hown hK hP hD hS 0 rfl rfl 2 (by decide) (hts (.fieldLink RX8 19 "HolelessHouse$Parts" "madeFor" "I") hm_X8_bring_1) (fun _ h9 => h9) rfl (by decide +kernel) rfl rfl (Nat.le_of_ble_eq_true rfl) dX8_bring_33 (fun H locs hP hD hS => ?_)
    have hP : va_P (dC, dI) vwCl ([(o1, .inr (8, [.ref o2, .int v4, .int v12, .int v6, .int v7])), (o8, .inr (4, [.ref o9, .int v11, .int v12])), (o9, .inl (cI, 12, .inl fw10)), (o2, .inl (cI, 252, .inl fw3))]) H := hP
    have hD : va_D A ([(o1, .inr (8, [.ref o2, .int v4, .int v12, .int v6, .int v7])), (o8, .inr (4, [.ref o9, .int v11, .int v12])), (o9, .inl (cI, 12, .inl fw10)), (o2, .inl (cI, 252, .inl fw3))]) := hD
    refine lv_aload_n hx hb dX8_bring_36 rfl (lv_at hl 0 rfl) ?_
    refine lv_iload_n hx hb dX8_bring_37 rfl (lv_at hl 2 rfl) ?_
    refine va_put (D := (dC, dI)) (ci := 8) (v := .int a2) (ty := .int) (C := RX8) (T := TX8) (N := 5) hx hb hts iw_X8_bring_X8 tyX8 tyX8_ok nmX8 hown hK hP hD hS 0 rfl rfl 3 (by decide) (hts (.fieldLink RX8 22 "HolelessHouse$Parts" "one" "I") hm_X8_bring_2) (fun _ h9 => h9) rfl (by decide +kernel) rfl rfl (Nat.le_of_ble_eq_true rfl) dX8_bring_38 (fun H locs hP hD hS => ?_)
    have hP : va_P (dC, dI) vwCl ([(o1, .inr (8, [.ref o2, .int v4, .int v12, .int a2, .int v7])), (o8, .inr (4, [.ref o9, .int v11, .int v12])), (o9, .inl (cI, 12, .inl fw10)), (o2, .inl (cI, 252, .inl fw3))]) H := hP
    have hD : va_D A ([(o1, .inr (8, [.ref o2, .int v4, .int v12, .int a2, .int v7])), (o8, .inr (4, [.ref o9, .int v11, .int v12])), (o9, .inl (cI, 12, .inl fw10)), (o2, .inl (cI, 252, .inl fw3))]) := hD
    refine lv_aload_n hx hb dX8_bring_41 rfl (lv_at hl 0 rfl) ?_
    refine lv_iload_n hx hb dX8_bring_42 rfl (lv_at hl 3 rfl) ?_
    refine va_put (D := (dC, dI)) (ci := 8) (v := .int a3) (ty := .int) (C := RX8) (T := TX8) (N := 5) hx hb hts iw_X8_bring_X8 tyX8 tyX8_ok nmX8 hown hK hP hD hS 0 rfl rfl 4 (by decide) (hts (.fieldLink RX8 25 "HolelessHouse$Parts" "other" "I") hm_X8_bring_3) (fun _ h9 => h9) rfl (by decide +kernel) rfl rfl (Nat.le_of_ble_eq_true rfl) dX8_bring_43 (fun H locs hP hD hS => ?_)
    have hP : va_P (dC, dI) vwCl ([(o1, .inr (8, [.ref o2, .int v4, .int v12, .int a2, .int a3])), (o8, .inr (4, [.ref o9, .int v11, .int v12])), (o9, .inl (cI, 12, .inl fw10)), (o2, .inl (cI, 252, .inl fw3))]) H := hP
    have hD : va_D A ([(o1, .inr (8, [.ref o2, .int v4, .int v12, .int a2, .int a3])), (o8, .inr (4, [.ref o9, .int v11, .int v12])), (o9, .inl (cI, 12, .inl fw10)), (o2, .inl (cI, 252, .inl fw3))]) := hD
    refine lv_aload_n hx hb dX8_bring_46 rfl (lv_at hl 0 rfl) ?_
    refine lv_iconst (v := 0) hx hb dX8_bring_47 (by decide) ?_
    refine va_put (D := (dC, dI)) (ci := 8) (v := .int 0) (ty := .int) (C := RX8) (T := TX8) (N := 5) hx hb hts iw_X8_bring_X8 tyX8 tyX8_ok nmX8 hown hK hP hD hS 0 rfl rfl 1 (by decide) (hts (.fieldLink RX8 15 "HolelessHouse$Parts" "size" "I") hm_X8_bring_4) (fun _ h9 => h9) rfl (by decide +kernel) rfl rfl (Nat.le_of_ble_eq_true rfl) dX8_bring_48 (fun H locs hP hD hS => ?_)
    have hP : va_P (dC, dI) vwCl ([(o1, .inr (8, [.ref o2, .int 0, .int v12, .int a2, .int a3])), (o8, .inr (4, [.ref o9, .int v11, .int v12])), (o9, .inl (cI, 12, .inl fw10)), (o2, .inl (cI, 252, .inl fw3))]) H := hP
    have hD : va_D A ([(o1, .inr (8, [.ref o2, .int 0, .int v12, .int a2, .int a3])), (o8, .inr (4, [.ref o9, .int v11, .int v12])), (o9, .inl (cI, 12, .inl fw10)), (o2, .inl (cI, 252, .inl fw3))]) := hD
    refine lv_aload_n hx hb dX8_bring_51 rfl (lv_at hl 1 rfl) ?_
    refine kc_i (D := (dC, dI)) (S := Unit) (wc := [(o8, .inr (4, [.ref o9, .int v11, .int v12]))]) (wr := [(o1, .inr (8, [.ref o2, .int 0, .int v12, .int a2, .int a3])), (o9, .inl (cI, 12, .inl fw10)), (o2, .inl (cI, 252, .inl fw3))]) (w1 := fun _ => [(o8, .inr (4, [.ref o9, .int v11, .int v12]))]) (wn := fun _ => [(o1, .inr (8, [.ref o2, .int 0, .int v12, .int a2, .int a3])), (o8, .inr (4, [.ref o9, .int v11, .int v12])), (o9, .inl (cI, 12, .inl fw10)), (o2, .inl (cI, 252, .inl fw3))]) (fun hPc hDc => va_runVN (As := []) (rest := []) ⟨hx, hb, hml, hown, hts⟩ (kX4_all_1 l dC dI cI c2 cZ o8 o9 v11 v12 H.size v11_h) ⟨va_cnB 0 hts gX8_bring_X4_all_n33 rfl rfl rfl (hN.1 _ ns_114) (hts (.initialized RX4) hm_X8_bring_6) (by decide +kernel) ⟨Nat.le_of_ble_eq_true rfl, Nat.le_of_ble_eq_true rfl⟩, (hts (.instanceMethod yX4_all) hm_X8_bring_5), (hts (.selects RX4 yX4_all yX4_all) hm_X8_bring_7)⟩ (pre_V hPc hK hDc hN (ci := 4) (q0 := 0) rfl rfl) rfl rfl hl.1 rfl (lv_room (Nat.le_of_ble_eq_true rfl)) dX8_bring_52 ⟨Nat.le_of_ble_eq_true rfl, Nat.le_of_ble_eq_true rfl⟩) hP hD hS hA [1] [0, 2, 3] [0, 3, 1, 2] rfl rfl (by decide +kernel) (by decide +kernel) (by decide +kernel) (by decide +kernel) (fun _ => rfl) (fun x2 _ H locs hq hP hD hS => ?_)
    have x2_h := hq
    have hP : va_P (dC, dI) vwCl ([(o1, .inr (8, [.ref o2, .int 0, .int v12, .int a2, .int a3])), (o8, .inr (4, [.ref o9, .int v11, .int v12])), (o9, .inl (cI, 12, .inl fw10)), (o2, .inl (cI, 252, .inl fw3))]) H := hP
    have hD : va_D A ([(o1, .inr (8, [.ref o2, .int 0, .int v12, .int a2, .int a3])), (o8, .inr (4, [.ref o9, .int v11, .int v12])), (o9, .inl (cI, 12, .inl fw10)), (o2, .inl (cI, 252, .inl fw3))]) := hD
    refine lv_iconst (v := 1) hx hb dX8_bring_55 (by decide) ?_
    refine lv_iload_n hx hb dX8_bring_56 rfl (lv_at hl 2 rfl) ?_
    refine lv_ishl hx hb dX8_bring_57 (lv_topi (fun x3 x3_e => ?_))
    have x3_h : Iv 1 2048 x3 := iv_e x3_e (iv_shl1 a2_h (by decide))
    refine lv_iconst (v := (-1)) hx hb dX8_bring_58 (by decide) ?_
    refine lv_ixor hx hb dX8_bring_59 (lv_topi (fun x4 x4_e => ?_))
    refine lv_iand hx hb dX8_bring_60 (lv_topi (fun x5 x5_e => ?_))
    have x5_h : Iv 0 4095 x5 := iv_e x5_e (iv_andL _ x2_h (by decide))
    refine lv_iconst (v := 1) hx hb dX8_bring_61 (by decide) ?_
    refine lv_iload_n hx hb dX8_bring_62 rfl (lv_at hl 3 rfl) ?_
    refine lv_ishl hx hb dX8_bring_63 (lv_topi (fun x6 x6_e => ?_))
    have x6_h : Iv 1 2048 x6 := iv_e x6_e (iv_shl1 a3_h (by decide))
    refine lv_iconst (v := (-1)) hx hb dX8_bring_64 (by decide) ?_
    refine lv_ixor hx hb dX8_bring_65 (lv_topi (fun x7 x7_e => ?_))
    refine lv_iand hx hb dX8_bring_66 (lv_topi (fun x8 x8_e => ?_))
    have x8_h : Iv 0 4095 x8 := iv_e x8_e (iv_andL _ x5_h (by decide))
    refine lv_istore (lv' := [(4, .int x8), (0, .ref o1), (1, .ref o8), (2, .int a2), (3, .int a3)]) hx hb dX8_bring_67 hl (by decide) rfl (fun ls hl => ?_)
    refine lv_aload_n hx hb dX8_bring_69 rfl (lv_at hl 2 rfl) ?_
    refine va_getN (D := (dC, dI)) (ci := 4) (v := .ref o9) (C := RX4) (T := TX4) (N := 3) hx hb hts iw_X8_bring_X4 hown hK hP 1 rfl rfl 0 (by decide) (hN.use ns_1) (fun _ h9 => h9) rfl dX8_bring_70 ?_
    refine lv_iload_n hx hb dX8_bring_73 rfl (lv_at hl 3 rfl) ?_
    refine va_iald hx hb hK hP 2 0 rfl rfl (vin_iv a2_h (by decide)) dX8_bring_74 (lv_topi (fun x9 x9_e => ?_))
    have x9_h : Iv 0 4095 x9 := iv_e x9_e (bd_at fw10_b (vin_iv a2_h (by decide)))
    refine lv_aload_n hx hb dX8_bring_75 rfl (lv_at hl 2 rfl) ?_
    refine va_getN (D := (dC, dI)) (ci := 4) (v := .ref o9) (C := RX4) (T := TX4) (N := 3) hx hb hts iw_X8_bring_X4 hown hK hP 1 rfl rfl 0 (by decide) (hN.use ns_1) (fun _ h9 => h9) rfl dX8_bring_76 ?_
    refine lv_iload_n hx hb dX8_bring_79 rfl (lv_at hl 4 rfl) ?_
    refine va_iald hx hb hK hP 2 0 rfl rfl (vin_iv a3_h (by decide)) dX8_bring_80 (lv_topi (fun x10 x10_e => ?_))
    have x10_h : Iv 0 4095 x10 := iv_e x10_e (bd_at fw10_b (vin_iv a3_h (by decide)))
    refine lv_iand hx hb dX8_bring_81 (lv_topi (fun x11 x11_e => ?_))
    have x11_h : Iv 0 4095 x11 := iv_e x11_e (iv_andL _ x9_h (by decide))
    refine lv_istore (lv' := [(5, .int x11), (4, .int x8), (0, .ref o1), (1, .ref o8), (2, .int a2), (3, .int a3)]) hx hb dX8_bring_82 hl (by decide) rfl (fun ls hl => ?_)
    refine lv_iload hx hb dX8_bring_84 (lv_at hl 0 rfl) ?_
    refine lv_istore (lv' := [(6, .int x11), (5, .int x11), (4, .int x8), (0, .ref o1), (1, .ref o8), (2, .int a2), (3, .int a3)]) hx hb dX8_bring_86 hl (by decide) rfl (fun ls hl => ?_)
    have L1 : ∀ (N : Nat) (x55 : Int32) (f56 : Nat → Int32) (x57 : Int32) (H : Heap) (locs : List Loc) (ls : Array Slot), (4096 - x55.toInt).toNat < N → Iv 0 4096 x55 → Iv 0 252 x57 → va_P (dC, dI) vwCl ([(o1, .inr (8, [.ref o2, .int x57, .int v12, .int a2, .int a3])), (o8, .inr (4, [.ref o9, .int v11, .int v12])), (o9, .inl (cI, 12, .inl fw10)), (o2, .inl (cI, 252, .inl f56))]) H → va_D A ([(o1, .inr (8, [.ref o2, .int x57, .int v12, .int a2, .int a3])), (o8, .inr (4, [.ref o9, .int v11, .int v12])), (o9, .inl (cI, 12, .inl fw10)), (o2, .inl (cI, 252, .inl f56))]) → va_S A s.heap H locs → lv_has ls 7 [(6, .int x55), (5, .int x11), (4, .int x8), (0, .ref o1), (1, .ref o8), (2, .int a2), (3, .int a3)] → W p l e ({ frames := 4, cells := 0, slots := 0, locals := 93 }) s m ([.ref o1, .ref o8, .int a2, .int a3] : List Value).toArray below meth c H locs 0 0 Q (F0 m 88 ls []) := by
      intro N
      induction N with
      | zero =>
        intro x55 f56 x57 H locs ls hM
        exact absurd hM (Nat.not_lt_zero _)
      | succ N ih1 =>
        intro x55 f56 x57 H locs ls hM1 x55_h x57_h hP hD hS hl
        refine lv_iload hx hb dX8_bring_88 (lv_at hl 0 rfl) ?_
        refine lv_iload hx hb dX8_bring_90 (lv_at hl 2 rfl) ?_
        refine lv_icmp_gt (tgt := 137) hx hb dX8_bring_92 (by decide) (fun h58 => ?_) (fun h58 => ?_)
        ·
          have qh58 := lt_i h58
          have j59 : Iv 1 4096 x55 := r_ltr qh58 x8_h x55_h (by decide)
          rw [hQ]
          exact W.vret hx hb hr (fun t ht hW => ⟨⟨(x57, v12, a2, a3, f56), rfl, ⟨x57_h, a2_h, a3_h⟩, by rw [ht]; exact hP, va_K.moved hW.alike hK, hD⟩, hS.F ht⟩) hS.2.2 dX8_bring_137
        ·
          have qh58 := nlt_i h58
          have j60 : Iv 0 4095 x55 := r_lel qh58 x55_h x8_h (by decide)
          refine lv_iload hx hb dX8_bring_95 (lv_at hl 0 rfl) ?_
          refine lv_iload hx hb dX8_bring_97 (lv_at hl 2 rfl) ?_
          refine lv_iconst (v := (-1)) hx hb dX8_bring_99 (by decide) ?_
          refine lv_ixor hx hb dX8_bring_100 (lv_topi (fun x61 x61_e => ?_))
          refine lv_iand hx hb dX8_bring_101 (lv_topi (fun x62 x62_e => ?_))
          have x62_h : Iv 0 4095 x62 := iv_e x62_e (iv_andL _ j60 (by decide))
          refine lv_if_ne (tgt := 131) hx hb dX8_bring_102 (by decide) (fun h63 => ?_) (fun h63 => ?_)
          ·
            have j64 : Iv 1 4095 x62 := r_nelo h63 x62_h ik_0 (by decide)
            obtain ⟨x65, x65_e⟩ : ∃ z : Int32, z = x55 + 1 := ⟨_, rfl⟩
            have x65_h : Iv 1 4096 x65 := iv_e x65_e (iv_add j60 ik_1 (by decide))
            refine lv_iinc (v := x65) (lv' := [(6, .int x65), (5, .int x11), (4, .int x8), (0, .ref o1), (1, .ref o8), (2, .int a2), (3, .int a3)]) hx hb dX8_bring_131 hl (k := 0) rfl (incN (by decide +kernel) x65_e) (by decide) rfl (fun ls hl => ?_)
            refine lv_goto (tgt := 88) hx hb dX8_bring_134 (by decide) ?_
            exact ih1 x65 f56 x57 _ _ _ (ms_up x65_e j60 (by decide) hM1) (iv_w x65_h (by decide)) x57_h hP hD hS hl
          ·
            have j66 : Iv 0 0 x62 := r_eq h63 ik_0
            refine lv_iload hx hb dX8_bring_105 (lv_at hl 0 rfl) ?_
            refine lv_iload hx hb dX8_bring_107 (lv_at hl 1 rfl) ?_
            refine lv_iand hx hb dX8_bring_109 (lv_topi (fun x67 x67_e => ?_))
            have x67_h : Iv 0 4095 x67 := iv_e x67_e (iv_andL _ j60 (by decide))
            refine lv_iload hx hb dX8_bring_110 (lv_at hl 1 rfl) ?_
            refine lv_icmp_ne (tgt := 131) hx hb dX8_bring_112 (by decide) (fun h68 => ?_) (fun h68 => ?_)
            ·
              obtain ⟨x69, x69_e⟩ : ∃ z : Int32, z = x55 + 1 := ⟨_, rfl⟩
              have x69_h : Iv 1 4096 x69 := iv_e x69_e (iv_add j60 ik_1 (by decide))
              refine lv_iinc (v := x69) (lv' := [(6, .int x69), (5, .int x11), (4, .int x8), (0, .ref o1), (1, .ref o8), (2, .int a2), (3, .int a3)]) hx hb dX8_bring_131 hl (k := 0) rfl (incN (by decide +kernel) x69_e) (by decide) rfl (fun ls hl => ?_)
              refine lv_goto (tgt := 88) hx hb dX8_bring_134 (by decide) ?_
              exact ih1 x69 f56 x57 _ _ _ (ms_up x69_e j60 (by decide) hM1) (iv_w x69_h (by decide)) x57_h hP hD hS hl
            ·
              refine lv_aload_n hx hb dX8_bring_115 rfl (lv_at hl 3 rfl) ?_
              refine lv_aload_n hx hb dX8_bring_116 rfl (lv_at hl 4 rfl) ?_
              refine lv_iload hx hb dX8_bring_117 (lv_at hl 0 rfl) ?_
              refine kc_i (D := (dC, dI)) (S := Unit) (wc := [(o8, .inr (4, [.ref o9, .int v11, .int v12])), (o1, .inr (8, [.ref o2, .int x57, .int v12, .int a2, .int a3])), (o9, .inl (cI, 12, .inl fw10))]) (wr := [(o2, .inl (cI, 252, .inl f56))]) (w1 := fun _ => [(o8, .inr (4, [.ref o9, .int v11, .int v12])), (o1, .inr (8, [.ref o2, .int x57, .int v12, .int a2, .int a3])), (o9, .inl (cI, 12, .inl fw10))]) (wn := fun _ => [(o1, .inr (8, [.ref o2, .int x57, .int v12, .int a2, .int a3])), (o8, .inr (4, [.ref o9, .int v11, .int v12])), (o9, .inl (cI, 12, .inl fw10)), (o2, .inl (cI, 252, .inl f56))]) (fun hPc hDc => va_runV (As := [.ref o8, .int x55]) (rest := []) ⟨hx, hb, hml, hown, hts⟩ (kX8_isPart_1 l dC dI cI c2 cZ o1 o8 o9 o2 x57 v12 a2 a3 fw10 v11 v12 x55 H.size x57_h a2_h a3_h fw10_b v11_h j60) (cwV 2 hts gX8_bring_X8_isPart rfl rfl rfl (by decide +kernel) ⟨Nat.le_of_ble_eq_true rfl, Nat.le_of_ble_eq_true rfl⟩) (pre_V hPc hK hDc hN (ci := 8) (q0 := 1) rfl rfl) rfl rfl hl.1 rfl (lv_room (Nat.le_of_ble_eq_true rfl)) dX8_bring_119 ⟨Nat.le_of_ble_eq_true rfl, Nat.le_of_ble_eq_true rfl⟩) hP hD hS hA [1, 0, 2] [3] [2, 1, 3, 0] rfl rfl (by decide +kernel) (by decide +kernel) (by decide +kernel) (by decide +kernel) (fun _ => rfl) (fun x70 _ H locs hq hP hD hS => ?_)
              have x70_h := hq
              have hP : va_P (dC, dI) vwCl ([(o1, .inr (8, [.ref o2, .int x57, .int v12, .int a2, .int a3])), (o8, .inr (4, [.ref o9, .int v11, .int v12])), (o9, .inl (cI, 12, .inl fw10)), (o2, .inl (cI, 252, .inl f56))]) H := hP
              have hD : va_D A ([(o1, .inr (8, [.ref o2, .int x57, .int v12, .int a2, .int a3])), (o8, .inr (4, [.ref o9, .int v11, .int v12])), (o9, .inl (cI, 12, .inl fw10)), (o2, .inl (cI, 252, .inl f56))]) := hD
              refine lv_if_eq (tgt := 131) hx hb dX8_bring_122 (by decide) (fun h71 => ?_) (fun h71 => ?_)
              ·
                have j72 : Iv 0 0 x70 := r_eq h71 ik_0
                obtain ⟨x73, x73_e⟩ : ∃ z : Int32, z = x55 + 1 := ⟨_, rfl⟩
                have x73_h : Iv 1 4096 x73 := iv_e x73_e (iv_add j60 ik_1 (by decide))
                refine lv_iinc (v := x73) (lv' := [(6, .int x73), (5, .int x11), (4, .int x8), (0, .ref o1), (1, .ref o8), (2, .int a2), (3, .int a3)]) hx hb dX8_bring_131 hl (k := 0) rfl (incN (by decide +kernel) x73_e) (by decide) rfl (fun ls hl => ?_)
                refine lv_goto (tgt := 88) hx hb dX8_bring_134 (by decide) ?_
                exact ih1 x73 f56 x57 _ _ _ (ms_up x73_e j60 (by decide) hM1) (iv_w x73_h (by decide)) x57_h hP hD hS hl
              ·
                have j74 : Iv 1 1 x70 := r_nelo h71 x70_h ik_0 (by decide)
                refine lv_aload_n hx hb dX8_bring_125 rfl (lv_at hl 3 rfl) ?_
                refine lv_iload hx hb dX8_bring_126 (lv_at hl 0 rfl) ?_
                refine kc_v (D := (dC, dI)) (S := Int32 × (Nat → Int32)) (wc := [(o1, .inr (8, [.ref o2, .int x57, .int v12, .int a2, .int a3])), (o2, .inl (cI, 252, .inl f56))]) (wr := [(o8, .inr (4, [.ref o9, .int v11, .int v12])), (o9, .inl (cI, 12, .inl fw10))]) (w1 := fun u => [(o1, .inr (8, [.ref o2, .int u.1, .int v12, .int a2, .int a3])), (o2, .inl (cI, 252, .inl u.2))]) (wn := fun u => [(o1, .inr (8, [.ref o2, .int u.1, .int v12, .int a2, .int a3])), (o8, .inr (4, [.ref o9, .int v11, .int v12])), (o9, .inl (cI, 12, .inl fw10)), (o2, .inl (cI, 252, .inl u.2))]) (fun hPc hDc => va_runV (As := [.int x55]) (rest := []) ⟨hx, hb, hml, hown, hts⟩ (kX8_keep_1 l dC dI cI c2 cZ o1 o2 f56 x57 v12 a2 a3 x55 H.size x57_h a2_h a3_h) (cwV 1 hts gX8_bring_X8_keep rfl rfl rfl (by decide +kernel) ⟨Nat.le_of_ble_eq_true rfl, Nat.le_of_ble_eq_true rfl⟩) (pre_V hPc hK hDc hN (ci := 8) (q0 := 0) rfl rfl) rfl rfl hl.1 rfl (lv_room (Nat.le_of_ble_eq_true rfl)) dX8_bring_128 ⟨Nat.le_of_ble_eq_true rfl, Nat.le_of_ble_eq_true rfl⟩) hP hD hS hA [0, 3] [1, 2] [2, 0, 1, 3] rfl rfl (by decide +kernel) (by decide +kernel) (by decide +kernel) (by decide +kernel) (fun _ => rfl) (fun u H locs hq hP hD hS => ?_)
                obtain ⟨y75, f76⟩ := u
                have y75_h := hq
                have hP : va_P (dC, dI) vwCl ([(o1, .inr (8, [.ref o2, .int y75, .int v12, .int a2, .int a3])), (o8, .inr (4, [.ref o9, .int v11, .int v12])), (o9, .inl (cI, 12, .inl fw10)), (o2, .inl (cI, 252, .inl f76))]) H := hP
                have hD : va_D A ([(o1, .inr (8, [.ref o2, .int y75, .int v12, .int a2, .int a3])), (o8, .inr (4, [.ref o9, .int v11, .int v12])), (o9, .inl (cI, 12, .inl fw10)), (o2, .inl (cI, 252, .inl f76))]) := hD
                obtain ⟨x77, x77_e⟩ : ∃ z : Int32, z = x55 + 1 := ⟨_, rfl⟩
                have x77_h : Iv 1 4096 x77 := iv_e x77_e (iv_add j60 ik_1 (by decide))
                refine lv_iinc (v := x77) (lv' := [(6, .int x77), (5, .int x11), (4, .int x8), (0, .ref o1), (1, .ref o8), (2, .int a2), (3, .int a3)]) hx hb dX8_bring_131 hl (k := 0) rfl (incN (by decide +kernel) x77_e) (by decide) rfl (fun ls hl => ?_)
                refine lv_goto (tgt := 88) hx hb dX8_bring_134 (by decide) ?_
                exact ih1 x77 f76 y75 _ _ _ (ms_up x77_e j60 (by decide) hM1) (iv_w x77_h (by decide)) y75_h hP hD hS hl
    exact L1 _ x11 fw3 0 _ _ _ (Nat.lt_succ_self _) (iv_w x11_h (by decide)) (iv_w ik_0 (by decide)) hP hD hS hl
  ·
    refine lv_aload_n hx hb dX8_bring_11 rfl (lv_at hl 0 rfl) ?_
    refine va_get (D := (dC, dI)) (ci := 8) (v := .int v6) (C := RX8) (T := TX8) (N := 5) hx hb hts iw_X8_bring_X8 hown hK hP 0 rfl rfl 3 (by decide) (hts (.fieldLink RX8 22 "HolelessHouse$Parts" "one" "I") hm_X8_bring_2) (fun _ h9 => h9) rfl dX8_bring_12 ?_
    refine lv_iload_n hx hb dX8_bring_15 rfl (lv_at hl 2 rfl) ?_
    refine lv_icmp_ne (tgt := 28) hx hb dX8_bring_16 (by decide) (fun h78 => ?_) (fun h78 => ?_)
    ·
      refine lv_aload_n hx hb dX8_bring_28 rfl (lv_at hl 0 rfl) ?_
      refine lv_aload_n hx hb dX8_bring_29 rfl (lv_at hl 1 rfl) ?_
      refine va_getN (D := (dC, dI)) (ci := 4) (v := .int v12) (C := RX4) (T := TX4) (N := 3) hx hb hts iw_X8_bring_X4 hown hK hP 1 rfl rfl 2 (by decide) (hN.use ns_17) (fun _ h9 => h9) rfl dX8_bring_30 ?_
      refine va_put (D := (dC, dI)) (ci := 8) (v := .int v12) (ty := .int) (C := RX8) (T := TX8) (N := 5) hx hb hts iw_X8_bring_X8 tyX8 tyX8_ok nmX8 hown hK hP hD hS 0 rfl rfl 2 (by decide) (hts (.fieldLink RX8 19 "HolelessHouse$Parts" "madeFor" "I") hm_X8_bring_1) (fun _ h9 => h9) rfl (by decide +kernel) rfl rfl (Nat.le_of_ble_eq_true rfl) dX8_bring_33 (fun H locs hP hD hS => ?_)
      have hP : va_P (dC, dI) vwCl ([(o1, .inr (8, [.ref o2, .int v4, .int v12, .int v6, .int v7])), (o8, .inr (4, [.ref o9, .int v11, .int v12])), (o9, .inl (cI, 12, .inl fw10)), (o2, .inl (cI, 252, .inl fw3))]) H := hP
      have hD : va_D A ([(o1, .inr (8, [.ref o2, .int v4, .int v12, .int v6, .int v7])), (o8, .inr (4, [.ref o9, .int v11, .int v12])), (o9, .inl (cI, 12, .inl fw10)), (o2, .inl (cI, 252, .inl fw3))]) := hD
      refine lv_aload_n hx hb dX8_bring_36 rfl (lv_at hl 0 rfl) ?_
      refine lv_iload_n hx hb dX8_bring_37 rfl (lv_at hl 2 rfl) ?_
      refine va_put (D := (dC, dI)) (ci := 8) (v := .int a2) (ty := .int) (C := RX8) (T := TX8) (N := 5) hx hb hts iw_X8_bring_X8 tyX8 tyX8_ok nmX8 hown hK hP hD hS 0 rfl rfl 3 (by decide) (hts (.fieldLink RX8 22 "HolelessHouse$Parts" "one" "I") hm_X8_bring_2) (fun _ h9 => h9) rfl (by decide +kernel) rfl rfl (Nat.le_of_ble_eq_true rfl) dX8_bring_38 (fun H locs hP hD hS => ?_)
      have hP : va_P (dC, dI) vwCl ([(o1, .inr (8, [.ref o2, .int v4, .int v12, .int a2, .int v7])), (o8, .inr (4, [.ref o9, .int v11, .int v12])), (o9, .inl (cI, 12, .inl fw10)), (o2, .inl (cI, 252, .inl fw3))]) H := hP
      have hD : va_D A ([(o1, .inr (8, [.ref o2, .int v4, .int v12, .int a2, .int v7])), (o8, .inr (4, [.ref o9, .int v11, .int v12])), (o9, .inl (cI, 12, .inl fw10)), (o2, .inl (cI, 252, .inl fw3))]) := hD
      refine lv_aload_n hx hb dX8_bring_41 rfl (lv_at hl 0 rfl) ?_
      refine lv_iload_n hx hb dX8_bring_42 rfl (lv_at hl 3 rfl) ?_
      refine va_put (D := (dC, dI)) (ci := 8) (v := .int a3) (ty := .int) (C := RX8) (T := TX8) (N := 5) hx hb hts iw_X8_bring_X8 tyX8 tyX8_ok nmX8 hown hK hP hD hS 0 rfl rfl 4 (by decide) (hts (.fieldLink RX8 25 "HolelessHouse$Parts" "other" "I") hm_X8_bring_3) (fun _ h9 => h9) rfl (by decide +kernel) rfl rfl (Nat.le_of_ble_eq_true rfl) dX8_bring_43 (fun H locs hP hD hS => ?_)
      have hP : va_P (dC, dI) vwCl ([(o1, .inr (8, [.ref o2, .int v4, .int v12, .int a2, .int a3])), (o8, .inr (4, [.ref o9, .int v11, .int v12])), (o9, .inl (cI, 12, .inl fw10)), (o2, .inl (cI, 252, .inl fw3))]) H := hP
      have hD : va_D A ([(o1, .inr (8, [.ref o2, .int v4, .int v12, .int a2, .int a3])), (o8, .inr (4, [.ref o9, .int v11, .int v12])), (o9, .inl (cI, 12, .inl fw10)), (o2, .inl (cI, 252, .inl fw3))]) := hD
      refine lv_aload_n hx hb dX8_bring_46 rfl (lv_at hl 0 rfl) ?_
      refine lv_iconst (v := 0) hx hb dX8_bring_47 (by decide) ?_
      refine va_put (D := (dC, dI)) (ci := 8) (v := .int 0) (ty := .int) (C := RX8) (T := TX8) (N := 5) hx hb hts iw_X8_bring_X8 tyX8 tyX8_ok nmX8 hown hK hP hD hS 0 rfl rfl 1 (by decide) (hts (.fieldLink RX8 15 "HolelessHouse$Parts" "size" "I") hm_X8_bring_4) (fun _ h9 => h9) rfl (by decide +kernel) rfl rfl (Nat.le_of_ble_eq_true rfl) dX8_bring_48 (fun H locs hP hD hS => ?_)
      have hP : va_P (dC, dI) vwCl ([(o1, .inr (8, [.ref o2, .int 0, .int v12, .int a2, .int a3])), (o8, .inr (4, [.ref o9, .int v11, .int v12])), (o9, .inl (cI, 12, .inl fw10)), (o2, .inl (cI, 252, .inl fw3))]) H := hP
      have hD : va_D A ([(o1, .inr (8, [.ref o2, .int 0, .int v12, .int a2, .int a3])), (o8, .inr (4, [.ref o9, .int v11, .int v12])), (o9, .inl (cI, 12, .inl fw10)), (o2, .inl (cI, 252, .inl fw3))]) := hD
      refine lv_aload_n hx hb dX8_bring_51 rfl (lv_at hl 1 rfl) ?_
      refine kc_i (D := (dC, dI)) (S := Unit) (wc := [(o8, .inr (4, [.ref o9, .int v11, .int v12]))]) (wr := [(o1, .inr (8, [.ref o2, .int 0, .int v12, .int a2, .int a3])), (o9, .inl (cI, 12, .inl fw10)), (o2, .inl (cI, 252, .inl fw3))]) (w1 := fun _ => [(o8, .inr (4, [.ref o9, .int v11, .int v12]))]) (wn := fun _ => [(o1, .inr (8, [.ref o2, .int 0, .int v12, .int a2, .int a3])), (o8, .inr (4, [.ref o9, .int v11, .int v12])), (o9, .inl (cI, 12, .inl fw10)), (o2, .inl (cI, 252, .inl fw3))]) (fun hPc hDc => va_runVN (As := []) (rest := []) ⟨hx, hb, hml, hown, hts⟩ (kX4_all_1 l dC dI cI c2 cZ o8 o9 v11 v12 H.size v11_h) ⟨va_cnB 0 hts gX8_bring_X4_all_n33 rfl rfl rfl (hN.1 _ ns_114) (hts (.initialized RX4) hm_X8_bring_6) (by decide +kernel) ⟨Nat.le_of_ble_eq_true rfl, Nat.le_of_ble_eq_true rfl⟩, (hts (.instanceMethod yX4_all) hm_X8_bring_5), (hts (.selects RX4 yX4_all yX4_all) hm_X8_bring_7)⟩ (pre_V hPc hK hDc hN (ci := 4) (q0 := 0) rfl rfl) rfl rfl hl.1 rfl (lv_room (Nat.le_of_ble_eq_true rfl)) dX8_bring_52 ⟨Nat.le_of_ble_eq_true rfl, Nat.le_of_ble_eq_true rfl⟩) hP hD hS hA [1] [0, 2, 3] [0, 3, 1, 2] rfl rfl (by decide +kernel) (by decide +kernel) (by decide +kernel) (by decide +kernel) (fun _ => rfl) (fun x79 _ H locs hq hP hD hS => ?_)
      have x79_h := hq
      have hP : va_P (dC, dI) vwCl ([(o1, .inr (8, [.ref o2, .int 0, .int v12, .int a2, .int a3])), (o8, .inr (4, [.ref o9, .int v11, .int v12])), (o9, .inl (cI, 12, .inl fw10)), (o2, .inl (cI, 252, .inl fw3))]) H := hP
      have hD : va_D A ([(o1, .inr (8, [.ref o2, .int 0, .int v12, .int a2, .int a3])), (o8, .inr (4, [.ref o9, .int v11, .int v12])), (o9, .inl (cI, 12, .inl fw10)), (o2, .inl (cI, 252, .inl fw3))]) := hD
      refine lv_iconst (v := 1) hx hb dX8_bring_55 (by decide) ?_
      refine lv_iload_n hx hb dX8_bring_56 rfl (lv_at hl 2 rfl) ?_
      refine lv_ishl hx hb dX8_bring_57 (lv_topi (fun x80 x80_e => ?_))
      have x80_h : Iv 1 2048 x80 := iv_e x80_e (iv_shl1 a2_h (by decide))
      refine lv_iconst (v := (-1)) hx hb dX8_bring_58 (by decide) ?_
      refine lv_ixor hx hb dX8_bring_59 (lv_topi (fun x81 x81_e => ?_))
      refine lv_iand hx hb dX8_bring_60 (lv_topi (fun x82 x82_e => ?_))
      have x82_h : Iv 0 4095 x82 := iv_e x82_e (iv_andL _ x79_h (by decide))
      refine lv_iconst (v := 1) hx hb dX8_bring_61 (by decide) ?_
      refine lv_iload_n hx hb dX8_bring_62 rfl (lv_at hl 3 rfl) ?_
      refine lv_ishl hx hb dX8_bring_63 (lv_topi (fun x83 x83_e => ?_))
      have x83_h : Iv 1 2048 x83 := iv_e x83_e (iv_shl1 a3_h (by decide))
      refine lv_iconst (v := (-1)) hx hb dX8_bring_64 (by decide) ?_
      refine lv_ixor hx hb dX8_bring_65 (lv_topi (fun x84 x84_e => ?_))
      refine lv_iand hx hb dX8_bring_66 (lv_topi (fun x85 x85_e => ?_))
      have x85_h : Iv 0 4095 x85 := iv_e x85_e (iv_andL _ x82_h (by decide))
      refine lv_istore (lv' := [(4, .int x85), (0, .ref o1), (1, .ref o8), (2, .int a2), (3, .int a3)]) hx hb dX8_bring_67 hl (by decide) rfl (fun ls hl => ?_)
      refine lv_aload_n hx hb dX8_bring_69 rfl (lv_at hl 2 rfl) ?_
      refine va_getN (D := (dC, dI)) (ci := 4) (v := .ref o9) (C := RX4) (T := TX4) (N := 3) hx hb hts iw_X8_bring_X4 hown hK hP 1 rfl rfl 0 (by decide) (hN.use ns_1) (fun _ h9 => h9) rfl dX8_bring_70 ?_
      refine lv_iload_n hx hb dX8_bring_73 rfl (lv_at hl 3 rfl) ?_
      refine va_iald hx hb hK hP 2 0 rfl rfl (vin_iv a2_h (by decide)) dX8_bring_74 (lv_topi (fun x86 x86_e => ?_))
      have x86_h : Iv 0 4095 x86 := iv_e x86_e (bd_at fw10_b (vin_iv a2_h (by decide)))
      refine lv_aload_n hx hb dX8_bring_75 rfl (lv_at hl 2 rfl) ?_
      refine va_getN (D := (dC, dI)) (ci := 4) (v := .ref o9) (C := RX4) (T := TX4) (N := 3) hx hb hts iw_X8_bring_X4 hown hK hP 1 rfl rfl 0 (by decide) (hN.use ns_1) (fun _ h9 => h9) rfl dX8_bring_76 ?_
      refine lv_iload_n hx hb dX8_bring_79 rfl (lv_at hl 4 rfl) ?_
      refine va_iald hx hb hK hP 2 0 rfl rfl (vin_iv a3_h (by decide)) dX8_bring_80 (lv_topi (fun x87 x87_e => ?_))
      have x87_h : Iv 0 4095 x87 := iv_e x87_e (bd_at fw10_b (vin_iv a3_h (by decide)))
      refine lv_iand hx hb dX8_bring_81 (lv_topi (fun x88 x88_e => ?_))
      have x88_h : Iv 0 4095 x88 := iv_e x88_e (iv_andL _ x86_h (by decide))
      refine lv_istore (lv' := [(5, .int x88), (4, .int x85), (0, .ref o1), (1, .ref o8), (2, .int a2), (3, .int a3)]) hx hb dX8_bring_82 hl (by decide) rfl (fun ls hl => ?_)
      refine lv_iload hx hb dX8_bring_84 (lv_at hl 0 rfl) ?_
      refine lv_istore (lv' := [(6, .int x88), (5, .int x88), (4, .int x85), (0, .ref o1), (1, .ref o8), (2, .int a2), (3, .int a3)]) hx hb dX8_bring_86 hl (by decide) rfl (fun ls hl => ?_)
      have L2 : ∀ (N : Nat) (x132 : Int32) (f133 : Nat → Int32) (x134 : Int32) (H : Heap) (locs : List Loc) (ls : Array Slot), (4096 - x132.toInt).toNat < N → Iv 0 4096 x132 → Iv 0 252 x134 → va_P (dC, dI) vwCl ([(o1, .inr (8, [.ref o2, .int x134, .int v12, .int a2, .int a3])), (o8, .inr (4, [.ref o9, .int v11, .int v12])), (o9, .inl (cI, 12, .inl fw10)), (o2, .inl (cI, 252, .inl f133))]) H → va_D A ([(o1, .inr (8, [.ref o2, .int x134, .int v12, .int a2, .int a3])), (o8, .inr (4, [.ref o9, .int v11, .int v12])), (o9, .inl (cI, 12, .inl fw10)), (o2, .inl (cI, 252, .inl f133))]) → va_S A s.heap H locs → lv_has ls 7 [(6, .int x132), (5, .int x88), (4, .int x85), (0, .ref o1), (1, .ref o8), (2, .int a2), (3, .int a3)] → W p l e ({ frames := 4, cells := 0, slots := 0, locals := 93 }) s m ([.ref o1, .ref o8, .int a2, .int a3] : List Value).toArray below meth c H locs 0 0 Q (F0 m 88 ls []) := by
        intro N
        induction N with
        | zero =>
          intro x132 f133 x134 H locs ls hM
          exact absurd hM (Nat.not_lt_zero _)
        | succ N ih2 =>
          intro x132 f133 x134 H locs ls hM2 x132_h x134_h hP hD hS hl
          refine lv_iload hx hb dX8_bring_88 (lv_at hl 0 rfl) ?_
          refine lv_iload hx hb dX8_bring_90 (lv_at hl 2 rfl) ?_
          refine lv_icmp_gt (tgt := 137) hx hb dX8_bring_92 (by decide) (fun h135 => ?_) (fun h135 => ?_)
          ·
            have qh135 := lt_i h135
            have j136 : Iv 1 4096 x132 := r_ltr qh135 x85_h x132_h (by decide)
            rw [hQ]
            exact W.vret hx hb hr (fun t ht hW => ⟨⟨(x134, v12, a2, a3, f133), rfl, ⟨x134_h, a2_h, a3_h⟩, by rw [ht]; exact hP, va_K.moved hW.alike hK, hD⟩, hS.F ht⟩) hS.2.2 dX8_bring_137
          ·
            have qh135 := nlt_i h135
            have j137 : Iv 0 4095 x132 := r_lel qh135 x132_h x85_h (by decide)
            refine lv_iload hx hb dX8_bring_95 (lv_at hl 0 rfl) ?_
            refine lv_iload hx hb dX8_bring_97 (lv_at hl 2 rfl) ?_
            refine lv_iconst (v := (-1)) hx hb dX8_bring_99 (by decide) ?_
            refine lv_ixor hx hb dX8_bring_100 (lv_topi (fun x138 x138_e => ?_))
            refine lv_iand hx hb dX8_bring_101 (lv_topi (fun x139 x139_e => ?_))
            have x139_h : Iv 0 4095 x139 := iv_e x139_e (iv_andL _ j137 (by decide))
            refine lv_if_ne (tgt := 131) hx hb dX8_bring_102 (by decide) (fun h140 => ?_) (fun h140 => ?_)
            ·
              have j141 : Iv 1 4095 x139 := r_nelo h140 x139_h ik_0 (by decide)
              obtain ⟨x142, x142_e⟩ : ∃ z : Int32, z = x132 + 1 := ⟨_, rfl⟩
              have x142_h : Iv 1 4096 x142 := iv_e x142_e (iv_add j137 ik_1 (by decide))
              refine lv_iinc (v := x142) (lv' := [(6, .int x142), (5, .int x88), (4, .int x85), (0, .ref o1), (1, .ref o8), (2, .int a2), (3, .int a3)]) hx hb dX8_bring_131 hl (k := 0) rfl (incN (by decide +kernel) x142_e) (by decide) rfl (fun ls hl => ?_)
              refine lv_goto (tgt := 88) hx hb dX8_bring_134 (by decide) ?_
              exact ih2 x142 f133 x134 _ _ _ (ms_up x142_e j137 (by decide) hM2) (iv_w x142_h (by decide)) x134_h hP hD hS hl
            ·
              have j143 : Iv 0 0 x139 := r_eq h140 ik_0
              refine lv_iload hx hb dX8_bring_105 (lv_at hl 0 rfl) ?_
              refine lv_iload hx hb dX8_bring_107 (lv_at hl 1 rfl) ?_
              refine lv_iand hx hb dX8_bring_109 (lv_topi (fun x144 x144_e => ?_))
              have x144_h : Iv 0 4095 x144 := iv_e x144_e (iv_andL _ j137 (by decide))
              refine lv_iload hx hb dX8_bring_110 (lv_at hl 1 rfl) ?_
              refine lv_icmp_ne (tgt := 131) hx hb dX8_bring_112 (by decide) (fun h145 => ?_) (fun h145 => ?_)
              ·
                obtain ⟨x146, x146_e⟩ : ∃ z : Int32, z = x132 + 1 := ⟨_, rfl⟩
                have x146_h : Iv 1 4096 x146 := iv_e x146_e (iv_add j137 ik_1 (by decide))
                refine lv_iinc (v := x146) (lv' := [(6, .int x146), (5, .int x88), (4, .int x85), (0, .ref o1), (1, .ref o8), (2, .int a2), (3, .int a3)]) hx hb dX8_bring_131 hl (k := 0) rfl (incN (by decide +kernel) x146_e) (by decide) rfl (fun ls hl => ?_)
                refine lv_goto (tgt := 88) hx hb dX8_bring_134 (by decide) ?_
                exact ih2 x146 f133 x134 _ _ _ (ms_up x146_e j137 (by decide) hM2) (iv_w x146_h (by decide)) x134_h hP hD hS hl
              ·
                refine lv_aload_n hx hb dX8_bring_115 rfl (lv_at hl 3 rfl) ?_
                refine lv_aload_n hx hb dX8_bring_116 rfl (lv_at hl 4 rfl) ?_
                refine lv_iload hx hb dX8_bring_117 (lv_at hl 0 rfl) ?_
                refine kc_i (D := (dC, dI)) (S := Unit) (wc := [(o8, .inr (4, [.ref o9, .int v11, .int v12])), (o1, .inr (8, [.ref o2, .int x134, .int v12, .int a2, .int a3])), (o9, .inl (cI, 12, .inl fw10))]) (wr := [(o2, .inl (cI, 252, .inl f133))]) (w1 := fun _ => [(o8, .inr (4, [.ref o9, .int v11, .int v12])), (o1, .inr (8, [.ref o2, .int x134, .int v12, .int a2, .int a3])), (o9, .inl (cI, 12, .inl fw10))]) (wn := fun _ => [(o1, .inr (8, [.ref o2, .int x134, .int v12, .int a2, .int a3])), (o8, .inr (4, [.ref o9, .int v11, .int v12])), (o9, .inl (cI, 12, .inl fw10)), (o2, .inl (cI, 252, .inl f133))]) (fun hPc hDc => va_runV (As := [.ref o8, .int x132]) (rest := []) ⟨hx, hb, hml, hown, hts⟩ (kX8_isPart_1 l dC dI cI c2 cZ o1 o8 o9 o2 x134 v12 a2 a3 fw10 v11 v12 x132 H.size x134_h a2_h a3_h fw10_b v11_h j137) (cwV 2 hts gX8_bring_X8_isPart rfl rfl rfl (by decide +kernel) ⟨Nat.le_of_ble_eq_true rfl, Nat.le_of_ble_eq_true rfl⟩) (pre_V hPc hK hDc hN (ci := 8) (q0 := 1) rfl rfl) rfl rfl hl.1 rfl (lv_room (Nat.le_of_ble_eq_true rfl)) dX8_bring_119 ⟨Nat.le_of_ble_eq_true rfl, Nat.le_of_ble_eq_true rfl⟩) hP hD hS hA [1, 0, 2] [3] [2, 1, 3, 0] rfl rfl (by decide +kernel) (by decide +kernel) (by decide +kernel) (by decide +kernel) (fun _ => rfl) (fun x147 _ H locs hq hP hD hS => ?_)
                have x147_h := hq
                have hP : va_P (dC, dI) vwCl ([(o1, .inr (8, [.ref o2, .int x134, .int v12, .int a2, .int a3])), (o8, .inr (4, [.ref o9, .int v11, .int v12])), (o9, .inl (cI, 12, .inl fw10)), (o2, .inl (cI, 252, .inl f133))]) H := hP
                have hD : va_D A ([(o1, .inr (8, [.ref o2, .int x134, .int v12, .int a2, .int a3])), (o8, .inr (4, [.ref o9, .int v11, .int v12])), (o9, .inl (cI, 12, .inl fw10)), (o2, .inl (cI, 252, .inl f133))]) := hD
                refine lv_if_eq (tgt := 131) hx hb dX8_bring_122 (by decide) (fun h148 => ?_) (fun h148 => ?_)
                ·
                  have j149 : Iv 0 0 x147 := r_eq h148 ik_0
                  obtain ⟨x150, x150_e⟩ : ∃ z : Int32, z = x132 + 1 := ⟨_, rfl⟩
                  have x150_h : Iv 1 4096 x150 := iv_e x150_e (iv_add j137 ik_1 (by decide))
                  refine lv_iinc (v := x150) (lv' := [(6, .int x150), (5, .int x88), (4, .int x85), (0, .ref o1), (1, .ref o8), (2, .int a2), (3, .int a3)]) hx hb dX8_bring_131 hl (k := 0) rfl (incN (by decide +kernel) x150_e) (by decide) rfl (fun ls hl => ?_)
                  refine lv_goto (tgt := 88) hx hb dX8_bring_134 (by decide) ?_
                  exact ih2 x150 f133 x134 _ _ _ (ms_up x150_e j137 (by decide) hM2) (iv_w x150_h (by decide)) x134_h hP hD hS hl
                ·
                  have j151 : Iv 1 1 x147 := r_nelo h148 x147_h ik_0 (by decide)
                  refine lv_aload_n hx hb dX8_bring_125 rfl (lv_at hl 3 rfl) ?_
                  refine lv_iload hx hb dX8_bring_126 (lv_at hl 0 rfl) ?_
                  refine kc_v (D := (dC, dI)) (S := Int32 × (Nat → Int32)) (wc := [(o1, .inr (8, [.ref o2, .int x134, .int v12, .int a2, .int a3])), (o2, .inl (cI, 252, .inl f133))]) (wr := [(o8, .inr (4, [.ref o9, .int v11, .int v12])), (o9, .inl (cI, 12, .inl fw10))]) (w1 := fun u => [(o1, .inr (8, [.ref o2, .int u.1, .int v12, .int a2, .int a3])), (o2, .inl (cI, 252, .inl u.2))]) (wn := fun u => [(o1, .inr (8, [.ref o2, .int u.1, .int v12, .int a2, .int a3])), (o8, .inr (4, [.ref o9, .int v11, .int v12])), (o9, .inl (cI, 12, .inl fw10)), (o2, .inl (cI, 252, .inl u.2))]) (fun hPc hDc => va_runV (As := [.int x132]) (rest := []) ⟨hx, hb, hml, hown, hts⟩ (kX8_keep_1 l dC dI cI c2 cZ o1 o2 f133 x134 v12 a2 a3 x132 H.size x134_h a2_h a3_h) (cwV 1 hts gX8_bring_X8_keep rfl rfl rfl (by decide +kernel) ⟨Nat.le_of_ble_eq_true rfl, Nat.le_of_ble_eq_true rfl⟩) (pre_V hPc hK hDc hN (ci := 8) (q0 := 0) rfl rfl) rfl rfl hl.1 rfl (lv_room (Nat.le_of_ble_eq_true rfl)) dX8_bring_128 ⟨Nat.le_of_ble_eq_true rfl, Nat.le_of_ble_eq_true rfl⟩) hP hD hS hA [0, 3] [1, 2] [2, 0, 1, 3] rfl rfl (by decide +kernel) (by decide +kernel) (by decide +kernel) (by decide +kernel) (fun _ => rfl) (fun u H locs hq hP hD hS => ?_)
                  obtain ⟨y152, f153⟩ := u
                  have y152_h := hq
                  have hP : va_P (dC, dI) vwCl ([(o1, .inr (8, [.ref o2, .int y152, .int v12, .int a2, .int a3])), (o8, .inr (4, [.ref o9, .int v11, .int v12])), (o9, .inl (cI, 12, .inl fw10)), (o2, .inl (cI, 252, .inl f153))]) H := hP
                  have hD : va_D A ([(o1, .inr (8, [.ref o2, .int y152, .int v12, .int a2, .int a3])), (o8, .inr (4, [.ref o9, .int v11, .int v12])), (o9, .inl (cI, 12, .inl fw10)), (o2, .inl (cI, 252, .inl f153))]) := hD
                  obtain ⟨x154, x154_e⟩ : ∃ z : Int32, z = x132 + 1 := ⟨_, rfl⟩
                  have x154_h : Iv 1 4096 x154 := iv_e x154_e (iv_add j137 ik_1 (by decide))
                  refine lv_iinc (v := x154) (lv' := [(6, .int x154), (5, .int x88), (4, .int x85), (0, .ref o1), (1, .ref o8), (2, .int a2), (3, .int a3)]) hx hb dX8_bring_131 hl (k := 0) rfl (incN (by decide +kernel) x154_e) (by decide) rfl (fun ls hl => ?_)
                  refine lv_goto (tgt := 88) hx hb dX8_bring_134 (by decide) ?_
                  exact ih2 x154 f153 y152 _ _ _ (ms_up x154_e j137 (by decide) hM2) (iv_w x154_h (by decide)) y152_h hP hD hS hl
      exact L2 _ x88 fw3 0 _ _ _ (Nat.lt_succ_self _) (iv_w x88_h (by decide)) (iv_w ik_0 (by decide)) hP hD hS hl
    ·
      have j155 : Iv 0 11 v6 := r_eq h78 a2_h
      refine lv_aload_n hx hb dX8_bring_19 rfl (lv_at hl 0 rfl) ?_
      refine va_get (D := (dC, dI)) (ci := 8) (v := .int v7) (C := RX8) (T := TX8) (N := 5) hx hb hts iw_X8_bring_X8 hown hK hP 0 rfl rfl 4 (by decide) (hts (.fieldLink RX8 25 "HolelessHouse$Parts" "other" "I") hm_X8_bring_3) (fun _ h9 => h9) rfl dX8_bring_20 ?_
      refine lv_iload_n hx hb dX8_bring_23 rfl (lv_at hl 3 rfl) ?_
      refine lv_icmp_ne (tgt := 28) hx hb dX8_bring_24 (by decide) (fun h156 => ?_) (fun h156 => ?_)
      ·
        refine lv_aload_n hx hb dX8_bring_28 rfl (lv_at hl 0 rfl) ?_
        refine lv_aload_n hx hb dX8_bring_29 rfl (lv_at hl 1 rfl) ?_
        refine va_getN (D := (dC, dI)) (ci := 4) (v := .int v12) (C := RX4) (T := TX4) (N := 3) hx hb hts iw_X8_bring_X4 hown hK hP 1 rfl rfl 2 (by decide) (hN.use ns_17) (fun _ h9 => h9) rfl dX8_bring_30 ?_
        refine va_put (D := (dC, dI)) (ci := 8) (v := .int v12) (ty := .int) (C := RX8) (T := TX8) (N := 5) hx hb hts iw_X8_bring_X8 tyX8 tyX8_ok nmX8 hown hK hP hD hS 0 rfl rfl 2 (by decide) (hts (.fieldLink RX8 19 "HolelessHouse$Parts" "madeFor" "I") hm_X8_bring_1) (fun _ h9 => h9) rfl (by decide +kernel) rfl rfl (Nat.le_of_ble_eq_true rfl) dX8_bring_33 (fun H locs hP hD hS => ?_)
        have hP : va_P (dC, dI) vwCl ([(o1, .inr (8, [.ref o2, .int v4, .int v12, .int v6, .int v7])), (o8, .inr (4, [.ref o9, .int v11, .int v12])), (o9, .inl (cI, 12, .inl fw10)), (o2, .inl (cI, 252, .inl fw3))]) H := hP
        have hD : va_D A ([(o1, .inr (8, [.ref o2, .int v4, .int v12, .int v6, .int v7])), (o8, .inr (4, [.ref o9, .int v11, .int v12])), (o9, .inl (cI, 12, .inl fw10)), (o2, .inl (cI, 252, .inl fw3))]) := hD
        refine lv_aload_n hx hb dX8_bring_36 rfl (lv_at hl 0 rfl) ?_
        refine lv_iload_n hx hb dX8_bring_37 rfl (lv_at hl 2 rfl) ?_
        refine va_put (D := (dC, dI)) (ci := 8) (v := .int a2) (ty := .int) (C := RX8) (T := TX8) (N := 5) hx hb hts iw_X8_bring_X8 tyX8 tyX8_ok nmX8 hown hK hP hD hS 0 rfl rfl 3 (by decide) (hts (.fieldLink RX8 22 "HolelessHouse$Parts" "one" "I") hm_X8_bring_2) (fun _ h9 => h9) rfl (by decide +kernel) rfl rfl (Nat.le_of_ble_eq_true rfl) dX8_bring_38 (fun H locs hP hD hS => ?_)
        have hP : va_P (dC, dI) vwCl ([(o1, .inr (8, [.ref o2, .int v4, .int v12, .int a2, .int v7])), (o8, .inr (4, [.ref o9, .int v11, .int v12])), (o9, .inl (cI, 12, .inl fw10)), (o2, .inl (cI, 252, .inl fw3))]) H := hP
        have hD : va_D A ([(o1, .inr (8, [.ref o2, .int v4, .int v12, .int a2, .int v7])), (o8, .inr (4, [.ref o9, .int v11, .int v12])), (o9, .inl (cI, 12, .inl fw10)), (o2, .inl (cI, 252, .inl fw3))]) := hD
        refine lv_aload_n hx hb dX8_bring_41 rfl (lv_at hl 0 rfl) ?_
        refine lv_iload_n hx hb dX8_bring_42 rfl (lv_at hl 3 rfl) ?_
        refine va_put (D := (dC, dI)) (ci := 8) (v := .int a3) (ty := .int) (C := RX8) (T := TX8) (N := 5) hx hb hts iw_X8_bring_X8 tyX8 tyX8_ok nmX8 hown hK hP hD hS 0 rfl rfl 4 (by decide) (hts (.fieldLink RX8 25 "HolelessHouse$Parts" "other" "I") hm_X8_bring_3) (fun _ h9 => h9) rfl (by decide +kernel) rfl rfl (Nat.le_of_ble_eq_true rfl) dX8_bring_43 (fun H locs hP hD hS => ?_)
        have hP : va_P (dC, dI) vwCl ([(o1, .inr (8, [.ref o2, .int v4, .int v12, .int a2, .int a3])), (o8, .inr (4, [.ref o9, .int v11, .int v12])), (o9, .inl (cI, 12, .inl fw10)), (o2, .inl (cI, 252, .inl fw3))]) H := hP
        have hD : va_D A ([(o1, .inr (8, [.ref o2, .int v4, .int v12, .int a2, .int a3])), (o8, .inr (4, [.ref o9, .int v11, .int v12])), (o9, .inl (cI, 12, .inl fw10)), (o2, .inl (cI, 252, .inl fw3))]) := hD
        refine lv_aload_n hx hb dX8_bring_46 rfl (lv_at hl 0 rfl) ?_
        refine lv_iconst (v := 0) hx hb dX8_bring_47 (by decide) ?_
        refine va_put (D := (dC, dI)) (ci := 8) (v := .int 0) (ty := .int) (C := RX8) (T := TX8) (N := 5) hx hb hts iw_X8_bring_X8 tyX8 tyX8_ok nmX8 hown hK hP hD hS 0 rfl rfl 1 (by decide) (hts (.fieldLink RX8 15 "HolelessHouse$Parts" "size" "I") hm_X8_bring_4) (fun _ h9 => h9) rfl (by decide +kernel) rfl rfl (Nat.le_of_ble_eq_true rfl) dX8_bring_48 (fun H locs hP hD hS => ?_)
        have hP : va_P (dC, dI) vwCl ([(o1, .inr (8, [.ref o2, .int 0, .int v12, .int a2, .int a3])), (o8, .inr (4, [.ref o9, .int v11, .int v12])), (o9, .inl (cI, 12, .inl fw10)), (o2, .inl (cI, 252, .inl fw3))]) H := hP
        have hD : va_D A ([(o1, .inr (8, [.ref o2, .int 0, .int v12, .int a2, .int a3])), (o8, .inr (4, [.ref o9, .int v11, .int v12])), (o9, .inl (cI, 12, .inl fw10)), (o2, .inl (cI, 252, .inl fw3))]) := hD
        refine lv_aload_n hx hb dX8_bring_51 rfl (lv_at hl 1 rfl) ?_
        refine kc_i (D := (dC, dI)) (S := Unit) (wc := [(o8, .inr (4, [.ref o9, .int v11, .int v12]))]) (wr := [(o1, .inr (8, [.ref o2, .int 0, .int v12, .int a2, .int a3])), (o9, .inl (cI, 12, .inl fw10)), (o2, .inl (cI, 252, .inl fw3))]) (w1 := fun _ => [(o8, .inr (4, [.ref o9, .int v11, .int v12]))]) (wn := fun _ => [(o1, .inr (8, [.ref o2, .int 0, .int v12, .int a2, .int a3])), (o8, .inr (4, [.ref o9, .int v11, .int v12])), (o9, .inl (cI, 12, .inl fw10)), (o2, .inl (cI, 252, .inl fw3))]) (fun hPc hDc => va_runVN (As := []) (rest := []) ⟨hx, hb, hml, hown, hts⟩ (kX4_all_1 l dC dI cI c2 cZ o8 o9 v11 v12 H.size v11_h) ⟨va_cnB 0 hts gX8_bring_X4_all_n33 rfl rfl rfl (hN.1 _ ns_114) (hts (.initialized RX4) hm_X8_bring_6) (by decide +kernel) ⟨Nat.le_of_ble_eq_true rfl, Nat.le_of_ble_eq_true rfl⟩, (hts (.instanceMethod yX4_all) hm_X8_bring_5), (hts (.selects RX4 yX4_all yX4_all) hm_X8_bring_7)⟩ (pre_V hPc hK hDc hN (ci := 4) (q0 := 0) rfl rfl) rfl rfl hl.1 rfl (lv_room (Nat.le_of_ble_eq_true rfl)) dX8_bring_52 ⟨Nat.le_of_ble_eq_true rfl, Nat.le_of_ble_eq_true rfl⟩) hP hD hS hA [1] [0, 2, 3] [0, 3, 1, 2] rfl rfl (by decide +kernel) (by decide +kernel) (by decide +kernel) (by decide +kernel) (fun _ => rfl) (fun x157 _ H locs hq hP hD hS => ?_)
        have x157_h := hq
        have hP : va_P (dC, dI) vwCl ([(o1, .inr (8, [.ref o2, .int 0, .int v12, .int a2, .int a3])), (o8, .inr (4, [.ref o9, .int v11, .int v12])), (o9, .inl (cI, 12, .inl fw10)), (o2, .inl (cI, 252, .inl fw3))]) H := hP
        have hD : va_D A ([(o1, .inr (8, [.ref o2, .int 0, .int v12, .int a2, .int a3])), (o8, .inr (4, [.ref o9, .int v11, .int v12])), (o9, .inl (cI, 12, .inl fw10)), (o2, .inl (cI, 252, .inl fw3))]) := hD
        refine lv_iconst (v := 1) hx hb dX8_bring_55 (by decide) ?_
        refine lv_iload_n hx hb dX8_bring_56 rfl (lv_at hl 2 rfl) ?_
        refine lv_ishl hx hb dX8_bring_57 (lv_topi (fun x158 x158_e => ?_))
        have x158_h : Iv 1 2048 x158 := iv_e x158_e (iv_shl1 a2_h (by decide))
        refine lv_iconst (v := (-1)) hx hb dX8_bring_58 (by decide) ?_
        refine lv_ixor hx hb dX8_bring_59 (lv_topi (fun x159 x159_e => ?_))
        refine lv_iand hx hb dX8_bring_60 (lv_topi (fun x160 x160_e => ?_))
        have x160_h : Iv 0 4095 x160 := iv_e x160_e (iv_andL _ x157_h (by decide))
        refine lv_iconst (v := 1) hx hb dX8_bring_61 (by decide) ?_
        refine lv_iload_n hx hb dX8_bring_62 rfl (lv_at hl 3 rfl) ?_
        refine lv_ishl hx hb dX8_bring_63 (lv_topi (fun x161 x161_e => ?_))
        have x161_h : Iv 1 2048 x161 := iv_e x161_e (iv_shl1 a3_h (by decide))
        refine lv_iconst (v := (-1)) hx hb dX8_bring_64 (by decide) ?_
        refine lv_ixor hx hb dX8_bring_65 (lv_topi (fun x162 x162_e => ?_))
        refine lv_iand hx hb dX8_bring_66 (lv_topi (fun x163 x163_e => ?_))
        have x163_h : Iv 0 4095 x163 := iv_e x163_e (iv_andL _ x160_h (by decide))
        refine lv_istore (lv' := [(4, .int x163), (0, .ref o1), (1, .ref o8), (2, .int a2), (3, .int a3)]) hx hb dX8_bring_67 hl (by decide) rfl (fun ls hl => ?_)
        refine lv_aload_n hx hb dX8_bring_69 rfl (lv_at hl 2 rfl) ?_
        refine va_getN (D := (dC, dI)) (ci := 4) (v := .ref o9) (C := RX4) (T := TX4) (N := 3) hx hb hts iw_X8_bring_X4 hown hK hP 1 rfl rfl 0 (by decide) (hN.use ns_1) (fun _ h9 => h9) rfl dX8_bring_70 ?_
        refine lv_iload_n hx hb dX8_bring_73 rfl (lv_at hl 3 rfl) ?_
        refine va_iald hx hb hK hP 2 0 rfl rfl (vin_iv a2_h (by decide)) dX8_bring_74 (lv_topi (fun x164 x164_e => ?_))
        have x164_h : Iv 0 4095 x164 := iv_e x164_e (bd_at fw10_b (vin_iv a2_h (by decide)))
        refine lv_aload_n hx hb dX8_bring_75 rfl (lv_at hl 2 rfl) ?_
        refine va_getN (D := (dC, dI)) (ci := 4) (v := .ref o9) (C := RX4) (T := TX4) (N := 3) hx hb hts iw_X8_bring_X4 hown hK hP 1 rfl rfl 0 (by decide) (hN.use ns_1) (fun _ h9 => h9) rfl dX8_bring_76 ?_
        refine lv_iload_n hx hb dX8_bring_79 rfl (lv_at hl 4 rfl) ?_
        refine va_iald hx hb hK hP 2 0 rfl rfl (vin_iv a3_h (by decide)) dX8_bring_80 (lv_topi (fun x165 x165_e => ?_))
        have x165_h : Iv 0 4095 x165 := iv_e x165_e (bd_at fw10_b (vin_iv a3_h (by decide)))
        refine lv_iand hx hb dX8_bring_81 (lv_topi (fun x166 x166_e => ?_))
        have x166_h : Iv 0 4095 x166 := iv_e x166_e (iv_andL _ x164_h (by decide))
        refine lv_istore (lv' := [(5, .int x166), (4, .int x163), (0, .ref o1), (1, .ref o8), (2, .int a2), (3, .int a3)]) hx hb dX8_bring_82 hl (by decide) rfl (fun ls hl => ?_)
        refine lv_iload hx hb dX8_bring_84 (lv_at hl 0 rfl) ?_
        refine lv_istore (lv' := [(6, .int x166), (5, .int x166), (4, .int x163), (0, .ref o1), (1, .ref o8), (2, .int a2), (3, .int a3)]) hx hb dX8_bring_86 hl (by decide) rfl (fun ls hl => ?_)
        have L3 : ∀ (N : Nat) (x210 : Int32) (f211 : Nat → Int32) (x212 : Int32) (H : Heap) (locs : List Loc) (ls : Array Slot), (4096 - x210.toInt).toNat < N → Iv 0 4096 x210 → Iv 0 252 x212 → va_P (dC, dI) vwCl ([(o1, .inr (8, [.ref o2, .int x212, .int v12, .int a2, .int a3])), (o8, .inr (4, [.ref o9, .int v11, .int v12])), (o9, .inl (cI, 12, .inl fw10)), (o2, .inl (cI, 252, .inl f211))]) H → va_D A ([(o1, .inr (8, [.ref o2, .int x212, .int v12, .int a2, .int a3])), (o8, .inr (4, [.ref o9, .int v11, .int v12])), (o9, .inl (cI, 12, .inl fw10)), (o2, .inl (cI, 252, .inl f211))]) → va_S A s.heap H locs → lv_has ls 7 [(6, .int x210), (5, .int x166), (4, .int x163), (0, .ref o1), (1, .ref o8), (2, .int a2), (3, .int a3)] → W p l e ({ frames := 4, cells := 0, slots := 0, locals := 93 }) s m ([.ref o1, .ref o8, .int a2, .int a3] : List Value).toArray below meth c H locs 0 0 Q (F0 m 88 ls []) := by
          intro N
          induction N with
          | zero =>
            intro x210 f211 x212 H locs ls hM
            exact absurd hM (Nat.not_lt_zero _)
          | succ N ih3 =>
            intro x210 f211 x212 H locs ls hM3 x210_h x212_h hP hD hS hl
            refine lv_iload hx hb dX8_bring_88 (lv_at hl 0 rfl) ?_
            refine lv_iload hx hb dX8_bring_90 (lv_at hl 2 rfl) ?_
            refine lv_icmp_gt (tgt := 137) hx hb dX8_bring_92 (by decide) (fun h213 => ?_) (fun h213 => ?_)
            ·
              have qh213 := lt_i h213
              have j214 : Iv 1 4096 x210 := r_ltr qh213 x163_h x210_h (by decide)
              rw [hQ]
              exact W.vret hx hb hr (fun t ht hW => ⟨⟨(x212, v12, a2, a3, f211), rfl, ⟨x212_h, a2_h, a3_h⟩, by rw [ht]; exact hP, va_K.moved hW.alike hK, hD⟩, hS.F ht⟩) hS.2.2 dX8_bring_137
            ·
              have qh213 := nlt_i h213
              have j215 : Iv 0 4095 x210 := r_lel qh213 x210_h x163_h (by decide)
              refine lv_iload hx hb dX8_bring_95 (lv_at hl 0 rfl) ?_
              refine lv_iload hx hb dX8_bring_97 (lv_at hl 2 rfl) ?_
              refine lv_iconst (v := (-1)) hx hb dX8_bring_99 (by decide) ?_
              refine lv_ixor hx hb dX8_bring_100 (lv_topi (fun x216 x216_e => ?_))
              refine lv_iand hx hb dX8_bring_101 (lv_topi (fun x217 x217_e => ?_))
              have x217_h : Iv 0 4095 x217 := iv_e x217_e (iv_andL _ j215 (by decide))
              refine lv_if_ne (tgt := 131) hx hb dX8_bring_102 (by decide) (fun h218 => ?_) (fun h218 => ?_)
              ·
                have j219 : Iv 1 4095 x217 := r_nelo h218 x217_h ik_0 (by decide)
                obtain ⟨x220, x220_e⟩ : ∃ z : Int32, z = x210 + 1 := ⟨_, rfl⟩
                have x220_h : Iv 1 4096 x220 := iv_e x220_e (iv_add j215 ik_1 (by decide))
                refine lv_iinc (v := x220) (lv' := [(6, .int x220), (5, .int x166), (4, .int x163), (0, .ref o1), (1, .ref o8), (2, .int a2), (3, .int a3)]) hx hb dX8_bring_131 hl (k := 0) rfl (incN (by decide +kernel) x220_e) (by decide) rfl (fun ls hl => ?_)
                refine lv_goto (tgt := 88) hx hb dX8_bring_134 (by decide) ?_
                exact ih3 x220 f211 x212 _ _ _ (ms_up x220_e j215 (by decide) hM3) (iv_w x220_h (by decide)) x212_h hP hD hS hl
              ·
                have j221 : Iv 0 0 x217 := r_eq h218 ik_0
                refine lv_iload hx hb dX8_bring_105 (lv_at hl 0 rfl) ?_
                refine lv_iload hx hb dX8_bring_107 (lv_at hl 1 rfl) ?_
                refine lv_iand hx hb dX8_bring_109 (lv_topi (fun x222 x222_e => ?_))
                have x222_h : Iv 0 4095 x222 := iv_e x222_e (iv_andL _ j215 (by decide))
                refine lv_iload hx hb dX8_bring_110 (lv_at hl 1 rfl) ?_
                refine lv_icmp_ne (tgt := 131) hx hb dX8_bring_112 (by decide) (fun h223 => ?_) (fun h223 => ?_)
                ·
                  obtain ⟨x224, x224_e⟩ : ∃ z : Int32, z = x210 + 1 := ⟨_, rfl⟩
                  have x224_h : Iv 1 4096 x224 := iv_e x224_e (iv_add j215 ik_1 (by decide))
                  refine lv_iinc (v := x224) (lv' := [(6, .int x224), (5, .int x166), (4, .int x163), (0, .ref o1), (1, .ref o8), (2, .int a2), (3, .int a3)]) hx hb dX8_bring_131 hl (k := 0) rfl (incN (by decide +kernel) x224_e) (by decide) rfl (fun ls hl => ?_)
                  refine lv_goto (tgt := 88) hx hb dX8_bring_134 (by decide) ?_
                  exact ih3 x224 f211 x212 _ _ _ (ms_up x224_e j215 (by decide) hM3) (iv_w x224_h (by decide)) x212_h hP hD hS hl
                ·
                  refine lv_aload_n hx hb dX8_bring_115 rfl (lv_at hl 3 rfl) ?_
                  refine lv_aload_n hx hb dX8_bring_116 rfl (lv_at hl 4 rfl) ?_
                  refine lv_iload hx hb dX8_bring_117 (lv_at hl 0 rfl) ?_
                  refine kc_i (D := (dC, dI)) (S := Unit) (wc := [(o8, .inr (4, [.ref o9, .int v11, .int v12])), (o1, .inr (8, [.ref o2, .int x212, .int v12, .int a2, .int a3])), (o9, .inl (cI, 12, .inl fw10))]) (wr := [(o2, .inl (cI, 252, .inl f211))]) (w1 := fun _ => [(o8, .inr (4, [.ref o9, .int v11, .int v12])), (o1, .inr (8, [.ref o2, .int x212, .int v12, .int a2, .int a3])), (o9, .inl (cI, 12, .inl fw10))]) (wn := fun _ => [(o1, .inr (8, [.ref o2, .int x212, .int v12, .int a2, .int a3])), (o8, .inr (4, [.ref o9, .int v11, .int v12])), (o9, .inl (cI, 12, .inl fw10)), (o2, .inl (cI, 252, .inl f211))]) (fun hPc hDc => va_runV (As := [.ref o8, .int x210]) (rest := []) ⟨hx, hb, hml, hown, hts⟩ (kX8_isPart_1 l dC dI cI c2 cZ o1 o8 o9 o2 x212 v12 a2 a3 fw10 v11 v12 x210 H.size x212_h a2_h a3_h fw10_b v11_h j215) (cwV 2 hts gX8_bring_X8_isPart rfl rfl rfl (by decide +kernel) ⟨Nat.le_of_ble_eq_true rfl, Nat.le_of_ble_eq_true rfl⟩) (pre_V hPc hK hDc hN (ci := 8) (q0 := 1) rfl rfl) rfl rfl hl.1 rfl (lv_room (Nat.le_of_ble_eq_true rfl)) dX8_bring_119 ⟨Nat.le_of_ble_eq_true rfl, Nat.le_of_ble_eq_true rfl⟩) hP hD hS hA [1, 0, 2] [3] [2, 1, 3, 0] rfl rfl (by decide +kernel) (by decide +kernel) (by decide +kernel) (by decide +kernel) (fun _ => rfl) (fun x225 _ H locs hq hP hD hS => ?_)
                  have x225_h := hq
                  have hP : va_P (dC, dI) vwCl ([(o1, .inr (8, [.ref o2, .int x212, .int v12, .int a2, .int a3])), (o8, .inr (4, [.ref o9, .int v11, .int v12])), (o9, .inl (cI, 12, .inl fw10)), (o2, .inl (cI, 252, .inl f211))]) H := hP
                  have hD : va_D A ([(o1, .inr (8, [.ref o2, .int x212, .int v12, .int a2, .int a3])), (o8, .inr (4, [.ref o9, .int v11, .int v12])), (o9, .inl (cI, 12, .inl fw10)), (o2, .inl (cI, 252, .inl f211))]) := hD
                  refine lv_if_eq (tgt := 131) hx hb dX8_bring_122 (by decide) (fun h226 => ?_) (fun h226 => ?_)
                  ·
                    have j227 : Iv 0 0 x225 := r_eq h226 ik_0
                    obtain ⟨x228, x228_e⟩ : ∃ z : Int32, z = x210 + 1 := ⟨_, rfl⟩
                    have x228_h : Iv 1 4096 x228 := iv_e x228_e (iv_add j215 ik_1 (by decide))
                    refine lv_iinc (v := x228) (lv' := [(6, .int x228), (5, .int x166), (4, .int x163), (0, .ref o1), (1, .ref o8), (2, .int a2), (3, .int a3)]) hx hb dX8_bring_131 hl (k := 0) rfl (incN (by decide +kernel) x228_e) (by decide) rfl (fun ls hl => ?_)
                    refine lv_goto (tgt := 88) hx hb dX8_bring_134 (by decide) ?_
                    exact ih3 x228 f211 x212 _ _ _ (ms_up x228_e j215 (by decide) hM3) (iv_w x228_h (by decide)) x212_h hP hD hS hl
                  ·
                    have j229 : Iv 1 1 x225 := r_nelo h226 x225_h ik_0 (by decide)
                    refine lv_aload_n hx hb dX8_bring_125 rfl (lv_at hl 3 rfl) ?_
                    refine lv_iload hx hb dX8_bring_126 (lv_at hl 0 rfl) ?_
                    refine kc_v (D := (dC, dI)) (S := Int32 × (Nat → Int32)) (wc := [(o1, .inr (8, [.ref o2, .int x212, .int v12, .int a2, .int a3])), (o2, .inl (cI, 252, .inl f211))]) (wr := [(o8, .inr (4, [.ref o9, .int v11, .int v12])), (o9, .inl (cI, 12, .inl fw10))]) (w1 := fun u => [(o1, .inr (8, [.ref o2, .int u.1, .int v12, .int a2, .int a3])), (o2, .inl (cI, 252, .inl u.2))]) (wn := fun u => [(o1, .inr (8, [.ref o2, .int u.1, .int v12, .int a2, .int a3])), (o8, .inr (4, [.ref o9, .int v11, .int v12])), (o9, .inl (cI, 12, .inl fw10)), (o2, .inl (cI, 252, .inl u.2))]) (fun hPc hDc => va_runV (As := [.int x210]) (rest := []) ⟨hx, hb, hml, hown, hts⟩ (kX8_keep_1 l dC dI cI c2 cZ o1 o2 f211 x212 v12 a2 a3 x210 H.size x212_h a2_h a3_h) (cwV 1 hts gX8_bring_X8_keep rfl rfl rfl (by decide +kernel) ⟨Nat.le_of_ble_eq_true rfl, Nat.le_of_ble_eq_true rfl⟩) (pre_V hPc hK hDc hN (ci := 8) (q0 := 0) rfl rfl) rfl rfl hl.1 rfl (lv_room (Nat.le_of_ble_eq_true rfl)) dX8_bring_128 ⟨Nat.le_of_ble_eq_true rfl, Nat.le_of_ble_eq_true rfl⟩) hP hD hS hA [0, 3] [1, 2] [2, 0, 1, 3] rfl rfl (by decide +kernel) (by decide +kernel) (by decide +kernel) (by decide +kernel) (fun _ => rfl) (fun u H locs hq hP hD hS => ?_)
                    obtain ⟨y230, f231⟩ := u
                    have y230_h := hq
                    have hP : va_P (dC, dI) vwCl ([(o1, .inr (8, [.ref o2, .int y230, .int v12, .int a2, .int a3])), (o8, .inr (4, [.ref o9, .int v11, .int v12])), (o9, .inl (cI, 12, .inl fw10)), (o2, .inl (cI, 252, .inl f231))]) H := hP
                    have hD : va_D A ([(o1, .inr (8, [.ref o2, .int y230, .int v12, .int a2, .int a3])), (o8, .inr (4, [.ref o9, .int v11, .int v12])), (o9, .inl (cI, 12, .inl fw10)), (o2, .inl (cI, 252, .inl f231))]) := hD
                    obtain ⟨x232, x232_e⟩ : ∃ z : Int32, z = x210 + 1 := ⟨_, rfl⟩
                    have x232_h : Iv 1 4096 x232 := iv_e x232_e (iv_add j215 ik_1 (by decide))
                    refine lv_iinc (v := x232) (lv' := [(6, .int x232), (5, .int x166), (4, .int x163), (0, .ref o1), (1, .ref o8), (2, .int a2), (3, .int a3)]) hx hb dX8_bring_131 hl (k := 0) rfl (incN (by decide +kernel) x232_e) (by decide) rfl (fun ls hl => ?_)
                    refine lv_goto (tgt := 88) hx hb dX8_bring_134 (by decide) ?_
                    exact ih3 x232 f231 y230 _ _ _ (ms_up x232_e j215 (by decide) hM3) (iv_w x232_h (by decide)) y230_h hP hD hS hl
        exact L3 _ x166 fw3 0 _ _ _ (Nat.lt_succ_self _) (iv_w x166_h (by decide)) (iv_w ik_0 (by decide)) hP hD hS hl
      ·
        have j233 : Iv 0 11 v7 := r_eq h156 a3_h
        rw [hQ]
        exact W.vret hx hb hr (fun t ht hW => ⟨⟨(v4, v5, v6, v7, fw3), rfl, ⟨v4_h, j155, j233⟩, by rw [ht]; exact hP, va_K.moved hW.alike hK, hD⟩, hS.F ht⟩) hS.2.2 dX8_bring_27
theorem iw_X11_part_X11 : ∀ w ∈ wsX110, w ∈ wsX11_part := fun _ h => List.mem_cons.mpr (Or.inr (List.mem_append.mpr (Or.inl (List.mem_append.mpr (Or.inl (List.mem_append.mpr (Or.inr h)))))))
theorem iw_X11_part_X8 : ∀ w ∈ wsX80, w ∈ wsX11_part := fun _ h => List.mem_cons.mpr (Or.inr (List.mem_append.mpr (Or.inl (List.mem_append.mpr (Or.inr h)))))
set_option maxHeartbeats 4000000 in
set_option maxRecDepth 100000 in
theorem kX11_part_1 (l : Launch) (dC : Nat → ClassId) (dI : Nat → Nat → Nat) (cI c2 cZ : ClassId) (o1 : Nat) (o2 : Nat) (o7 : Nat) (o12 : Nat) (o41 : Nat) (o51 : Nat) (o64 : Nat) (o77 : Nat) (o84 : Nat) (o91 : Nat) (o99 : Nat) (o111 : Nat) (o123 : Nat) (o3 : Nat) (o85 : Nat) (fw4 : Nat → Int32) (v5 : Int32) (v6 : Int32) (fw86 : Nat → Int32) (v87 : Int32) (v88 : Int32) (v89 : Int32) (v90 : Int32) (v125 : Int32) (a1 : Int32) (a2 : Int32) (a3 : Int32) (sz : Nat) (fw4_b : Bd 12 0 4095 fw4) (v5_h : Iv 0 12 v5) (v87_h : Iv 0 252 v87) (v89_h : Iv (-1) 11 v89) (v90_h : Iv (-1) 11 v90) : Met l yX11_part wsX11_part ({ frames := 5, cells := 0, slots := 0, locals := 119 }) (va_Pc [.ref o1, .int a1, .int a2, .int a3] (wPre (dC, dI) [(cI, .int), (c2, .array .int), (cZ, .boolean)] ([(o1, .inr (11, [.ref o2, .ref o7, .ref o12, .ref o41, .ref o51, .ref o64, .ref o77, .ref o84, .ref o91, .ref o99, .ref o111, .ref o123, .int v125])), (o2, .inr (4, [.ref o3, .int v5, .int v6])), (o3, .inl (cI, 12, .inl fw4)), (o84, .inr (8, [.ref o85, .int v87, .int v88, .int v89, .int v90])), (o85, .inl (cI, 252, .inl fw86))]) sz)) (va_Qi (fun (r : Int32) (u : Int32 × Int32 × Int32 × Int32 × (Nat → Int32)) => Iv 0 252 u.1 ∧ Iv (-1) 11 u.2.2.1 ∧ Iv (-1) 11 u.2.2.2.1) (fun u t => wPost (dC, dI) [(cI, .int), (c2, .array .int), (cZ, .boolean)] (va_A ([(o1, .inr (11, [.ref o2, .ref o7, .ref o12, .ref o41, .ref o51, .ref o64, .ref o77, .ref o84, .ref o91, .ref o99, .ref o111, .ref o123, .int v125])), (o2, .inr (4, [.ref o3, .int v5, .int v6])), (o3, .inl (cI, 12, .inl fw4)), (o84, .inr (8, [.ref o85, .int v87, .int v88, .int v89, .int v90])), (o85, .inl (cI, 252, .inl fw86))]) sz) ([(o1, .inr (11, [.ref o2, .ref o7, .ref o12, .ref o41, .ref o51, .ref o64, .ref o77, .ref o84, .ref o91, .ref o99, .ref o111, .ref o123, .int v125])), (o2, .inr (4, [.ref o3, .int v5, .int v6])), (o3, .inl (cI, 12, .inl fw4)), (o84, .inr (8, [.ref o85, .int u.1, .int u.2.1, .int u.2.2.1, .int u.2.2.2.1])), (o85, .inl (cI, 252, .inl u.2.2.2.2))]) t) (va_A ([(o1, .inr (11, [.ref o2, .ref o7, .ref o12, .ref o41, .ref o51, .ref o64, .ref o77, .ref o84, .ref o91, .ref o99, .ref o111, .ref o123, .int v125])), (o2, .inr (4, [.ref o3, .int v5, .int v6])), (o3, .inl (cI, 12, .inl fw4)), (o84, .inr (8, [.ref o85, .int v87, .int v88, .int v89, .int v90])), (o85, .inl (cI, 252, .inl fw86))]) sz)) 0 0 (va_A ([(o1, .inr (11, [.ref o2, .ref o7, .ref o12, .ref o41, .ref o51, .ref o64, .ref o77, .ref o84, .ref o91, .ref o99, .ref o111, .ref o123, .int v125])), (o2, .inr (4, [.ref o3, .int v5, .int v6])), (o3, .inl (cI, 12, .inl fw4)), (o84, .inr (8, [.ref o85, .int v87, .int v88, .int v89, .int v90])), (o85, .inl (cI, 252, .inl fw86))]) sz) := by
  refine Met.ofW (cc := cX11_part) (maxL := 4) (ret := (some .int)) (by decide) rfl ?_
  intro p e s m args below meth c s₁ B hml hv
  obtain ⟨rfl, hsz, hP, hK, hD0, hN⟩ := hv
  have hx := B.exec
  have hb := B.bytes
  have hr := B.returns
  have hts := atoms_spec (ws := wsX11_part) B.pre
  have hown : s.vm.findClass RX11 = some m.cls := findClass_of_methodNamed B.named
  have hlocks := B.notSynchronized
  subst hsz
  have hD := hD0.self (sz := s.heap.size)
  generalize hAe : va_A ([(o1, .inr (11, [.ref o2, .ref o7, .ref o12, .ref o41, .ref o51, .ref o64, .ref o77, .ref o84, .ref o91, .ref o99, .ref o111, .ref o123, .int v125])), (o2, .inr (4, [.ref o3, .int v5, .int v6])), (o3, .inl (cI, 12, .inl fw4)), (o84, .inr (8, [.ref o85, .int v87, .int v88, .int v89, .int v90])), (o85, .inl (cI, 252, .inl fw86))]) s.heap.size = A at hD ⊢
  have hA : ∀ q : Nat, s.heap.size ≤ q → A q := fun q h => by rw [← hAe]; exact Or.inr h
  have hS : va_S A s.heap s.heap [] := va_S.rf
  have hP : va_P (dC, dI) vwCl ([(o1, .inr (11, [.ref o2, .ref o7, .ref o12, .ref o41, .ref o51, .ref o64, .ref o77, .ref o84, .ref o91, .ref o99, .ref o111, .ref o123, .int v125])), (o2, .inr (4, [.ref o3, .int v5, .int v6])), (o3, .inl (cI, 12, .inl fw4)), (o84, .inr (8, [.ref o85, .int v87, .int v88, .int v89, .int v90])), (o85, .inl (cI, 252, .inl fw86))]) s.heap := hP
  have hl := lv_entry ([.ref o1, .int a1, .int a2, .int a3]) (n := 4) (Nat.le_of_ble_eq_true rfl)
  rw [lg_entry_eq]
  generalize (lg_sl ([.ref o1, .int a1, .int a2, .int a3]) ++ List.replicate (4 - (lg_sl ([.ref o1, .int a1, .int a2, .int a3])).length) Slot.unset).toArray = ls at hl ⊢
  have hl : lv_has ls 4 [(0, .ref o1), (1, .int a1), (2, .int a2), (3, .int a3)] := hl
  refine gen_Q (fun Q hQ => ?_)
  refine lv_aload_n hx hb dX11_part_0 rfl (lv_at hl 0 rfl) ?_
  refine va_get (D := (dC, dI)) (ci := 11) (v := .ref o2) (C := RX11) (T := TX11) (N := 13) hx hb hts iw_X11_part_X11 hown hK hP 0 rfl rfl 0 (by decide) (hts (.fieldLink RX11 10 "HolelessHouse" "graph" "LHolelessHouse$Graph;") hm_X11_part_1) (fun _ h9 => h9) rfl dX11_part_1 ?_
  refine lv_iload_n hx hb dX11_part_4 rfl (lv_at hl 1 rfl) ?_
  refine kc_i (D := (dC, dI)) (S := Unit) (wc := [(o2, .inr (4, [.ref o3, .int v5, .int v6]))]) (wr := [(o1, .inr (11, [.ref o2, .ref o7, .ref o12, .ref o41, .ref o51, .ref o64, .ref o77, .ref o84, .ref o91, .ref o99, .ref o111, .ref o123, .int v125])), (o3, .inl (cI, 12, .inl fw4)), (o84, .inr (8, [.ref o85, .int v87, .int v88, .int v89, .int v90])), (o85, .inl (cI, 252, .inl fw86))]) (w1 := fun _ => [(o2, .inr (4, [.ref o3, .int v5, .int v6]))]) (wn := fun _ => [(o1, .inr (11, [.ref o2, .ref o7, .ref o12, .ref o41, .ref o51, .ref o64, .ref o77, .ref o84, .ref o91, .ref o99, .ref o111, .ref o123, .int v125])), (o2, .inr (4, [.ref o3, .int v5, .int v6])), (o3, .inl (cI, 12, .inl fw4)), (o84, .inr (8, [.ref o85, .int v87, .int v88, .int v89, .int v90])), (o85, .inl (cI, 252, .inl fw86))]) (fun hPc hDc => va_runVN (As := [.int a1]) (rest := []) ⟨hx, hb, hml, hown, hts⟩ (kX4_has_1 l dC dI cI c2 cZ o2 o3 v5 v6 a1 s.heap.size v5_h) ⟨va_cnB 1 hts gX11_part_X4_has_n93 rfl rfl rfl (hN.1 _ ns_66) (hts (.initialized RX4) hm_X11_part_4) (by decide +kernel) ⟨Nat.le_of_ble_eq_true rfl, Nat.le_of_ble_eq_true rfl⟩, (hts (.instanceMethod yX4_has) hm_X11_part_3), (hts (.selects RX4 yX4_has yX4_has) hm_X11_part_5)⟩ (pre_V hPc hK hDc hN (ci := 4) (q0 := 0) rfl rfl) rfl rfl hl.1 rfl (lv_room (Nat.le_of_ble_eq_true rfl)) dX11_part_5 ⟨Nat.le_of_ble_eq_true rfl, Nat.le_of_ble_eq_true rfl⟩) hP hD hS hA [1] [0, 2, 3, 4] [0, 4, 1, 2, 3] rfl rfl (by decide +kernel) (by decide +kernel) (by decide +kernel) (by decide +kernel) (fun _ => rfl) (fun x1 _ H locs hq hP hD hS => ?_)
  obtain ⟨x1_h, i2⟩ := hq
  have hP : va_P (dC, dI) vwCl ([(o1, .inr (11, [.ref o2, .ref o7, .ref o12, .ref o41, .ref o51, .ref o64, .ref o77, .ref o84, .ref o91, .ref o99, .ref o111, .ref o123, .int v125])), (o2, .inr (4, [.ref o3, .int v5, .int v6])), (o3, .inl (cI, 12, .inl fw4)), (o84, .inr (8, [.ref o85, .int v87, .int v88, .int v89, .int v90])), (o85, .inl (cI, 252, .inl fw86))]) H := hP
  have hD : va_D A ([(o1, .inr (11, [.ref o2, .ref o7, .ref o12, .ref o41, .ref o51, .ref o64, .ref o77, .ref o84, .ref o91, .ref o99, .ref o111, .ref o123, .int v125])), (o2, .inr (4, [.ref o3, .int v5, .int v6])), (o3, .inl (cI, 12, .inl fw4)), (o84, .inr (8, [.ref o85, .int v87, .int v88, .int v89, .int v90])), (o85, .inl (cI, 252, .inl fw86))]) := hD
  refine lv_if_eq (tgt := 27) hx hb dX11_part_8 (by decide) (fun h3 => ?_) (fun h3 => ?_)
  ·
    have j4 : Iv 0 0 x1 := r_eq h3 ik_0
    refine lv_iconst (v := (-1)) hx hb dX11_part_27 (by decide) ?_
    rw [hQ]
    exact W.iret (v := (-1)) hx hb hr (fun t ht hW => ⟨⟨(-1), (v87, v88, v89, v90, fw86), rfl, ⟨v87_h, v89_h, v90_h⟩, by rw [ht]; exact hP, va_K.moved hW.alike hK, hD⟩, hS.F ht⟩) hS.2.2 dX11_part_28
  ·
    have j5 : Iv 1 1 x1 := r_nelo h3 x1_h ik_0 (by decide)
    have j6 : Iv 0 11 a1 := i2 h3
    refine lv_aload_n hx hb dX11_part_11 rfl (lv_at hl 0 rfl) ?_
    refine va_get (D := (dC, dI)) (ci := 11) (v := .ref o2) (C := RX11) (T := TX11) (N := 13) hx hb hts iw_X11_part_X11 hown hK hP 0 rfl rfl 0 (by decide) (hts (.fieldLink RX11 10 "HolelessHouse" "graph" "LHolelessHouse$Graph;") hm_X11_part_1) (fun _ h9 => h9) rfl dX11_part_12 ?_
    refine lv_iload_n hx hb dX11_part_15 rfl (lv_at hl 2 rfl) ?_
    refine kc_i (D := (dC, dI)) (S := Unit) (wc := [(o2, .inr (4, [.ref o3, .int v5, .int v6]))]) (wr := [(o1, .inr (11, [.ref o2, .ref o7, .ref o12, .ref o41, .ref o51, .ref o64, .ref o77, .ref o84, .ref o91, .ref o99, .ref o111, .ref o123, .int v125])), (o3, .inl (cI, 12, .inl fw4)), (o84, .inr (8, [.ref o85, .int v87, .int v88, .int v89, .int v90])), (o85, .inl (cI, 252, .inl fw86))]) (w1 := fun _ => [(o2, .inr (4, [.ref o3, .int v5, .int v6]))]) (wn := fun _ => [(o1, .inr (11, [.ref o2, .ref o7, .ref o12, .ref o41, .ref o51, .ref o64, .ref o77, .ref o84, .ref o91, .ref o99, .ref o111, .ref o123, .int v125])), (o2, .inr (4, [.ref o3, .int v5, .int v6])), (o3, .inl (cI, 12, .inl fw4)), (o84, .inr (8, [.ref o85, .int v87, .int v88, .int v89, .int v90])), (o85, .inl (cI, 252, .inl fw86))]) (fun hPc hDc => va_runVN (As := [.int a2]) (rest := []) ⟨hx, hb, hml, hown, hts⟩ (kX4_has_1 l dC dI cI c2 cZ o2 o3 v5 v6 a2 H.size v5_h) ⟨va_cnB 1 hts gX11_part_X4_has_n93 rfl rfl rfl (hN.1 _ ns_66) (hts (.initialized RX4) hm_X11_part_4) (by decide +kernel) ⟨Nat.le_of_ble_eq_true rfl, Nat.le_of_ble_eq_true rfl⟩, (hts (.instanceMethod yX4_has) hm_X11_part_3), (hts (.selects RX4 yX4_has yX4_has) hm_X11_part_5)⟩ (pre_V hPc hK hDc hN (ci := 4) (q0 := 0) rfl rfl) rfl rfl hl.1 rfl (lv_room (Nat.le_of_ble_eq_true rfl)) dX11_part_16 ⟨Nat.le_of_ble_eq_true rfl, Nat.le_of_ble_eq_true rfl⟩) hP hD hS hA [1] [0, 2, 3, 4] [0, 4, 1, 2, 3] rfl rfl (by decide +kernel) (by decide +kernel) (by decide +kernel) (by decide +kernel) (fun _ => rfl) (fun x7 _ H locs hq hP hD hS => ?_)
    obtain ⟨x7_h, i8⟩ := hq
    have hP : va_P (dC, dI) vwCl ([(o1, .inr (11, [.ref o2, .ref o7, .ref o12, .ref o41, .ref o51, .ref o64, .ref o77, .ref o84, .ref o91, .ref o99, .ref o111, .ref o123, .int v125])), (o2, .inr (4, [.ref o3, .int v5, .int v6])), (o3, .inl (cI, 12, .inl fw4)), (o84, .inr (8, [.ref o85, .int v87, .int v88, .int v89, .int v90])), (o85, .inl (cI, 252, .inl fw86))]) H := hP
    have hD : va_D A ([(o1, .inr (11, [.ref o2, .ref o7, .ref o12, .ref o41, .ref o51, .ref o64, .ref o77, .ref o84, .ref o91, .ref o99, .ref o111, .ref o123, .int v125])), (o2, .inr (4, [.ref o3, .int v5, .int v6])), (o3, .inl (cI, 12, .inl fw4)), (o84, .inr (8, [.ref o85, .int v87, .int v88, .int v89, .int v90])), (o85, .inl (cI, 252, .inl fw86))]) := hD
    refine lv_if_eq (tgt := 27) hx hb dX11_part_19 (by decide) (fun h9 => ?_) (fun h9 => ?_)
    ·
      have j10 : Iv 0 0 x7 := r_eq h9 ik_0
      refine lv_iconst (v := (-1)) hx hb dX11_part_27 (by decide) ?_
      rw [hQ]
      exact W.iret (v := (-1)) hx hb hr (fun t ht hW => ⟨⟨(-1), (v87, v88, v89, v90, fw86), rfl, ⟨v87_h, v89_h, v90_h⟩, by rw [ht]; exact hP, va_K.moved hW.alike hK, hD⟩, hS.F ht⟩) hS.2.2 dX11_part_28
    ·
      have j11 : Iv 1 1 x7 := r_nelo h9 x7_h ik_0 (by decide)
      have j12 : Iv 0 11 a2 := i8 h9
      refine lv_iload_n hx hb dX11_part_22 rfl (lv_at hl 1 rfl) ?_
      refine lv_iload_n hx hb dX11_part_23 rfl (lv_at hl 2 rfl) ?_
      refine lv_icmp_ne (tgt := 29) hx hb dX11_part_24 (by decide) (fun h13 => ?_) (fun h13 => ?_)
      ·
        refine lv_aload_n hx hb dX11_part_29 rfl (lv_at hl 0 rfl) ?_
        refine va_get (D := (dC, dI)) (ci := 11) (v := .ref o2) (C := RX11) (T := TX11) (N := 13) hx hb hts iw_X11_part_X11 hown hK hP 0 rfl rfl 0 (by decide) (hts (.fieldLink RX11 10 "HolelessHouse" "graph" "LHolelessHouse$Graph;") hm_X11_part_1) (fun _ h9 => h9) rfl dX11_part_30 ?_
        refine lv_iload_n hx hb dX11_part_33 rfl (lv_at hl 1 rfl) ?_
        refine lv_iload_n hx hb dX11_part_34 rfl (lv_at hl 2 rfl) ?_
        refine kc_i (D := (dC, dI)) (S := Unit) (wc := [(o2, .inr (4, [.ref o3, .int v5, .int v6])), (o3, .inl (cI, 12, .inl fw4))]) (wr := [(o1, .inr (11, [.ref o2, .ref o7, .ref o12, .ref o41, .ref o51, .ref o64, .ref o77, .ref o84, .ref o91, .ref o99, .ref o111, .ref o123, .int v125])), (o84, .inr (8, [.ref o85, .int v87, .int v88, .int v89, .int v90])), (o85, .inl (cI, 252, .inl fw86))]) (w1 := fun _ => [(o2, .inr (4, [.ref o3, .int v5, .int v6])), (o3, .inl (cI, 12, .inl fw4))]) (wn := fun _ => [(o1, .inr (11, [.ref o2, .ref o7, .ref o12, .ref o41, .ref o51, .ref o64, .ref o77, .ref o84, .ref o91, .ref o99, .ref o111, .ref o123, .int v125])), (o2, .inr (4, [.ref o3, .int v5, .int v6])), (o3, .inl (cI, 12, .inl fw4)), (o84, .inr (8, [.ref o85, .int v87, .int v88, .int v89, .int v90])), (o85, .inl (cI, 252, .inl fw86))]) (fun hPc hDc => va_runVN (As := [.int a1, .int a2]) (rest := []) ⟨hx, hb, hml, hown, hts⟩ (kX4_touches_1 l dC dI cI c2 cZ o2 o3 fw4 v5 v6 a1 a2 H.size fw4_b v5_h j6 j12) ⟨va_cnB 2 hts gX11_part_X4_touches_n97 rfl rfl rfl (hN.1 _ ns_67) (hts (.initialized RX4) hm_X11_part_4) (by decide +kernel) ⟨Nat.le_of_ble_eq_true rfl, Nat.le_of_ble_eq_true rfl⟩, (hts (.instanceMethod yX4_touches) hm_X11_part_8), (hts (.selects RX4 yX4_touches yX4_touches) hm_X11_part_9)⟩ (pre_V hPc hK hDc hN (ci := 4) (q0 := 0) rfl rfl) rfl rfl hl.1 rfl (lv_room (Nat.le_of_ble_eq_true rfl)) dX11_part_35 ⟨Nat.le_of_ble_eq_true rfl, Nat.le_of_ble_eq_true rfl⟩) hP hD hS hA [1, 2] [0, 3, 4] [0, 3, 4, 1, 2] rfl rfl (by decide +kernel) (by decide +kernel) (by decide +kernel) (by decide +kernel) (fun _ => rfl) (fun x14 _ H locs hq hP hD hS => ?_)
        have x14_h := hq
        have hP : va_P (dC, dI) vwCl ([(o1, .inr (11, [.ref o2, .ref o7, .ref o12, .ref o41, .ref o51, .ref o64, .ref o77, .ref o84, .ref o91, .ref o99, .ref o111, .ref o123, .int v125])), (o2, .inr (4, [.ref o3, .int v5, .int v6])), (o3, .inl (cI, 12, .inl fw4)), (o84, .inr (8, [.ref o85, .int v87, .int v88, .int v89, .int v90])), (o85, .inl (cI, 252, .inl fw86))]) H := hP
        have hD : va_D A ([(o1, .inr (11, [.ref o2, .ref o7, .ref o12, .ref o41, .ref o51, .ref o64, .ref o77, .ref o84, .ref o91, .ref o99, .ref o111, .ref o123, .int v125])), (o2, .inr (4, [.ref o3, .int v5, .int v6])), (o3, .inl (cI, 12, .inl fw4)), (o84, .inr (8, [.ref o85, .int v87, .int v88, .int v89, .int v90])), (o85, .inl (cI, 252, .inl fw86))]) := hD
        refine lv_if_eq (tgt := 44) hx hb dX11_part_38 (by decide) (fun h15 => ?_) (fun h15 => ?_)
        ·
          have j16 : Iv 0 0 x14 := r_eq h15 ik_0
          refine lv_aload_n hx hb dX11_part_44 rfl (lv_at hl 0 rfl) ?_
          refine va_get (D := (dC, dI)) (ci := 11) (v := .ref o84) (C := RX11) (T := TX11) (N := 13) hx hb hts iw_X11_part_X11 hown hK hP 0 rfl rfl 7 (by decide) (hts (.fieldLink RX11 59 "HolelessHouse" "parts" "LHolelessHouse$Parts;") hm_X11_part_2) (fun _ h9 => h9) rfl dX11_part_45 ?_
          refine lv_aload_n hx hb dX11_part_48 rfl (lv_at hl 0 rfl) ?_
          refine va_get (D := (dC, dI)) (ci := 11) (v := .ref o2) (C := RX11) (T := TX11) (N := 13) hx hb hts iw_X11_part_X11 hown hK hP 0 rfl rfl 0 (by decide) (hts (.fieldLink RX11 10 "HolelessHouse" "graph" "LHolelessHouse$Graph;") hm_X11_part_1) (fun _ h9 => h9) rfl dX11_part_49 ?_
          refine lv_iload_n hx hb dX11_part_52 rfl (lv_at hl 1 rfl) ?_
          refine lv_iload_n hx hb dX11_part_53 rfl (lv_at hl 2 rfl) ?_
          refine kc_v (D := (dC, dI)) (S := Int32 × Int32 × Int32 × Int32 × (Nat → Int32)) (wc := [(o84, .inr (8, [.ref o85, .int v87, .int v88, .int v89, .int v90])), (o2, .inr (4, [.ref o3, .int v5, .int v6])), (o3, .inl (cI, 12, .inl fw4)), (o85, .inl (cI, 252, .inl fw86))]) (wr := [(o1, .inr (11, [.ref o2, .ref o7, .ref o12, .ref o41, .ref o51, .ref o64, .ref o77, .ref o84, .ref o91, .ref o99, .ref o111, .ref o123, .int v125]))]) (w1 := fun u => [(o84, .inr (8, [.ref o85, .int u.1, .int u.2.1, .int u.2.2.1, .int u.2.2.2.1])), (o2, .inr (4, [.ref o3, .int v5, .int v6])), (o3, .inl (cI, 12, .inl fw4)), (o85, .inl (cI, 252, .inl u.2.2.2.2))]) (wn := fun u => [(o1, .inr (11, [.ref o2, .ref o7, .ref o12, .ref o41, .ref o51, .ref o64, .ref o77, .ref o84, .ref o91, .ref o99, .ref o111, .ref o123, .int v125])), (o2, .inr (4, [.ref o3, .int v5, .int v6])), (o3, .inl (cI, 12, .inl fw4)), (o84, .inr (8, [.ref o85, .int u.1, .int u.2.1, .int u.2.2.1, .int u.2.2.2.1])), (o85, .inl (cI, 252, .inl u.2.2.2.2))]) (fun hPc hDc => va_runVN (As := [.ref o2, .int a1, .int a2]) (rest := []) ⟨hx, hb, hml, hown, hts⟩ (kX8_bring_1 l dC dI cI c2 cZ o84 o2 o85 o3 fw86 v87 v88 v89 v90 fw4 v5 v6 a1 a2 H.size v87_h v89_h v90_h fw4_b v5_h j6 j12) ⟨va_cnB 3 hts gX11_part_X8_bring_n225 rfl rfl rfl (hN.1 _ ns_113) (hts (.initialized RX8) hm_X11_part_16) (by decide +kernel) ⟨Nat.le_of_ble_eq_true rfl, Nat.le_of_ble_eq_true rfl⟩, (hts (.instanceMethod yX8_bring) hm_X11_part_15), (hts (.selects RX8 yX8_bring yX8_bring) hm_X11_part_17)⟩ (pre_V hPc hK hDc hN (ci := 8) (q0 := 0) rfl rfl) rfl rfl hl.1 rfl (lv_room (Nat.le_of_ble_eq_true rfl)) dX11_part_54 ⟨Nat.le_of_ble_eq_true rfl, Nat.le_of_ble_eq_true rfl⟩) hP hD hS hA [3, 1, 2, 4] [0] [0, 2, 3, 1, 4] rfl rfl (by decide +kernel) (by decide +kernel) (by decide +kernel) (by decide +kernel) (fun _ => rfl) (fun u H locs hq hP hD hS => ?_)
          obtain ⟨y17, y18, y19, y20, f21⟩ := u
          obtain ⟨y17_h, y19_h, y20_h⟩ := hq
          have hP : va_P (dC, dI) vwCl ([(o1, .inr (11, [.ref o2, .ref o7, .ref o12, .ref o41, .ref o51, .ref o64, .ref o77, .ref o84, .ref o91, .ref o99, .ref o111, .ref o123, .int v125])), (o2, .inr (4, [.ref o3, .int v5, .int v6])), (o3, .inl (cI, 12, .inl fw4)), (o84, .inr (8, [.ref o85, .int y17, .int y18, .int y19, .int y20])), (o85, .inl (cI, 252, .inl f21))]) H := hP
          have hD : va_D A ([(o1, .inr (11, [.ref o2, .ref o7, .ref o12, .ref o41, .ref o51, .ref o64, .ref o77, .ref o84, .ref o91, .ref o99, .ref o111, .ref o123, .int v125])), (o2, .inr (4, [.ref o3, .int v5, .int v6])), (o3, .inl (cI, 12, .inl fw4)), (o84, .inr (8, [.ref o85, .int y17, .int y18, .int y19, .int y20])), (o85, .inl (cI, 252, .inl f21))]) := hD
          refine lv_iload_n hx hb dX11_part_57 rfl (lv_at hl 3 rfl) ?_
          refine lv_iconst (v := (-1)) hx hb dX11_part_58 (by decide) ?_
          refine lv_icmp_ne (tgt := 70) hx hb dX11_part_59 (by decide) (fun h22 => ?_) (fun h22 => ?_)
          ·
            refine lv_iload_n hx hb dX11_part_70 rfl (lv_at hl 3 rfl) ?_
            refine lv_if_lt (tgt := 97) hx hb dX11_part_71 (by decide) (fun h23 => ?_) (fun h23 => ?_)
            ·
              have qh23 := lt_i h23
              have j24 : Iv (-2147483648) (-1) a3 := r_ltl qh23 (iv_full a3) ik_0 (by decide)
              refine lv_bipush (v := (-9)) hx hb dX11_part_97 (by decide) ?_
              rw [hQ]
              exact W.iret (v := (-9)) hx hb hr (fun t ht hW => ⟨⟨(-9), (y17, y18, y19, y20, f21), rfl, ⟨y17_h, (iv_w y19_h (by decide)), (iv_w y20_h (by decide))⟩, by rw [ht]; exact hP, va_K.moved hW.alike hK, hD⟩, hS.F ht⟩) hS.2.2 dX11_part_99
            ·
              have qh23 := nlt_i h23
              have j25 : Iv 0 2147483647 a3 := r_ler qh23 ik_0 (iv_full a3) (by decide)
              refine lv_iload_n hx hb dX11_part_74 rfl (lv_at hl 3 rfl) ?_
              refine lv_aload_n hx hb dX11_part_75 rfl (lv_at hl 0 rfl) ?_
              refine va_get (D := (dC, dI)) (ci := 11) (v := .ref o84) (C := RX11) (T := TX11) (N := 13) hx hb hts iw_X11_part_X11 hown hK hP 0 rfl rfl 7 (by decide) (hts (.fieldLink RX11 59 "HolelessHouse" "parts" "LHolelessHouse$Parts;") hm_X11_part_2) (fun _ h9 => h9) rfl dX11_part_76 ?_
              refine va_getN (D := (dC, dI)) (ci := 8) (v := .int y17) (C := RX8) (T := TX8) (N := 5) hx hb hts iw_X11_part_X8 hown hK hP 3 rfl rfl 1 (by decide) (hN.use ns_40) (fun _ h9 => h9) rfl dX11_part_79 ?_
              refine lv_icmp_ge (tgt := 97) hx hb dX11_part_82 (by decide) (fun h26 => ?_) (fun h26 => ?_)
              ·
                have qh26 := le_i h26
                refine lv_bipush (v := (-9)) hx hb dX11_part_97 (by decide) ?_
                rw [hQ]
                exact W.iret (v := (-9)) hx hb hr (fun t ht hW => ⟨⟨(-9), (y17, y18, y19, y20, f21), rfl, ⟨y17_h, (iv_w y19_h (by decide)), (iv_w y20_h (by decide))⟩, by rw [ht]; exact hP, va_K.moved hW.alike hK, hD⟩, hS.F ht⟩) hS.2.2 dX11_part_99
              ·
                have qh26 := nle_i h26
                have j27 : Iv 0 251 a3 := r_ltl qh26 j25 y17_h (by decide)
                have j28 : Iv 1 252 y17 := r_ltr qh26 j25 y17_h (by decide)
                refine lv_aload_n hx hb dX11_part_85 rfl (lv_at hl 0 rfl) ?_
                refine va_get (D := (dC, dI)) (ci := 11) (v := .ref o84) (C := RX11) (T := TX11) (N := 13) hx hb hts iw_X11_part_X11 hown hK hP 0 rfl rfl 7 (by decide) (hts (.fieldLink RX11 59 "HolelessHouse" "parts" "LHolelessHouse$Parts;") hm_X11_part_2) (fun _ h9 => h9) rfl dX11_part_86 ?_
                refine va_getN (D := (dC, dI)) (ci := 8) (v := .ref o85) (C := RX8) (T := TX8) (N := 5) hx hb hts iw_X11_part_X8 hown hK hP 3 rfl rfl 0 (by decide) (hN.use ns_39) (fun _ h9 => h9) rfl dX11_part_89 ?_
                refine lv_iload_n hx hb dX11_part_92 rfl (lv_at hl 3 rfl) ?_
                refine va_iald hx hb hK hP 4 0 rfl rfl (vin_iv j27 (by decide)) dX11_part_93 (lv_topi (fun x29 x29_e => ?_))
                refine lv_goto (tgt := 99) hx hb dX11_part_94 (by decide) ?_
                rw [hQ]
                exact W.iret (v := x29) hx hb hr (fun t ht hW => ⟨⟨x29, (y17, y18, y19, y20, f21), rfl, ⟨(iv_w j28 (by decide)), (iv_w y19_h (by decide)), (iv_w y20_h (by decide))⟩, by rw [ht]; exact hP, va_K.moved hW.alike hK, hD⟩, hS.F ht⟩) hS.2.2 dX11_part_99
          ·
            have j30 : Iv (-1) (-1) a3 := r_eq h22 ikm_1
            refine lv_aload_n hx hb dX11_part_62 rfl (lv_at hl 0 rfl) ?_
            refine va_get (D := (dC, dI)) (ci := 11) (v := .ref o84) (C := RX11) (T := TX11) (N := 13) hx hb hts iw_X11_part_X11 hown hK hP 0 rfl rfl 7 (by decide) (hts (.fieldLink RX11 59 "HolelessHouse" "parts" "LHolelessHouse$Parts;") hm_X11_part_2) (fun _ h9 => h9) rfl dX11_part_63 ?_
            refine va_getN (D := (dC, dI)) (ci := 8) (v := .int y17) (C := RX8) (T := TX8) (N := 5) hx hb hts iw_X11_part_X8 hown hK hP 3 rfl rfl 1 (by decide) (hN.use ns_40) (fun _ h9 => h9) rfl dX11_part_66 ?_
            rw [hQ]
            exact W.iret (v := y17) hx hb hr (fun t ht hW => ⟨⟨y17, (y17, y18, y19, y20, f21), rfl, ⟨y17_h, (iv_w y19_h (by decide)), (iv_w y20_h (by decide))⟩, by rw [ht]; exact hP, va_K.moved hW.alike hK, hD⟩, hS.F ht⟩) hS.2.2 dX11_part_69
        ·
          have j31 : Iv 1 1 x14 := r_nelo h15 x14_h ik_0 (by decide)
          refine lv_bipush (v := (-4)) hx hb dX11_part_41 (by decide) ?_
          rw [hQ]
          exact W.iret (v := (-4)) hx hb hr (fun t ht hW => ⟨⟨(-4), (v87, v88, v89, v90, fw86), rfl, ⟨v87_h, v89_h, v90_h⟩, by rw [ht]; exact hP, va_K.moved hW.alike hK, hD⟩, hS.F ht⟩) hS.2.2 dX11_part_43
      ·
        refine lv_iconst (v := (-1)) hx hb dX11_part_27 (by decide) ?_
        rw [hQ]
        exact W.iret (v := (-1)) hx hb hr (fun t ht hW => ⟨⟨(-1), (v87, v88, v89, v90, fw86), rfl, ⟨v87_h, v89_h, v90_h⟩, by rw [ht]; exact hP, va_K.moved hW.alike hK, hD⟩, hS.F ht⟩) hS.2.2 dX11_part_28
theorem iw_X0_restart_X0 : ∀ w ∈ wsX00, w ∈ wsX0_restart := fun _ h => List.mem_cons.mpr (Or.inr (List.mem_append.mpr (Or.inr h)))
set_option maxHeartbeats 4000000 in
set_option maxRecDepth 100000 in
theorem kX0_restart_1 (l : Launch) (dC : Nat → ClassId) (dI : Nat → Nat → Nat) (cI c2 cZ : ClassId) (o1 : Nat) (o2 : Nat) (o4 : Nat) (o6 : Nat) (v8 : Int32) (v9 : Int32) (v10 : Int32) (v11 : Int32) (v12 : Int32) (a1 : Int32) (sz : Nat) (v8_h : Iv 0 12 v8) (v9_h : Iv 0 12 v9) (v11_h : Iv 0 1 v11) (a1_h : Iv 0 12 a1) : Met l yX0_restart wsX0_restart ({ frames := 0, cells := 0, slots := 0, locals := 0 }) (va_Pc [.ref o1, .int a1] (wPre (dC, dI) [(cI, .int), (c2, .array .int), (cZ, .boolean)] ([(o1, .inr (0, [.ref o2, .ref o4, .ref o6, .int v8, .int v9, .int v10, .int v11, .int v12]))]) sz)) (va_Qv (fun (u : Int32 × Int32) => Iv 0 12 u.1 ∧ Iv 0 12 u.2) (fun u t => wPost (dC, dI) [(cI, .int), (c2, .array .int), (cZ, .boolean)] (va_A ([(o1, .inr (0, [.ref o2, .ref o4, .ref o6, .int v8, .int v9, .int v10, .int v11, .int v12]))]) sz) ([(o1, .inr (0, [.ref o2, .ref o4, .ref o6, .int u.1, .int u.2, .int v10, .int v11, .int v12]))]) t) (va_A ([(o1, .inr (0, [.ref o2, .ref o4, .ref o6, .int v8, .int v9, .int v10, .int v11, .int v12]))]) sz)) 0 0 (va_A ([(o1, .inr (0, [.ref o2, .ref o4, .ref o6, .int v8, .int v9, .int v10, .int v11, .int v12]))]) sz) := by
  refine Met.ofW (cc := cX0_restart) (maxL := 2) (ret := none) (by decide) rfl ?_
  intro p e s m args below meth c s₁ B hml hv
  obtain ⟨rfl, hsz, hP, hK, hD0, hN⟩ := hv
  have hx := B.exec
  have hb := B.bytes
  have hr := B.returns
  have hts := atoms_spec (ws := wsX0_restart) B.pre
  have hown : s.vm.findClass RX0 = some m.cls := findClass_of_methodNamed B.named
  have hlocks := B.notSynchronized
  subst hsz
  have hD := hD0.self (sz := s.heap.size)
  generalize hAe : va_A ([(o1, .inr (0, [.ref o2, .ref o4, .ref o6, .int v8, .int v9, .int v10, .int v11, .int v12]))]) s.heap.size = A at hD ⊢
  have hA : ∀ q : Nat, s.heap.size ≤ q → A q := fun q h => by rw [← hAe]; exact Or.inr h
  have hS : va_S A s.heap s.heap [] := va_S.rf
  have hP : va_P (dC, dI) vwCl ([(o1, .inr (0, [.ref o2, .ref o4, .ref o6, .int v8, .int v9, .int v10, .int v11, .int v12]))]) s.heap := hP
  have hl := lv_entry ([.ref o1, .int a1]) (n := 2) (Nat.le_of_ble_eq_true rfl)
  rw [lg_entry_eq]
  generalize (lg_sl ([.ref o1, .int a1]) ++ List.replicate (2 - (lg_sl ([.ref o1, .int a1])).length) Slot.unset).toArray = ls at hl ⊢
  have hl : lv_has ls 2 [(0, .ref o1), (1, .int a1)] := hl
  refine gen_Q (fun Q hQ => ?_)
  refine lv_aload_n hx hb dX0_restart_0 rfl (lv_at hl 0 rfl) ?_
  refine lv_iload_n hx hb dX0_restart_1 rfl (lv_at hl 1 rfl) ?_
  refine va_put (D := (dC, dI)) (ci := 0) (v := .int a1) (ty := .int) (C := RX0) (T := TX0) (N := 8) hx hb hts iw_X0_restart_X0 tyX0 tyX0_ok nmX0 hown hK hP hD hS 0 rfl rfl 4 (by decide) (hts (.fieldLink RX0 25 "HolelessHouse$Benches" "width" "I") hm_X0_restart_1) (fun _ h9 => h9) rfl (by decide +kernel) rfl rfl (Nat.le_of_ble_eq_true rfl) dX0_restart_2 (fun H locs hP hD hS => ?_)
  have hP : va_P (dC, dI) vwCl ([(o1, .inr (0, [.ref o2, .ref o4, .ref o6, .int v8, .int a1, .int v10, .int v11, .int v12]))]) H := hP
  have hD : va_D A ([(o1, .inr (0, [.ref o2, .ref o4, .ref o6, .int v8, .int a1, .int v10, .int v11, .int v12]))]) := hD
  refine lv_aload_n hx hb dX0_restart_5 rfl (lv_at hl 0 rfl) ?_
  refine lv_iconst (v := 0) hx hb dX0_restart_6 (by decide) ?_
  refine va_put (D := (dC, dI)) (ci := 0) (v := .int 0) (ty := .int) (C := RX0) (T := TX0) (N := 8) hx hb hts iw_X0_restart_X0 tyX0 tyX0_ok nmX0 hown hK hP hD hS 0 rfl rfl 3 (by decide) (hts (.fieldLink RX0 21 "HolelessHouse$Benches" "rowCount" "I") hm_X0_restart_2) (fun _ h9 => h9) rfl (by decide +kernel) rfl rfl (Nat.le_of_ble_eq_true rfl) dX0_restart_7 (fun H locs hP hD hS => ?_)
  have hP : va_P (dC, dI) vwCl ([(o1, .inr (0, [.ref o2, .ref o4, .ref o6, .int 0, .int a1, .int v10, .int v11, .int v12]))]) H := hP
  have hD : va_D A ([(o1, .inr (0, [.ref o2, .ref o4, .ref o6, .int 0, .int a1, .int v10, .int v11, .int v12]))]) := hD
  rw [hQ]
  exact W.vret hx hb hr (fun t ht hW => ⟨⟨(0, a1), rfl, ⟨(iv_w ik_0 (by decide)), a1_h⟩, by rw [ht]; exact hP, va_K.moved hW.alike hK, hD⟩, hS.F ht⟩) hS.2.2 dX0_restart_10
theorem iw_X1_with_X1 : ∀ w ∈ wsX10, w ∈ wsX1_with := fun _ h => List.mem_cons.mpr (Or.inr (List.mem_append.mpr (Or.inr h)))
set_option maxHeartbeats 4000000 in
set_option maxRecDepth 100000 in
theorem kX1_with_1 (l : Launch) (dC : Nat → ClassId) (dI : Nat → Nat → Nat) (cI c2 cZ : ClassId) (o1 : Nat) (o3 : Nat) (o5 : Nat) (o7 : Nat) (o9 : Nat) (v2 : Int32) (fw6 : Nat → Int32) (v11 : Int32) (v12 : Int32) (v13 : Int32) (a1 : Int32) (sz : Nat) (v2_h : Iv 0 1 v2) (v11_h : Iv 0 81 v11) (a1_h : Iv 0 11 a1) : Met l yX1_with wsX1_with ({ frames := 1, cells := 0, slots := 0, locals := 21 }) (va_Pc [.ref o1, .int a1] (wPre (dC, dI) [(cI, .int), (c2, .array .int), (cZ, .boolean)] ([(o1, .inr (1, [.int v2, .ref o3, .ref o5, .ref o7, .ref o9, .int v11, .int v12, .int v13])), (o5, .inl (cI, 81, .inl fw6))]) sz)) (va_Qi (fun (r : Int32) (_ : Unit) => Iv 0 4095 r) (fun _ t => wPost (dC, dI) [(cI, .int), (c2, .array .int), (cZ, .boolean)] (va_A ([(o1, .inr (1, [.int v2, .ref o3, .ref o5, .ref o7, .ref o9, .int v11, .int v12, .int v13])), (o5, .inl (cI, 81, .inl fw6))]) sz) ([(o1, .inr (1, [.int v2, .ref o3, .ref o5, .ref o7, .ref o9, .int v11, .int v12, .int v13])), (o5, .inl (cI, 81, .inl fw6))]) t) (va_A ([(o1, .inr (1, [.int v2, .ref o3, .ref o5, .ref o7, .ref o9, .int v11, .int v12, .int v13])), (o5, .inl (cI, 81, .inl fw6))]) sz)) 0 0 (va_A ([(o1, .inr (1, [.int v2, .ref o3, .ref o5, .ref o7, .ref o9, .int v11, .int v12, .int v13])), (o5, .inl (cI, 81, .inl fw6))]) sz) := by
  refine Met.ofW (cc := cX1_with) (maxL := 4) (ret := (some .int)) (by decide) rfl ?_
  intro p e s m args below meth c s₁ B hml hv
  obtain ⟨rfl, hsz, hP, hK, hD0, hN⟩ := hv
  have hx := B.exec
  have hb := B.bytes
  have hr := B.returns
  have hts := atoms_spec (ws := wsX1_with) B.pre
  have hown : s.vm.findClass RX1 = some m.cls := findClass_of_methodNamed B.named
  have hlocks := B.notSynchronized
  subst hsz
  have hD := hD0.self (sz := s.heap.size)
  generalize hAe : va_A ([(o1, .inr (1, [.int v2, .ref o3, .ref o5, .ref o7, .ref o9, .int v11, .int v12, .int v13])), (o5, .inl (cI, 81, .inl fw6))]) s.heap.size = A at hD ⊢
  have hA : ∀ q : Nat, s.heap.size ≤ q → A q := fun q h => by rw [← hAe]; exact Or.inr h
  have hS : va_S A s.heap s.heap [] := va_S.rf
  have hP : va_P (dC, dI) vwCl ([(o1, .inr (1, [.int v2, .ref o3, .ref o5, .ref o7, .ref o9, .int v11, .int v12, .int v13])), (o5, .inl (cI, 81, .inl fw6))]) s.heap := hP
  have hl := lv_entry ([.ref o1, .int a1]) (n := 4) (Nat.le_of_ble_eq_true rfl)
  rw [lg_entry_eq]
  generalize (lg_sl ([.ref o1, .int a1]) ++ List.replicate (4 - (lg_sl ([.ref o1, .int a1])).length) Slot.unset).toArray = ls at hl ⊢
  have hl : lv_has ls 4 [(0, .ref o1), (1, .int a1)] := hl
  refine gen_Q (fun Q hQ => ?_)
  refine lv_iconst (v := 0) hx hb dX1_with_0 (by decide) ?_
  refine lv_istore_n (lv' := [(2, .int 0), (0, .ref o1), (1, .int a1)]) hx hb dX1_with_1 rfl hl (by decide) rfl (fun ls hl => ?_)
  refine lv_iconst (v := 0) hx hb dX1_with_2 (by decide) ?_
  refine lv_istore_n (lv' := [(3, .int 0), (2, .int 0), (0, .ref o1), (1, .int a1)]) hx hb dX1_with_3 rfl hl (by decide) rfl (fun ls hl => ?_)
  have L1 : ∀ (N : Nat) (x110 : Int32) (x111 : Int32) (H : Heap) (locs : List Loc) (ls : Array Slot), (12 - x110.toInt).toNat < N → Iv 0 12 x110 → Iv 0 4095 x111 → va_P (dC, dI) vwCl ([(o1, .inr (1, [.int v2, .ref o3, .ref o5, .ref o7, .ref o9, .int v11, .int v12, .int v13])), (o5, .inl (cI, 81, .inl fw6))]) H → va_D A ([(o1, .inr (1, [.int v2, .ref o3, .ref o5, .ref o7, .ref o9, .int v11, .int v12, .int v13])), (o5, .inl (cI, 81, .inl fw6))]) → va_S A s.heap H locs → lv_has ls 4 [(3, .int x110), (2, .int x111), (0, .ref o1), (1, .int a1)] → W p l e ({ frames := 1, cells := 0, slots := 0, locals := 21 }) s m ([.ref o1, .int a1] : List Value).toArray below meth c H locs 0 0 Q (F0 m 4 ls []) := by
    intro N
    induction N with
    | zero =>
      intro x110 x111 H locs ls hM
      exact absurd hM (Nat.not_lt_zero _)
    | succ N ih1 =>
      intro x110 x111 H locs ls hM1 x110_h x111_h hP hD hS hl
      refine lv_iload_n hx hb dX1_with_4 rfl (lv_at hl 0 rfl) ?_
      refine lv_aload_n hx hb dX1_with_5 rfl (lv_at hl 2 rfl) ?_
      refine va_get (D := (dC, dI)) (ci := 1) (v := .int v11) (C := RX1) (T := TX1) (N := 8) hx hb hts iw_X1_with_X1 hown hK hP 0 rfl rfl 5 (by decide) (hts (.fieldLink RX1 24 "HolelessHouse$Cliques" "size" "I") hm_X1_with_1) (fun _ h9 => h9) rfl dX1_with_6 ?_
      refine lv_icmp_ge (tgt := 43) hx hb dX1_with_9 (by decide) (fun h112 => ?_) (fun h112 => ?_)
      ·
        have qh112 := le_i h112
        have j113 : Iv 0 12 v11 := r_lel qh112 v11_h x110_h (by decide)
        refine lv_iload_n hx hb dX1_with_43 rfl (lv_at hl 1 rfl) ?_
        rw [hQ]
        exact W.iret (v := x111) hx hb hr (fun t ht hW => ⟨⟨x111, (), rfl, x111_h, by rw [ht]; exact hP, va_K.moved hW.alike hK, hD⟩, hS.F ht⟩) hS.2.2 dX1_with_44
      ·
        have qh112 := nle_i h112
        have j114 : Iv 1 81 v11 := r_ltr qh112 x110_h v11_h (by decide)
        refine lv_iload_n hx hb dX1_with_12 rfl (lv_at hl 0 rfl) ?_
        refine lv_bipush (v := 12) hx hb dX1_with_13 (by decide) ?_
        refine lv_icmp_ge (tgt := 43) hx hb dX1_with_15 (by decide) (fun h115 => ?_) (fun h115 => ?_)
        ·
          have qh115 := le_i h115
          have j116 : Iv 12 12 x110 := r_ler qh115 ik_12 x110_h (by decide)
          refine lv_iload_n hx hb dX1_with_43 rfl (lv_at hl 1 rfl) ?_
          rw [hQ]
          exact W.iret (v := x111) hx hb hr (fun t ht hW => ⟨⟨x111, (), rfl, x111_h, by rw [ht]; exact hP, va_K.moved hW.alike hK, hD⟩, hS.F ht⟩) hS.2.2 dX1_with_44
        ·
          have qh115 := nle_i h115
          have j117 : Iv 0 11 x110 := r_ltl qh115 x110_h ik_12 (by decide)
          refine lv_aload_n hx hb dX1_with_18 rfl (lv_at hl 2 rfl) ?_
          refine va_get (D := (dC, dI)) (ci := 1) (v := .ref o5) (C := RX1) (T := TX1) (N := 8) hx hb hts iw_X1_with_X1 hown hK hP 0 rfl rfl 2 (by decide) (hts (.fieldLink RX1 15 "HolelessHouse$Cliques" "sets" "[I") hm_X1_with_2) (fun _ h9 => h9) rfl dX1_with_19 ?_
          refine lv_iload_n hx hb dX1_with_22 rfl (lv_at hl 0 rfl) ?_
          refine va_iald hx hb hK hP 1 0 rfl rfl (vin_iv j117 (by decide)) dX1_with_23 (lv_topi (fun x118 x118_e => ?_))
          refine lv_iload_n hx hb dX1_with_24 rfl (lv_at hl 3 rfl) ?_
          refine kc_i (D := (dC, dI)) (S := Unit) (wc := []) (wr := [(o1, .inr (1, [.int v2, .ref o3, .ref o5, .ref o7, .ref o9, .int v11, .int v12, .int v13])), (o5, .inl (cI, 81, .inl fw6))]) (w1 := fun _ => []) (wn := fun _ => [(o1, .inr (1, [.int v2, .ref o3, .ref o5, .ref o7, .ref o9, .int v11, .int v12, .int v13])), (o5, .inl (cI, 81, .inl fw6))]) (fun hPc hDc => va_runSN (As := [.int x118, .int a1]) (rest := []) ⟨hx, hb, hml, hown, hts⟩ (kX11_in_1 l dC dI cI c2 cZ x118 a1 H.size) ⟨va_cnB 2 hts gX1_with_X11_in_n67 rfl rfl rfl (hN.1 _ ns_107) (hts (.initialized RX11) hm_X1_with_4) (by decide +kernel) ⟨Nat.le_of_ble_eq_true rfl, Nat.le_of_ble_eq_true rfl⟩, (hts (.static yX11_in) hm_X1_with_3), trivial⟩ (pre_S hPc hK hDc hN) rfl rfl hl.1 rfl (lv_room (Nat.le_of_ble_eq_true rfl)) dX1_with_25 ⟨Nat.le_of_ble_eq_true rfl, Nat.le_of_ble_eq_true rfl⟩) hP hD hS hA [] [0, 1] [0, 1] rfl rfl (by decide +kernel) (by decide +kernel) (by decide +kernel) (by decide +kernel) (fun _ => rfl) (fun x119 _ H locs hq hP hD hS => ?_)
          have x119_h := hq
          have hP : va_P (dC, dI) vwCl ([(o1, .inr (1, [.int v2, .ref o3, .ref o5, .ref o7, .ref o9, .int v11, .int v12, .int v13])), (o5, .inl (cI, 81, .inl fw6))]) H := hP
          have hD : va_D A ([(o1, .inr (1, [.int v2, .ref o3, .ref o5, .ref o7, .ref o9, .int v11, .int v12, .int v13])), (o5, .inl (cI, 81, .inl fw6))]) := hD
          refine lv_if_eq (tgt := 37) hx hb dX1_with_28 (by decide) (fun h120 => ?_) (fun h120 => ?_)
          ·
            have j121 : Iv 0 0 x119 := r_eq h120 ik_0
            obtain ⟨x122, x122_e⟩ : ∃ z : Int32, z = x110 + 1 := ⟨_, rfl⟩
            have x122_h : Iv 1 12 x122 := iv_e x122_e (iv_add j117 ik_1 (by decide))
            refine lv_iinc (v := x122) (lv' := [(3, .int x122), (2, .int x111), (0, .ref o1), (1, .int a1)]) hx hb dX1_with_37 hl (k := 0) rfl (incN (by decide +kernel) x122_e) (by decide) rfl (fun ls hl => ?_)
            refine lv_goto (tgt := 4) hx hb dX1_with_40 (by decide) ?_
            exact ih1 x122 x111 _ _ _ (ms_up x122_e j117 (by decide) hM1) (iv_w x122_h (by decide)) x111_h hP hD hS hl
          ·
            have j123 : Iv 1 1 x119 := r_nelo h120 x119_h ik_0 (by decide)
            refine lv_iload_n hx hb dX1_with_31 rfl (lv_at hl 1 rfl) ?_
            refine lv_iconst (v := 1) hx hb dX1_with_32 (by decide) ?_
            refine lv_iload_n hx hb dX1_with_33 rfl (lv_at hl 0 rfl) ?_
            refine lv_ishl hx hb dX1_with_34 (lv_topi (fun x124 x124_e => ?_))
            have x124_h : Iv 1 2048 x124 := iv_e x124_e (iv_shl1 j117 (by decide))
            refine lv_ior hx hb dX1_with_35 (lv_topi (fun x125 x125_e => ?_))
            have x125_h : Iv 0 4095 x125 := iv_e x125_e (iv_or 12 x111_h x124_h (by decide))
            refine lv_istore_n (lv' := [(2, .int x125), (3, .int x110), (0, .ref o1), (1, .int a1)]) hx hb dX1_with_36 rfl hl (by decide) rfl (fun ls hl => ?_)
            obtain ⟨x126, x126_e⟩ : ∃ z : Int32, z = x110 + 1 := ⟨_, rfl⟩
            have x126_h : Iv 1 12 x126 := iv_e x126_e (iv_add j117 ik_1 (by decide))
            refine lv_iinc (v := x126) (lv' := [(3, .int x126), (2, .int x125), (0, .ref o1), (1, .int a1)]) hx hb dX1_with_37 hl (k := 1) rfl (incN (by decide +kernel) x126_e) (by decide) rfl (fun ls hl => ?_)
            refine lv_goto (tgt := 4) hx hb dX1_with_40 (by decide) ?_
            exact ih1 x126 x125 _ _ _ (ms_up x126_e j117 (by decide) hM1) (iv_w x126_h (by decide)) x125_h hP hD hS hl
  exact L1 _ 0 0 _ _ _ (Nat.lt_succ_self _) (iv_w ik_0 (by decide)) (iv_w ik_0 (by decide)) hP hD hS hl
theorem iw_X0_addRow_X0 : ∀ w ∈ wsX00, w ∈ wsX0_addRow := fun _ h => List.mem_cons.mpr (Or.inr (List.mem_append.mpr (Or.inr h)))
set_option maxHeartbeats 4000000 in
set_option maxRecDepth 100000 in
theorem kX0_addRow_1 (l : Launch) (dC : Nat → ClassId) (dI : Nat → Nat → Nat) (cI c2 cZ : ClassId) (o1 : Nat) (o2 : Nat) (o4 : Nat) (o6 : Nat) (fw5 : Nat → Int32) (v8 : Int32) (v9 : Int32) (v10 : Int32) (v11 : Int32) (v12 : Int32) (a1 : Int32) (sz : Nat) (v8_h : Iv 0 12 v8) (v9_h : Iv 0 12 v9) (v11_h : Iv 0 1 v11) : Met l yX0_addRow wsX0_addRow ({ frames := 0, cells := 0, slots := 0, locals := 0 }) (va_Pc [.ref o1, .int a1] (wPre (dC, dI) [(cI, .int), (c2, .array .int), (cZ, .boolean)] ([(o1, .inr (0, [.ref o2, .ref o4, .ref o6, .int v8, .int v9, .int v10, .int v11, .int v12])), (o4, .inl (cI, 12, .inl fw5))]) sz)) (va_Qv (fun (u : Int32 × (Nat → Int32)) => Iv 0 12 u.1) (fun u t => wPost (dC, dI) [(cI, .int), (c2, .array .int), (cZ, .boolean)] (va_A ([(o1, .inr (0, [.ref o2, .ref o4, .ref o6, .int v8, .int v9, .int v10, .int v11, .int v12])), (o4, .inl (cI, 12, .inl fw5))]) sz) ([(o1, .inr (0, [.ref o2, .ref o4, .ref o6, .int u.1, .int v9, .int v10, .int v11, .int v12])), (o4, .inl (cI, 12, .inl u.2))]) t) (va_A ([(o1, .inr (0, [.ref o2, .ref o4, .ref o6, .int v8, .int v9, .int v10, .int v11, .int v12])), (o4, .inl (cI, 12, .inl fw5))]) sz)) 0 0 (va_A ([(o1, .inr (0, [.ref o2, .ref o4, .ref o6, .int v8, .int v9, .int v10, .int v11, .int v12])), (o4, .inl (cI, 12, .inl fw5))]) sz) := by
  refine Met.ofW (cc := cX0_addRow) (maxL := 2) (ret := none) (by decide) rfl ?_
  intro p e s m args below meth c s₁ B hml hv
  obtain ⟨rfl, hsz, hP, hK, hD0, hN⟩ := hv
  have hx := B.exec
  have hb := B.bytes
  have hr := B.returns
  have hts := atoms_spec (ws := wsX0_addRow) B.pre
  have hown : s.vm.findClass RX0 = some m.cls := findClass_of_methodNamed B.named
  have hlocks := B.notSynchronized
  subst hsz
  have hD := hD0.self (sz := s.heap.size)
  generalize hAe : va_A ([(o1, .inr (0, [.ref o2, .ref o4, .ref o6, .int v8, .int v9, .int v10, .int v11, .int v12])), (o4, .inl (cI, 12, .inl fw5))]) s.heap.size = A at hD ⊢
  have hA : ∀ q : Nat, s.heap.size ≤ q → A q := fun q h => by rw [← hAe]; exact Or.inr h
  have hS : va_S A s.heap s.heap [] := va_S.rf
  have hP : va_P (dC, dI) vwCl ([(o1, .inr (0, [.ref o2, .ref o4, .ref o6, .int v8, .int v9, .int v10, .int v11, .int v12])), (o4, .inl (cI, 12, .inl fw5))]) s.heap := hP
  have hl := lv_entry ([.ref o1, .int a1]) (n := 2) (Nat.le_of_ble_eq_true rfl)
  rw [lg_entry_eq]
  generalize (lg_sl ([.ref o1, .int a1]) ++ List.replicate (2 - (lg_sl ([.ref o1, .int a1])).length) Slot.unset).toArray = ls at hl ⊢
  have hl : lv_has ls 2 [(0, .ref o1), (1, .int a1)] := hl
  refine gen_Q (fun Q hQ => ?_)
  refine lv_aload_n hx hb dX0_addRow_0 rfl (lv_at hl 0 rfl) ?_
  refine va_get (D := (dC, dI)) (ci := 0) (v := .int v8) (C := RX0) (T := TX0) (N := 8) hx hb hts iw_X0_addRow_X0 hown hK hP 0 rfl rfl 3 (by decide) (hts (.fieldLink RX0 21 "HolelessHouse$Benches" "rowCount" "I") hm_X0_addRow_1) (fun _ h9 => h9) rfl dX0_addRow_1 ?_
  refine lv_aload_n hx hb dX0_addRow_4 rfl (lv_at hl 0 rfl) ?_
  refine va_get (D := (dC, dI)) (ci := 0) (v := .ref o4) (C := RX0) (T := TX0) (N := 8) hx hb hts iw_X0_addRow_X0 hown hK hP 0 rfl rfl 1 (by decide) (hts (.fieldLink RX0 15 "HolelessHouse$Benches" "rows" "[I") hm_X0_addRow_2) (fun _ h9 => h9) rfl dX0_addRow_5 ?_
  refine va_alen (v := 12) hx hb hK hP 1 0 rfl rfl (by show Int32.ofNat 12 = 12; decide +kernel) dX0_addRow_8 ?_
  refine lv_icmp_ge (tgt := 32) hx hb dX0_addRow_9 (by decide) (fun h1 => ?_) (fun h1 => ?_)
  ·
    have qh1 := le_i h1
    have j2 : Iv 12 12 v8 := r_ler qh1 ik_12 v8_h (by decide)
    rw [hQ]
    exact W.vret hx hb hr (fun t ht hW => ⟨⟨(v8, fw5), rfl, (iv_w j2 (by decide)), by rw [ht]; exact hP, va_K.moved hW.alike hK, hD⟩, hS.F ht⟩) hS.2.2 dX0_addRow_32
  ·
    have qh1 := nle_i h1
    have j3 : Iv 0 11 v8 := r_ltl qh1 v8_h ik_12 (by decide)
    refine lv_aload_n hx hb dX0_addRow_12 rfl (lv_at hl 0 rfl) ?_
    refine va_get (D := (dC, dI)) (ci := 0) (v := .ref o4) (C := RX0) (T := TX0) (N := 8) hx hb hts iw_X0_addRow_X0 hown hK hP 0 rfl rfl 1 (by decide) (hts (.fieldLink RX0 15 "HolelessHouse$Benches" "rows" "[I") hm_X0_addRow_2) (fun _ h9 => h9) rfl dX0_addRow_13 ?_
    refine lv_aload_n hx hb dX0_addRow_16 rfl (lv_at hl 0 rfl) ?_
    refine va_get (D := (dC, dI)) (ci := 0) (v := .int v8) (C := RX0) (T := TX0) (N := 8) hx hb hts iw_X0_addRow_X0 hown hK hP 0 rfl rfl 3 (by decide) (hts (.fieldLink RX0 21 "HolelessHouse$Benches" "rowCount" "I") hm_X0_addRow_1) (fun _ h9 => h9) rfl dX0_addRow_17 ?_
    refine lv_iload_n hx hb dX0_addRow_20 rfl (lv_at hl 1 rfl) ?_
    refine k_iast hx hb hK hP hD hS 1 0 rfl rfl (vin_iv j3 (by decide)) dX0_addRow_21 (fun f4 H locs f4_e hP hD hS => ?_)
    have hP : va_P (dC, dI) vwCl ([(o1, .inr (0, [.ref o2, .ref o4, .ref o6, .int v8, .int v9, .int v10, .int v11, .int v12])), (o4, .inl (cI, 12, .inl f4))]) H := hP
    have hD : va_D A ([(o1, .inr (0, [.ref o2, .ref o4, .ref o6, .int v8, .int v9, .int v10, .int v11, .int v12])), (o4, .inl (cI, 12, .inl f4))]) := hD
    refine lv_aload_n hx hb dX0_addRow_22 rfl (lv_at hl 0 rfl) ?_
    refine lv_dup hx hb dX0_addRow_23 rfl ?_
    refine va_get (D := (dC, dI)) (ci := 0) (v := .int v8) (C := RX0) (T := TX0) (N := 8) hx hb hts iw_X0_addRow_X0 hown hK hP 0 rfl rfl 3 (by decide) (hts (.fieldLink RX0 21 "HolelessHouse$Benches" "rowCount" "I") hm_X0_addRow_1) (fun _ h9 => h9) rfl dX0_addRow_24 ?_
    refine lv_iconst (v := 1) hx hb dX0_addRow_27 (by decide) ?_
    refine lv_iadd hx hb dX0_addRow_28 (lv_topi (fun x5 x5_e => ?_))
    have x5_h : Iv 1 12 x5 := iv_e x5_e (iv_add j3 ik_1 (by decide))
    refine va_put (D := (dC, dI)) (ci := 0) (v := .int x5) (ty := .int) (C := RX0) (T := TX0) (N := 8) hx hb hts iw_X0_addRow_X0 tyX0 tyX0_ok nmX0 hown hK hP hD hS 0 rfl rfl 3 (by decide) (hts (.fieldLink RX0 21 "HolelessHouse$Benches" "rowCount" "I") hm_X0_addRow_1) (fun _ h9 => h9) rfl (by decide +kernel) rfl rfl (Nat.le_of_ble_eq_true rfl) dX0_addRow_29 (fun H locs hP hD hS => ?_)
    have hP : va_P (dC, dI) vwCl ([(o1, .inr (0, [.ref o2, .ref o4, .ref o6, .int x5, .int v9, .int v10, .int v11, .int v12])), (o4, .inl (cI, 12, .inl f4))]) H := hP
    have hD : va_D A ([(o1, .inr (0, [.ref o2, .ref o4, .ref o6, .int x5, .int v9, .int v10, .int v11, .int v12])), (o4, .inl (cI, 12, .inl f4))]) := hD
    rw [hQ]
    exact W.vret hx hb hr (fun t ht hW => ⟨⟨(x5, f4), rfl, (iv_w x5_h (by decide)), by rw [ht]; exact hP, va_K.moved hW.alike hK, hD⟩, hS.F ht⟩) hS.2.2 dX0_addRow_32
set_option maxHeartbeats 4000000 in
set_option maxRecDepth 100000 in
theorem kJ7_fill_fda19_2 (l : Launch) (dC : Nat → ClassId) (dI : Nat → Nat → Nat) (cI c2 cZ : ClassId) (o1 : Nat) (fw2 : Nat → Int32) (a1 : Int32) (a2 : Int32) (a3 : Int32) (sz : Nat) (a1_h : Iv 0 0 a1) (a2_h : Iv 1 4096 a2) (a3_h : Iv 0 0 a3) : Met l yJ7_fill_fda19 wsJ7_fill_fda19 ({ frames := 1, cells := 0, slots := 0, locals := 22 }) (va_Pc [.ref o1, .int a1, .int a2, .int a3] (wPre (dC, dI) [(cI, .int), (c2, .array .int), (cZ, .boolean)] ([(o1, .inl (cI, 4096, .inl fw2))]) sz)) (va_Qv (fun (u : (Nat → Int32)) => True) (fun u t => wPost (dC, dI) [(cI, .int), (c2, .array .int), (cZ, .boolean)] (va_A ([(o1, .inl (cI, 4096, .inl fw2))]) sz) ([(o1, .inl (cI, 4096, .inl u))]) t) (va_A ([(o1, .inl (cI, 4096, .inl fw2))]) sz)) 0 0 (va_A ([(o1, .inl (cI, 4096, .inl fw2))]) sz) := by
  refine Met.ofW (cc := cJ7_fill_fda19) (maxL := 5) (ret := none) (by decide) rfl ?_
  intro p e s m args below meth c s₁ B hml hv
  obtain ⟨rfl, hsz, hP, hK, hD0, hN⟩ := hv
  have hx := B.exec
  have hb := B.bytes
  have hr := B.returns
  have hts := atoms_spec (ws := wsJ7_fill_fda19) B.pre
  have hown : s.vm.findClass RJ7 = some m.cls := findClass_of_methodNamed B.named
  have hlocks := B.notSynchronized
  subst hsz
  have hD := hD0.self (sz := s.heap.size)
  generalize hAe : va_A ([(o1, .inl (cI, 4096, .inl fw2))]) s.heap.size = A at hD ⊢
  have hA : ∀ q : Nat, s.heap.size ≤ q → A q := fun q h => by rw [← hAe]; exact Or.inr h
  have hS : va_S A s.heap s.heap [] := va_S.rf
  have hP : va_P (dC, dI) vwCl ([(o1, .inl (cI, 4096, .inl fw2))]) s.heap := hP
  have hl := lv_entry ([.ref o1, .int a1, .int a2, .int a3]) (n := 5) (Nat.le_of_ble_eq_true rfl)
  rw [lg_entry_eq]
  generalize (lg_sl ([.ref o1, .int a1, .int a2, .int a3]) ++ List.replicate (5 - (lg_sl ([.ref o1, .int a1, .int a2, .int a3])).length) Slot.unset).toArray = ls at hl ⊢
  have hl : lv_has ls 5 [(0, .ref o1), (1, .int a1), (2, .int a2), (3, .int a3)] := hl
  refine gen_Q (fun Q hQ => ?_)
  refine lv_aload_n hx hb dJ7_fill_fda19_0 rfl (lv_at hl 0 rfl) ?_
  refine va_alen (v := 4096) hx hb hK hP 0 0 rfl rfl (by show Int32.ofNat 4096 = 4096; decide +kernel) dJ7_fill_fda19_1 ?_
  refine lv_iload_n hx hb dJ7_fill_fda19_2 rfl (lv_at hl 1 rfl) ?_
  refine lv_iload_n hx hb dJ7_fill_fda19_3 rfl (lv_at hl 2 rfl) ?_
  refine kc_v (D := (dC, dI)) (S := Unit) (wc := []) (wr := [(o1, .inl (cI, 4096, .inl fw2))]) (w1 := fun _ => []) (wn := fun _ => [(o1, .inl (cI, 4096, .inl fw2))]) (fun hPc hDc => va_runS (As := [.int 4096, .int a1, .int a2]) (rest := []) ⟨hx, hb, hml, hown, hts⟩ (kJ7_rangeCheck_23922_1 l dC dI cI c2 cZ 4096 a1 a2 s.heap.size ik_4096 a1_h a2_h) (va_cwS 3 hts gJ7_fill_fda19_J7_rangeCheck_23922 rfl rfl rfl (by decide +kernel) ⟨Nat.le_of_ble_eq_true rfl, Nat.le_of_ble_eq_true rfl⟩) (pre_S hPc hK hDc hN) rfl rfl hl.1 rfl (lv_room (Nat.le_of_ble_eq_true rfl)) dJ7_fill_fda19_4 ⟨Nat.le_of_ble_eq_true rfl, Nat.le_of_ble_eq_true rfl⟩) hP hD hS hA [] [0] [0] rfl rfl (by decide +kernel) (by decide +kernel) (by decide +kernel) (by decide +kernel) (fun _ => rfl) (fun _ H locs hq hP hD hS => ?_)
  have hP : va_P (dC, dI) vwCl ([(o1, .inl (cI, 4096, .inl fw2))]) H := hP
  have hD : va_D A ([(o1, .inl (cI, 4096, .inl fw2))]) := hD
  refine lv_iload_n hx hb dJ7_fill_fda19_7 rfl (lv_at hl 1 rfl) ?_
  refine lv_istore (lv' := [(4, .int a1), (0, .ref o1), (1, .int a1), (2, .int a2), (3, .int a3)]) hx hb dJ7_fill_fda19_8 hl (by decide) rfl (fun ls hl => ?_)
  have L1 : ∀ (N : Nat) (x150 : Int32) (f151 : Nat → Int32) (H : Heap) (locs : List Loc) (ls : Array Slot), (4096 - x150.toInt).toNat < N → Iv 0 4096 x150 → va_P (dC, dI) vwCl ([(o1, .inl (cI, 4096, .inl f151))]) H → va_D A ([(o1, .inl (cI, 4096, .inl f151))]) → va_S A s.heap H locs → lv_has ls 5 [(4, .int x150), (0, .ref o1), (1, .int a1), (2, .int a2), (3, .int a3)] → W p l e ({ frames := 1, cells := 0, slots := 0, locals := 22 }) s m ([.ref o1, .int a1, .int a2, .int a3] : List Value).toArray below meth c H locs 0 0 Q (F0 m 10 ls []) := by
    intro N
    induction N with
    | zero =>
      intro x150 f151 H locs ls hM
      exact absurd hM (Nat.not_lt_zero _)
    | succ N ih1 =>
      intro x150 f151 H locs ls hM1 x150_h hP hD hS hl
      refine lv_iload hx hb dJ7_fill_fda19_10 (lv_at hl 0 rfl) ?_
      refine lv_iload_n hx hb dJ7_fill_fda19_12 rfl (lv_at hl 3 rfl) ?_
      refine lv_icmp_ge (tgt := 27) hx hb dJ7_fill_fda19_13 (by decide) (fun h152 => ?_) (fun h152 => ?_)
      ·
        have qh152 := le_i h152
        have j153 : Iv 1 4096 x150 := r_ler qh152 a2_h x150_h (by decide)
        rw [hQ]
        exact W.vret hx hb hr (fun t ht hW => ⟨⟨f151, rfl, trivial, by rw [ht]; exact hP, va_K.moved hW.alike hK, hD⟩, hS.F ht⟩) hS.2.2 dJ7_fill_fda19_27
      ·
        have qh152 := nle_i h152
        have j154 : Iv 0 4095 x150 := r_ltl qh152 x150_h a2_h (by decide)
        refine lv_aload_n hx hb dJ7_fill_fda19_16 rfl (lv_at hl 1 rfl) ?_
        refine lv_iload hx hb dJ7_fill_fda19_17 (lv_at hl 0 rfl) ?_
        refine lv_iload_n hx hb dJ7_fill_fda19_19 rfl (lv_at hl 4 rfl) ?_
        refine k_iast hx hb hK hP hD hS 0 0 rfl rfl (vin_iv j154 (by decide)) dJ7_fill_fda19_20 (fun f155 H locs f155_e hP hD hS => ?_)
        have hP : va_P (dC, dI) vwCl ([(o1, .inl (cI, 4096, .inl f155))]) H := hP
        have hD : va_D A ([(o1, .inl (cI, 4096, .inl f155))]) := hD
        obtain ⟨x156, x156_e⟩ : ∃ z : Int32, z = x150 + 1 := ⟨_, rfl⟩
        have x156_h : Iv 1 4096 x156 := iv_e x156_e (iv_add j154 ik_1 (by decide))
        refine lv_iinc (v := x156) (lv' := [(4, .int x156), (0, .ref o1), (1, .int a1), (2, .int a2), (3, .int a3)]) hx hb dJ7_fill_fda19_21 hl (k := 0) rfl (incN (by decide +kernel) x156_e) (by decide) rfl (fun ls hl => ?_)
        refine lv_goto (tgt := 10) hx hb dJ7_fill_fda19_24 (by decide) ?_
        exact ih1 x156 f155 _ _ _ (ms_up x156_e j154 (by decide) hM1) (iv_w x156_h (by decide)) hP hD hS hl
  exact L1 _ a1 fw2 _ _ _ (Nat.lt_succ_self _) (iv_w a1_h (by decide)) hP hD hS hl
theorem iw_X0_mayCome_X0 : ∀ w ∈ wsX00, w ∈ wsX0_mayCome := fun _ h => List.mem_cons.mpr (Or.inr (List.mem_append.mpr (Or.inr h)))
set_option maxHeartbeats 4000000 in
set_option maxRecDepth 100000 in
theorem kX0_mayCome_1 (l : Launch) (dC : Nat → ClassId) (dI : Nat → Nat → Nat) (cI c2 cZ : ClassId) (o1 : Nat) (o2 : Nat) (o4 : Nat) (o6 : Nat) (fw5 : Nat → Int32) (v8 : Int32) (v9 : Int32) (v10 : Int32) (v11 : Int32) (v12 : Int32) (a1 : Int32) (sz : Nat) (v8_h : Iv 0 12 v8) (v9_h : Iv 0 12 v9) (v11_h : Iv 0 1 v11) (a1_h : Iv 0 4095 a1) : Met l yX0_mayCome wsX0_mayCome ({ frames := 0, cells := 0, slots := 0, locals := 0 }) (va_Pc [.ref o1, .int a1] (wPre (dC, dI) [(cI, .int), (c2, .array .int), (cZ, .boolean)] ([(o1, .inr (0, [.ref o2, .ref o4, .ref o6, .int v8, .int v9, .int v10, .int v11, .int v12])), (o4, .inl (cI, 12, .inl fw5))]) sz)) (va_Qi (fun (r : Int32) (_ : Unit) => Iv 0 4095 r) (fun _ t => wPost (dC, dI) [(cI, .int), (c2, .array .int), (cZ, .boolean)] (va_A ([(o1, .inr (0, [.ref o2, .ref o4, .ref o6, .int v8, .int v9, .int v10, .int v11, .int v12])), (o4, .inl (cI, 12, .inl fw5))]) sz) ([(o1, .inr (0, [.ref o2, .ref o4, .ref o6, .int v8, .int v9, .int v10, .int v11, .int v12])), (o4, .inl (cI, 12, .inl fw5))]) t) (va_A ([(o1, .inr (0, [.ref o2, .ref o4, .ref o6, .int v8, .int v9, .int v10, .int v11, .int v12])), (o4, .inl (cI, 12, .inl fw5))]) sz)) 0 0 (va_A ([(o1, .inr (0, [.ref o2, .ref o4, .ref o6, .int v8, .int v9, .int v10, .int v11, .int v12])), (o4, .inl (cI, 12, .inl fw5))]) sz) := by
  refine Met.ofW (cc := cX0_mayCome) (maxL := 4) (ret := (some .int)) (by decide) rfl ?_
  intro p e s m args below meth c s₁ B hml hv
  obtain ⟨rfl, hsz, hP, hK, hD0, hN⟩ := hv
  have hx := B.exec
  have hb := B.bytes
  have hr := B.returns
  have hts := atoms_spec (ws := wsX0_mayCome) B.pre
  have hown : s.vm.findClass RX0 = some m.cls := findClass_of_methodNamed B.named
  have hlocks := B.notSynchronized
  subst hsz
  have hD := hD0.self (sz := s.heap.size)
  generalize hAe : va_A ([(o1, .inr (0, [.ref o2, .ref o4, .ref o6, .int v8, .int v9, .int v10, .int v11, .int v12])), (o4, .inl (cI, 12, .inl fw5))]) s.heap.size = A at hD ⊢
  have hA : ∀ q : Nat, s.heap.size ≤ q → A q := fun q h => by rw [← hAe]; exact Or.inr h
  have hS : va_S A s.heap s.heap [] := va_S.rf
  have hP : va_P (dC, dI) vwCl ([(o1, .inr (0, [.ref o2, .ref o4, .ref o6, .int v8, .int v9, .int v10, .int v11, .int v12])), (o4, .inl (cI, 12, .inl fw5))]) s.heap := hP
  have hl := lv_entry ([.ref o1, .int a1]) (n := 4) (Nat.le_of_ble_eq_true rfl)
  rw [lg_entry_eq]
  generalize (lg_sl ([.ref o1, .int a1]) ++ List.replicate (4 - (lg_sl ([.ref o1, .int a1])).length) Slot.unset).toArray = ls at hl ⊢
  have hl : lv_has ls 4 [(0, .ref o1), (1, .int a1)] := hl
  refine gen_Q (fun Q hQ => ?_)
  refine lv_iconst (v := 1) hx hb dX0_mayCome_0 (by decide) ?_
  refine lv_aload_n hx hb dX0_mayCome_1 rfl (lv_at hl 0 rfl) ?_
  refine va_get (D := (dC, dI)) (ci := 0) (v := .int v9) (C := RX0) (T := TX0) (N := 8) hx hb hts iw_X0_mayCome_X0 hown hK hP 0 rfl rfl 4 (by decide) (hts (.fieldLink RX0 25 "HolelessHouse$Benches" "width" "I") hm_X0_mayCome_1) (fun _ h9 => h9) rfl dX0_mayCome_2 ?_
  refine lv_ishl hx hb dX0_mayCome_5 (lv_topi (fun x1 x1_e => ?_))
  have x1_h : Iv 1 4096 x1 := iv_e x1_e (iv_shl1 v9_h (by decide))
  refine lv_iconst (v := 1) hx hb dX0_mayCome_6 (by decide) ?_
  refine lv_isub hx hb dX0_mayCome_7 (lv_topi (fun x2 x2_e => ?_))
  have x2_h : Iv 0 4095 x2 := iv_e x2_e (iv_sub x1_h ik_1 (by decide))
  refine lv_iload_n hx hb dX0_mayCome_8 rfl (lv_at hl 1 rfl) ?_
  refine lv_iconst (v := (-1)) hx hb dX0_mayCome_9 (by decide) ?_
  refine lv_ixor hx hb dX0_mayCome_10 (lv_topi (fun x3 x3_e => ?_))
  refine lv_iand hx hb dX0_mayCome_11 (lv_topi (fun x4 x4_e => ?_))
  have x4_h : Iv 0 4095 x4 := iv_e x4_e (iv_andL _ x2_h (by decide))
  refine lv_istore_n (lv' := [(2, .int x4), (0, .ref o1), (1, .int a1)]) hx hb dX0_mayCome_12 rfl hl (by decide) rfl (fun ls hl => ?_)
  refine lv_iconst (v := 0) hx hb dX0_mayCome_13 (by decide) ?_
  refine lv_istore_n (lv' := [(3, .int 0), (2, .int x4), (0, .ref o1), (1, .int a1)]) hx hb dX0_mayCome_14 rfl hl (by decide) rfl (fun ls hl => ?_)
  have L1 : ∀ (N : Nat) (x160 : Int32) (x161 : Int32) (H : Heap) (locs : List Loc) (ls : Array Slot), (12 - x160.toInt).toNat < N → Iv 0 12 x160 → Iv 0 4095 x161 → va_P (dC, dI) vwCl ([(o1, .inr (0, [.ref o2, .ref o4, .ref o6, .int v8, .int v9, .int v10, .int v11, .int v12])), (o4, .inl (cI, 12, .inl fw5))]) H → va_D A ([(o1, .inr (0, [.ref o2, .ref o4, .ref o6, .int v8, .int v9, .int v10, .int v11, .int v12])), (o4, .inl (cI, 12, .inl fw5))]) → va_S A s.heap H locs → lv_has ls 4 [(3, .int x160), (2, .int x161), (0, .ref o1), (1, .int a1)] → W p l e ({ frames := 0, cells := 0, slots := 0, locals := 0 }) s m ([.ref o1, .int a1] : List Value).toArray below meth c H locs 0 0 Q (F0 m 15 ls []) := by
    intro N
    induction N with
    | zero =>
      intro x160 x161 H locs ls hM
      exact absurd hM (Nat.not_lt_zero _)
    | succ N ih1 =>
      intro x160 x161 H locs ls hM1 x160_h x161_h hP hD hS hl
      refine lv_iload_n hx hb dX0_mayCome_15 rfl (lv_at hl 0 rfl) ?_
      refine lv_aload_n hx hb dX0_mayCome_16 rfl (lv_at hl 2 rfl) ?_
      refine va_get (D := (dC, dI)) (ci := 0) (v := .int v8) (C := RX0) (T := TX0) (N := 8) hx hb hts iw_X0_mayCome_X0 hown hK hP 0 rfl rfl 3 (by decide) (hts (.fieldLink RX0 21 "HolelessHouse$Benches" "rowCount" "I") hm_X0_mayCome_2) (fun _ h9 => h9) rfl dX0_mayCome_17 ?_
      refine lv_icmp_ge (tgt := 62) hx hb dX0_mayCome_20 (by decide) (fun h162 => ?_) (fun h162 => ?_)
      ·
        have qh162 := le_i h162
        refine lv_iload_n hx hb dX0_mayCome_62 rfl (lv_at hl 1 rfl) ?_
        rw [hQ]
        exact W.iret (v := x161) hx hb hr (fun t ht hW => ⟨⟨x161, (), rfl, x161_h, by rw [ht]; exact hP, va_K.moved hW.alike hK, hD⟩, hS.F ht⟩) hS.2.2 dX0_mayCome_63
      ·
        have qh162 := nle_i h162
        have j163 : Iv 0 11 x160 := r_ltl qh162 x160_h v8_h (by decide)
        have j164 : Iv 1 12 v8 := r_ltr qh162 x160_h v8_h (by decide)
        refine lv_aload_n hx hb dX0_mayCome_23 rfl (lv_at hl 2 rfl) ?_
        refine va_get (D := (dC, dI)) (ci := 0) (v := .ref o4) (C := RX0) (T := TX0) (N := 8) hx hb hts iw_X0_mayCome_X0 hown hK hP 0 rfl rfl 1 (by decide) (hts (.fieldLink RX0 15 "HolelessHouse$Benches" "rows" "[I") hm_X0_mayCome_3) (fun _ h9 => h9) rfl dX0_mayCome_24 ?_
        refine lv_iload_n hx hb dX0_mayCome_27 rfl (lv_at hl 0 rfl) ?_
        refine va_iald hx hb hK hP 1 0 rfl rfl (vin_iv j163 (by decide)) dX0_mayCome_28 (lv_topi (fun x165 x165_e => ?_))
        refine lv_iload_n hx hb dX0_mayCome_29 rfl (lv_at hl 3 rfl) ?_
        refine lv_iand hx hb dX0_mayCome_30 (lv_topi (fun x166 x166_e => ?_))
        have x166_h : Iv 0 4095 x166 := iv_e x166_e (iv_andR _ a1_h (by decide))
        refine lv_if_eq (tgt := 56) hx hb dX0_mayCome_31 (by decide) (fun h167 => ?_) (fun h167 => ?_)
        ·
          have j168 : Iv 0 0 x166 := r_eq h167 ik_0
          obtain ⟨x169, x169_e⟩ : ∃ z : Int32, z = x160 + 1 := ⟨_, rfl⟩
          have x169_h : Iv 1 12 x169 := iv_e x169_e (iv_add j163 ik_1 (by decide))
          refine lv_iinc (v := x169) (lv' := [(3, .int x169), (2, .int x161), (0, .ref o1), (1, .int a1)]) hx hb dX0_mayCome_56 hl (k := 0) rfl (incN (by decide +kernel) x169_e) (by decide) rfl (fun ls hl => ?_)
          refine lv_goto (tgt := 15) hx hb dX0_mayCome_59 (by decide) ?_
          exact ih1 x169 x161 _ _ _ (ms_up x169_e j163 (by decide) hM1) (iv_w x169_h (by decide)) x161_h hP hD hS hl
        ·
          have j170 : Iv 1 4095 x166 := r_nelo h167 x166_h ik_0 (by decide)
          refine lv_aload_n hx hb dX0_mayCome_34 rfl (lv_at hl 2 rfl) ?_
          refine va_get (D := (dC, dI)) (ci := 0) (v := .ref o4) (C := RX0) (T := TX0) (N := 8) hx hb hts iw_X0_mayCome_X0 hown hK hP 0 rfl rfl 1 (by decide) (hts (.fieldLink RX0 15 "HolelessHouse$Benches" "rows" "[I") hm_X0_mayCome_3) (fun _ h9 => h9) rfl dX0_mayCome_35 ?_
          refine lv_iload_n hx hb dX0_mayCome_38 rfl (lv_at hl 0 rfl) ?_
          refine va_iald hx hb hK hP 1 0 rfl rfl (vin_iv j163 (by decide)) dX0_mayCome_39 (lv_topi (fun x171 x171_e => ?_))
          refine lv_iload_n hx hb dX0_mayCome_40 rfl (lv_at hl 3 rfl) ?_
          refine lv_iconst (v := (-1)) hx hb dX0_mayCome_41 (by decide) ?_
          refine lv_ixor hx hb dX0_mayCome_42 (lv_topi (fun x172 x172_e => ?_))
          refine lv_iand hx hb dX0_mayCome_43 (lv_topi (fun x173 x173_e => ?_))
          refine lv_if_eq (tgt := 56) hx hb dX0_mayCome_44 (by decide) (fun h174 => ?_) (fun h174 => ?_)
          ·
            have j175 : Iv 0 0 x173 := r_eq h174 ik_0
            obtain ⟨x176, x176_e⟩ : ∃ z : Int32, z = x160 + 1 := ⟨_, rfl⟩
            have x176_h : Iv 1 12 x176 := iv_e x176_e (iv_add j163 ik_1 (by decide))
            refine lv_iinc (v := x176) (lv' := [(3, .int x176), (2, .int x161), (0, .ref o1), (1, .int a1)]) hx hb dX0_mayCome_56 hl (k := 0) rfl (incN (by decide +kernel) x176_e) (by decide) rfl (fun ls hl => ?_)
            refine lv_goto (tgt := 15) hx hb dX0_mayCome_59 (by decide) ?_
            exact ih1 x176 x161 _ _ _ (ms_up x176_e j163 (by decide) hM1) (iv_w x176_h (by decide)) x161_h hP hD hS hl
          ·
            refine lv_iload_n hx hb dX0_mayCome_47 rfl (lv_at hl 1 rfl) ?_
            refine lv_aload_n hx hb dX0_mayCome_48 rfl (lv_at hl 2 rfl) ?_
            refine va_get (D := (dC, dI)) (ci := 0) (v := .ref o4) (C := RX0) (T := TX0) (N := 8) hx hb hts iw_X0_mayCome_X0 hown hK hP 0 rfl rfl 1 (by decide) (hts (.fieldLink RX0 15 "HolelessHouse$Benches" "rows" "[I") hm_X0_mayCome_3) (fun _ h9 => h9) rfl dX0_mayCome_49 ?_
            refine lv_iload_n hx hb dX0_mayCome_52 rfl (lv_at hl 0 rfl) ?_
            refine va_iald hx hb hK hP 1 0 rfl rfl (vin_iv j163 (by decide)) dX0_mayCome_53 (lv_topi (fun x177 x177_e => ?_))
            refine lv_iand hx hb dX0_mayCome_54 (lv_topi (fun x178 x178_e => ?_))
            have x178_h : Iv 0 4095 x178 := iv_e x178_e (iv_andL _ x161_h (by decide))
            refine lv_istore_n (lv' := [(2, .int x178), (3, .int x160), (0, .ref o1), (1, .int a1)]) hx hb dX0_mayCome_55 rfl hl (by decide) rfl (fun ls hl => ?_)
            obtain ⟨x179, x179_e⟩ : ∃ z : Int32, z = x160 + 1 := ⟨_, rfl⟩
            have x179_h : Iv 1 12 x179 := iv_e x179_e (iv_add j163 ik_1 (by decide))
            refine lv_iinc (v := x179) (lv' := [(3, .int x179), (2, .int x178), (0, .ref o1), (1, .int a1)]) hx hb dX0_mayCome_56 hl (k := 1) rfl (incN (by decide +kernel) x179_e) (by decide) rfl (fun ls hl => ?_)
            refine lv_goto (tgt := 15) hx hb dX0_mayCome_59 (by decide) ?_
            exact ih1 x179 x178 _ _ _ (ms_up x179_e j163 (by decide) hM1) (iv_w x179_h (by decide)) x178_h hP hD hS hl
  exact L1 _ 0 x4 _ _ _ (Nat.lt_succ_self _) (iv_w ik_0 (by decide)) x4_h hP hD hS hl
