theorem hm_X0_firstOf_1 : (.fieldLink RX0 25 "HolelessHouse$Benches" "width" "I" : Cond) ∈ wsX0_firstOf := List.mem_of_getElem? (i := 1) rfl
theorem hm_X0_firstOf_2 : (.fieldLink RX0 15 "HolelessHouse$Benches" "rows" "[I" : Cond) ∈ wsX0_firstOf := List.mem_of_getElem? (i := 2) rfl
theorem hm_X0_firstOf_3 : (.fieldLink RX0 41 "HolelessHouse$Benches" "places" "[I" : Cond) ∈ wsX0_firstOf := List.mem_of_getElem? (i := 3) rfl
theorem hm_X0_firstOf_5 : (.initialized RX11 : Cond) ∈ wsX0_firstOf := List.mem_of_getElem? (i := 5) rfl
theorem hm_X0_firstOf_4 : (.static yX11_in : Cond) ∈ wsX0_firstOf := List.mem_of_getElem? (i := 4) rfl
theorem hm_X0_lastOf_1 : (.fieldLink RX0 25 "HolelessHouse$Benches" "width" "I" : Cond) ∈ wsX0_lastOf := List.mem_of_getElem? (i := 1) rfl
theorem hm_X0_lastOf_2 : (.fieldLink RX0 15 "HolelessHouse$Benches" "rows" "[I" : Cond) ∈ wsX0_lastOf := List.mem_of_getElem? (i := 2) rfl
theorem hm_X0_lastOf_3 : (.fieldLink RX0 41 "HolelessHouse$Benches" "places" "[I" : Cond) ∈ wsX0_lastOf := List.mem_of_getElem? (i := 3) rfl
theorem hm_X0_lastOf_5 : (.initialized RX11 : Cond) ∈ wsX0_lastOf := List.mem_of_getElem? (i := 5) rfl
theorem hm_X0_lastOf_4 : (.static yX11_in : Cond) ∈ wsX0_lastOf := List.mem_of_getElem? (i := 4) rfl
theorem hm_X11_span_1 : (.fieldLink RX11 10 "HolelessHouse" "graph" "LHolelessHouse$Graph;" : Cond) ∈ wsX11_span := List.mem_of_getElem? (i := 1) rfl
theorem hm_X11_span_4 : (.initialized RX4 : Cond) ∈ wsX11_span := List.mem_of_getElem? (i := 4) rfl
theorem hm_X11_span_3 : (.instanceMethod yX4_has : Cond) ∈ wsX11_span := List.mem_of_getElem? (i := 3) rfl
theorem hm_X11_span_5 : (.selects RX4 yX4_has yX4_has : Cond) ∈ wsX11_span := List.mem_of_getElem? (i := 5) rfl
theorem hm_X11_span_2 : (.fieldLink RX11 75 "HolelessHouse" "spans" "LHolelessHouse$Benches;" : Cond) ∈ wsX11_span := List.mem_of_getElem? (i := 2) rfl
theorem hm_X11_span_45 : (.initialized RX0 : Cond) ∈ wsX11_span := List.mem_of_getElem? (i := 45) rfl
theorem hm_X11_span_84 : (.instanceMethod yX0_firstOf : Cond) ∈ wsX11_span := List.mem_of_getElem? (i := 84) rfl
theorem hm_X11_span_85 : (.selects RX0 yX0_firstOf yX0_firstOf : Cond) ∈ wsX11_span := List.mem_of_getElem? (i := 85) rfl
theorem hm_X11_span_81 : (.instanceMethod yX0_lastOf : Cond) ∈ wsX11_span := List.mem_of_getElem? (i := 81) rfl
theorem hm_X11_span_82 : (.selects RX0 yX0_lastOf yX0_lastOf : Cond) ∈ wsX11_span := List.mem_of_getElem? (i := 82) rfl
theorem hm_X2_clearOf_3 : (.initialized RX4 : Cond) ∈ wsX2_clearOf := List.mem_of_getElem? (i := 3) rfl
theorem hm_X2_clearOf_2 : (.instanceMethod yX4_all : Cond) ∈ wsX2_clearOf := List.mem_of_getElem? (i := 2) rfl
theorem hm_X2_clearOf_4 : (.selects RX4 yX4_all yX4_all : Cond) ∈ wsX2_clearOf := List.mem_of_getElem? (i := 4) rfl
theorem hm_X2_clearOf_1 : (.fieldLink RX2 11 "HolelessHouse$FarThree" "clear" "[[I" : Cond) ∈ wsX2_clearOf := List.mem_of_getElem? (i := 1) rfl
theorem hm_X2_clearOf_8 : (.initialized RX11 : Cond) ∈ wsX2_clearOf := List.mem_of_getElem? (i := 8) rfl
theorem hm_X2_clearOf_7 : (.static yX11_in : Cond) ∈ wsX2_clearOf := List.mem_of_getElem? (i := 7) rfl
theorem hm_X2_clearOf_10 : (.instanceMethod yX4_reach : Cond) ∈ wsX2_clearOf := List.mem_of_getElem? (i := 10) rfl
theorem hm_X2_clearOf_11 : (.selects RX4 yX4_reach yX4_reach : Cond) ∈ wsX2_clearOf := List.mem_of_getElem? (i := 11) rfl
theorem hm_X2_lookFor_1 : (.fieldLink RX2 11 "HolelessHouse$FarThree" "clear" "[[I" : Cond) ∈ wsX2_lookFor := List.mem_of_getElem? (i := 1) rfl
theorem hm_X2_lookFor_4 : (.initialized RX11 : Cond) ∈ wsX2_lookFor := List.mem_of_getElem? (i := 4) rfl
theorem hm_X2_lookFor_3 : (.static yX11_in : Cond) ∈ wsX2_lookFor := List.mem_of_getElem? (i := 3) rfl
theorem hm_X2_lookFor_2 : (.fieldLink RX2 16 "HolelessHouse$FarThree" "three" "[I" : Cond) ∈ wsX2_lookFor := List.mem_of_getElem? (i := 2) rfl
theorem hm_X2_bring_1 : (.fieldLink RX2 24 "HolelessHouse$FarThree" "madeFor" "I" : Cond) ∈ wsX2_bring := List.mem_of_getElem? (i := 1) rfl
theorem hm_X2_bring_2 : (.fieldLink RX2 20 "HolelessHouse$FarThree" "there" "Z" : Cond) ∈ wsX2_bring := List.mem_of_getElem? (i := 2) rfl
theorem hm_X11_far_1 : (.fieldLink RX11 66 "HolelessHouse" "farThree" "LHolelessHouse$FarThree;" : Cond) ∈ wsX11_far := List.mem_of_getElem? (i := 1) rfl
theorem hm_X11_far_2 : (.fieldLink RX11 10 "HolelessHouse" "graph" "LHolelessHouse$Graph;" : Cond) ∈ wsX11_far := List.mem_of_getElem? (i := 2) rfl
theorem hm_X11_far_4 : (.initialized RX2 : Cond) ∈ wsX11_far := List.mem_of_getElem? (i := 4) rfl
theorem hm_X11_far_3 : (.instanceMethod yX2_bring : Cond) ∈ wsX11_far := List.mem_of_getElem? (i := 3) rfl
theorem hm_X11_far_5 : (.selects RX2 yX2_bring yX2_bring : Cond) ∈ wsX11_far := List.mem_of_getElem? (i := 5) rfl
theorem hm_X10_restart_1 : (.fieldLink RX10 15 "HolelessHouse$Table" "width" "I" : Cond) ∈ wsX10_restart := List.mem_of_getElem? (i := 1) rfl
theorem hm_X10_restart_2 : (.fieldLink RX10 9 "HolelessHouse$Table" "rows" "[I" : Cond) ∈ wsX10_restart := List.mem_of_getElem? (i := 2) rfl
theorem hm_X10_restart_3 : (.fieldLink RX10 19 "HolelessHouse$Table" "version" "I" : Cond) ∈ wsX10_restart := List.mem_of_getElem? (i := 3) rfl
theorem hm_X11_columns_1 : (.fieldLink RX11 19 "HolelessHouse" "table" "LHolelessHouse$Table;" : Cond) ∈ wsX11_columns := List.mem_of_getElem? (i := 1) rfl
theorem hm_X11_columns_10 : (.initialized RX10 : Cond) ∈ wsX11_columns := List.mem_of_getElem? (i := 10) rfl
theorem hm_X11_columns_9 : (.instanceMethod yX10_restart : Cond) ∈ wsX11_columns := List.mem_of_getElem? (i := 9) rfl
theorem hm_X11_columns_11 : (.selects RX10 yX10_restart yX10_restart : Cond) ∈ wsX11_columns := List.mem_of_getElem? (i := 11) rfl
theorem iw_X0_firstOf_X0 : ∀ w ∈ wsX00, w ∈ wsX0_firstOf := fun _ h => List.mem_cons.mpr (Or.inr (List.mem_append.mpr (Or.inr h)))
set_option maxHeartbeats 4000000 in
set_option maxRecDepth 100000 in
theorem kX0_firstOf_1 (l : Launch) (dC : Nat → ClassId) (dI : Nat → Nat → Nat) (cI c2 cZ : ClassId) (o1 : Nat) (o2 : Nat) (o4 : Nat) (o6 : Nat) (fw5 : Nat → Int32) (fw7 : Nat → Int32) (v8 : Int32) (v9 : Int32) (v10 : Int32) (v11 : Int32) (v12 : Int32) (a1 : Int32) (sz : Nat) (v8_h : Iv 0 12 v8) (v9_h : Iv 0 12 v9) (v11_h : Iv 0 1 v11) (a1_h : Iv 0 11 a1) : Met l yX0_firstOf wsX0_firstOf ({ frames := 1, cells := 0, slots := 0, locals := 21 }) (va_Pc [.ref o1, .int a1] (wPre (dC, dI) [(cI, .int), (c2, .array .int), (cZ, .boolean)] ([(o1, .inr (0, [.ref o2, .ref o4, .ref o6, .int v8, .int v9, .int v10, .int v11, .int v12])), (o4, .inl (cI, 12, .inl fw5)), (o6, .inl (cI, 12, .inl fw7))]) sz)) (va_Qi (fun (r : Int32) (_ : Unit) => Iv (-9) 11 r) (fun _ t => wPost (dC, dI) [(cI, .int), (c2, .array .int), (cZ, .boolean)] (va_A ([(o1, .inr (0, [.ref o2, .ref o4, .ref o6, .int v8, .int v9, .int v10, .int v11, .int v12])), (o4, .inl (cI, 12, .inl fw5)), (o6, .inl (cI, 12, .inl fw7))]) sz) ([(o1, .inr (0, [.ref o2, .ref o4, .ref o6, .int v8, .int v9, .int v10, .int v11, .int v12])), (o4, .inl (cI, 12, .inl fw5)), (o6, .inl (cI, 12, .inl fw7))]) t) (va_A ([(o1, .inr (0, [.ref o2, .ref o4, .ref o6, .int v8, .int v9, .int v10, .int v11, .int v12])), (o4, .inl (cI, 12, .inl fw5)), (o6, .inl (cI, 12, .inl fw7))]) sz)) 0 0 (va_A ([(o1, .inr (0, [.ref o2, .ref o4, .ref o6, .int v8, .int v9, .int v10, .int v11, .int v12])), (o4, .inl (cI, 12, .inl fw5)), (o6, .inl (cI, 12, .inl fw7))]) sz) := by
  refine Met.ofW (cc := cX0_firstOf) (maxL := 3) (ret := (some .int)) (by decide) rfl ?_
  intro p e s m args below meth c s₁ B hml hv
  obtain ⟨rfl, hsz, hP, hK, hD0, hN⟩ := hv
  have hx := B.exec
  have hb := B.bytes
  have hr := B.returns
  have hts := atoms_spec (ws := wsX0_firstOf) B.pre
  have hown : s.vm.findClass RX0 = some m.cls := findClass_of_methodNamed B.named
  have hlocks := B.notSynchronized
  subst hsz
  have hD := hD0.self (sz := s.heap.size)
  generalize hAe : va_A ([(o1, .inr (0, [.ref o2, .ref o4, .ref o6, .int v8, .int v9, .int v10, .int v11, .int v12])), (o4, .inl (cI, 12, .inl fw5)), (o6, .inl (cI, 12, .inl fw7))]) s.heap.size = A at hD ⊢
  have hA : ∀ q : Nat, s.heap.size ≤ q → A q := fun q h => by rw [← hAe]; exact Or.inr h
  have hS : va_S A s.heap s.heap [] := va_S.rf
  have hP : va_P (dC, dI) vwCl ([(o1, .inr (0, [.ref o2, .ref o4, .ref o6, .int v8, .int v9, .int v10, .int v11, .int v12])), (o4, .inl (cI, 12, .inl fw5)), (o6, .inl (cI, 12, .inl fw7))]) s.heap := hP
  have hl := lv_entry ([.ref o1, .int a1]) (n := 3) (Nat.le_of_ble_eq_true rfl)
  rw [lg_entry_eq]
  generalize (lg_sl ([.ref o1, .int a1]) ++ List.replicate (3 - (lg_sl ([.ref o1, .int a1])).length) Slot.unset).toArray = ls at hl ⊢
  have hl : lv_has ls 3 [(0, .ref o1), (1, .int a1)] := hl
  refine gen_Q (fun Q hQ => ?_)
  refine lv_iconst (v := 0) hx hb dX0_firstOf_0 (by decide) ?_
  refine lv_istore_n (lv' := [(2, .int 0), (0, .ref o1), (1, .int a1)]) hx hb dX0_firstOf_1 rfl hl (by decide) rfl (fun ls hl => ?_)
  have L1 : ∀ (N : Nat) (x87 : Int32) (H : Heap) (locs : List Loc) (ls : Array Slot), (12 - x87.toInt).toNat < N → Iv 0 12 x87 → va_P (dC, dI) vwCl ([(o1, .inr (0, [.ref o2, .ref o4, .ref o6, .int v8, .int v9, .int v10, .int v11, .int v12])), (o4, .inl (cI, 12, .inl fw5)), (o6, .inl (cI, 12, .inl fw7))]) H → va_D A ([(o1, .inr (0, [.ref o2, .ref o4, .ref o6, .int v8, .int v9, .int v10, .int v11, .int v12])), (o4, .inl (cI, 12, .inl fw5)), (o6, .inl (cI, 12, .inl fw7))]) → va_S A s.heap H locs → lv_has ls 3 [(2, .int x87), (0, .ref o1), (1, .int a1)] → W p l e ({ frames := 1, cells := 0, slots := 0, locals := 21 }) s m ([.ref o1, .int a1] : List Value).toArray below meth c H locs 0 0 Q (F0 m 2 ls []) := by
    intro N
    induction N with
    | zero =>
      intro x87 H locs ls hM
      exact absurd hM (Nat.not_lt_zero _)
    | succ N ih1 =>
      intro x87 H locs ls hM1 x87_h hP hD hS hl
      refine lv_iload_n hx hb dX0_firstOf_2 rfl (lv_at hl 0 rfl) ?_
      refine lv_aload_n hx hb dX0_firstOf_3 rfl (lv_at hl 1 rfl) ?_
      refine va_get (D := (dC, dI)) (ci := 0) (v := .int v9) (C := RX0) (T := TX0) (N := 8) hx hb hts iw_X0_firstOf_X0 hown hK hP 0 rfl rfl 4 (by decide) (hts (.fieldLink RX0 25 "HolelessHouse$Benches" "width" "I") hm_X0_firstOf_1) (fun _ h9 => h9) rfl dX0_firstOf_4 ?_
      refine lv_icmp_ge (tgt := 36) hx hb dX0_firstOf_7 (by decide) (fun h88 => ?_) (fun h88 => ?_)
      ·
        have qh88 := le_i h88
        refine lv_bipush (v := (-9)) hx hb dX0_firstOf_36 (by decide) ?_
        rw [hQ]
        exact W.iret (v := (-9)) hx hb hr (fun t ht hW => ⟨⟨(-9), (), rfl, (iv_w ikm_9 (by decide)), by rw [ht]; exact hP, va_K.moved hW.alike hK, hD⟩, hS.F ht⟩) hS.2.2 dX0_firstOf_38
      ·
        have qh88 := nle_i h88
        have j89 : Iv 0 11 x87 := r_ltl qh88 x87_h v9_h (by decide)
        have j90 : Iv 1 12 v9 := r_ltr qh88 x87_h v9_h (by decide)
        refine lv_aload_n hx hb dX0_firstOf_10 rfl (lv_at hl 1 rfl) ?_
        refine va_get (D := (dC, dI)) (ci := 0) (v := .ref o4) (C := RX0) (T := TX0) (N := 8) hx hb hts iw_X0_firstOf_X0 hown hK hP 0 rfl rfl 1 (by decide) (hts (.fieldLink RX0 15 "HolelessHouse$Benches" "rows" "[I") hm_X0_firstOf_2) (fun _ h9 => h9) rfl dX0_firstOf_11 ?_
        refine lv_iload_n hx hb dX0_firstOf_14 rfl (lv_at hl 2 rfl) ?_
        refine va_iald hx hb hK hP 1 0 rfl rfl (vin_iv a1_h (by decide)) dX0_firstOf_15 (lv_topi (fun x91 x91_e => ?_))
        refine lv_aload_n hx hb dX0_firstOf_16 rfl (lv_at hl 1 rfl) ?_
        refine va_get (D := (dC, dI)) (ci := 0) (v := .ref o6) (C := RX0) (T := TX0) (N := 8) hx hb hts iw_X0_firstOf_X0 hown hK hP 0 rfl rfl 2 (by decide) (hts (.fieldLink RX0 41 "HolelessHouse$Benches" "places" "[I") hm_X0_firstOf_3) (fun _ h9 => h9) rfl dX0_firstOf_17 ?_
        refine lv_iload_n hx hb dX0_firstOf_20 rfl (lv_at hl 0 rfl) ?_
        refine va_iald hx hb hK hP 2 0 rfl rfl (vin_iv j89 (by decide)) dX0_firstOf_21 (lv_topi (fun x92 x92_e => ?_))
        refine kc_i (D := (dC, dI)) (S := Unit) (wc := []) (wr := [(o1, .inr (0, [.ref o2, .ref o4, .ref o6, .int v8, .int v9, .int v10, .int v11, .int v12])), (o4, .inl (cI, 12, .inl fw5)), (o6, .inl (cI, 12, .inl fw7))]) (w1 := fun _ => []) (wn := fun _ => [(o1, .inr (0, [.ref o2, .ref o4, .ref o6, .int v8, .int v9, .int v10, .int v11, .int v12])), (o4, .inl (cI, 12, .inl fw5)), (o6, .inl (cI, 12, .inl fw7))]) (fun hPc hDc => va_runSN (As := [.int x91, .int x92]) (rest := []) ⟨hx, hb, hml, hown, hts⟩ (kX11_in_1 l dC dI cI c2 cZ x91 x92 H.size) ⟨va_cnB 2 hts gX0_firstOf_X11_in_n62 rfl rfl rfl (hN.1 _ ns_125) (hts (.initialized RX11) hm_X0_firstOf_5) (by decide +kernel) ⟨Nat.le_of_ble_eq_true rfl, Nat.le_of_ble_eq_true rfl⟩, (hts (.static yX11_in) hm_X0_firstOf_4), trivial⟩ (pre_S hPc hK hDc hN) rfl rfl hl.1 rfl (lv_room (Nat.le_of_ble_eq_true rfl)) dX0_firstOf_22 ⟨Nat.le_of_ble_eq_true rfl, Nat.le_of_ble_eq_true rfl⟩) hP hD hS hA [] [0, 1, 2] [0, 1, 2] rfl rfl (by decide +kernel) (by decide +kernel) (by decide +kernel) (by decide +kernel) (fun _ => rfl) (fun x93 _ H locs hq hP hD hS => ?_)
        have x93_h := hq
        have hP : va_P (dC, dI) vwCl ([(o1, .inr (0, [.ref o2, .ref o4, .ref o6, .int v8, .int v9, .int v10, .int v11, .int v12])), (o4, .inl (cI, 12, .inl fw5)), (o6, .inl (cI, 12, .inl fw7))]) H := hP
        have hD : va_D A ([(o1, .inr (0, [.ref o2, .ref o4, .ref o6, .int v8, .int v9, .int v10, .int v11, .int v12])), (o4, .inl (cI, 12, .inl fw5)), (o6, .inl (cI, 12, .inl fw7))]) := hD
        refine lv_if_eq (tgt := 30) hx hb dX0_firstOf_25 (by decide) (fun h94 => ?_) (fun h94 => ?_)
        ·
          have j95 : Iv 0 0 x93 := r_eq h94 ik_0
          obtain ⟨x96, x96_e⟩ : ∃ z : Int32, z = x87 + 1 := ⟨_, rfl⟩
          have x96_h : Iv 1 12 x96 := iv_e x96_e (iv_add j89 ik_1 (by decide))
          refine lv_iinc (v := x96) (lv' := [(2, .int x96), (0, .ref o1), (1, .int a1)]) hx hb dX0_firstOf_30 hl (k := 0) rfl (incN (by decide +kernel) x96_e) (by decide) rfl (fun ls hl => ?_)
          refine lv_goto (tgt := 2) hx hb dX0_firstOf_33 (by decide) ?_
          exact ih1 x96 _ _ _ (ms_up x96_e j89 (by decide) hM1) (iv_w x96_h (by decide)) hP hD hS hl
        ·
          have j97 : Iv 1 1 x93 := r_nelo h94 x93_h ik_0 (by decide)
          refine lv_iload_n hx hb dX0_firstOf_28 rfl (lv_at hl 0 rfl) ?_
          rw [hQ]
          exact W.iret (v := x87) hx hb hr (fun t ht hW => ⟨⟨x87, (), rfl, (iv_w j89 (by decide)), by rw [ht]; exact hP, va_K.moved hW.alike hK, hD⟩, hS.F ht⟩) hS.2.2 dX0_firstOf_29
  exact L1 _ 0 _ _ _ (Nat.lt_succ_self _) (iv_w ik_0 (by decide)) hP hD hS hl
theorem iw_X0_lastOf_X0 : ∀ w ∈ wsX00, w ∈ wsX0_lastOf := fun _ h => List.mem_cons.mpr (Or.inr (List.mem_append.mpr (Or.inr h)))
set_option maxHeartbeats 4000000 in
set_option maxRecDepth 100000 in
theorem kX0_lastOf_1 (l : Launch) (dC : Nat → ClassId) (dI : Nat → Nat → Nat) (cI c2 cZ : ClassId) (o1 : Nat) (o2 : Nat) (o4 : Nat) (o6 : Nat) (fw5 : Nat → Int32) (fw7 : Nat → Int32) (v8 : Int32) (v9 : Int32) (v10 : Int32) (v11 : Int32) (v12 : Int32) (a1 : Int32) (sz : Nat) (v8_h : Iv 0 12 v8) (v9_h : Iv 0 12 v9) (v11_h : Iv 0 1 v11) (a1_h : Iv 0 11 a1) : Met l yX0_lastOf wsX0_lastOf ({ frames := 1, cells := 0, slots := 0, locals := 21 }) (va_Pc [.ref o1, .int a1] (wPre (dC, dI) [(cI, .int), (c2, .array .int), (cZ, .boolean)] ([(o1, .inr (0, [.ref o2, .ref o4, .ref o6, .int v8, .int v9, .int v10, .int v11, .int v12])), (o4, .inl (cI, 12, .inl fw5)), (o6, .inl (cI, 12, .inl fw7))]) sz)) (va_Qi (fun (r : Int32) (_ : Unit) => Iv (-9) 11 r) (fun _ t => wPost (dC, dI) [(cI, .int), (c2, .array .int), (cZ, .boolean)] (va_A ([(o1, .inr (0, [.ref o2, .ref o4, .ref o6, .int v8, .int v9, .int v10, .int v11, .int v12])), (o4, .inl (cI, 12, .inl fw5)), (o6, .inl (cI, 12, .inl fw7))]) sz) ([(o1, .inr (0, [.ref o2, .ref o4, .ref o6, .int v8, .int v9, .int v10, .int v11, .int v12])), (o4, .inl (cI, 12, .inl fw5)), (o6, .inl (cI, 12, .inl fw7))]) t) (va_A ([(o1, .inr (0, [.ref o2, .ref o4, .ref o6, .int v8, .int v9, .int v10, .int v11, .int v12])), (o4, .inl (cI, 12, .inl fw5)), (o6, .inl (cI, 12, .inl fw7))]) sz)) 0 0 (va_A ([(o1, .inr (0, [.ref o2, .ref o4, .ref o6, .int v8, .int v9, .int v10, .int v11, .int v12])), (o4, .inl (cI, 12, .inl fw5)), (o6, .inl (cI, 12, .inl fw7))]) sz) := by
  refine Met.ofW (cc := cX0_lastOf) (maxL := 4) (ret := (some .int)) (by decide) rfl ?_
  intro p e s m args below meth c s₁ B hml hv
  obtain ⟨rfl, hsz, hP, hK, hD0, hN⟩ := hv
  have hx := B.exec
  have hb := B.bytes
  have hr := B.returns
  have hts := atoms_spec (ws := wsX0_lastOf) B.pre
  have hown : s.vm.findClass RX0 = some m.cls := findClass_of_methodNamed B.named
  have hlocks := B.notSynchronized
  subst hsz
  have hD := hD0.self (sz := s.heap.size)
  generalize hAe : va_A ([(o1, .inr (0, [.ref o2, .ref o4, .ref o6, .int v8, .int v9, .int v10, .int v11, .int v12])), (o4, .inl (cI, 12, .inl fw5)), (o6, .inl (cI, 12, .inl fw7))]) s.heap.size = A at hD ⊢
  have hA : ∀ q : Nat, s.heap.size ≤ q → A q := fun q h => by rw [← hAe]; exact Or.inr h
  have hS : va_S A s.heap s.heap [] := va_S.rf
  have hP : va_P (dC, dI) vwCl ([(o1, .inr (0, [.ref o2, .ref o4, .ref o6, .int v8, .int v9, .int v10, .int v11, .int v12])), (o4, .inl (cI, 12, .inl fw5)), (o6, .inl (cI, 12, .inl fw7))]) s.heap := hP
  have hl := lv_entry ([.ref o1, .int a1]) (n := 4) (Nat.le_of_ble_eq_true rfl)
  rw [lg_entry_eq]
  generalize (lg_sl ([.ref o1, .int a1]) ++ List.replicate (4 - (lg_sl ([.ref o1, .int a1])).length) Slot.unset).toArray = ls at hl ⊢
  have hl : lv_has ls 4 [(0, .ref o1), (1, .int a1)] := hl
  refine gen_Q (fun Q hQ => ?_)
  refine lv_bipush (v := (-9)) hx hb dX0_lastOf_0 (by decide) ?_
  refine lv_istore_n (lv' := [(2, .int (-9)), (0, .ref o1), (1, .int a1)]) hx hb dX0_lastOf_2 rfl hl (by decide) rfl (fun ls hl => ?_)
  refine lv_iconst (v := 0) hx hb dX0_lastOf_3 (by decide) ?_
  refine lv_istore_n (lv' := [(3, .int 0), (2, .int (-9)), (0, .ref o1), (1, .int a1)]) hx hb dX0_lastOf_4 rfl hl (by decide) rfl (fun ls hl => ?_)
  have L1 : ∀ (N : Nat) (x101 : Int32) (x102 : Int32) (H : Heap) (locs : List Loc) (ls : Array Slot), (12 - x101.toInt).toNat < N → Iv 0 12 x101 → Iv (-9) 11 x102 → va_P (dC, dI) vwCl ([(o1, .inr (0, [.ref o2, .ref o4, .ref o6, .int v8, .int v9, .int v10, .int v11, .int v12])), (o4, .inl (cI, 12, .inl fw5)), (o6, .inl (cI, 12, .inl fw7))]) H → va_D A ([(o1, .inr (0, [.ref o2, .ref o4, .ref o6, .int v8, .int v9, .int v10, .int v11, .int v12])), (o4, .inl (cI, 12, .inl fw5)), (o6, .inl (cI, 12, .inl fw7))]) → va_S A s.heap H locs → lv_has ls 4 [(3, .int x101), (2, .int x102), (0, .ref o1), (1, .int a1)] → W p l e ({ frames := 1, cells := 0, slots := 0, locals := 21 }) s m ([.ref o1, .int a1] : List Value).toArray below meth c H locs 0 0 Q (F0 m 5 ls []) := by
    intro N
    induction N with
    | zero =>
      intro x101 x102 H locs ls hM
      exact absurd hM (Nat.not_lt_zero _)
    | succ N ih1 =>
      intro x101 x102 H locs ls hM1 x101_h x102_h hP hD hS hl
      refine lv_iload_n hx hb dX0_lastOf_5 rfl (lv_at hl 0 rfl) ?_
      refine lv_aload_n hx hb dX0_lastOf_6 rfl (lv_at hl 2 rfl) ?_
      refine va_get (D := (dC, dI)) (ci := 0) (v := .int v9) (C := RX0) (T := TX0) (N := 8) hx hb hts iw_X0_lastOf_X0 hown hK hP 0 rfl rfl 4 (by decide) (hts (.fieldLink RX0 25 "HolelessHouse$Benches" "width" "I") hm_X0_lastOf_1) (fun _ h9 => h9) rfl dX0_lastOf_7 ?_
      refine lv_icmp_ge (tgt := 39) hx hb dX0_lastOf_10 (by decide) (fun h103 => ?_) (fun h103 => ?_)
      ·
        have qh103 := le_i h103
        refine lv_iload_n hx hb dX0_lastOf_39 rfl (lv_at hl 1 rfl) ?_
        rw [hQ]
        exact W.iret (v := x102) hx hb hr (fun t ht hW => ⟨⟨x102, (), rfl, x102_h, by rw [ht]; exact hP, va_K.moved hW.alike hK, hD⟩, hS.F ht⟩) hS.2.2 dX0_lastOf_40
      ·
        have qh103 := nle_i h103
        have j104 : Iv 0 11 x101 := r_ltl qh103 x101_h v9_h (by decide)
        have j105 : Iv 1 12 v9 := r_ltr qh103 x101_h v9_h (by decide)
        refine lv_aload_n hx hb dX0_lastOf_13 rfl (lv_at hl 2 rfl) ?_
        refine va_get (D := (dC, dI)) (ci := 0) (v := .ref o4) (C := RX0) (T := TX0) (N := 8) hx hb hts iw_X0_lastOf_X0 hown hK hP 0 rfl rfl 1 (by decide) (hts (.fieldLink RX0 15 "HolelessHouse$Benches" "rows" "[I") hm_X0_lastOf_2) (fun _ h9 => h9) rfl dX0_lastOf_14 ?_
        refine lv_iload_n hx hb dX0_lastOf_17 rfl (lv_at hl 3 rfl) ?_
        refine va_iald hx hb hK hP 1 0 rfl rfl (vin_iv a1_h (by decide)) dX0_lastOf_18 (lv_topi (fun x106 x106_e => ?_))
        refine lv_aload_n hx hb dX0_lastOf_19 rfl (lv_at hl 2 rfl) ?_
        refine va_get (D := (dC, dI)) (ci := 0) (v := .ref o6) (C := RX0) (T := TX0) (N := 8) hx hb hts iw_X0_lastOf_X0 hown hK hP 0 rfl rfl 2 (by decide) (hts (.fieldLink RX0 41 "HolelessHouse$Benches" "places" "[I") hm_X0_lastOf_3) (fun _ h9 => h9) rfl dX0_lastOf_20 ?_
        refine lv_iload_n hx hb dX0_lastOf_23 rfl (lv_at hl 0 rfl) ?_
        refine va_iald hx hb hK hP 2 0 rfl rfl (vin_iv j104 (by decide)) dX0_lastOf_24 (lv_topi (fun x107 x107_e => ?_))
        refine kc_i (D := (dC, dI)) (S := Unit) (wc := []) (wr := [(o1, .inr (0, [.ref o2, .ref o4, .ref o6, .int v8, .int v9, .int v10, .int v11, .int v12])), (o4, .inl (cI, 12, .inl fw5)), (o6, .inl (cI, 12, .inl fw7))]) (w1 := fun _ => []) (wn := fun _ => [(o1, .inr (0, [.ref o2, .ref o4, .ref o6, .int v8, .int v9, .int v10, .int v11, .int v12])), (o4, .inl (cI, 12, .inl fw5)), (o6, .inl (cI, 12, .inl fw7))]) (fun hPc hDc => va_runSN (As := [.int x106, .int x107]) (rest := []) ⟨hx, hb, hml, hown, hts⟩ (kX11_in_1 l dC dI cI c2 cZ x106 x107 H.size) ⟨va_cnB 2 hts gX0_lastOf_X11_in_n62 rfl rfl rfl (hN.1 _ ns_125) (hts (.initialized RX11) hm_X0_lastOf_5) (by decide +kernel) ⟨Nat.le_of_ble_eq_true rfl, Nat.le_of_ble_eq_true rfl⟩, (hts (.static yX11_in) hm_X0_lastOf_4), trivial⟩ (pre_S hPc hK hDc hN) rfl rfl hl.1 rfl (lv_room (Nat.le_of_ble_eq_true rfl)) dX0_lastOf_25 ⟨Nat.le_of_ble_eq_true rfl, Nat.le_of_ble_eq_true rfl⟩) hP hD hS hA [] [0, 1, 2] [0, 1, 2] rfl rfl (by decide +kernel) (by decide +kernel) (by decide +kernel) (by decide +kernel) (fun _ => rfl) (fun x108 _ H locs hq hP hD hS => ?_)
        have x108_h := hq
        have hP : va_P (dC, dI) vwCl ([(o1, .inr (0, [.ref o2, .ref o4, .ref o6, .int v8, .int v9, .int v10, .int v11, .int v12])), (o4, .inl (cI, 12, .inl fw5)), (o6, .inl (cI, 12, .inl fw7))]) H := hP
        have hD : va_D A ([(o1, .inr (0, [.ref o2, .ref o4, .ref o6, .int v8, .int v9, .int v10, .int v11, .int v12])), (o4, .inl (cI, 12, .inl fw5)), (o6, .inl (cI, 12, .inl fw7))]) := hD
        refine lv_if_eq (tgt := 33) hx hb dX0_lastOf_28 (by decide) (fun h109 => ?_) (fun h109 => ?_)
        ·
          have j110 : Iv 0 0 x108 := r_eq h109 ik_0
          obtain ⟨x111, x111_e⟩ : ∃ z : Int32, z = x101 + 1 := ⟨_, rfl⟩
          have x111_h : Iv 1 12 x111 := iv_e x111_e (iv_add j104 ik_1 (by decide))
          refine lv_iinc (v := x111) (lv' := [(3, .int x111), (2, .int x102), (0, .ref o1), (1, .int a1)]) hx hb dX0_lastOf_33 hl (k := 0) rfl (incN (by decide +kernel) x111_e) (by decide) rfl (fun ls hl => ?_)
          refine lv_goto (tgt := 5) hx hb dX0_lastOf_36 (by decide) ?_
          exact ih1 x111 x102 _ _ _ (ms_up x111_e j104 (by decide) hM1) (iv_w x111_h (by decide)) x102_h hP hD hS hl
        ·
          have j112 : Iv 1 1 x108 := r_nelo h109 x108_h ik_0 (by decide)
          refine lv_iload_n hx hb dX0_lastOf_31 rfl (lv_at hl 0 rfl) ?_
          refine lv_istore_n (lv' := [(2, .int x101), (3, .int x101), (0, .ref o1), (1, .int a1)]) hx hb dX0_lastOf_32 rfl hl (by decide) rfl (fun ls hl => ?_)
          obtain ⟨x113, x113_e⟩ : ∃ z : Int32, z = x101 + 1 := ⟨_, rfl⟩
          have x113_h : Iv 1 12 x113 := iv_e x113_e (iv_add j104 ik_1 (by decide))
          refine lv_iinc (v := x113) (lv' := [(3, .int x113), (2, .int x101), (0, .ref o1), (1, .int a1)]) hx hb dX0_lastOf_33 hl (k := 1) rfl (incN (by decide +kernel) x113_e) (by decide) rfl (fun ls hl => ?_)
          refine lv_goto (tgt := 5) hx hb dX0_lastOf_36 (by decide) ?_
          exact ih1 x113 x101 _ _ _ (ms_up x113_e j104 (by decide) hM1) (iv_w x113_h (by decide)) (iv_w j104 (by decide)) hP hD hS hl
  exact L1 _ 0 (-9) _ _ _ (Nat.lt_succ_self _) (iv_w ik_0 (by decide)) (iv_w ikm_9 (by decide)) hP hD hS hl
theorem iw_X11_span_X0 : ∀ w ∈ wsX00, w ∈ wsX11_span := fun _ h => List.mem_cons.mpr (Or.inr (List.mem_append.mpr (Or.inl (List.mem_append.mpr (Or.inl (List.mem_append.mpr (Or.inr h)))))))
theorem iw_X11_span_X11 : ∀ w ∈ wsX110, w ∈ wsX11_span := fun _ h => List.mem_cons.mpr (Or.inr (List.mem_append.mpr (Or.inl (List.mem_append.mpr (Or.inl (List.mem_append.mpr (Or.inl (List.mem_append.mpr (Or.inr h)))))))))
set_option maxHeartbeats 4000000 in
set_option maxRecDepth 100000 in
theorem kX11_span_1 (l : Launch) (dC : Nat → ClassId) (dI : Nat → Nat → Nat) (cI c2 cZ : ClassId) (o1 : Nat) (o2 : Nat) (o7 : Nat) (o12 : Nat) (o41 : Nat) (o51 : Nat) (o64 : Nat) (o77 : Nat) (o84 : Nat) (o91 : Nat) (o99 : Nat) (o111 : Nat) (o123 : Nat) (o3 : Nat) (o100 : Nat) (o102 : Nat) (o104 : Nat) (o53 : Nat) (o55 : Nat) (o57 : Nat) (o59 : Nat) (fw4 : Nat → Int32) (v5 : Int32) (v6 : Int32) (v52 : Int32) (fw54 : Nat → Int32) (fw56 : Nat → Int32) (v61 : Int32) (v62 : Int32) (v63 : Int32) (fw101 : Nat → Int32) (fw103 : Nat → Int32) (fw105 : Nat → Int32) (v106 : Int32) (v107 : Int32) (v108 : Int32) (v109 : Int32) (v110 : Int32) (v125 : Int32) (a1 : Int32) (a2 : Int32) (sz : Nat) (fw4_b : Bd 12 0 4095 fw4) (v5_h : Iv 0 12 v5) (v52_h : Iv 0 1 v52) (fw54_b : Bd 12 0 4095 fw54) (v61_h : Iv 0 81 v61) (v106_h : Iv 0 12 v106) (v107_h : Iv 0 12 v107) (v109_h : Iv 0 1 v109) (a2_h : Iv 0 1 a2) : Met l yX11_span wsX11_span ({ frames := 17, cells := 0, slots := 0, locals := 425 }) (va_Pc [.ref o1, .int a1, .int a2] (wPre (dC, dI) [(cI, .int), (c2, .array .int), (cZ, .boolean)] ([(o1, .inr (11, [.ref o2, .ref o7, .ref o12, .ref o41, .ref o51, .ref o64, .ref o77, .ref o84, .ref o91, .ref o99, .ref o111, .ref o123, .int v125])), (o2, .inr (4, [.ref o3, .int v5, .int v6])), (o99, .inr (0, [.ref o100, .ref o102, .ref o104, .int v106, .int v107, .int v108, .int v109, .int v110])), (o51, .inr (1, [.int v52, .ref o53, .ref o55, .ref o57, .ref o59, .int v61, .int v62, .int v63])), (o3, .inl (cI, 12, .inl fw4)), (o53, .inl (cI, 12, .inl fw54)), (o55, .inl (cI, 81, .inl fw56)), (o102, .inl (cI, 12, .inl fw103)), (o100, .inl (cI, 4096, .inl fw101)), (o104, .inl (cI, 12, .inl fw105))]) sz)) (va_Qi (fun (r : Int32) (u : Int32 × Int32 × Int32 × Int32 × Int32 × Int32 × (Nat → Int32) × (Nat → Int32) × (Nat → Int32) × (Nat → Int32) × (Nat → Int32)) => Iv (-9) 11 r ∧ Iv 0 12 u.1 ∧ Iv 0 12 u.2.1 ∧ Iv 0 1 u.2.2.1 ∧ Iv 0 81 u.2.2.2.2.1 ∧ Bd 12 0 4095 u.2.2.2.2.2.2.1) (fun u t => wPost (dC, dI) [(cI, .int), (c2, .array .int), (cZ, .boolean)] (va_A ([(o1, .inr (11, [.ref o2, .ref o7, .ref o12, .ref o41, .ref o51, .ref o64, .ref o77, .ref o84, .ref o91, .ref o99, .ref o111, .ref o123, .int v125])), (o2, .inr (4, [.ref o3, .int v5, .int v6])), (o99, .inr (0, [.ref o100, .ref o102, .ref o104, .int v106, .int v107, .int v108, .int v109, .int v110])), (o51, .inr (1, [.int v52, .ref o53, .ref o55, .ref o57, .ref o59, .int v61, .int v62, .int v63])), (o3, .inl (cI, 12, .inl fw4)), (o53, .inl (cI, 12, .inl fw54)), (o55, .inl (cI, 81, .inl fw56)), (o102, .inl (cI, 12, .inl fw103)), (o100, .inl (cI, 4096, .inl fw101)), (o104, .inl (cI, 12, .inl fw105))]) sz) ([(o1, .inr (11, [.ref o2, .ref o7, .ref o12, .ref o41, .ref o51, .ref o64, .ref o77, .ref o84, .ref o91, .ref o99, .ref o111, .ref o123, .int v125])), (o2, .inr (4, [.ref o3, .int v5, .int v6])), (o99, .inr (0, [.ref o100, .ref o102, .ref o104, .int u.1, .int u.2.1, .int v108, .int u.2.2.1, .int u.2.2.2.1])), (o51, .inr (1, [.int v52, .ref o53, .ref o55, .ref o57, .ref o59, .int u.2.2.2.2.1, .int u.2.2.2.2.2.1, .int v63])), (o3, .inl (cI, 12, .inl fw4)), (o53, .inl (cI, 12, .inl u.2.2.2.2.2.2.1)), (o55, .inl (cI, 81, .inl u.2.2.2.2.2.2.2.1)), (o102, .inl (cI, 12, .inl u.2.2.2.2.2.2.2.2.1)), (o100, .inl (cI, 4096, .inl u.2.2.2.2.2.2.2.2.2.1)), (o104, .inl (cI, 12, .inl u.2.2.2.2.2.2.2.2.2.2))]) t) (va_A ([(o1, .inr (11, [.ref o2, .ref o7, .ref o12, .ref o41, .ref o51, .ref o64, .ref o77, .ref o84, .ref o91, .ref o99, .ref o111, .ref o123, .int v125])), (o2, .inr (4, [.ref o3, .int v5, .int v6])), (o99, .inr (0, [.ref o100, .ref o102, .ref o104, .int v106, .int v107, .int v108, .int v109, .int v110])), (o51, .inr (1, [.int v52, .ref o53, .ref o55, .ref o57, .ref o59, .int v61, .int v62, .int v63])), (o3, .inl (cI, 12, .inl fw4)), (o53, .inl (cI, 12, .inl fw54)), (o55, .inl (cI, 81, .inl fw56)), (o102, .inl (cI, 12, .inl fw103)), (o100, .inl (cI, 4096, .inl fw101)), (o104, .inl (cI, 12, .inl fw105))]) sz)) 0 0 (va_A ([(o1, .inr (11, [.ref o2, .ref o7, .ref o12, .ref o41, .ref o51, .ref o64, .ref o77, .ref o84, .ref o91, .ref o99, .ref o111, .ref o123, .int v125])), (o2, .inr (4, [.ref o3, .int v5, .int v6])), (o99, .inr (0, [.ref o100, .ref o102, .ref o104, .int v106, .int v107, .int v108, .int v109, .int v110])), (o51, .inr (1, [.int v52, .ref o53, .ref o55, .ref o57, .ref o59, .int v61, .int v62, .int v63])), (o3, .inl (cI, 12, .inl fw4)), (o53, .inl (cI, 12, .inl fw54)), (o55, .inl (cI, 81, .inl fw56)), (o102, .inl (cI, 12, .inl fw103)), (o100, .inl (cI, 4096, .inl fw101)), (o104, .inl (cI, 12, .inl fw105))]) sz) := by
  refine Met.ofW (cc := cX11_span) (maxL := 3) (ret := (some .int)) (by decide) rfl ?_
  intro p e s m args below meth c s₁ B hml hv
  obtain ⟨rfl, hsz, hP, hK, hD0, hN⟩ := hv
  have hx := B.exec
  have hb := B.bytes
  have hr := B.returns
  have hts := atoms_spec (ws := wsX11_span) B.pre
  have hown : s.vm.findClass RX11 = some m.cls := findClass_of_methodNamed B.named
  have hlocks := B.notSynchronized
  subst hsz
  have hD := hD0.self (sz := s.heap.size)
  generalize hAe : va_A ([(o1, .inr (11, [.ref o2, .ref o7, .ref o12, .ref o41, .ref o51, .ref o64, .ref o77, .ref o84, .ref o91, .ref o99, .ref o111, .ref o123, .int v125])), (o2, .inr (4, [.ref o3, .int v5, .int v6])), (o99, .inr (0, [.ref o100, .ref o102, .ref o104, .int v106, .int v107, .int v108, .int v109, .int v110])), (o51, .inr (1, [.int v52, .ref o53, .ref o55, .ref o57, .ref o59, .int v61, .int v62, .int v63])), (o3, .inl (cI, 12, .inl fw4)), (o53, .inl (cI, 12, .inl fw54)), (o55, .inl (cI, 81, .inl fw56)), (o102, .inl (cI, 12, .inl fw103)), (o100, .inl (cI, 4096, .inl fw101)), (o104, .inl (cI, 12, .inl fw105))]) s.heap.size = A at hD ⊢
  have hA : ∀ q : Nat, s.heap.size ≤ q → A q := fun q h => by rw [← hAe]; exact Or.inr h
  have hS : va_S A s.heap s.heap [] := va_S.rf
  have hP : va_P (dC, dI) vwCl ([(o1, .inr (11, [.ref o2, .ref o7, .ref o12, .ref o41, .ref o51, .ref o64, .ref o77, .ref o84, .ref o91, .ref o99, .ref o111, .ref o123, .int v125])), (o2, .inr (4, [.ref o3, .int v5, .int v6])), (o99, .inr (0, [.ref o100, .ref o102, .ref o104, .int v106, .int v107, .int v108, .int v109, .int v110])), (o51, .inr (1, [.int v52, .ref o53, .ref o55, .ref o57, .ref o59, .int v61, .int v62, .int v63])), (o3, .inl (cI, 12, .inl fw4)), (o53, .inl (cI, 12, .inl fw54)), (o55, .inl (cI, 81, .inl fw56)), (o102, .inl (cI, 12, .inl fw103)), (o100, .inl (cI, 4096, .inl fw101)), (o104, .inl (cI, 12, .inl fw105))]) s.heap := hP
  have hl := lv_entry ([.ref o1, .int a1, .int a2]) (n := 3) (Nat.le_of_ble_eq_true rfl)
  rw [lg_entry_eq]
  generalize (lg_sl ([.ref o1, .int a1, .int a2]) ++ List.replicate (3 - (lg_sl ([.ref o1, .int a1, .int a2])).length) Slot.unset).toArray = ls at hl ⊢
  have hl : lv_has ls 3 [(0, .ref o1), (1, .int a1), (2, .int a2)] := hl
  refine gen_Q (fun Q hQ => ?_)
  refine lv_aload_n hx hb dX11_span_0 rfl (lv_at hl 0 rfl) ?_
  refine va_get (D := (dC, dI)) (ci := 11) (v := .ref o2) (C := RX11) (T := TX11) (N := 13) hx hb hts iw_X11_span_X11 hown hK hP 0 rfl rfl 0 (by decide) (hts (.fieldLink RX11 10 "HolelessHouse" "graph" "LHolelessHouse$Graph;") hm_X11_span_1) (fun _ h9 => h9) rfl dX11_span_1 ?_
  refine lv_iload_n hx hb dX11_span_4 rfl (lv_at hl 1 rfl) ?_
  refine kc_i (D := (dC, dI)) (S := Unit) (wc := [(o2, .inr (4, [.ref o3, .int v5, .int v6]))]) (wr := [(o1, .inr (11, [.ref o2, .ref o7, .ref o12, .ref o41, .ref o51, .ref o64, .ref o77, .ref o84, .ref o91, .ref o99, .ref o111, .ref o123, .int v125])), (o99, .inr (0, [.ref o100, .ref o102, .ref o104, .int v106, .int v107, .int v108, .int v109, .int v110])), (o51, .inr (1, [.int v52, .ref o53, .ref o55, .ref o57, .ref o59, .int v61, .int v62, .int v63])), (o3, .inl (cI, 12, .inl fw4)), (o53, .inl (cI, 12, .inl fw54)), (o55, .inl (cI, 81, .inl fw56)), (o102, .inl (cI, 12, .inl fw103)), (o100, .inl (cI, 4096, .inl fw101)), (o104, .inl (cI, 12, .inl fw105))]) (w1 := fun _ => [(o2, .inr (4, [.ref o3, .int v5, .int v6]))]) (wn := fun _ => [(o1, .inr (11, [.ref o2, .ref o7, .ref o12, .ref o41, .ref o51, .ref o64, .ref o77, .ref o84, .ref o91, .ref o99, .ref o111, .ref o123, .int v125])), (o2, .inr (4, [.ref o3, .int v5, .int v6])), (o99, .inr (0, [.ref o100, .ref o102, .ref o104, .int v106, .int v107, .int v108, .int v109, .int v110])), (o51, .inr (1, [.int v52, .ref o53, .ref o55, .ref o57, .ref o59, .int v61, .int v62, .int v63])), (o3, .inl (cI, 12, .inl fw4)), (o53, .inl (cI, 12, .inl fw54)), (o55, .inl (cI, 81, .inl fw56)), (o102, .inl (cI, 12, .inl fw103)), (o100, .inl (cI, 4096, .inl fw101)), (o104, .inl (cI, 12, .inl fw105))]) (fun hPc hDc => va_runVN (As := [.int a1]) (rest := []) ⟨hx, hb, hml, hown, hts⟩ (kX4_has_1 l dC dI cI c2 cZ o2 o3 v5 v6 a1 s.heap.size v5_h) ⟨va_cnB 1 hts gX11_span_X4_has_n93 rfl rfl rfl (hN.1 _ ns_66) (hts (.initialized RX4) hm_X11_span_4) (by decide +kernel) ⟨Nat.le_of_ble_eq_true rfl, Nat.le_of_ble_eq_true rfl⟩, (hts (.instanceMethod yX4_has) hm_X11_span_3), (hts (.selects RX4 yX4_has yX4_has) hm_X11_span_5)⟩ (pre_V hPc hK hDc hN (ci := 4) (q0 := 0) rfl rfl) rfl rfl hl.1 rfl (lv_room (Nat.le_of_ble_eq_true rfl)) dX11_span_5 ⟨Nat.le_of_ble_eq_true rfl, Nat.le_of_ble_eq_true rfl⟩) hP hD hS hA [1] [0, 2, 3, 4, 5, 6, 7, 8, 9] [0, 9, 1, 2, 3, 4, 5, 6, 7, 8] rfl rfl (by decide +kernel) (by decide +kernel) (by decide +kernel) (by decide +kernel) (fun _ => rfl) (fun x1 _ H locs hq hP hD hS => ?_)
  obtain ⟨x1_h, i2⟩ := hq
  have hP : va_P (dC, dI) vwCl ([(o1, .inr (11, [.ref o2, .ref o7, .ref o12, .ref o41, .ref o51, .ref o64, .ref o77, .ref o84, .ref o91, .ref o99, .ref o111, .ref o123, .int v125])), (o2, .inr (4, [.ref o3, .int v5, .int v6])), (o99, .inr (0, [.ref o100, .ref o102, .ref o104, .int v106, .int v107, .int v108, .int v109, .int v110])), (o51, .inr (1, [.int v52, .ref o53, .ref o55, .ref o57, .ref o59, .int v61, .int v62, .int v63])), (o3, .inl (cI, 12, .inl fw4)), (o53, .inl (cI, 12, .inl fw54)), (o55, .inl (cI, 81, .inl fw56)), (o102, .inl (cI, 12, .inl fw103)), (o100, .inl (cI, 4096, .inl fw101)), (o104, .inl (cI, 12, .inl fw105))]) H := hP
  have hD : va_D A ([(o1, .inr (11, [.ref o2, .ref o7, .ref o12, .ref o41, .ref o51, .ref o64, .ref o77, .ref o84, .ref o91, .ref o99, .ref o111, .ref o123, .int v125])), (o2, .inr (4, [.ref o3, .int v5, .int v6])), (o99, .inr (0, [.ref o100, .ref o102, .ref o104, .int v106, .int v107, .int v108, .int v109, .int v110])), (o51, .inr (1, [.int v52, .ref o53, .ref o55, .ref o57, .ref o59, .int v61, .int v62, .int v63])), (o3, .inl (cI, 12, .inl fw4)), (o53, .inl (cI, 12, .inl fw54)), (o55, .inl (cI, 81, .inl fw56)), (o102, .inl (cI, 12, .inl fw103)), (o100, .inl (cI, 4096, .inl fw101)), (o104, .inl (cI, 12, .inl fw105))]) := hD
  refine lv_if_ne (tgt := 13) hx hb dX11_span_8 (by decide) (fun h3 => ?_) (fun h3 => ?_)
  ·
    have j4 : Iv 1 1 x1 := r_nelo h3 x1_h ik_0 (by decide)
    have j5 : Iv 0 11 a1 := i2 h3
    refine lv_aload_n hx hb dX11_span_13 rfl (lv_at hl 0 rfl) ?_
    refine kc_v (D := (dC, dI)) (S := Int32 × Int32 × Int32 × Int32 × Int32 × Int32 × (Nat → Int32) × (Nat → Int32) × (Nat → Int32) × (Nat → Int32) × (Nat → Int32)) (wc := [(o1, .inr (11, [.ref o2, .ref o7, .ref o12, .ref o41, .ref o51, .ref o64, .ref o77, .ref o84, .ref o91, .ref o99, .ref o111, .ref o123, .int v125])), (o99, .inr (0, [.ref o100, .ref o102, .ref o104, .int v106, .int v107, .int v108, .int v109, .int v110])), (o2, .inr (4, [.ref o3, .int v5, .int v6])), (o51, .inr (1, [.int v52, .ref o53, .ref o55, .ref o57, .ref o59, .int v61, .int v62, .int v63])), (o3, .inl (cI, 12, .inl fw4)), (o53, .inl (cI, 12, .inl fw54)), (o55, .inl (cI, 81, .inl fw56)), (o102, .inl (cI, 12, .inl fw103)), (o100, .inl (cI, 4096, .inl fw101)), (o104, .inl (cI, 12, .inl fw105))]) (wr := []) (w1 := fun u => [(o1, .inr (11, [.ref o2, .ref o7, .ref o12, .ref o41, .ref o51, .ref o64, .ref o77, .ref o84, .ref o91, .ref o99, .ref o111, .ref o123, .int v125])), (o99, .inr (0, [.ref o100, .ref o102, .ref o104, .int u.1, .int u.2.1, .int v108, .int u.2.2.1, .int u.2.2.2.1])), (o2, .inr (4, [.ref o3, .int v5, .int v6])), (o51, .inr (1, [.int v52, .ref o53, .ref o55, .ref o57, .ref o59, .int u.2.2.2.2.1, .int u.2.2.2.2.2.1, .int v63])), (o3, .inl (cI, 12, .inl fw4)), (o53, .inl (cI, 12, .inl u.2.2.2.2.2.2.1)), (o55, .inl (cI, 81, .inl u.2.2.2.2.2.2.2.1)), (o102, .inl (cI, 12, .inl u.2.2.2.2.2.2.2.2.1)), (o100, .inl (cI, 4096, .inl u.2.2.2.2.2.2.2.2.2.1)), (o104, .inl (cI, 12, .inl u.2.2.2.2.2.2.2.2.2.2))]) (wn := fun u => [(o1, .inr (11, [.ref o2, .ref o7, .ref o12, .ref o41, .ref o51, .ref o64, .ref o77, .ref o84, .ref o91, .ref o99, .ref o111, .ref o123, .int v125])), (o2, .inr (4, [.ref o3, .int v5, .int v6])), (o99, .inr (0, [.ref o100, .ref o102, .ref o104, .int u.1, .int u.2.1, .int v108, .int u.2.2.1, .int u.2.2.2.1])), (o51, .inr (1, [.int v52, .ref o53, .ref o55, .ref o57, .ref o59, .int u.2.2.2.2.1, .int u.2.2.2.2.2.1, .int v63])), (o3, .inl (cI, 12, .inl fw4)), (o53, .inl (cI, 12, .inl u.2.2.2.2.2.2.1)), (o55, .inl (cI, 81, .inl u.2.2.2.2.2.2.2.1)), (o102, .inl (cI, 12, .inl u.2.2.2.2.2.2.2.2.1)), (o100, .inl (cI, 4096, .inl u.2.2.2.2.2.2.2.2.2.1)), (o104, .inl (cI, 12, .inl u.2.2.2.2.2.2.2.2.2.2))]) (fun hPc hDc => va_runV (As := []) (rest := []) ⟨hx, hb, hml, hown, hts⟩ (kX11_bringSpans_1 l dC dI cI c2 cZ o1 o2 o7 o12 o41 o51 o64 o77 o84 o91 o99 o111 o123 o100 o102 o104 o3 o53 o55 o57 o59 fw4 v5 v6 v52 fw54 fw56 v61 v62 v63 fw101 fw103 fw105 v106 v107 v108 v109 v110 v125 H.size fw4_b v5_h v52_h fw54_b v61_h v106_h v107_h v109_h) (cwV 0 hts gX11_span_X11_bringSpans rfl rfl rfl (by decide +kernel) ⟨Nat.le_of_ble_eq_true rfl, Nat.le_of_ble_eq_true rfl⟩) (pre_V hPc hK hDc hN (ci := 11) (q0 := 0) rfl rfl) rfl rfl hl.1 rfl (lv_room (Nat.le_of_ble_eq_true rfl)) dX11_span_14 ⟨Nat.le_of_ble_eq_true rfl, Nat.le_of_ble_eq_true rfl⟩) hP hD hS hA [0, 2, 1, 3, 4, 5, 6, 7, 8, 9] [] [0, 2, 1, 3, 4, 5, 6, 7, 8, 9] rfl rfl (by decide +kernel) (by decide +kernel) (by decide +kernel) (by decide +kernel) (fun _ => rfl) (fun u H locs hq hP hD hS => ?_)
    obtain ⟨y6, y7, y8, y9, y10, y11, f12, f13, f14, f15, f16⟩ := u
    obtain ⟨y6_h, y7_h, y8_h, y10_h, f12_b⟩ := hq
    have hP : va_P (dC, dI) vwCl ([(o1, .inr (11, [.ref o2, .ref o7, .ref o12, .ref o41, .ref o51, .ref o64, .ref o77, .ref o84, .ref o91, .ref o99, .ref o111, .ref o123, .int v125])), (o2, .inr (4, [.ref o3, .int v5, .int v6])), (o99, .inr (0, [.ref o100, .ref o102, .ref o104, .int y6, .int y7, .int v108, .int y8, .int y9])), (o51, .inr (1, [.int v52, .ref o53, .ref o55, .ref o57, .ref o59, .int y10, .int y11, .int v63])), (o3, .inl (cI, 12, .inl fw4)), (o53, .inl (cI, 12, .inl f12)), (o55, .inl (cI, 81, .inl f13)), (o102, .inl (cI, 12, .inl f14)), (o100, .inl (cI, 4096, .inl f15)), (o104, .inl (cI, 12, .inl f16))]) H := hP
    have hD : va_D A ([(o1, .inr (11, [.ref o2, .ref o7, .ref o12, .ref o41, .ref o51, .ref o64, .ref o77, .ref o84, .ref o91, .ref o99, .ref o111, .ref o123, .int v125])), (o2, .inr (4, [.ref o3, .int v5, .int v6])), (o99, .inr (0, [.ref o100, .ref o102, .ref o104, .int y6, .int y7, .int v108, .int y8, .int y9])), (o51, .inr (1, [.int v52, .ref o53, .ref o55, .ref o57, .ref o59, .int y10, .int y11, .int v63])), (o3, .inl (cI, 12, .inl fw4)), (o53, .inl (cI, 12, .inl f12)), (o55, .inl (cI, 81, .inl f13)), (o102, .inl (cI, 12, .inl f14)), (o100, .inl (cI, 4096, .inl f15)), (o104, .inl (cI, 12, .inl f16))]) := hD
    refine lv_aload_n hx hb dX11_span_17 rfl (lv_at hl 0 rfl) ?_
    refine va_get (D := (dC, dI)) (ci := 11) (v := .ref o99) (C := RX11) (T := TX11) (N := 13) hx hb hts iw_X11_span_X11 hown hK hP 0 rfl rfl 9 (by decide) (hts (.fieldLink RX11 75 "HolelessHouse" "spans" "LHolelessHouse$Benches;") hm_X11_span_2) (fun _ h9 => h9) rfl dX11_span_18 ?_
    refine va_getN (D := (dC, dI)) (ci := 0) (v := .int y8) (C := RX0) (T := TX0) (N := 8) hx hb hts iw_X11_span_X0 hown hK hP 2 rfl rfl 6 (by decide) (hN.use ns_46) (fun _ h9 => h9) rfl dX11_span_21 ?_
    refine lv_if_ne (tgt := 30) hx hb dX11_span_24 (by decide) (fun h17 => ?_) (fun h17 => ?_)
    ·
      have j18 : Iv 1 1 y8 := r_nelo h17 y8_h ik_0 (by decide)
      refine lv_iload_n hx hb dX11_span_30 rfl (lv_at hl 2 rfl) ?_
      refine lv_if_eq (tgt := 45) hx hb dX11_span_31 (by decide) (fun h19 => ?_) (fun h19 => ?_)
      ·
        have j20 : Iv 0 0 a2 := r_eq h19 ik_0
        refine lv_aload_n hx hb dX11_span_45 rfl (lv_at hl 0 rfl) ?_
        refine va_get (D := (dC, dI)) (ci := 11) (v := .ref o99) (C := RX11) (T := TX11) (N := 13) hx hb hts iw_X11_span_X11 hown hK hP 0 rfl rfl 9 (by decide) (hts (.fieldLink RX11 75 "HolelessHouse" "spans" "LHolelessHouse$Benches;") hm_X11_span_2) (fun _ h9 => h9) rfl dX11_span_46 ?_
        refine lv_iload_n hx hb dX11_span_49 rfl (lv_at hl 1 rfl) ?_
        refine kc_i (D := (dC, dI)) (S := Unit) (wc := [(o99, .inr (0, [.ref o100, .ref o102, .ref o104, .int y6, .int y7, .int v108, .int y8, .int y9])), (o102, .inl (cI, 12, .inl f14)), (o104, .inl (cI, 12, .inl f16))]) (wr := [(o1, .inr (11, [.ref o2, .ref o7, .ref o12, .ref o41, .ref o51, .ref o64, .ref o77, .ref o84, .ref o91, .ref o99, .ref o111, .ref o123, .int v125])), (o2, .inr (4, [.ref o3, .int v5, .int v6])), (o51, .inr (1, [.int v52, .ref o53, .ref o55, .ref o57, .ref o59, .int y10, .int y11, .int v63])), (o3, .inl (cI, 12, .inl fw4)), (o53, .inl (cI, 12, .inl f12)), (o55, .inl (cI, 81, .inl f13)), (o100, .inl (cI, 4096, .inl f15))]) (w1 := fun _ => [(o99, .inr (0, [.ref o100, .ref o102, .ref o104, .int y6, .int y7, .int v108, .int y8, .int y9])), (o102, .inl (cI, 12, .inl f14)), (o104, .inl (cI, 12, .inl f16))]) (wn := fun _ => [(o1, .inr (11, [.ref o2, .ref o7, .ref o12, .ref o41, .ref o51, .ref o64, .ref o77, .ref o84, .ref o91, .ref o99, .ref o111, .ref o123, .int v125])), (o2, .inr (4, [.ref o3, .int v5, .int v6])), (o99, .inr (0, [.ref o100, .ref o102, .ref o104, .int y6, .int y7, .int v108, .int y8, .int y9])), (o51, .inr (1, [.int v52, .ref o53, .ref o55, .ref o57, .ref o59, .int y10, .int y11, .int v63])), (o3, .inl (cI, 12, .inl fw4)), (o53, .inl (cI, 12, .inl f12)), (o55, .inl (cI, 81, .inl f13)), (o102, .inl (cI, 12, .inl f14)), (o100, .inl (cI, 4096, .inl f15)), (o104, .inl (cI, 12, .inl f16))]) (fun hPc hDc => va_runVN (As := [.int a1]) (rest := []) ⟨hx, hb, hml, hown, hts⟩ (kX0_firstOf_1 l dC dI cI c2 cZ o99 o100 o102 o104 f14 f16 y6 y7 v108 y8 y9 a1 H.size y6_h y7_h (iv_w j18 (by decide)) j5) ⟨va_cnB 1 hts gX11_span_X0_firstOf_n241 rfl rfl rfl (hN.1 _ ns_127) (hts (.initialized RX0) hm_X11_span_45) (by decide +kernel) ⟨Nat.le_of_ble_eq_true rfl, Nat.le_of_ble_eq_true rfl⟩, (hts (.instanceMethod yX0_firstOf) hm_X11_span_84), (hts (.selects RX0 yX0_firstOf yX0_firstOf) hm_X11_span_85)⟩ (pre_V hPc hK hDc hN (ci := 0) (q0 := 0) rfl rfl) rfl rfl hl.1 rfl (lv_room (Nat.le_of_ble_eq_true rfl)) dX11_span_50 ⟨Nat.le_of_ble_eq_true rfl, Nat.le_of_ble_eq_true rfl⟩) hP hD hS hA [2, 7, 9] [0, 1, 3, 4, 5, 6, 8] [0, 1, 7, 2, 3, 4, 5, 8, 6, 9] rfl rfl (by decide +kernel) (by decide +kernel) (by decide +kernel) (by decide +kernel) (fun _ => rfl) (fun x21 _ H locs hq hP hD hS => ?_)
        have x21_h := hq
        have hP : va_P (dC, dI) vwCl ([(o1, .inr (11, [.ref o2, .ref o7, .ref o12, .ref o41, .ref o51, .ref o64, .ref o77, .ref o84, .ref o91, .ref o99, .ref o111, .ref o123, .int v125])), (o2, .inr (4, [.ref o3, .int v5, .int v6])), (o99, .inr (0, [.ref o100, .ref o102, .ref o104, .int y6, .int y7, .int v108, .int y8, .int y9])), (o51, .inr (1, [.int v52, .ref o53, .ref o55, .ref o57, .ref o59, .int y10, .int y11, .int v63])), (o3, .inl (cI, 12, .inl fw4)), (o53, .inl (cI, 12, .inl f12)), (o55, .inl (cI, 81, .inl f13)), (o102, .inl (cI, 12, .inl f14)), (o100, .inl (cI, 4096, .inl f15)), (o104, .inl (cI, 12, .inl f16))]) H := hP
        have hD : va_D A ([(o1, .inr (11, [.ref o2, .ref o7, .ref o12, .ref o41, .ref o51, .ref o64, .ref o77, .ref o84, .ref o91, .ref o99, .ref o111, .ref o123, .int v125])), (o2, .inr (4, [.ref o3, .int v5, .int v6])), (o99, .inr (0, [.ref o100, .ref o102, .ref o104, .int y6, .int y7, .int v108, .int y8, .int y9])), (o51, .inr (1, [.int v52, .ref o53, .ref o55, .ref o57, .ref o59, .int y10, .int y11, .int v63])), (o3, .inl (cI, 12, .inl fw4)), (o53, .inl (cI, 12, .inl f12)), (o55, .inl (cI, 81, .inl f13)), (o102, .inl (cI, 12, .inl f14)), (o100, .inl (cI, 4096, .inl f15)), (o104, .inl (cI, 12, .inl f16))]) := hD
        rw [hQ]
        exact W.iret (v := x21) hx hb hr (fun t ht hW => ⟨⟨x21, (y6, y7, y8, y9, y10, y11, f12, f13, f14, f15, f16), rfl, ⟨x21_h, y6_h, y7_h, (iv_w j18 (by decide)), y10_h, f12_b⟩, by rw [ht]; exact hP, va_K.moved hW.alike hK, hD⟩, hS.F ht⟩) hS.2.2 dX11_span_53
      ·
        have j22 : Iv 1 1 a2 := r_nelo h19 a2_h ik_0 (by decide)
        refine lv_aload_n hx hb dX11_span_34 rfl (lv_at hl 0 rfl) ?_
        refine va_get (D := (dC, dI)) (ci := 11) (v := .ref o99) (C := RX11) (T := TX11) (N := 13) hx hb hts iw_X11_span_X11 hown hK hP 0 rfl rfl 9 (by decide) (hts (.fieldLink RX11 75 "HolelessHouse" "spans" "LHolelessHouse$Benches;") hm_X11_span_2) (fun _ h9 => h9) rfl dX11_span_35 ?_
        refine lv_iload_n hx hb dX11_span_38 rfl (lv_at hl 1 rfl) ?_
        refine kc_i (D := (dC, dI)) (S := Unit) (wc := [(o99, .inr (0, [.ref o100, .ref o102, .ref o104, .int y6, .int y7, .int v108, .int y8, .int y9])), (o102, .inl (cI, 12, .inl f14)), (o104, .inl (cI, 12, .inl f16))]) (wr := [(o1, .inr (11, [.ref o2, .ref o7, .ref o12, .ref o41, .ref o51, .ref o64, .ref o77, .ref o84, .ref o91, .ref o99, .ref o111, .ref o123, .int v125])), (o2, .inr (4, [.ref o3, .int v5, .int v6])), (o51, .inr (1, [.int v52, .ref o53, .ref o55, .ref o57, .ref o59, .int y10, .int y11, .int v63])), (o3, .inl (cI, 12, .inl fw4)), (o53, .inl (cI, 12, .inl f12)), (o55, .inl (cI, 81, .inl f13)), (o100, .inl (cI, 4096, .inl f15))]) (w1 := fun _ => [(o99, .inr (0, [.ref o100, .ref o102, .ref o104, .int y6, .int y7, .int v108, .int y8, .int y9])), (o102, .inl (cI, 12, .inl f14)), (o104, .inl (cI, 12, .inl f16))]) (wn := fun _ => [(o1, .inr (11, [.ref o2, .ref o7, .ref o12, .ref o41, .ref o51, .ref o64, .ref o77, .ref o84, .ref o91, .ref o99, .ref o111, .ref o123, .int v125])), (o2, .inr (4, [.ref o3, .int v5, .int v6])), (o99, .inr (0, [.ref o100, .ref o102, .ref o104, .int y6, .int y7, .int v108, .int y8, .int y9])), (o51, .inr (1, [.int v52, .ref o53, .ref o55, .ref o57, .ref o59, .int y10, .int y11, .int v63])), (o3, .inl (cI, 12, .inl fw4)), (o53, .inl (cI, 12, .inl f12)), (o55, .inl (cI, 81, .inl f13)), (o102, .inl (cI, 12, .inl f14)), (o100, .inl (cI, 4096, .inl f15)), (o104, .inl (cI, 12, .inl f16))]) (fun hPc hDc => va_runVN (As := [.int a1]) (rest := []) ⟨hx, hb, hml, hown, hts⟩ (kX0_lastOf_1 l dC dI cI c2 cZ o99 o100 o102 o104 f14 f16 y6 y7 v108 y8 y9 a1 H.size y6_h y7_h (iv_w j18 (by decide)) j5) ⟨va_cnB 1 hts gX11_span_X0_lastOf_n238 rfl rfl rfl (hN.1 _ ns_126) (hts (.initialized RX0) hm_X11_span_45) (by decide +kernel) ⟨Nat.le_of_ble_eq_true rfl, Nat.le_of_ble_eq_true rfl⟩, (hts (.instanceMethod yX0_lastOf) hm_X11_span_81), (hts (.selects RX0 yX0_lastOf yX0_lastOf) hm_X11_span_82)⟩ (pre_V hPc hK hDc hN (ci := 0) (q0 := 0) rfl rfl) rfl rfl hl.1 rfl (lv_room (Nat.le_of_ble_eq_true rfl)) dX11_span_39 ⟨Nat.le_of_ble_eq_true rfl, Nat.le_of_ble_eq_true rfl⟩) hP hD hS hA [2, 7, 9] [0, 1, 3, 4, 5, 6, 8] [0, 1, 7, 2, 3, 4, 5, 8, 6, 9] rfl rfl (by decide +kernel) (by decide +kernel) (by decide +kernel) (by decide +kernel) (fun _ => rfl) (fun x23 _ H locs hq hP hD hS => ?_)
        have x23_h := hq
        have hP : va_P (dC, dI) vwCl ([(o1, .inr (11, [.ref o2, .ref o7, .ref o12, .ref o41, .ref o51, .ref o64, .ref o77, .ref o84, .ref o91, .ref o99, .ref o111, .ref o123, .int v125])), (o2, .inr (4, [.ref o3, .int v5, .int v6])), (o99, .inr (0, [.ref o100, .ref o102, .ref o104, .int y6, .int y7, .int v108, .int y8, .int y9])), (o51, .inr (1, [.int v52, .ref o53, .ref o55, .ref o57, .ref o59, .int y10, .int y11, .int v63])), (o3, .inl (cI, 12, .inl fw4)), (o53, .inl (cI, 12, .inl f12)), (o55, .inl (cI, 81, .inl f13)), (o102, .inl (cI, 12, .inl f14)), (o100, .inl (cI, 4096, .inl f15)), (o104, .inl (cI, 12, .inl f16))]) H := hP
        have hD : va_D A ([(o1, .inr (11, [.ref o2, .ref o7, .ref o12, .ref o41, .ref o51, .ref o64, .ref o77, .ref o84, .ref o91, .ref o99, .ref o111, .ref o123, .int v125])), (o2, .inr (4, [.ref o3, .int v5, .int v6])), (o99, .inr (0, [.ref o100, .ref o102, .ref o104, .int y6, .int y7, .int v108, .int y8, .int y9])), (o51, .inr (1, [.int v52, .ref o53, .ref o55, .ref o57, .ref o59, .int y10, .int y11, .int v63])), (o3, .inl (cI, 12, .inl fw4)), (o53, .inl (cI, 12, .inl f12)), (o55, .inl (cI, 81, .inl f13)), (o102, .inl (cI, 12, .inl f14)), (o100, .inl (cI, 4096, .inl f15)), (o104, .inl (cI, 12, .inl f16))]) := hD
        refine lv_goto (tgt := 53) hx hb dX11_span_42 (by decide) ?_
        rw [hQ]
        exact W.iret (v := x23) hx hb hr (fun t ht hW => ⟨⟨x23, (y6, y7, y8, y9, y10, y11, f12, f13, f14, f15, f16), rfl, ⟨x23_h, y6_h, y7_h, (iv_w j18 (by decide)), y10_h, f12_b⟩, by rw [ht]; exact hP, va_K.moved hW.alike hK, hD⟩, hS.F ht⟩) hS.2.2 dX11_span_53
    ·
      have j24 : Iv 0 0 y8 := r_eq h17 ik_0
      refine lv_bipush (v := (-4)) hx hb dX11_span_27 (by decide) ?_
      rw [hQ]
      exact W.iret (v := (-4)) hx hb hr (fun t ht hW => ⟨⟨(-4), (y6, y7, y8, y9, y10, y11, f12, f13, f14, f15, f16), rfl, ⟨(iv_w ikm_4 (by decide)), y6_h, y7_h, (iv_w j24 (by decide)), y10_h, f12_b⟩, by rw [ht]; exact hP, va_K.moved hW.alike hK, hD⟩, hS.F ht⟩) hS.2.2 dX11_span_29
  ·
    have j25 : Iv 0 0 x1 := r_eq h3 ik_0
    refine lv_iconst (v := (-1)) hx hb dX11_span_11 (by decide) ?_
    rw [hQ]
    exact W.iret (v := (-1)) hx hb hr (fun t ht hW => ⟨⟨(-1), (v106, v107, v109, v110, v61, v62, fw54, fw56, fw103, fw101, fw105), rfl, ⟨(iv_w ikm_1 (by decide)), v106_h, v107_h, v109_h, v61_h, fw54_b⟩, by rw [ht]; exact hP, va_K.moved hW.alike hK, hD⟩, hS.F ht⟩) hS.2.2 dX11_span_12
theorem iw_X2_clearOf_X2 : ∀ w ∈ wsX20, w ∈ wsX2_clearOf := fun _ h => List.mem_cons.mpr (Or.inr (List.mem_append.mpr (Or.inr h)))
theorem iw_X2_clearOf_X4 : ∀ w ∈ wsX40, w ∈ wsX2_clearOf := fun _ h => List.mem_cons.mpr (Or.inr (List.mem_append.mpr (Or.inl (List.mem_append.mpr (Or.inr h)))))
set_option maxHeartbeats 4000000 in
set_option maxRecDepth 100000 in
theorem kX2_clearOf_1 (l : Launch) (dC : Nat → ClassId) (dI : Nat → Nat → Nat) (cI c2 cZ : ClassId) (o1 : Nat) (o9 : Nat) (o10 : Nat) (o2 : Nat) (o5 : Nat) (rw3 : Nat → Nat) (Gw4 : Nat → Nat → Int32) (v7 : Int32) (v8 : Int32) (fw11 : Nat → Int32) (v12 : Int32) (v13 : Int32) (a2 : Int32) (sz : Nat) (v7_h : Iv 0 1 v7) (fw11_b : Bd 12 0 4095 fw11) (v12_h : Iv 0 12 v12) (a2_h : Iv 0 11 a2) : Met l yX2_clearOf wsX2_clearOf ({ frames := 3, cells := 0, slots := 0, locals := 69 }) (va_Pc [.ref o1, .ref o9, .int a2] (wPre (dC, dI) [(cI, .int), (c2, .array .int), (cZ, .boolean)] (([(o9, .inr (4, [.ref o10, .int v12, .int v13])), (o10, .inl (cI, 12, .inl fw11)), (o1, .inr (2, [.ref o2, .ref o5, .int v7, .int v8])), (o2, .inl (c2, 12, .inr (.inr (.inr (.inr (fun i => if i < 12 then some (rw3 i) else none))))))] : va_W) ++ (gr12 rw3 cI 12 Gw4 ++ ([] : va_W))) sz)) (va_Qv (fun (u : (Nat → Nat → Int32)) => True) (fun u t => wPost (dC, dI) [(cI, .int), (c2, .array .int), (cZ, .boolean)] (va_A (([(o9, .inr (4, [.ref o10, .int v12, .int v13])), (o10, .inl (cI, 12, .inl fw11)), (o1, .inr (2, [.ref o2, .ref o5, .int v7, .int v8])), (o2, .inl (c2, 12, .inr (.inr (.inr (.inr (fun i => if i < 12 then some (rw3 i) else none))))))] : va_W) ++ (gr12 rw3 cI 12 Gw4 ++ ([] : va_W))) sz) (([(o9, .inr (4, [.ref o10, .int v12, .int v13])), (o10, .inl (cI, 12, .inl fw11)), (o1, .inr (2, [.ref o2, .ref o5, .int v7, .int v8])), (o2, .inl (c2, 12, .inr (.inr (.inr (.inr (fun i => if i < 12 then some (rw3 i) else none))))))] : va_W) ++ (gr12 rw3 cI 12 u ++ ([] : va_W))) t) (va_A (([(o9, .inr (4, [.ref o10, .int v12, .int v13])), (o10, .inl (cI, 12, .inl fw11)), (o1, .inr (2, [.ref o2, .ref o5, .int v7, .int v8])), (o2, .inl (c2, 12, .inr (.inr (.inr (.inr (fun i => if i < 12 then some (rw3 i) else none))))))] : va_W) ++ (gr12 rw3 cI 12 Gw4 ++ ([] : va_W))) sz)) 0 0 (va_A (([(o9, .inr (4, [.ref o10, .int v12, .int v13])), (o10, .inl (cI, 12, .inl fw11)), (o1, .inr (2, [.ref o2, .ref o5, .int v7, .int v8])), (o2, .inl (c2, 12, .inr (.inr (.inr (.inr (fun i => if i < 12 then some (rw3 i) else none))))))] : va_W) ++ (gr12 rw3 cI 12 Gw4 ++ ([] : va_W))) sz) := by
  refine Met.ofW (cc := cX2_clearOf) (maxL := 5) (ret := none) (by decide) rfl ?_
  intro p e s m args below meth c s₁ B hml hv
  obtain ⟨rfl, hsz, hP, hK, hD0, hN⟩ := hv
  have hx := B.exec
  have hb := B.bytes
  have hr := B.returns
  have hts := atoms_spec (ws := wsX2_clearOf) B.pre
  have hown : s.vm.findClass RX2 = some m.cls := findClass_of_methodNamed B.named
  have hlocks := B.notSynchronized
  subst hsz
  have hD := hD0.self (sz := s.heap.size)
  generalize hAe : va_A (([(o9, .inr (4, [.ref o10, .int v12, .int v13])), (o10, .inl (cI, 12, .inl fw11)), (o1, .inr (2, [.ref o2, .ref o5, .int v7, .int v8])), (o2, .inl (c2, 12, .inr (.inr (.inr (.inr (fun i => if i < 12 then some (rw3 i) else none))))))] : va_W) ++ (gr12 rw3 cI 12 Gw4 ++ ([] : va_W))) s.heap.size = A at hD ⊢
  have hA : ∀ q : Nat, s.heap.size ≤ q → A q := fun q h => by rw [← hAe]; exact Or.inr h
  have hS : va_S A s.heap s.heap [] := va_S.rf
  have hP : va_P (dC, dI) vwCl (([(o9, .inr (4, [.ref o10, .int v12, .int v13])), (o10, .inl (cI, 12, .inl fw11)), (o1, .inr (2, [.ref o2, .ref o5, .int v7, .int v8])), (o2, .inl (c2, 12, .inr (.inr (.inr (.inr (fun i => if i < 12 then some (rw3 i) else none))))))] : va_W) ++ (gr12 rw3 cI 12 Gw4 ++ ([] : va_W))) s.heap := hP
  have hl := lv_entry ([.ref o1, .ref o9, .int a2]) (n := 5) (Nat.le_of_ble_eq_true rfl)
  rw [lg_entry_eq]
  generalize (lg_sl ([.ref o1, .ref o9, .int a2]) ++ List.replicate (5 - (lg_sl ([.ref o1, .ref o9, .int a2])).length) Slot.unset).toArray = ls at hl ⊢
  have hl : lv_has ls 5 [(0, .ref o1), (1, .ref o9), (2, .int a2)] := hl
  refine gen_Q (fun Q hQ => ?_)
  refine lv_aload_n hx hb dX2_clearOf_0 rfl (lv_at hl 1 rfl) ?_
  refine kc_i (D := (dC, dI)) (S := Unit) (wc := [(o9, .inr (4, [.ref o10, .int v12, .int v13]))]) (wr := ([(o10, .inl (cI, 12, .inl fw11)), (o1, .inr (2, [.ref o2, .ref o5, .int v7, .int v8])), (o2, .inl (c2, 12, .inr (.inr (.inr (.inr (fun i => if i < 12 then some (rw3 i) else none))))))] : va_W) ++ (gr12 rw3 cI 12 Gw4 ++ ([] : va_W))) (w1 := fun _ => [(o9, .inr (4, [.ref o10, .int v12, .int v13]))]) (wn := fun _ => ([(o9, .inr (4, [.ref o10, .int v12, .int v13])), (o10, .inl (cI, 12, .inl fw11)), (o1, .inr (2, [.ref o2, .ref o5, .int v7, .int v8])), (o2, .inl (c2, 12, .inr (.inr (.inr (.inr (fun i => if i < 12 then some (rw3 i) else none))))))] : va_W) ++ (gr12 rw3 cI 12 Gw4 ++ ([] : va_W))) (fun hPc hDc => va_runVN (As := []) (rest := []) ⟨hx, hb, hml, hown, hts⟩ (kX4_all_1 l dC dI cI c2 cZ o9 o10 v12 v13 s.heap.size v12_h) ⟨va_cnB 0 hts gX2_clearOf_X4_all_n44 rfl rfl rfl (hN.1 _ ns_129) (hts (.initialized RX4) hm_X2_clearOf_3) (by decide +kernel) ⟨Nat.le_of_ble_eq_true rfl, Nat.le_of_ble_eq_true rfl⟩, (hts (.instanceMethod yX4_all) hm_X2_clearOf_2), (hts (.selects RX4 yX4_all yX4_all) hm_X2_clearOf_4)⟩ (pre_V hPc hK hDc hN (ci := 4) (q0 := 0) rfl rfl) rfl rfl hl.1 rfl (lv_room (Nat.le_of_ble_eq_true rfl)) dX2_clearOf_1 ⟨Nat.le_of_ble_eq_true rfl, Nat.le_of_ble_eq_true rfl⟩) hP hD hS hA [0] [1, 2, 3, 4, 5, 6, 7, 8, 9, 10, 11, 12, 13, 14, 15] [15, 0, 1, 2, 3, 4, 5, 6, 7, 8, 9, 10, 11, 12, 13, 14] rfl rfl (by decide +kernel) (by decide +kernel) (by decide +kernel) (by decide +kernel) (fun _ => rfl) (fun x1 _ H locs hq hP hD hS => ?_)
  have x1_h := hq
  have hP : va_P (dC, dI) vwCl (([(o9, .inr (4, [.ref o10, .int v12, .int v13])), (o10, .inl (cI, 12, .inl fw11)), (o1, .inr (2, [.ref o2, .ref o5, .int v7, .int v8])), (o2, .inl (c2, 12, .inr (.inr (.inr (.inr (fun i => if i < 12 then some (rw3 i) else none))))))] : va_W) ++ (gr12 rw3 cI 12 Gw4 ++ ([] : va_W))) H := hP
  have hD : va_D A (([(o9, .inr (4, [.ref o10, .int v12, .int v13])), (o10, .inl (cI, 12, .inl fw11)), (o1, .inr (2, [.ref o2, .ref o5, .int v7, .int v8])), (o2, .inl (c2, 12, .inr (.inr (.inr (.inr (fun i => if i < 12 then some (rw3 i) else none))))))] : va_W) ++ (gr12 rw3 cI 12 Gw4 ++ ([] : va_W))) := hD
  refine lv_aload_n hx hb dX2_clearOf_4 rfl (lv_at hl 1 rfl) ?_
  refine va_getN (D := (dC, dI)) (ci := 4) (v := .ref o10) (C := RX4) (T := TX4) (N := 3) hx hb hts iw_X2_clearOf_X4 hown hK hP 0 rfl rfl 0 (by decide) (hN.use ns_2) (fun _ h9 => h9) rfl dX2_clearOf_5 ?_
  refine lv_iload_n hx hb dX2_clearOf_8 rfl (lv_at hl 2 rfl) ?_
  refine va_iald hx hb hK hP 1 0 rfl rfl (vin_iv a2_h (by decide)) dX2_clearOf_9 (lv_topi (fun x2 x2_e => ?_))
  have x2_h : Iv 0 4095 x2 := iv_e x2_e (bd_at fw11_b (vin_iv a2_h (by decide)))
  refine lv_iconst (v := (-1)) hx hb dX2_clearOf_10 (by decide) ?_
  refine lv_ixor hx hb dX2_clearOf_11 (lv_topi (fun x3 x3_e => ?_))
  refine lv_iand hx hb dX2_clearOf_12 (lv_topi (fun x4 x4_e => ?_))
  have x4_h : Iv 0 4095 x4 := iv_e x4_e (iv_andL _ x1_h (by decide))
  refine lv_iconst (v := 1) hx hb dX2_clearOf_13 (by decide) ?_
  refine lv_iload_n hx hb dX2_clearOf_14 rfl (lv_at hl 2 rfl) ?_
  refine lv_ishl hx hb dX2_clearOf_15 (lv_topi (fun x5 x5_e => ?_))
  have x5_h : Iv 1 2048 x5 := iv_e x5_e (iv_shl1 a2_h (by decide))
  refine lv_iconst (v := (-1)) hx hb dX2_clearOf_16 (by decide) ?_
  refine lv_ixor hx hb dX2_clearOf_17 (lv_topi (fun x6 x6_e => ?_))
  refine lv_iand hx hb dX2_clearOf_18 (lv_topi (fun x7 x7_e => ?_))
  have x7_h : Iv 0 4095 x7 := iv_e x7_e (iv_andL _ x4_h (by decide))
  refine lv_istore_n (lv' := [(3, .int x7), (0, .ref o1), (1, .ref o9), (2, .int a2)]) hx hb dX2_clearOf_19 rfl hl (by decide) rfl (fun ls hl => ?_)
  refine lv_iconst (v := 0) hx hb dX2_clearOf_20 (by decide) ?_
  refine lv_istore (lv' := [(4, .int 0), (3, .int x7), (0, .ref o1), (1, .ref o9), (2, .int a2)]) hx hb dX2_clearOf_21 hl (by decide) rfl (fun ls hl => ?_)
  have L1 : ∀ (N : Nat) (x132 : Int32) (G133 : Nat → Nat → Int32) (H : Heap) (locs : List Loc) (ls : Array Slot), (12 - x132.toInt).toNat < N → Iv 0 12 x132 → va_P (dC, dI) vwCl (([(o9, .inr (4, [.ref o10, .int v12, .int v13])), (o10, .inl (cI, 12, .inl fw11)), (o1, .inr (2, [.ref o2, .ref o5, .int v7, .int v8])), (o2, .inl (c2, 12, .inr (.inr (.inr (.inr (fun i => if i < 12 then some (rw3 i) else none))))))] : va_W) ++ (gr12 rw3 cI 12 G133 ++ ([] : va_W))) H → va_D A (([(o9, .inr (4, [.ref o10, .int v12, .int v13])), (o10, .inl (cI, 12, .inl fw11)), (o1, .inr (2, [.ref o2, .ref o5, .int v7, .int v8])), (o2, .inl (c2, 12, .inr (.inr (.inr (.inr (fun i => if i < 12 then some (rw3 i) else none))))))] : va_W) ++ (gr12 rw3 cI 12 G133 ++ ([] : va_W))) → va_S A s.heap H locs → lv_has ls 5 [(4, .int x132), (3, .int x7), (0, .ref o1), (1, .ref o9), (2, .int a2)] → W p l e ({ frames := 3, cells := 0, slots := 0, locals := 69 }) s m ([.ref o1, .ref o9, .int a2] : List Value).toArray below meth c H locs 0 0 Q (F0 m 23 ls []) := by
    intro N
    induction N with
    | zero =>
      intro x132 G133 H locs ls hM
      exact absurd hM (Nat.not_lt_zero _)
    | succ N ih1 =>
      intro x132 G133 H locs ls hM1 x132_h hP hD hS hl
      refine lv_iload hx hb dX2_clearOf_23 (lv_at hl 0 rfl) ?_
      refine lv_aload_n hx hb dX2_clearOf_25 rfl (lv_at hl 3 rfl) ?_
      refine va_getN (D := (dC, dI)) (ci := 4) (v := .int v12) (C := RX4) (T := TX4) (N := 3) hx hb hts iw_X2_clearOf_X4 hown hK hP 0 rfl rfl 1 (by decide) (hN.use ns_9) (fun _ h9 => h9) rfl dX2_clearOf_26 ?_
      refine lv_icmp_ge (tgt := 67) hx hb dX2_clearOf_29 (by decide) (fun h134 => ?_) (fun h134 => ?_)
      ·
        have qh134 := le_i h134
        rw [hQ]
        exact W.vret hx hb hr (fun t ht hW => ⟨⟨G133, rfl, trivial, by rw [ht]; exact hP, va_K.moved hW.alike hK, hD⟩, hS.F ht⟩) hS.2.2 dX2_clearOf_67
      ·
        have qh134 := nle_i h134
        have j135 : Iv 0 11 x132 := r_ltl qh134 x132_h v12_h (by decide)
        have j136 : Iv 1 12 v12 := r_ltr qh134 x132_h v12_h (by decide)
        refine lv_aload_n hx hb dX2_clearOf_32 rfl (lv_at hl 2 rfl) ?_
        refine va_get (D := (dC, dI)) (ci := 2) (v := .ref o2) (C := RX2) (T := TX2) (N := 4) hx hb hts iw_X2_clearOf_X2 hown hK hP 2 rfl rfl 0 (by decide) (hts (.fieldLink RX2 11 "HolelessHouse$FarThree" "clear" "[[I") hm_X2_clearOf_1) (fun _ h9 => h9) rfl dX2_clearOf_33 ?_
        refine lv_iload_n hx hb dX2_clearOf_36 rfl (lv_at hl 4 rfl) ?_
        refine va_alda hx hb hK hP 3 1 rfl rfl (vin_iv a2_h (by decide)) dX2_clearOf_37 (tk_r (v := .ref (rw3 (Int32.toNatClampNeg a2))) (gr_ref (cl_lt a2_h (by decide))) ?_)
        refine lv_iload hx hb dX2_clearOf_38 (lv_at hl 0 rfl) ?_
        refine lv_iload_n hx hb dX2_clearOf_40 rfl (lv_at hl 1 rfl) ?_
        refine lv_iload hx hb dX2_clearOf_41 (lv_at hl 0 rfl) ?_
        refine kc_i (D := (dC, dI)) (S := Unit) (wc := []) (wr := ([(o9, .inr (4, [.ref o10, .int v12, .int v13])), (o10, .inl (cI, 12, .inl fw11)), (o1, .inr (2, [.ref o2, .ref o5, .int v7, .int v8])), (o2, .inl (c2, 12, .inr (.inr (.inr (.inr (fun i => if i < 12 then some (rw3 i) else none))))))] : va_W) ++ (gr12 rw3 cI 12 G133 ++ ([] : va_W))) (w1 := fun _ => []) (wn := fun _ => ([(o9, .inr (4, [.ref o10, .int v12, .int v13])), (o10, .inl (cI, 12, .inl fw11)), (o1, .inr (2, [.ref o2, .ref o5, .int v7, .int v8])), (o2, .inl (c2, 12, .inr (.inr (.inr (.inr (fun i => if i < 12 then some (rw3 i) else none))))))] : va_W) ++ (gr12 rw3 cI 12 G133 ++ ([] : va_W))) (fun hPc hDc => va_runSN (As := [.int x7, .int x132]) (rest := [.int x132, .ref (rw3 (Int32.toNatClampNeg a2))]) ⟨hx, hb, hml, hown, hts⟩ (kX11_in_1 l dC dI cI c2 cZ x7 x132 H.size) ⟨va_cnB 2 hts gX2_clearOf_X11_in_n51 rfl rfl rfl (hN.1 _ ns_130) (hts (.initialized RX11) hm_X2_clearOf_8) (by decide +kernel) ⟨Nat.le_of_ble_eq_true rfl, Nat.le_of_ble_eq_true rfl⟩, (hts (.static yX11_in) hm_X2_clearOf_7), trivial⟩ (pre_S hPc hK hDc hN) rfl rfl hl.1 rfl (lv_room (Nat.le_of_ble_eq_true rfl)) dX2_clearOf_43 ⟨Nat.le_of_ble_eq_true rfl, Nat.le_of_ble_eq_true rfl⟩) hP hD hS hA [] [0, 1, 2, 3, 4, 5, 6, 7, 8, 9, 10, 11, 12, 13, 14, 15] [0, 1, 2, 3, 4, 5, 6, 7, 8, 9, 10, 11, 12, 13, 14, 15] rfl rfl (by decide +kernel) (by decide +kernel) (by decide +kernel) (by decide +kernel) (fun _ => rfl) (fun x137 _ H locs hq hP hD hS => ?_)
        have x137_h := hq
        have hP : va_P (dC, dI) vwCl (([(o9, .inr (4, [.ref o10, .int v12, .int v13])), (o10, .inl (cI, 12, .inl fw11)), (o1, .inr (2, [.ref o2, .ref o5, .int v7, .int v8])), (o2, .inl (c2, 12, .inr (.inr (.inr (.inr (fun i => if i < 12 then some (rw3 i) else none))))))] : va_W) ++ (gr12 rw3 cI 12 G133 ++ ([] : va_W))) H := hP
        have hD : va_D A (([(o9, .inr (4, [.ref o10, .int v12, .int v13])), (o10, .inl (cI, 12, .inl fw11)), (o1, .inr (2, [.ref o2, .ref o5, .int v7, .int v8])), (o2, .inl (c2, 12, .inr (.inr (.inr (.inr (fun i => if i < 12 then some (rw3 i) else none))))))] : va_W) ++ (gr12 rw3 cI 12 G133 ++ ([] : va_W))) := hD
        refine lv_if_eq (tgt := 59) hx hb dX2_clearOf_46 (by decide) (fun h138 => ?_) (fun h138 => ?_)
        ·
          have j139 : Iv 0 0 x137 := r_eq h138 ik_0
          refine lv_iconst (v := 0) hx hb dX2_clearOf_59 (by decide) ?_
          refine k_gast12 (i0 := (Int32.toNatClampNeg a2)) hx hb hK (pre := ([(o9, .inr (4, [.ref o10, .int v12, .int v13])), (o10, .inl (cI, 12, .inl fw11)), (o1, .inr (2, [.ref o2, .ref o5, .int v7, .int v8])), (o2, .inl (c2, 12, .inr (.inr (.inr (.inr (fun i => if i < 12 then some (rw3 i) else none))))))] : va_W)) (po := ([] : va_W)) hP hD hS rfl (cl_lt a2_h (by decide)) 0 rfl (vin_iv j135 (by decide)) dX2_clearOf_60 (fun f140 G141 H locs f140_e G141_e hP hD hS => ?_)
          have hP : va_P (dC, dI) vwCl (([(o9, .inr (4, [.ref o10, .int v12, .int v13])), (o10, .inl (cI, 12, .inl fw11)), (o1, .inr (2, [.ref o2, .ref o5, .int v7, .int v8])), (o2, .inl (c2, 12, .inr (.inr (.inr (.inr (fun i => if i < 12 then some (rw3 i) else none))))))] : va_W) ++ (gr12 rw3 cI 12 G141 ++ ([] : va_W))) H := by simpa only [List.append_assoc] using hP
          have hD : va_D A (([(o9, .inr (4, [.ref o10, .int v12, .int v13])), (o10, .inl (cI, 12, .inl fw11)), (o1, .inr (2, [.ref o2, .ref o5, .int v7, .int v8])), (o2, .inl (c2, 12, .inr (.inr (.inr (.inr (fun i => if i < 12 then some (rw3 i) else none))))))] : va_W) ++ (gr12 rw3 cI 12 G141 ++ ([] : va_W))) := by simpa only [List.append_assoc] using hD
          obtain ⟨x142, x142_e⟩ : ∃ z : Int32, z = x132 + 1 := ⟨_, rfl⟩
          have x142_h : Iv 1 12 x142 := iv_e x142_e (iv_add j135 ik_1 (by decide))
          refine lv_iinc (v := x142) (lv' := [(4, .int x142), (3, .int x7), (0, .ref o1), (1, .ref o9), (2, .int a2)]) hx hb dX2_clearOf_61 hl (k := 0) rfl (incN (by decide +kernel) x142_e) (by decide) rfl (fun ls hl => ?_)
          refine lv_goto (tgt := 23) hx hb dX2_clearOf_64 (by decide) ?_
          exact ih1 x142 G141 _ _ _ (ms_up x142_e j135 (by decide) hM1) (iv_w x142_h (by decide)) hP hD hS hl
        ·
          have j143 : Iv 1 1 x137 := r_nelo h138 x137_h ik_0 (by decide)
          refine lv_aload_n hx hb dX2_clearOf_49 rfl (lv_at hl 3 rfl) ?_
          refine lv_iload hx hb dX2_clearOf_50 (lv_at hl 0 rfl) ?_
          refine lv_iload_n hx hb dX2_clearOf_52 rfl (lv_at hl 1 rfl) ?_
          refine kc_i (D := (dC, dI)) (S := Unit) (wc := [(o9, .inr (4, [.ref o10, .int v12, .int v13])), (o10, .inl (cI, 12, .inl fw11))]) (wr := ([(o1, .inr (2, [.ref o2, .ref o5, .int v7, .int v8])), (o2, .inl (c2, 12, .inr (.inr (.inr (.inr (fun i => if i < 12 then some (rw3 i) else none))))))] : va_W) ++ (gr12 rw3 cI 12 G133 ++ ([] : va_W))) (w1 := fun _ => [(o9, .inr (4, [.ref o10, .int v12, .int v13])), (o10, .inl (cI, 12, .inl fw11))]) (wn := fun _ => ([(o9, .inr (4, [.ref o10, .int v12, .int v13])), (o10, .inl (cI, 12, .inl fw11)), (o1, .inr (2, [.ref o2, .ref o5, .int v7, .int v8])), (o2, .inl (c2, 12, .inr (.inr (.inr (.inr (fun i => if i < 12 then some (rw3 i) else none))))))] : va_W) ++ (gr12 rw3 cI 12 G133 ++ ([] : va_W))) (fun hPc hDc => va_runVN (As := [.int x132, .int x7]) (rest := [.int x132, .ref (rw3 (Int32.toNatClampNeg a2))]) ⟨hx, hb, hml, hown, hts⟩ (kX4_reach_1 l dC dI cI c2 cZ o9 o10 fw11 v12 v13 x132 x7 H.size fw11_b (iv_w j136 (by decide)) j135 x7_h) ⟨va_cnB 2 hts gX2_clearOf_X4_reach_n55 rfl rfl rfl (hN.1 _ ns_131) (hts (.initialized RX4) hm_X2_clearOf_3) (by decide +kernel) ⟨Nat.le_of_ble_eq_true rfl, Nat.le_of_ble_eq_true rfl⟩, (hts (.instanceMethod yX4_reach) hm_X2_clearOf_10), (hts (.selects RX4 yX4_reach yX4_reach) hm_X2_clearOf_11)⟩ (pre_V hPc hK hDc hN (ci := 4) (q0 := 0) rfl rfl) rfl rfl hl.1 rfl (lv_room (Nat.le_of_ble_eq_true rfl)) dX2_clearOf_53 ⟨Nat.le_of_ble_eq_true rfl, Nat.le_of_ble_eq_true rfl⟩) hP hD hS hA [0, 1] [2, 3, 4, 5, 6, 7, 8, 9, 10, 11, 12, 13, 14, 15] [14, 15, 0, 1, 2, 3, 4, 5, 6, 7, 8, 9, 10, 11, 12, 13] rfl rfl (by decide +kernel) (by decide +kernel) (by decide +kernel) (by decide +kernel) (fun _ => rfl) (fun x144 _ H locs hq hP hD hS => ?_)
          have x144_h := hq
          have hP : va_P (dC, dI) vwCl (([(o9, .inr (4, [.ref o10, .int v12, .int v13])), (o10, .inl (cI, 12, .inl fw11)), (o1, .inr (2, [.ref o2, .ref o5, .int v7, .int v8])), (o2, .inl (c2, 12, .inr (.inr (.inr (.inr (fun i => if i < 12 then some (rw3 i) else none))))))] : va_W) ++ (gr12 rw3 cI 12 G133 ++ ([] : va_W))) H := hP
          have hD : va_D A (([(o9, .inr (4, [.ref o10, .int v12, .int v13])), (o10, .inl (cI, 12, .inl fw11)), (o1, .inr (2, [.ref o2, .ref o5, .int v7, .int v8])), (o2, .inl (c2, 12, .inr (.inr (.inr (.inr (fun i => if i < 12 then some (rw3 i) else none))))))] : va_W) ++ (gr12 rw3 cI 12 G133 ++ ([] : va_W))) := hD
          refine lv_goto (tgt := 60) hx hb dX2_clearOf_56 (by decide) ?_
          refine k_gast12 (i0 := (Int32.toNatClampNeg a2)) hx hb hK (pre := ([(o9, .inr (4, [.ref o10, .int v12, .int v13])), (o10, .inl (cI, 12, .inl fw11)), (o1, .inr (2, [.ref o2, .ref o5, .int v7, .int v8])), (o2, .inl (c2, 12, .inr (.inr (.inr (.inr (fun i => if i < 12 then some (rw3 i) else none))))))] : va_W)) (po := ([] : va_W)) hP hD hS rfl (cl_lt a2_h (by decide)) 0 rfl (vin_iv j135 (by decide)) dX2_clearOf_60 (fun f145 G146 H locs f145_e G146_e hP hD hS => ?_)
          have hP : va_P (dC, dI) vwCl (([(o9, .inr (4, [.ref o10, .int v12, .int v13])), (o10, .inl (cI, 12, .inl fw11)), (o1, .inr (2, [.ref o2, .ref o5, .int v7, .int v8])), (o2, .inl (c2, 12, .inr (.inr (.inr (.inr (fun i => if i < 12 then some (rw3 i) else none))))))] : va_W) ++ (gr12 rw3 cI 12 G146 ++ ([] : va_W))) H := by simpa only [List.append_assoc] using hP
          have hD : va_D A (([(o9, .inr (4, [.ref o10, .int v12, .int v13])), (o10, .inl (cI, 12, .inl fw11)), (o1, .inr (2, [.ref o2, .ref o5, .int v7, .int v8])), (o2, .inl (c2, 12, .inr (.inr (.inr (.inr (fun i => if i < 12 then some (rw3 i) else none))))))] : va_W) ++ (gr12 rw3 cI 12 G146 ++ ([] : va_W))) := by simpa only [List.append_assoc] using hD
          obtain ⟨x147, x147_e⟩ : ∃ z : Int32, z = x132 + 1 := ⟨_, rfl⟩
          have x147_h : Iv 1 12 x147 := iv_e x147_e (iv_add j135 ik_1 (by decide))
          refine lv_iinc (v := x147) (lv' := [(4, .int x147), (3, .int x7), (0, .ref o1), (1, .ref o9), (2, .int a2)]) hx hb dX2_clearOf_61 hl (k := 0) rfl (incN (by decide +kernel) x147_e) (by decide) rfl (fun ls hl => ?_)
          refine lv_goto (tgt := 23) hx hb dX2_clearOf_64 (by decide) ?_
          exact ih1 x147 G146 _ _ _ (ms_up x147_e j135 (by decide) hM1) (iv_w x147_h (by decide)) hP hD hS hl
  exact L1 _ 0 Gw4 _ _ _ (Nat.lt_succ_self _) (iv_w ik_0 (by decide)) hP hD hS hl
theorem iw_X2_lookFor_X2 : ∀ w ∈ wsX20, w ∈ wsX2_lookFor := fun _ h => List.mem_cons.mpr (Or.inr (List.mem_append.mpr (Or.inr h)))
set_option maxHeartbeats 4000000 in
set_option maxRecDepth 100000 in
theorem kX2_lookFor_1 (l : Launch) (dC : Nat → ClassId) (dI : Nat → Nat → Nat) (cI c2 cZ : ClassId) (o1 : Nat) (o2 : Nat) (o5 : Nat) (rw3 : Nat → Nat) (Gw4 : Nat → Nat → Int32) (fw6 : Nat → Int32) (v7 : Int32) (v8 : Int32) (a1 : Int32) (sz : Nat) (v7_h : Iv 0 1 v7) (a1_h : Iv 0 12 a1) : Met l yX2_lookFor wsX2_lookFor ({ frames := 1, cells := 0, slots := 0, locals := 21 }) (va_Pc [.ref o1, .int a1] (wPre (dC, dI) [(cI, .int), (c2, .array .int), (cZ, .boolean)] (([(o1, .inr (2, [.ref o2, .ref o5, .int v7, .int v8])), (o2, .inl (c2, 12, .inr (.inr (.inr (.inr (fun i => if i < 12 then some (rw3 i) else none)))))), (o5, .inl (cI, 3, .inl fw6))] : va_W) ++ (gr12 rw3 cI 12 Gw4 ++ ([] : va_W))) sz)) (va_Qi (fun (r : Int32) (u : (Nat → Int32)) => Iv 0 1 r ∧ (¬ r = 0 → Iv 3 12 a1)) (fun u t => wPost (dC, dI) [(cI, .int), (c2, .array .int), (cZ, .boolean)] (va_A (([(o1, .inr (2, [.ref o2, .ref o5, .int v7, .int v8])), (o2, .inl (c2, 12, .inr (.inr (.inr (.inr (fun i => if i < 12 then some (rw3 i) else none)))))), (o5, .inl (cI, 3, .inl fw6))] : va_W) ++ (gr12 rw3 cI 12 Gw4 ++ ([] : va_W))) sz) (([(o1, .inr (2, [.ref o2, .ref o5, .int v7, .int v8])), (o2, .inl (c2, 12, .inr (.inr (.inr (.inr (fun i => if i < 12 then some (rw3 i) else none)))))), (o5, .inl (cI, 3, .inl u))] : va_W) ++ (gr12 rw3 cI 12 Gw4 ++ ([] : va_W))) t) (va_A (([(o1, .inr (2, [.ref o2, .ref o5, .int v7, .int v8])), (o2, .inl (c2, 12, .inr (.inr (.inr (.inr (fun i => if i < 12 then some (rw3 i) else none)))))), (o5, .inl (cI, 3, .inl fw6))] : va_W) ++ (gr12 rw3 cI 12 Gw4 ++ ([] : va_W))) sz)) 0 0 (va_A (([(o1, .inr (2, [.ref o2, .ref o5, .int v7, .int v8])), (o2, .inl (c2, 12, .inr (.inr (.inr (.inr (fun i => if i < 12 then some (rw3 i) else none)))))), (o5, .inl (cI, 3, .inl fw6))] : va_W) ++ (gr12 rw3 cI 12 Gw4 ++ ([] : va_W))) sz) := by
  refine Met.ofW (cc := cX2_lookFor) (maxL := 5) (ret := (some .boolean)) (by decide) rfl ?_
  intro p e s m args below meth c s₁ B hml hv
  obtain ⟨rfl, hsz, hP, hK, hD0, hN⟩ := hv
  have hx := B.exec
  have hb := B.bytes
  have hr := B.returns
  have hts := atoms_spec (ws := wsX2_lookFor) B.pre
  have hown : s.vm.findClass RX2 = some m.cls := findClass_of_methodNamed B.named
  have hlocks := B.notSynchronized
  subst hsz
  have hD := hD0.self (sz := s.heap.size)
  generalize hAe : va_A (([(o1, .inr (2, [.ref o2, .ref o5, .int v7, .int v8])), (o2, .inl (c2, 12, .inr (.inr (.inr (.inr (fun i => if i < 12 then some (rw3 i) else none)))))), (o5, .inl (cI, 3, .inl fw6))] : va_W) ++ (gr12 rw3 cI 12 Gw4 ++ ([] : va_W))) s.heap.size = A at hD ⊢
  have hA : ∀ q : Nat, s.heap.size ≤ q → A q := fun q h => by rw [← hAe]; exact Or.inr h
  have hS : va_S A s.heap s.heap [] := va_S.rf
  have hP : va_P (dC, dI) vwCl (([(o1, .inr (2, [.ref o2, .ref o5, .int v7, .int v8])), (o2, .inl (c2, 12, .inr (.inr (.inr (.inr (fun i => if i < 12 then some (rw3 i) else none)))))), (o5, .inl (cI, 3, .inl fw6))] : va_W) ++ (gr12 rw3 cI 12 Gw4 ++ ([] : va_W))) s.heap := hP
  have hl := lv_entry ([.ref o1, .int a1]) (n := 5) (Nat.le_of_ble_eq_true rfl)
  rw [lg_entry_eq]
  generalize (lg_sl ([.ref o1, .int a1]) ++ List.replicate (5 - (lg_sl ([.ref o1, .int a1])).length) Slot.unset).toArray = ls at hl ⊢
  have hl : lv_has ls 5 [(0, .ref o1), (1, .int a1)] := hl
  refine gen_Q (fun Q hQ => ?_)
  refine lv_iconst (v := 0) hx hb dX2_lookFor_0 (by decide) ?_
  refine lv_istore_n (lv' := [(2, .int 0), (0, .ref o1), (1, .int a1)]) hx hb dX2_lookFor_1 rfl hl (by decide) rfl (fun ls hl => ?_)
  have L50 : ∀ (N : Nat) (x4141 : Int32) (H : Heap) (locs : List Loc) (ls : Array Slot), (12 - x4141.toInt).toNat < N → Iv 0 12 x4141 → va_P (dC, dI) vwCl (([(o1, .inr (2, [.ref o2, .ref o5, .int v7, .int v8])), (o2, .inl (c2, 12, .inr (.inr (.inr (.inr (fun i => if i < 12 then some (rw3 i) else none)))))), (o5, .inl (cI, 3, .inl fw6))] : va_W) ++ (gr12 rw3 cI 12 Gw4 ++ ([] : va_W))) H → va_D A (([(o1, .inr (2, [.ref o2, .ref o5, .int v7, .int v8])), (o2, .inl (c2, 12, .inr (.inr (.inr (.inr (fun i => if i < 12 then some (rw3 i) else none)))))), (o5, .inl (cI, 3, .inl fw6))] : va_W) ++ (gr12 rw3 cI 12 Gw4 ++ ([] : va_W))) → va_S A s.heap H locs → lv_has ls 5 [(2, .int x4141), (0, .ref o1), (1, .int a1)] → W p l e ({ frames := 1, cells := 0, slots := 0, locals := 21 }) s m ([.ref o1, .int a1] : List Value).toArray below meth c H locs 0 0 Q (F0 m 2 ls []) := by
    intro N
    induction N with
    | zero =>
      intro x4141 H locs ls hM
      exact absurd hM (Nat.not_lt_zero _)
    | succ N ih50 =>
      intro x4141 H locs ls hM50 x4141_h hP hD hS hl
      refine lv_iload_n hx hb dX2_lookFor_2 rfl (lv_at hl 0 rfl) ?_
      refine lv_iload_n hx hb dX2_lookFor_3 rfl (lv_at hl 2 rfl) ?_
      refine lv_icmp_ge (tgt := 117) hx hb dX2_lookFor_4 (by decide) (fun h4142 => ?_) (fun h4142 => ?_)
      ·
        have qh4142 := le_i h4142
        refine lv_iconst (v := 0) hx hb dX2_lookFor_117 (by decide) ?_
        rw [hQ]
        exact W.zret (v := 0) (ty := .boolean) hx hb hr rfl (fun t ht hW => ⟨⟨0, fw6, rfl, ⟨(iv_w ik_0 (by decide)), (fun h8 => absurd rfl h8)⟩, by rw [ht]; exact hP, va_K.moved hW.alike hK, hD⟩, hS.F ht⟩) hS.2.2 dX2_lookFor_118
      ·
        have qh4142 := nle_i h4142
        have j4143 : Iv 0 11 x4141 := r_ltl qh4142 x4141_h a1_h (by decide)
        have j4144 : Iv 1 12 a1 := r_ltr qh4142 x4141_h a1_h (by decide)
        refine lv_iload_n hx hb dX2_lookFor_7 rfl (lv_at hl 0 rfl) ?_
        refine lv_iconst (v := 1) hx hb dX2_lookFor_8 (by decide) ?_
        refine lv_iadd hx hb dX2_lookFor_9 (lv_topi (fun x4145 x4145_e => ?_))
        have x4145_h : Iv 1 12 x4145 := iv_e x4145_e (iv_add j4143 ik_1 (by decide))
        refine lv_istore_n (lv' := [(3, .int x4145), (2, .int x4141), (0, .ref o1), (1, .int a1)]) hx hb dX2_lookFor_10 rfl hl (by decide) rfl (fun ls hl => ?_)
        have L53 : ∀ (N : Nat) (x4309 : Int32) (H : Heap) (locs : List Loc) (ls : Array Slot), (12 - x4309.toInt).toNat < N → Iv 1 12 x4309 → va_P (dC, dI) vwCl (([(o1, .inr (2, [.ref o2, .ref o5, .int v7, .int v8])), (o2, .inl (c2, 12, .inr (.inr (.inr (.inr (fun i => if i < 12 then some (rw3 i) else none)))))), (o5, .inl (cI, 3, .inl fw6))] : va_W) ++ (gr12 rw3 cI 12 Gw4 ++ ([] : va_W))) H → va_D A (([(o1, .inr (2, [.ref o2, .ref o5, .int v7, .int v8])), (o2, .inl (c2, 12, .inr (.inr (.inr (.inr (fun i => if i < 12 then some (rw3 i) else none)))))), (o5, .inl (cI, 3, .inl fw6))] : va_W) ++ (gr12 rw3 cI 12 Gw4 ++ ([] : va_W))) → va_S A s.heap H locs → lv_has ls 5 [(3, .int x4309), (2, .int x4141), (0, .ref o1), (1, .int a1)] → W p l e ({ frames := 1, cells := 0, slots := 0, locals := 21 }) s m ([.ref o1, .int a1] : List Value).toArray below meth c H locs 0 0 Q (F0 m 11 ls []) := by
          intro N
          induction N with
          | zero =>
            intro x4309 H locs ls hM
            exact absurd hM (Nat.not_lt_zero _)
          | succ N ih53 =>
            intro x4309 H locs ls hM53 x4309_h hP hD hS hl
            refine lv_iload_n hx hb dX2_lookFor_11 rfl (lv_at hl 0 rfl) ?_
            refine lv_iload_n hx hb dX2_lookFor_12 rfl (lv_at hl 3 rfl) ?_
            refine lv_icmp_ge (tgt := 111) hx hb dX2_lookFor_13 (by decide) (fun h4310 => ?_) (fun h4310 => ?_)
            ·
              have qh4310 := le_i h4310
              obtain ⟨x4311, x4311_e⟩ : ∃ z : Int32, z = x4141 + 1 := ⟨_, rfl⟩
              have x4311_h : Iv 1 12 x4311 := iv_e x4311_e (iv_add j4143 ik_1 (by decide))
              refine lv_iinc (v := x4311) (lv' := [(2, .int x4311), (3, .int x4309), (0, .ref o1), (1, .int a1)]) hx hb dX2_lookFor_111 hl (k := 1) rfl (incN (by decide +kernel) x4311_e) (by decide) rfl (fun ls hl => ?_)
              refine lv_goto (tgt := 2) hx hb dX2_lookFor_114 (by decide) ?_
              exact ih50 x4311 _ _ _ (ms_up x4311_e j4143 (by decide) hM50) (iv_w x4311_h (by decide)) hP hD hS (lv_sub hl [0, 2, 3] rfl)
            ·
              have qh4310 := nle_i h4310
              have j4312 : Iv 1 11 x4309 := r_ltl qh4310 x4309_h j4144 (by decide)
              have j4313 : Iv 2 12 a1 := r_ltr qh4310 x4309_h j4144 (by decide)
              refine lv_iload_n hx hb dX2_lookFor_16 rfl (lv_at hl 0 rfl) ?_
              refine lv_iconst (v := 1) hx hb dX2_lookFor_17 (by decide) ?_
              refine lv_iadd hx hb dX2_lookFor_18 (lv_topi (fun x4314 x4314_e => ?_))
              have x4314_h : Iv 2 12 x4314 := iv_e x4314_e (iv_add j4312 ik_1 (by decide))
              refine lv_istore (lv' := [(4, .int x4314), (3, .int x4309), (2, .int x4141), (0, .ref o1), (1, .int a1)]) hx hb dX2_lookFor_19 hl (by decide) rfl (fun ls hl => ?_)
              have L54 : ∀ (N : Nat) (x4365 : Int32) (H : Heap) (locs : List Loc) (ls : Array Slot), (12 - x4365.toInt).toNat < N → Iv 2 12 x4365 → va_P (dC, dI) vwCl (([(o1, .inr (2, [.ref o2, .ref o5, .int v7, .int v8])), (o2, .inl (c2, 12, .inr (.inr (.inr (.inr (fun i => if i < 12 then some (rw3 i) else none)))))), (o5, .inl (cI, 3, .inl fw6))] : va_W) ++ (gr12 rw3 cI 12 Gw4 ++ ([] : va_W))) H → va_D A (([(o1, .inr (2, [.ref o2, .ref o5, .int v7, .int v8])), (o2, .inl (c2, 12, .inr (.inr (.inr (.inr (fun i => if i < 12 then some (rw3 i) else none)))))), (o5, .inl (cI, 3, .inl fw6))] : va_W) ++ (gr12 rw3 cI 12 Gw4 ++ ([] : va_W))) → va_S A s.heap H locs → lv_has ls 5 [(4, .int x4365), (3, .int x4309), (2, .int x4141), (0, .ref o1), (1, .int a1)] → W p l e ({ frames := 1, cells := 0, slots := 0, locals := 21 }) s m ([.ref o1, .int a1] : List Value).toArray below meth c H locs 0 0 Q (F0 m 21 ls []) := by
                intro N
                induction N with
                | zero =>
                  intro x4365 H locs ls hM
                  exact absurd hM (Nat.not_lt_zero _)
                | succ N ih54 =>
                  intro x4365 H locs ls hM54 x4365_h hP hD hS hl
                  refine lv_iload hx hb dX2_lookFor_21 (lv_at hl 0 rfl) ?_
                  refine lv_iload_n hx hb dX2_lookFor_23 rfl (lv_at hl 4 rfl) ?_
                  refine lv_icmp_ge (tgt := 105) hx hb dX2_lookFor_24 (by decide) (fun h4366 => ?_) (fun h4366 => ?_)
                  ·
                    have qh4366 := le_i h4366
                    obtain ⟨x4367, x4367_e⟩ : ∃ z : Int32, z = x4309 + 1 := ⟨_, rfl⟩
                    have x4367_h : Iv 2 12 x4367 := iv_e x4367_e (iv_add j4312 ik_1 (by decide))
                    refine lv_iinc (v := x4367) (lv' := [(3, .int x4367), (4, .int x4365), (2, .int x4141), (0, .ref o1), (1, .int a1)]) hx hb dX2_lookFor_105 hl (k := 1) rfl (incN (by decide +kernel) x4367_e) (by decide) rfl (fun ls hl => ?_)
                    refine lv_goto (tgt := 11) hx hb dX2_lookFor_108 (by decide) ?_
                    exact ih53 x4367 _ _ _ (ms_up x4367_e j4312 (by decide) hM53) (iv_w x4367_h (by decide)) hP hD hS (lv_sub hl [0, 2, 3, 4] rfl)
                  ·
                    have qh4366 := nle_i h4366
                    have j4368 : Iv 2 11 x4365 := r_ltl qh4366 x4365_h j4313 (by decide)
                    have j4369 : Iv 3 12 a1 := r_ltr qh4366 x4365_h j4313 (by decide)
                    refine lv_aload_n hx hb dX2_lookFor_27 rfl (lv_at hl 3 rfl) ?_
                    refine va_get (D := (dC, dI)) (ci := 2) (v := .ref o2) (C := RX2) (T := TX2) (N := 4) hx hb hts iw_X2_lookFor_X2 hown hK hP 0 rfl rfl 0 (by decide) (hts (.fieldLink RX2 11 "HolelessHouse$FarThree" "clear" "[[I") hm_X2_lookFor_1) (fun _ h9 => h9) rfl dX2_lookFor_28 ?_
                    refine lv_iload_n hx hb dX2_lookFor_31 rfl (lv_at hl 2 rfl) ?_
                    refine va_alda hx hb hK hP 1 1 rfl rfl (vin_iv j4143 (by decide)) dX2_lookFor_32 (tk_r (v := .ref (rw3 (Int32.toNatClampNeg x4141))) (gr_ref (cl_lt j4143 (by decide))) ?_)
                    refine lv_iload_n hx hb dX2_lookFor_33 rfl (lv_at hl 1 rfl) ?_
                    refine va_iald hx hb hK hP (3 + (Int32.toNatClampNeg x4141)) 0 (gr12_get (pre := ([(o1, .inr (2, [.ref o2, .ref o5, .int v7, .int v8])), (o2, .inl (c2, 12, .inr (.inr (.inr (.inr (fun i => if i < 12 then some (rw3 i) else none)))))), (o5, .inl (cI, 3, .inl fw6))] : va_W)) (post := ([] : va_W)) rfl (cl_lt j4143 (by decide))) rfl (vin_iv j4312 (by decide)) dX2_lookFor_34 (lv_topi (fun x4370 x4370_e => ?_))
                    refine lv_iload hx hb dX2_lookFor_35 (lv_at hl 0 rfl) ?_
                    refine kc_i (D := (dC, dI)) (S := Unit) (wc := []) (wr := ([(o1, .inr (2, [.ref o2, .ref o5, .int v7, .int v8])), (o2, .inl (c2, 12, .inr (.inr (.inr (.inr (fun i => if i < 12 then some (rw3 i) else none)))))), (o5, .inl (cI, 3, .inl fw6))] : va_W) ++ (gr12 rw3 cI 12 Gw4 ++ ([] : va_W))) (w1 := fun _ => []) (wn := fun _ => ([(o1, .inr (2, [.ref o2, .ref o5, .int v7, .int v8])), (o2, .inl (c2, 12, .inr (.inr (.inr (.inr (fun i => if i < 12 then some (rw3 i) else none)))))), (o5, .inl (cI, 3, .inl fw6))] : va_W) ++ (gr12 rw3 cI 12 Gw4 ++ ([] : va_W))) (fun hPc hDc => va_runSN (As := [.int x4370, .int x4365]) (rest := []) ⟨hx, hb, hml, hown, hts⟩ (kX11_in_1 l dC dI cI c2 cZ x4370 x4365 H.size) ⟨va_cnB 2 hts gX2_lookFor_X11_in_n51 rfl rfl rfl (hN.1 _ ns_130) (hts (.initialized RX11) hm_X2_lookFor_4) (by decide +kernel) ⟨Nat.le_of_ble_eq_true rfl, Nat.le_of_ble_eq_true rfl⟩, (hts (.static yX11_in) hm_X2_lookFor_3), trivial⟩ (pre_S hPc hK hDc hN) rfl rfl hl.1 rfl (lv_room (Nat.le_of_ble_eq_true rfl)) dX2_lookFor_37 ⟨Nat.le_of_ble_eq_true rfl, Nat.le_of_ble_eq_true rfl⟩) hP hD hS hA [] [0, 1, 2, 3, 4, 5, 6, 7, 8, 9, 10, 11, 12, 13, 14] [0, 1, 2, 3, 4, 5, 6, 7, 8, 9, 10, 11, 12, 13, 14] rfl rfl (by decide +kernel) (by decide +kernel) (by decide +kernel) (by decide +kernel) (fun _ => rfl) (fun x4371 _ H locs hq hP hD hS => ?_)
                    have x4371_h := hq
                    have hP : va_P (dC, dI) vwCl (([(o1, .inr (2, [.ref o2, .ref o5, .int v7, .int v8])), (o2, .inl (c2, 12, .inr (.inr (.inr (.inr (fun i => if i < 12 then some (rw3 i) else none)))))), (o5, .inl (cI, 3, .inl fw6))] : va_W) ++ (gr12 rw3 cI 12 Gw4 ++ ([] : va_W))) H := hP
                    have hD : va_D A (([(o1, .inr (2, [.ref o2, .ref o5, .int v7, .int v8])), (o2, .inl (c2, 12, .inr (.inr (.inr (.inr (fun i => if i < 12 then some (rw3 i) else none)))))), (o5, .inl (cI, 3, .inl fw6))] : va_W) ++ (gr12 rw3 cI 12 Gw4 ++ ([] : va_W))) := hD
                    refine lv_if_eq (tgt := 99) hx hb dX2_lookFor_40 (by decide) (fun h4372 => ?_) (fun h4372 => ?_)
                    ·
                      have j4373 : Iv 0 0 x4371 := r_eq h4372 ik_0
                      obtain ⟨x4374, x4374_e⟩ : ∃ z : Int32, z = x4365 + 1 := ⟨_, rfl⟩
                      have x4374_h : Iv 3 12 x4374 := iv_e x4374_e (iv_add j4368 ik_1 (by decide))
                      refine lv_iinc (v := x4374) (lv' := [(4, .int x4374), (3, .int x4309), (2, .int x4141), (0, .ref o1), (1, .int a1)]) hx hb dX2_lookFor_99 hl (k := 0) rfl (incN (by decide +kernel) x4374_e) (by decide) rfl (fun ls hl => ?_)
                      refine lv_goto (tgt := 21) hx hb dX2_lookFor_102 (by decide) ?_
                      exact ih54 x4374 _ _ _ (ms_up x4374_e j4368 (by decide) hM54) (iv_w x4374_h (by decide)) hP hD hS hl
                    ·
                      have j4375 : Iv 1 1 x4371 := r_nelo h4372 x4371_h ik_0 (by decide)
                      refine lv_aload_n hx hb dX2_lookFor_43 rfl (lv_at hl 3 rfl) ?_
                      refine va_get (D := (dC, dI)) (ci := 2) (v := .ref o2) (C := RX2) (T := TX2) (N := 4) hx hb hts iw_X2_lookFor_X2 hown hK hP 0 rfl rfl 0 (by decide) (hts (.fieldLink RX2 11 "HolelessHouse$FarThree" "clear" "[[I") hm_X2_lookFor_1) (fun _ h9 => h9) rfl dX2_lookFor_44 ?_
                      refine lv_iload_n hx hb dX2_lookFor_47 rfl (lv_at hl 1 rfl) ?_
                      refine va_alda hx hb hK hP 1 1 rfl rfl (vin_iv j4312 (by decide)) dX2_lookFor_48 (tk_r (v := .ref (rw3 (Int32.toNatClampNeg x4309))) (gr_ref (cl_lt j4312 (by decide))) ?_)
                      refine lv_iload_n hx hb dX2_lookFor_49 rfl (lv_at hl 2 rfl) ?_
                      refine va_iald hx hb hK hP (3 + (Int32.toNatClampNeg x4309)) 0 (gr12_get (pre := ([(o1, .inr (2, [.ref o2, .ref o5, .int v7, .int v8])), (o2, .inl (c2, 12, .inr (.inr (.inr (.inr (fun i => if i < 12 then some (rw3 i) else none)))))), (o5, .inl (cI, 3, .inl fw6))] : va_W)) (post := ([] : va_W)) rfl (cl_lt j4312 (by decide))) rfl (vin_iv j4143 (by decide)) dX2_lookFor_50 (lv_topi (fun x4376 x4376_e => ?_))
                      refine lv_iload hx hb dX2_lookFor_51 (lv_at hl 0 rfl) ?_
                      refine kc_i (D := (dC, dI)) (S := Unit) (wc := []) (wr := ([(o1, .inr (2, [.ref o2, .ref o5, .int v7, .int v8])), (o2, .inl (c2, 12, .inr (.inr (.inr (.inr (fun i => if i < 12 then some (rw3 i) else none)))))), (o5, .inl (cI, 3, .inl fw6))] : va_W) ++ (gr12 rw3 cI 12 Gw4 ++ ([] : va_W))) (w1 := fun _ => []) (wn := fun _ => ([(o1, .inr (2, [.ref o2, .ref o5, .int v7, .int v8])), (o2, .inl (c2, 12, .inr (.inr (.inr (.inr (fun i => if i < 12 then some (rw3 i) else none)))))), (o5, .inl (cI, 3, .inl fw6))] : va_W) ++ (gr12 rw3 cI 12 Gw4 ++ ([] : va_W))) (fun hPc hDc => va_runSN (As := [.int x4376, .int x4365]) (rest := []) ⟨hx, hb, hml, hown, hts⟩ (kX11_in_1 l dC dI cI c2 cZ x4376 x4365 H.size) ⟨va_cnB 2 hts gX2_lookFor_X11_in_n51 rfl rfl rfl (hN.1 _ ns_130) (hts (.initialized RX11) hm_X2_lookFor_4) (by decide +kernel) ⟨Nat.le_of_ble_eq_true rfl, Nat.le_of_ble_eq_true rfl⟩, (hts (.static yX11_in) hm_X2_lookFor_3), trivial⟩ (pre_S hPc hK hDc hN) rfl rfl hl.1 rfl (lv_room (Nat.le_of_ble_eq_true rfl)) dX2_lookFor_53 ⟨Nat.le_of_ble_eq_true rfl, Nat.le_of_ble_eq_true rfl⟩) hP hD hS hA [] [0, 1, 2, 3, 4, 5, 6, 7, 8, 9, 10, 11, 12, 13, 14] [0, 1, 2, 3, 4, 5, 6, 7, 8, 9, 10, 11, 12, 13, 14] rfl rfl (by decide +kernel) (by decide +kernel) (by decide +kernel) (by decide +kernel) (fun _ => rfl) (fun x4377 _ H locs hq hP hD hS => ?_)
                      have x4377_h := hq
                      have hP : va_P (dC, dI) vwCl (([(o1, .inr (2, [.ref o2, .ref o5, .int v7, .int v8])), (o2, .inl (c2, 12, .inr (.inr (.inr (.inr (fun i => if i < 12 then some (rw3 i) else none)))))), (o5, .inl (cI, 3, .inl fw6))] : va_W) ++ (gr12 rw3 cI 12 Gw4 ++ ([] : va_W))) H := hP
                      have hD : va_D A (([(o1, .inr (2, [.ref o2, .ref o5, .int v7, .int v8])), (o2, .inl (c2, 12, .inr (.inr (.inr (.inr (fun i => if i < 12 then some (rw3 i) else none)))))), (o5, .inl (cI, 3, .inl fw6))] : va_W) ++ (gr12 rw3 cI 12 Gw4 ++ ([] : va_W))) := hD
                      refine lv_if_eq (tgt := 99) hx hb dX2_lookFor_56 (by decide) (fun h4378 => ?_) (fun h4378 => ?_)
                      ·
                        have j4379 : Iv 0 0 x4377 := r_eq h4378 ik_0
                        obtain ⟨x4380, x4380_e⟩ : ∃ z : Int32, z = x4365 + 1 := ⟨_, rfl⟩
                        have x4380_h : Iv 3 12 x4380 := iv_e x4380_e (iv_add j4368 ik_1 (by decide))
                        refine lv_iinc (v := x4380) (lv' := [(4, .int x4380), (3, .int x4309), (2, .int x4141), (0, .ref o1), (1, .int a1)]) hx hb dX2_lookFor_99 hl (k := 0) rfl (incN (by decide +kernel) x4380_e) (by decide) rfl (fun ls hl => ?_)
                        refine lv_goto (tgt := 21) hx hb dX2_lookFor_102 (by decide) ?_
                        exact ih54 x4380 _ _ _ (ms_up x4380_e j4368 (by decide) hM54) (iv_w x4380_h (by decide)) hP hD hS hl
                      ·
                        have j4381 : Iv 1 1 x4377 := r_nelo h4378 x4377_h ik_0 (by decide)
                        refine lv_aload_n hx hb dX2_lookFor_59 rfl (lv_at hl 3 rfl) ?_
                        refine va_get (D := (dC, dI)) (ci := 2) (v := .ref o2) (C := RX2) (T := TX2) (N := 4) hx hb hts iw_X2_lookFor_X2 hown hK hP 0 rfl rfl 0 (by decide) (hts (.fieldLink RX2 11 "HolelessHouse$FarThree" "clear" "[[I") hm_X2_lookFor_1) (fun _ h9 => h9) rfl dX2_lookFor_60 ?_
                        refine lv_iload hx hb dX2_lookFor_63 (lv_at hl 0 rfl) ?_
                        refine va_alda hx hb hK hP 1 1 rfl rfl (vin_iv j4368 (by decide)) dX2_lookFor_65 (tk_r (v := .ref (rw3 (Int32.toNatClampNeg x4365))) (gr_ref (cl_lt j4368 (by decide))) ?_)
                        refine lv_iload_n hx hb dX2_lookFor_66 rfl (lv_at hl 2 rfl) ?_
                        refine va_iald hx hb hK hP (3 + (Int32.toNatClampNeg x4365)) 0 (gr12_get (pre := ([(o1, .inr (2, [.ref o2, .ref o5, .int v7, .int v8])), (o2, .inl (c2, 12, .inr (.inr (.inr (.inr (fun i => if i < 12 then some (rw3 i) else none)))))), (o5, .inl (cI, 3, .inl fw6))] : va_W)) (post := ([] : va_W)) rfl (cl_lt j4368 (by decide))) rfl (vin_iv j4143 (by decide)) dX2_lookFor_67 (lv_topi (fun x4382 x4382_e => ?_))
                        refine lv_iload_n hx hb dX2_lookFor_68 rfl (lv_at hl 1 rfl) ?_
                        refine kc_i (D := (dC, dI)) (S := Unit) (wc := []) (wr := ([(o1, .inr (2, [.ref o2, .ref o5, .int v7, .int v8])), (o2, .inl (c2, 12, .inr (.inr (.inr (.inr (fun i => if i < 12 then some (rw3 i) else none)))))), (o5, .inl (cI, 3, .inl fw6))] : va_W) ++ (gr12 rw3 cI 12 Gw4 ++ ([] : va_W))) (w1 := fun _ => []) (wn := fun _ => ([(o1, .inr (2, [.ref o2, .ref o5, .int v7, .int v8])), (o2, .inl (c2, 12, .inr (.inr (.inr (.inr (fun i => if i < 12 then some (rw3 i) else none)))))), (o5, .inl (cI, 3, .inl fw6))] : va_W) ++ (gr12 rw3 cI 12 Gw4 ++ ([] : va_W))) (fun hPc hDc => va_runSN (As := [.int x4382, .int x4309]) (rest := []) ⟨hx, hb, hml, hown, hts⟩ (kX11_in_1 l dC dI cI c2 cZ x4382 x4309 H.size) ⟨va_cnB 2 hts gX2_lookFor_X11_in_n51 rfl rfl rfl (hN.1 _ ns_130) (hts (.initialized RX11) hm_X2_lookFor_4) (by decide +kernel) ⟨Nat.le_of_ble_eq_true rfl, Nat.le_of_ble_eq_true rfl⟩, (hts (.static yX11_in) hm_X2_lookFor_3), trivial⟩ (pre_S hPc hK hDc hN) rfl rfl hl.1 rfl (lv_room (Nat.le_of_ble_eq_true rfl)) dX2_lookFor_69 ⟨Nat.le_of_ble_eq_true rfl, Nat.le_of_ble_eq_true rfl⟩) hP hD hS hA [] [0, 1, 2, 3, 4, 5, 6, 7, 8, 9, 10, 11, 12, 13, 14] [0, 1, 2, 3, 4, 5, 6, 7, 8, 9, 10, 11, 12, 13, 14] rfl rfl (by decide +kernel) (by decide +kernel) (by decide +kernel) (by decide +kernel) (fun _ => rfl) (fun x4383 _ H locs hq hP hD hS => ?_)
                        have x4383_h := hq
                        have hP : va_P (dC, dI) vwCl (([(o1, .inr (2, [.ref o2, .ref o5, .int v7, .int v8])), (o2, .inl (c2, 12, .inr (.inr (.inr (.inr (fun i => if i < 12 then some (rw3 i) else none)))))), (o5, .inl (cI, 3, .inl fw6))] : va_W) ++ (gr12 rw3 cI 12 Gw4 ++ ([] : va_W))) H := hP
                        have hD : va_D A (([(o1, .inr (2, [.ref o2, .ref o5, .int v7, .int v8])), (o2, .inl (c2, 12, .inr (.inr (.inr (.inr (fun i => if i < 12 then some (rw3 i) else none)))))), (o5, .inl (cI, 3, .inl fw6))] : va_W) ++ (gr12 rw3 cI 12 Gw4 ++ ([] : va_W))) := hD
                        refine lv_if_eq (tgt := 99) hx hb dX2_lookFor_72 (by decide) (fun h4384 => ?_) (fun h4384 => ?_)
                        ·
                          have j4385 : Iv 0 0 x4383 := r_eq h4384 ik_0
                          obtain ⟨x4386, x4386_e⟩ : ∃ z : Int32, z = x4365 + 1 := ⟨_, rfl⟩
                          have x4386_h : Iv 3 12 x4386 := iv_e x4386_e (iv_add j4368 ik_1 (by decide))
                          refine lv_iinc (v := x4386) (lv' := [(4, .int x4386), (3, .int x4309), (2, .int x4141), (0, .ref o1), (1, .int a1)]) hx hb dX2_lookFor_99 hl (k := 0) rfl (incN (by decide +kernel) x4386_e) (by decide) rfl (fun ls hl => ?_)
                          refine lv_goto (tgt := 21) hx hb dX2_lookFor_102 (by decide) ?_
                          exact ih54 x4386 _ _ _ (ms_up x4386_e j4368 (by decide) hM54) (iv_w x4386_h (by decide)) hP hD hS hl
                        ·
                          have j4387 : Iv 1 1 x4383 := r_nelo h4384 x4383_h ik_0 (by decide)
                          refine lv_aload_n hx hb dX2_lookFor_75 rfl (lv_at hl 3 rfl) ?_
                          refine va_get (D := (dC, dI)) (ci := 2) (v := .ref o5) (C := RX2) (T := TX2) (N := 4) hx hb hts iw_X2_lookFor_X2 hown hK hP 0 rfl rfl 1 (by decide) (hts (.fieldLink RX2 16 "HolelessHouse$FarThree" "three" "[I") hm_X2_lookFor_2) (fun _ h9 => h9) rfl dX2_lookFor_76 ?_
                          refine lv_iconst (v := 0) hx hb dX2_lookFor_79 (by decide) ?_
                          refine lv_iload_n hx hb dX2_lookFor_80 rfl (lv_at hl 2 rfl) ?_
                          refine k_iast hx hb hK hP hD hS 2 0 rfl rfl (vin_iv ik_0 (by decide)) dX2_lookFor_81 (fun f4388 H locs f4388_e hP hD hS => ?_)
                          have hP : va_P (dC, dI) vwCl (([(o1, .inr (2, [.ref o2, .ref o5, .int v7, .int v8])), (o2, .inl (c2, 12, .inr (.inr (.inr (.inr (fun i => if i < 12 then some (rw3 i) else none)))))), (o5, .inl (cI, 3, .inl f4388))] : va_W) ++ (gr12 rw3 cI 12 Gw4 ++ ([] : va_W))) H := hP
                          have hD : va_D A (([(o1, .inr (2, [.ref o2, .ref o5, .int v7, .int v8])), (o2, .inl (c2, 12, .inr (.inr (.inr (.inr (fun i => if i < 12 then some (rw3 i) else none)))))), (o5, .inl (cI, 3, .inl f4388))] : va_W) ++ (gr12 rw3 cI 12 Gw4 ++ ([] : va_W))) := hD
                          refine lv_aload_n hx hb dX2_lookFor_82 rfl (lv_at hl 3 rfl) ?_
                          refine va_get (D := (dC, dI)) (ci := 2) (v := .ref o5) (C := RX2) (T := TX2) (N := 4) hx hb hts iw_X2_lookFor_X2 hown hK hP 0 rfl rfl 1 (by decide) (hts (.fieldLink RX2 16 "HolelessHouse$FarThree" "three" "[I") hm_X2_lookFor_2) (fun _ h9 => h9) rfl dX2_lookFor_83 ?_
                          refine lv_iconst (v := 1) hx hb dX2_lookFor_86 (by decide) ?_
                          refine lv_iload_n hx hb dX2_lookFor_87 rfl (lv_at hl 1 rfl) ?_
                          refine k_iast hx hb hK hP hD hS 2 0 rfl rfl (vin_iv ik_1 (by decide)) dX2_lookFor_88 (fun f4389 H locs f4389_e hP hD hS => ?_)
                          have hP : va_P (dC, dI) vwCl (([(o1, .inr (2, [.ref o2, .ref o5, .int v7, .int v8])), (o2, .inl (c2, 12, .inr (.inr (.inr (.inr (fun i => if i < 12 then some (rw3 i) else none)))))), (o5, .inl (cI, 3, .inl f4389))] : va_W) ++ (gr12 rw3 cI 12 Gw4 ++ ([] : va_W))) H := hP
                          have hD : va_D A (([(o1, .inr (2, [.ref o2, .ref o5, .int v7, .int v8])), (o2, .inl (c2, 12, .inr (.inr (.inr (.inr (fun i => if i < 12 then some (rw3 i) else none)))))), (o5, .inl (cI, 3, .inl f4389))] : va_W) ++ (gr12 rw3 cI 12 Gw4 ++ ([] : va_W))) := hD
                          refine lv_aload_n hx hb dX2_lookFor_89 rfl (lv_at hl 3 rfl) ?_
                          refine va_get (D := (dC, dI)) (ci := 2) (v := .ref o5) (C := RX2) (T := TX2) (N := 4) hx hb hts iw_X2_lookFor_X2 hown hK hP 0 rfl rfl 1 (by decide) (hts (.fieldLink RX2 16 "HolelessHouse$FarThree" "three" "[I") hm_X2_lookFor_2) (fun _ h9 => h9) rfl dX2_lookFor_90 ?_
                          refine lv_iconst (v := 2) hx hb dX2_lookFor_93 (by decide) ?_
                          refine lv_iload hx hb dX2_lookFor_94 (lv_at hl 0 rfl) ?_
                          refine k_iast hx hb hK hP hD hS 2 0 rfl rfl (vin_iv ik_2 (by decide)) dX2_lookFor_96 (fun f4390 H locs f4390_e hP hD hS => ?_)
                          have hP : va_P (dC, dI) vwCl (([(o1, .inr (2, [.ref o2, .ref o5, .int v7, .int v8])), (o2, .inl (c2, 12, .inr (.inr (.inr (.inr (fun i => if i < 12 then some (rw3 i) else none)))))), (o5, .inl (cI, 3, .inl f4390))] : va_W) ++ (gr12 rw3 cI 12 Gw4 ++ ([] : va_W))) H := hP
                          have hD : va_D A (([(o1, .inr (2, [.ref o2, .ref o5, .int v7, .int v8])), (o2, .inl (c2, 12, .inr (.inr (.inr (.inr (fun i => if i < 12 then some (rw3 i) else none)))))), (o5, .inl (cI, 3, .inl f4390))] : va_W) ++ (gr12 rw3 cI 12 Gw4 ++ ([] : va_W))) := hD
                          refine lv_iconst (v := 1) hx hb dX2_lookFor_97 (by decide) ?_
                          rw [hQ]
                          exact W.zret (v := 1) (ty := .boolean) hx hb hr rfl (fun t ht hW => ⟨⟨1, f4390, rfl, ⟨(iv_w ik_1 (by decide)), (fun _ => j4369)⟩, by rw [ht]; exact hP, va_K.moved hW.alike hK, hD⟩, hS.F ht⟩) hS.2.2 dX2_lookFor_98
              exact L54 _ x4314 _ _ _ (Nat.lt_succ_self _) x4314_h hP hD hS hl
        exact L53 _ x4145 _ _ _ (Nat.lt_succ_self _) x4145_h hP hD hS hl
  exact L50 _ 0 _ _ _ (Nat.lt_succ_self _) (iv_w ik_0 (by decide)) hP hD hS hl
theorem iw_X2_bring_X2 : ∀ w ∈ wsX20, w ∈ wsX2_bring := fun _ h => List.mem_cons.mpr (Or.inr (List.mem_append.mpr (Or.inl (List.mem_append.mpr (Or.inr h)))))
theorem iw_X2_bring_X4 : ∀ w ∈ wsX40, w ∈ wsX2_bring := fun _ h => List.mem_cons.mpr (Or.inr (List.mem_append.mpr (Or.inr h)))
set_option maxHeartbeats 4000000 in
set_option maxRecDepth 100000 in
theorem kX2_bring_1 (l : Launch) (dC : Nat → ClassId) (dI : Nat → Nat → Nat) (cI c2 cZ : ClassId) (o1 : Nat) (o9 : Nat) (o2 : Nat) (o5 : Nat) (o10 : Nat) (rw3 : Nat → Nat) (Gw4 : Nat → Nat → Int32) (fw6 : Nat → Int32) (v7 : Int32) (v8 : Int32) (fw11 : Nat → Int32) (v12 : Int32) (v13 : Int32) (sz : Nat) (v7_h : Iv 0 1 v7) (fw11_b : Bd 12 0 4095 fw11) (v12_h : Iv 0 12 v12) : Met l yX2_bring wsX2_bring ({ frames := 4, cells := 0, slots := 0, locals := 93 }) (va_Pc [.ref o1, .ref o9] (wPre (dC, dI) [(cI, .int), (c2, .array .int), (cZ, .boolean)] (([(o1, .inr (2, [.ref o2, .ref o5, .int v7, .int v8])), (o9, .inr (4, [.ref o10, .int v12, .int v13])), (o10, .inl (cI, 12, .inl fw11)), (o2, .inl (c2, 12, .inr (.inr (.inr (.inr (fun i => if i < 12 then some (rw3 i) else none)))))), (o5, .inl (cI, 3, .inl fw6))] : va_W) ++ (gr12 rw3 cI 12 Gw4 ++ ([] : va_W))) sz)) (va_Qv (fun (u : Int32 × Int32 × (Nat → Nat → Int32) × (Nat → Int32)) => Iv 0 1 u.1) (fun u t => wPost (dC, dI) [(cI, .int), (c2, .array .int), (cZ, .boolean)] (va_A (([(o1, .inr (2, [.ref o2, .ref o5, .int v7, .int v8])), (o9, .inr (4, [.ref o10, .int v12, .int v13])), (o10, .inl (cI, 12, .inl fw11)), (o2, .inl (c2, 12, .inr (.inr (.inr (.inr (fun i => if i < 12 then some (rw3 i) else none)))))), (o5, .inl (cI, 3, .inl fw6))] : va_W) ++ (gr12 rw3 cI 12 Gw4 ++ ([] : va_W))) sz) (([(o1, .inr (2, [.ref o2, .ref o5, .int u.1, .int u.2.1])), (o9, .inr (4, [.ref o10, .int v12, .int v13])), (o10, .inl (cI, 12, .inl fw11)), (o2, .inl (c2, 12, .inr (.inr (.inr (.inr (fun i => if i < 12 then some (rw3 i) else none)))))), (o5, .inl (cI, 3, .inl u.2.2.2))] : va_W) ++ (gr12 rw3 cI 12 u.2.2.1 ++ ([] : va_W))) t) (va_A (([(o1, .inr (2, [.ref o2, .ref o5, .int v7, .int v8])), (o9, .inr (4, [.ref o10, .int v12, .int v13])), (o10, .inl (cI, 12, .inl fw11)), (o2, .inl (c2, 12, .inr (.inr (.inr (.inr (fun i => if i < 12 then some (rw3 i) else none)))))), (o5, .inl (cI, 3, .inl fw6))] : va_W) ++ (gr12 rw3 cI 12 Gw4 ++ ([] : va_W))) sz)) 0 0 (va_A (([(o1, .inr (2, [.ref o2, .ref o5, .int v7, .int v8])), (o9, .inr (4, [.ref o10, .int v12, .int v13])), (o10, .inl (cI, 12, .inl fw11)), (o2, .inl (c2, 12, .inr (.inr (.inr (.inr (fun i => if i < 12 then some (rw3 i) else none)))))), (o5, .inl (cI, 3, .inl fw6))] : va_W) ++ (gr12 rw3 cI 12 Gw4 ++ ([] : va_W))) sz) := by
  refine Met.ofW (cc := cX2_bring) (maxL := 3) (ret := none) (by decide) rfl ?_
  intro p e s m args below meth c s₁ B hml hv
  obtain ⟨rfl, hsz, hP, hK, hD0, hN⟩ := hv
  have hx := B.exec
  have hb := B.bytes
  have hr := B.returns
  have hts := atoms_spec (ws := wsX2_bring) B.pre
  have hown : s.vm.findClass RX2 = some m.cls := findClass_of_methodNamed B.named
  have hlocks := B.notSynchronized
  subst hsz
  have hD := hD0.self (sz := s.heap.size)
  generalize hAe : va_A (([(o1, .inr (2, [.ref o2, .ref o5, .int v7, .int v8])), (o9, .inr (4, [.ref o10, .int v12, .int v13])), (o10, .inl (cI, 12, .inl fw11)), (o2, .inl (c2, 12, .inr (.inr (.inr (.inr (fun i => if i < 12 then some (rw3 i) else none)))))), (o5, .inl (cI, 3, .inl fw6))] : va_W) ++ (gr12 rw3 cI 12 Gw4 ++ ([] : va_W))) s.heap.size = A at hD ⊢
  have hA : ∀ q : Nat, s.heap.size ≤ q → A q := fun q h => by rw [← hAe]; exact Or.inr h
  have hS : va_S A s.heap s.heap [] := va_S.rf
  have hP : va_P (dC, dI) vwCl (([(o1, .inr (2, [.ref o2, .ref o5, .int v7, .int v8])), (o9, .inr (4, [.ref o10, .int v12, .int v13])), (o10, .inl (cI, 12, .inl fw11)), (o2, .inl (c2, 12, .inr (.inr (.inr (.inr (fun i => if i < 12 then some (rw3 i) else none)))))), (o5, .inl (cI, 3, .inl fw6))] : va_W) ++ (gr12 rw3 cI 12 Gw4 ++ ([] : va_W))) s.heap := hP
  have hl := lv_entry ([.ref o1, .ref o9]) (n := 3) (Nat.le_of_ble_eq_true rfl)
  rw [lg_entry_eq]
  generalize (lg_sl ([.ref o1, .ref o9]) ++ List.replicate (3 - (lg_sl ([.ref o1, .ref o9])).length) Slot.unset).toArray = ls at hl ⊢
  have hl : lv_has ls 3 [(0, .ref o1), (1, .ref o9)] := hl
  refine gen_Q (fun Q hQ => ?_)
  refine lv_aload_n hx hb dX2_bring_0 rfl (lv_at hl 0 rfl) ?_
  refine va_get (D := (dC, dI)) (ci := 2) (v := .int v8) (C := RX2) (T := TX2) (N := 4) hx hb hts iw_X2_bring_X2 hown hK hP 0 rfl rfl 3 (by decide) (hts (.fieldLink RX2 24 "HolelessHouse$FarThree" "madeFor" "I") hm_X2_bring_1) (fun _ h9 => h9) rfl dX2_bring_1 ?_
  refine lv_aload_n hx hb dX2_bring_4 rfl (lv_at hl 1 rfl) ?_
  refine va_getN (D := (dC, dI)) (ci := 4) (v := .int v13) (C := RX4) (T := TX4) (N := 3) hx hb hts iw_X2_bring_X4 hown hK hP 1 rfl rfl 2 (by decide) (hN.use ns_18) (fun _ h9 => h9) rfl dX2_bring_5 ?_
  refine lv_icmp_ne (tgt := 12) hx hb dX2_bring_8 (by decide) (fun h1 => ?_) (fun h1 => ?_)
  ·
    refine lv_aload_n hx hb dX2_bring_12 rfl (lv_at hl 0 rfl) ?_
    refine lv_aload_n hx hb dX2_bring_13 rfl (lv_at hl 1 rfl) ?_
    refine va_getN (D := (dC, dI)) (ci := 4) (v := .int v13) (C := RX4) (T := TX4) (N := 3) hx hb hts iw_X2_bring_X4 hown hK hP 1 rfl rfl 2 (by decide) (hN.use ns_18) (fun _ h9 => h9) rfl dX2_bring_14 ?_
    refine va_put (D := (dC, dI)) (ci := 2) (v := .int v13) (ty := .int) (C := RX2) (T := TX2) (N := 4) hx hb hts iw_X2_bring_X2 tyX2 tyX2_ok nmX2 hown hK hP hD hS 0 rfl rfl 3 (by decide) (hts (.fieldLink RX2 24 "HolelessHouse$FarThree" "madeFor" "I") hm_X2_bring_1) (fun _ h9 => h9) rfl (by decide +kernel) rfl rfl (Nat.le_of_ble_eq_true rfl) dX2_bring_17 (fun H locs hP hD hS => ?_)
    have hP : va_P (dC, dI) vwCl (([(o1, .inr (2, [.ref o2, .ref o5, .int v7, .int v13])), (o9, .inr (4, [.ref o10, .int v12, .int v13])), (o10, .inl (cI, 12, .inl fw11)), (o2, .inl (c2, 12, .inr (.inr (.inr (.inr (fun i => if i < 12 then some (rw3 i) else none)))))), (o5, .inl (cI, 3, .inl fw6))] : va_W) ++ (gr12 rw3 cI 12 Gw4 ++ ([] : va_W))) H := hP
    have hD : va_D A (([(o1, .inr (2, [.ref o2, .ref o5, .int v7, .int v13])), (o9, .inr (4, [.ref o10, .int v12, .int v13])), (o10, .inl (cI, 12, .inl fw11)), (o2, .inl (c2, 12, .inr (.inr (.inr (.inr (fun i => if i < 12 then some (rw3 i) else none)))))), (o5, .inl (cI, 3, .inl fw6))] : va_W) ++ (gr12 rw3 cI 12 Gw4 ++ ([] : va_W))) := hD
    refine lv_iconst (v := 0) hx hb dX2_bring_20 (by decide) ?_
    refine lv_istore_n (lv' := [(2, .int 0), (0, .ref o1), (1, .ref o9)]) hx hb dX2_bring_21 rfl hl (by decide) rfl (fun ls hl => ?_)
    have L1 : ∀ (N : Nat) (x55 : Int32) (G56 : Nat → Nat → Int32) (H : Heap) (locs : List Loc) (ls : Array Slot), (12 - x55.toInt).toNat < N → Iv 0 12 x55 → va_P (dC, dI) vwCl (([(o1, .inr (2, [.ref o2, .ref o5, .int v7, .int v13])), (o9, .inr (4, [.ref o10, .int v12, .int v13])), (o10, .inl (cI, 12, .inl fw11)), (o2, .inl (c2, 12, .inr (.inr (.inr (.inr (fun i => if i < 12 then some (rw3 i) else none)))))), (o5, .inl (cI, 3, .inl fw6))] : va_W) ++ (gr12 rw3 cI 12 G56 ++ ([] : va_W))) H → va_D A (([(o1, .inr (2, [.ref o2, .ref o5, .int v7, .int v13])), (o9, .inr (4, [.ref o10, .int v12, .int v13])), (o10, .inl (cI, 12, .inl fw11)), (o2, .inl (c2, 12, .inr (.inr (.inr (.inr (fun i => if i < 12 then some (rw3 i) else none)))))), (o5, .inl (cI, 3, .inl fw6))] : va_W) ++ (gr12 rw3 cI 12 G56 ++ ([] : va_W))) → va_S A s.heap H locs → lv_has ls 3 [(2, .int x55), (0, .ref o1), (1, .ref o9)] → W p l e ({ frames := 4, cells := 0, slots := 0, locals := 93 }) s m ([.ref o1, .ref o9] : List Value).toArray below meth c H locs 0 0 Q (F0 m 22 ls []) := by
      intro N
      induction N with
      | zero =>
        intro x55 G56 H locs ls hM
        exact absurd hM (Nat.not_lt_zero _)
      | succ N ih1 =>
        intro x55 G56 H locs ls hM1 x55_h hP hD hS hl
        refine lv_iload_n hx hb dX2_bring_22 rfl (lv_at hl 0 rfl) ?_
        refine lv_aload_n hx hb dX2_bring_23 rfl (lv_at hl 2 rfl) ?_
        refine va_getN (D := (dC, dI)) (ci := 4) (v := .int v12) (C := RX4) (T := TX4) (N := 3) hx hb hts iw_X2_bring_X4 hown hK hP 1 rfl rfl 1 (by decide) (hN.use ns_9) (fun _ h9 => h9) rfl dX2_bring_24 ?_
        refine lv_icmp_ge (tgt := 42) hx hb dX2_bring_27 (by decide) (fun h57 => ?_) (fun h57 => ?_)
        ·
          have qh57 := le_i h57
          refine lv_aload_n hx hb dX2_bring_42 rfl (lv_at hl 1 rfl) ?_
          refine lv_aload_n hx hb dX2_bring_43 rfl (lv_at hl 1 rfl) ?_
          refine lv_aload_n hx hb dX2_bring_44 rfl (lv_at hl 2 rfl) ?_
          refine va_getN (D := (dC, dI)) (ci := 4) (v := .int v12) (C := RX4) (T := TX4) (N := 3) hx hb hts iw_X2_bring_X4 hown hK hP 1 rfl rfl 1 (by decide) (hN.use ns_9) (fun _ h9 => h9) rfl dX2_bring_45 ?_
          refine kc_i (D := (dC, dI)) (S := (Nat → Int32)) (wc := ([(o1, .inr (2, [.ref o2, .ref o5, .int v7, .int v13])), (o2, .inl (c2, 12, .inr (.inr (.inr (.inr (fun i => if i < 12 then some (rw3 i) else none)))))), (o5, .inl (cI, 3, .inl fw6))] : va_W) ++ (gr12 rw3 cI 12 G56 ++ ([] : va_W))) (wr := [(o9, .inr (4, [.ref o10, .int v12, .int v13])), (o10, .inl (cI, 12, .inl fw11))]) (w1 := fun u => ([(o1, .inr (2, [.ref o2, .ref o5, .int v7, .int v13])), (o2, .inl (c2, 12, .inr (.inr (.inr (.inr (fun i => if i < 12 then some (rw3 i) else none)))))), (o5, .inl (cI, 3, .inl u))] : va_W) ++ (gr12 rw3 cI 12 G56 ++ ([] : va_W))) (wn := fun u => ([(o1, .inr (2, [.ref o2, .ref o5, .int v7, .int v13])), (o9, .inr (4, [.ref o10, .int v12, .int v13])), (o10, .inl (cI, 12, .inl fw11)), (o2, .inl (c2, 12, .inr (.inr (.inr (.inr (fun i => if i < 12 then some (rw3 i) else none)))))), (o5, .inl (cI, 3, .inl u))] : va_W) ++ (gr12 rw3 cI 12 G56 ++ ([] : va_W))) (fun hPc hDc => va_runV (As := [.int v12]) (rest := [.ref o1]) ⟨hx, hb, hml, hown, hts⟩ (kX2_lookFor_1 l dC dI cI c2 cZ o1 o2 o5 rw3 G56 fw6 v7 v13 v12 H.size v7_h v12_h) (cwV 1 hts gX2_bring_X2_lookFor rfl rfl rfl (by decide +kernel) ⟨Nat.le_of_ble_eq_true rfl, Nat.le_of_ble_eq_true rfl⟩) (pre_V hPc hK hDc hN (ci := 2) (q0 := 0) rfl rfl) rfl rfl hl.1 rfl (lv_room (Nat.le_of_ble_eq_true rfl)) dX2_bring_48 ⟨Nat.le_of_ble_eq_true rfl, Nat.le_of_ble_eq_true rfl⟩) hP hD hS hA [0, 3, 4, 5, 6, 7, 8, 9, 10, 11, 12, 13, 14, 15, 16] [1, 2] [2, 0, 1, 3, 4, 5, 6, 7, 8, 9, 10, 11, 12, 13, 14, 15, 16] rfl rfl (by decide +kernel) (by decide +kernel) (by decide +kernel) (by decide +kernel) (fun _ => rfl) (fun x59 f58 H locs hq hP hD hS => ?_)
          obtain ⟨x59_h, i60⟩ := hq
          have hP : va_P (dC, dI) vwCl (([(o1, .inr (2, [.ref o2, .ref o5, .int v7, .int v13])), (o9, .inr (4, [.ref o10, .int v12, .int v13])), (o10, .inl (cI, 12, .inl fw11)), (o2, .inl (c2, 12, .inr (.inr (.inr (.inr (fun i => if i < 12 then some (rw3 i) else none)))))), (o5, .inl (cI, 3, .inl f58))] : va_W) ++ (gr12 rw3 cI 12 G56 ++ ([] : va_W))) H := hP
          have hD : va_D A (([(o1, .inr (2, [.ref o2, .ref o5, .int v7, .int v13])), (o9, .inr (4, [.ref o10, .int v12, .int v13])), (o10, .inl (cI, 12, .inl fw11)), (o2, .inl (c2, 12, .inr (.inr (.inr (.inr (fun i => if i < 12 then some (rw3 i) else none)))))), (o5, .inl (cI, 3, .inl f58))] : va_W) ++ (gr12 rw3 cI 12 G56 ++ ([] : va_W))) := hD
          refine va_put (D := (dC, dI)) (ci := 2) (v := .int x59) (ty := .boolean) (C := RX2) (T := TX2) (N := 4) hx hb hts iw_X2_bring_X2 tyX2 tyX2_ok nmX2 hown hK hP hD hS 0 rfl rfl 2 (by decide) (hts (.fieldLink RX2 20 "HolelessHouse$FarThree" "there" "Z") hm_X2_bring_2) (fun _ h9 => h9) rfl (by decide +kernel) (nar_z x59_h) (fit_z x59_h) (Nat.le_of_ble_eq_true rfl) dX2_bring_51 (fun H locs hP hD hS => ?_)
          have hP : va_P (dC, dI) vwCl (([(o1, .inr (2, [.ref o2, .ref o5, .int x59, .int v13])), (o9, .inr (4, [.ref o10, .int v12, .int v13])), (o10, .inl (cI, 12, .inl fw11)), (o2, .inl (c2, 12, .inr (.inr (.inr (.inr (fun i => if i < 12 then some (rw3 i) else none)))))), (o5, .inl (cI, 3, .inl f58))] : va_W) ++ (gr12 rw3 cI 12 G56 ++ ([] : va_W))) H := hP
          have hD : va_D A (([(o1, .inr (2, [.ref o2, .ref o5, .int x59, .int v13])), (o9, .inr (4, [.ref o10, .int v12, .int v13])), (o10, .inl (cI, 12, .inl fw11)), (o2, .inl (c2, 12, .inr (.inr (.inr (.inr (fun i => if i < 12 then some (rw3 i) else none)))))), (o5, .inl (cI, 3, .inl f58))] : va_W) ++ (gr12 rw3 cI 12 G56 ++ ([] : va_W))) := hD
          rw [hQ]
          exact W.vret hx hb hr (fun t ht hW => ⟨⟨(x59, v13, G56, f58), rfl, x59_h, by rw [ht]; exact hP, va_K.moved hW.alike hK, hD⟩, hS.F ht⟩) hS.2.2 dX2_bring_54
        ·
          have qh57 := nle_i h57
          have j61 : Iv 0 11 x55 := r_ltl qh57 x55_h v12_h (by decide)
          have j62 : Iv 1 12 v12 := r_ltr qh57 x55_h v12_h (by decide)
          refine lv_aload_n hx hb dX2_bring_30 rfl (lv_at hl 1 rfl) ?_
          refine lv_aload_n hx hb dX2_bring_31 rfl (lv_at hl 2 rfl) ?_
          refine lv_iload_n hx hb dX2_bring_32 rfl (lv_at hl 0 rfl) ?_
          refine kc_v (D := (dC, dI)) (S := (Nat → Nat → Int32)) (wc := ([(o9, .inr (4, [.ref o10, .int v12, .int v13])), (o10, .inl (cI, 12, .inl fw11)), (o1, .inr (2, [.ref o2, .ref o5, .int v7, .int v13])), (o2, .inl (c2, 12, .inr (.inr (.inr (.inr (fun i => if i < 12 then some (rw3 i) else none))))))] : va_W) ++ (gr12 rw3 cI 12 G56 ++ ([] : va_W))) (wr := [(o5, .inl (cI, 3, .inl fw6))]) (w1 := fun u => ([(o9, .inr (4, [.ref o10, .int v12, .int v13])), (o10, .inl (cI, 12, .inl fw11)), (o1, .inr (2, [.ref o2, .ref o5, .int v7, .int v13])), (o2, .inl (c2, 12, .inr (.inr (.inr (.inr (fun i => if i < 12 then some (rw3 i) else none))))))] : va_W) ++ (gr12 rw3 cI 12 u ++ ([] : va_W))) (wn := fun u => ([(o1, .inr (2, [.ref o2, .ref o5, .int v7, .int v13])), (o9, .inr (4, [.ref o10, .int v12, .int v13])), (o10, .inl (cI, 12, .inl fw11)), (o2, .inl (c2, 12, .inr (.inr (.inr (.inr (fun i => if i < 12 then some (rw3 i) else none)))))), (o5, .inl (cI, 3, .inl fw6))] : va_W) ++ (gr12 rw3 cI 12 u ++ ([] : va_W))) (fun hPc hDc => va_runV (As := [.ref o9, .int x55]) (rest := []) ⟨hx, hb, hml, hown, hts⟩ (kX2_clearOf_1 l dC dI cI c2 cZ o1 o9 o10 o2 o5 rw3 G56 v7 v13 fw11 v12 v13 x55 H.size v7_h fw11_b (iv_w j62 (by decide)) j61) (cwV 2 hts gX2_bring_X2_clearOf rfl rfl rfl (by decide +kernel) ⟨Nat.le_of_ble_eq_true rfl, Nat.le_of_ble_eq_true rfl⟩) (pre_V hPc hK hDc hN (ci := 2) (q0 := 2) rfl rfl) rfl rfl hl.1 rfl (lv_room (Nat.le_of_ble_eq_true rfl)) dX2_bring_33 ⟨Nat.le_of_ble_eq_true rfl, Nat.le_of_ble_eq_true rfl⟩) hP hD hS hA [1, 2, 0, 3, 5, 6, 7, 8, 9, 10, 11, 12, 13, 14, 15, 16] [4] [3, 1, 2, 4, 0, 5, 6, 7, 8, 9, 10, 11, 12, 13, 14, 15, 16] rfl rfl (by decide +kernel) (by decide +kernel) (by decide +kernel) (by decide +kernel) (fun _ => rfl) (fun G63 H locs hq hP hD hS => ?_)
          have hP : va_P (dC, dI) vwCl (([(o1, .inr (2, [.ref o2, .ref o5, .int v7, .int v13])), (o9, .inr (4, [.ref o10, .int v12, .int v13])), (o10, .inl (cI, 12, .inl fw11)), (o2, .inl (c2, 12, .inr (.inr (.inr (.inr (fun i => if i < 12 then some (rw3 i) else none)))))), (o5, .inl (cI, 3, .inl fw6))] : va_W) ++ (gr12 rw3 cI 12 G63 ++ ([] : va_W))) H := hP
          have hD : va_D A (([(o1, .inr (2, [.ref o2, .ref o5, .int v7, .int v13])), (o9, .inr (4, [.ref o10, .int v12, .int v13])), (o10, .inl (cI, 12, .inl fw11)), (o2, .inl (c2, 12, .inr (.inr (.inr (.inr (fun i => if i < 12 then some (rw3 i) else none)))))), (o5, .inl (cI, 3, .inl fw6))] : va_W) ++ (gr12 rw3 cI 12 G63 ++ ([] : va_W))) := hD
          obtain ⟨x64, x64_e⟩ : ∃ z : Int32, z = x55 + 1 := ⟨_, rfl⟩
          have x64_h : Iv 1 12 x64 := iv_e x64_e (iv_add j61 ik_1 (by decide))
          refine lv_iinc (v := x64) (lv' := [(2, .int x64), (0, .ref o1), (1, .ref o9)]) hx hb dX2_bring_36 hl (k := 0) rfl (incN (by decide +kernel) x64_e) (by decide) rfl (fun ls hl => ?_)
          refine lv_goto (tgt := 22) hx hb dX2_bring_39 (by decide) ?_
          exact ih1 x64 G63 _ _ _ (ms_up x64_e j61 (by decide) hM1) (iv_w x64_h (by decide)) hP hD hS hl
    exact L1 _ 0 Gw4 _ _ _ (Nat.lt_succ_self _) (iv_w ik_0 (by decide)) hP hD hS hl
  ·
    rw [hQ]
    exact W.vret hx hb hr (fun t ht hW => ⟨⟨(v7, v8, Gw4, fw6), rfl, v7_h, by rw [ht]; exact hP, va_K.moved hW.alike hK, hD⟩, hS.F ht⟩) hS.2.2 dX2_bring_11
theorem iw_X11_far_X11 : ∀ w ∈ wsX110, w ∈ wsX11_far := fun _ h => List.mem_cons.mpr (Or.inr (List.mem_append.mpr (Or.inl (List.mem_append.mpr (Or.inl (List.mem_append.mpr (Or.inr h)))))))
theorem iw_X11_far_X2 : ∀ w ∈ wsX20, w ∈ wsX11_far := fun _ h => List.mem_cons.mpr (Or.inr (List.mem_append.mpr (Or.inl (List.mem_append.mpr (Or.inr h)))))
set_option maxHeartbeats 4000000 in
set_option maxRecDepth 100000 in
theorem kX11_far_1 (l : Launch) (dC : Nat → ClassId) (dI : Nat → Nat → Nat) (cI c2 cZ : ClassId) (o1 : Nat) (o2 : Nat) (o7 : Nat) (o12 : Nat) (o41 : Nat) (o51 : Nat) (o64 : Nat) (o77 : Nat) (o84 : Nat) (o91 : Nat) (o99 : Nat) (o111 : Nat) (o123 : Nat) (o92 : Nat) (o95 : Nat) (o3 : Nat) (fw4 : Nat → Int32) (v5 : Int32) (v6 : Int32) (rw93 : Nat → Nat) (Gw94 : Nat → Nat → Int32) (fw96 : Nat → Int32) (v97 : Int32) (v98 : Int32) (v125 : Int32) (a1 : Int32) (sz : Nat) (fw4_b : Bd 12 0 4095 fw4) (v5_h : Iv 0 12 v5) (v97_h : Iv 0 1 v97) : Met l yX11_far wsX11_far ({ frames := 5, cells := 0, slots := 0, locals := 115 }) (va_Pc [.ref o1, .int a1] (wPre (dC, dI) [(cI, .int), (c2, .array .int), (cZ, .boolean)] (([(o1, .inr (11, [.ref o2, .ref o7, .ref o12, .ref o41, .ref o51, .ref o64, .ref o77, .ref o84, .ref o91, .ref o99, .ref o111, .ref o123, .int v125])), (o91, .inr (2, [.ref o92, .ref o95, .int v97, .int v98])), (o2, .inr (4, [.ref o3, .int v5, .int v6])), (o3, .inl (cI, 12, .inl fw4)), (o92, .inl (c2, 12, .inr (.inr (.inr (.inr (fun i => if i < 12 then some (rw93 i) else none)))))), (o95, .inl (cI, 3, .inl fw96))] : va_W) ++ (gr12 rw93 cI 12 Gw94 ++ ([] : va_W))) sz)) (va_Qi (fun (r : Int32) (u : Int32 × Int32 × (Nat → Nat → Int32) × (Nat → Int32)) => Iv 0 1 u.1) (fun u t => wPost (dC, dI) [(cI, .int), (c2, .array .int), (cZ, .boolean)] (va_A (([(o1, .inr (11, [.ref o2, .ref o7, .ref o12, .ref o41, .ref o51, .ref o64, .ref o77, .ref o84, .ref o91, .ref o99, .ref o111, .ref o123, .int v125])), (o91, .inr (2, [.ref o92, .ref o95, .int v97, .int v98])), (o2, .inr (4, [.ref o3, .int v5, .int v6])), (o3, .inl (cI, 12, .inl fw4)), (o92, .inl (c2, 12, .inr (.inr (.inr (.inr (fun i => if i < 12 then some (rw93 i) else none)))))), (o95, .inl (cI, 3, .inl fw96))] : va_W) ++ (gr12 rw93 cI 12 Gw94 ++ ([] : va_W))) sz) (([(o1, .inr (11, [.ref o2, .ref o7, .ref o12, .ref o41, .ref o51, .ref o64, .ref o77, .ref o84, .ref o91, .ref o99, .ref o111, .ref o123, .int v125])), (o91, .inr (2, [.ref o92, .ref o95, .int u.1, .int u.2.1])), (o2, .inr (4, [.ref o3, .int v5, .int v6])), (o3, .inl (cI, 12, .inl fw4)), (o92, .inl (c2, 12, .inr (.inr (.inr (.inr (fun i => if i < 12 then some (rw93 i) else none)))))), (o95, .inl (cI, 3, .inl u.2.2.2))] : va_W) ++ (gr12 rw93 cI 12 u.2.2.1 ++ ([] : va_W))) t) (va_A (([(o1, .inr (11, [.ref o2, .ref o7, .ref o12, .ref o41, .ref o51, .ref o64, .ref o77, .ref o84, .ref o91, .ref o99, .ref o111, .ref o123, .int v125])), (o91, .inr (2, [.ref o92, .ref o95, .int v97, .int v98])), (o2, .inr (4, [.ref o3, .int v5, .int v6])), (o3, .inl (cI, 12, .inl fw4)), (o92, .inl (c2, 12, .inr (.inr (.inr (.inr (fun i => if i < 12 then some (rw93 i) else none)))))), (o95, .inl (cI, 3, .inl fw96))] : va_W) ++ (gr12 rw93 cI 12 Gw94 ++ ([] : va_W))) sz)) 0 0 (va_A (([(o1, .inr (11, [.ref o2, .ref o7, .ref o12, .ref o41, .ref o51, .ref o64, .ref o77, .ref o84, .ref o91, .ref o99, .ref o111, .ref o123, .int v125])), (o91, .inr (2, [.ref o92, .ref o95, .int v97, .int v98])), (o2, .inr (4, [.ref o3, .int v5, .int v6])), (o3, .inl (cI, 12, .inl fw4)), (o92, .inl (c2, 12, .inr (.inr (.inr (.inr (fun i => if i < 12 then some (rw93 i) else none)))))), (o95, .inl (cI, 3, .inl fw96))] : va_W) ++ (gr12 rw93 cI 12 Gw94 ++ ([] : va_W))) sz) := by
  refine Met.ofW (cc := cX11_far) (maxL := 2) (ret := (some .int)) (by decide) rfl ?_
  intro p e s m args below meth c s₁ B hml hv
  obtain ⟨rfl, hsz, hP, hK, hD0, hN⟩ := hv
  have hx := B.exec
  have hb := B.bytes
  have hr := B.returns
  have hts := atoms_spec (ws := wsX11_far) B.pre
  have hown : s.vm.findClass RX11 = some m.cls := findClass_of_methodNamed B.named
  have hlocks := B.notSynchronized
  subst hsz
  have hD := hD0.self (sz := s.heap.size)
  generalize hAe : va_A (([(o1, .inr (11, [.ref o2, .ref o7, .ref o12, .ref o41, .ref o51, .ref o64, .ref o77, .ref o84, .ref o91, .ref o99, .ref o111, .ref o123, .int v125])), (o91, .inr (2, [.ref o92, .ref o95, .int v97, .int v98])), (o2, .inr (4, [.ref o3, .int v5, .int v6])), (o3, .inl (cI, 12, .inl fw4)), (o92, .inl (c2, 12, .inr (.inr (.inr (.inr (fun i => if i < 12 then some (rw93 i) else none)))))), (o95, .inl (cI, 3, .inl fw96))] : va_W) ++ (gr12 rw93 cI 12 Gw94 ++ ([] : va_W))) s.heap.size = A at hD ⊢
  have hA : ∀ q : Nat, s.heap.size ≤ q → A q := fun q h => by rw [← hAe]; exact Or.inr h
  have hS : va_S A s.heap s.heap [] := va_S.rf
  have hP : va_P (dC, dI) vwCl (([(o1, .inr (11, [.ref o2, .ref o7, .ref o12, .ref o41, .ref o51, .ref o64, .ref o77, .ref o84, .ref o91, .ref o99, .ref o111, .ref o123, .int v125])), (o91, .inr (2, [.ref o92, .ref o95, .int v97, .int v98])), (o2, .inr (4, [.ref o3, .int v5, .int v6])), (o3, .inl (cI, 12, .inl fw4)), (o92, .inl (c2, 12, .inr (.inr (.inr (.inr (fun i => if i < 12 then some (rw93 i) else none)))))), (o95, .inl (cI, 3, .inl fw96))] : va_W) ++ (gr12 rw93 cI 12 Gw94 ++ ([] : va_W))) s.heap := hP
  have hl := lv_entry ([.ref o1, .int a1]) (n := 2) (Nat.le_of_ble_eq_true rfl)
  rw [lg_entry_eq]
  generalize (lg_sl ([.ref o1, .int a1]) ++ List.replicate (2 - (lg_sl ([.ref o1, .int a1])).length) Slot.unset).toArray = ls at hl ⊢
  have hl : lv_has ls 2 [(0, .ref o1), (1, .int a1)] := hl
  refine gen_Q (fun Q hQ => ?_)
  refine lv_aload_n hx hb dX11_far_0 rfl (lv_at hl 0 rfl) ?_
  refine va_get (D := (dC, dI)) (ci := 11) (v := .ref o91) (C := RX11) (T := TX11) (N := 13) hx hb hts iw_X11_far_X11 hown hK hP 0 rfl rfl 8 (by decide) (hts (.fieldLink RX11 66 "HolelessHouse" "farThree" "LHolelessHouse$FarThree;") hm_X11_far_1) (fun _ h9 => h9) rfl dX11_far_1 ?_
  refine lv_aload_n hx hb dX11_far_4 rfl (lv_at hl 0 rfl) ?_
  refine va_get (D := (dC, dI)) (ci := 11) (v := .ref o2) (C := RX11) (T := TX11) (N := 13) hx hb hts iw_X11_far_X11 hown hK hP 0 rfl rfl 0 (by decide) (hts (.fieldLink RX11 10 "HolelessHouse" "graph" "LHolelessHouse$Graph;") hm_X11_far_2) (fun _ h9 => h9) rfl dX11_far_5 ?_
  refine kc_v (D := (dC, dI)) (S := Int32 × Int32 × (Nat → Nat → Int32) × (Nat → Int32)) (wc := ([(o91, .inr (2, [.ref o92, .ref o95, .int v97, .int v98])), (o2, .inr (4, [.ref o3, .int v5, .int v6])), (o3, .inl (cI, 12, .inl fw4)), (o92, .inl (c2, 12, .inr (.inr (.inr (.inr (fun i => if i < 12 then some (rw93 i) else none)))))), (o95, .inl (cI, 3, .inl fw96))] : va_W) ++ (gr12 rw93 cI 12 Gw94 ++ ([] : va_W))) (wr := [(o1, .inr (11, [.ref o2, .ref o7, .ref o12, .ref o41, .ref o51, .ref o64, .ref o77, .ref o84, .ref o91, .ref o99, .ref o111, .ref o123, .int v125]))]) (w1 := fun u => ([(o91, .inr (2, [.ref o92, .ref o95, .int u.1, .int u.2.1])), (o2, .inr (4, [.ref o3, .int v5, .int v6])), (o3, .inl (cI, 12, .inl fw4)), (o92, .inl (c2, 12, .inr (.inr (.inr (.inr (fun i => if i < 12 then some (rw93 i) else none)))))), (o95, .inl (cI, 3, .inl u.2.2.2))] : va_W) ++ (gr12 rw93 cI 12 u.2.2.1 ++ ([] : va_W))) (wn := fun u => ([(o1, .inr (11, [.ref o2, .ref o7, .ref o12, .ref o41, .ref o51, .ref o64, .ref o77, .ref o84, .ref o91, .ref o99, .ref o111, .ref o123, .int v125])), (o91, .inr (2, [.ref o92, .ref o95, .int u.1, .int u.2.1])), (o2, .inr (4, [.ref o3, .int v5, .int v6])), (o3, .inl (cI, 12, .inl fw4)), (o92, .inl (c2, 12, .inr (.inr (.inr (.inr (fun i => if i < 12 then some (rw93 i) else none)))))), (o95, .inl (cI, 3, .inl u.2.2.2))] : va_W) ++ (gr12 rw93 cI 12 u.2.2.1 ++ ([] : va_W))) (fun hPc hDc => va_runVN (As := [.ref o2]) (rest := []) ⟨hx, hb, hml, hown, hts⟩ (kX2_bring_1 l dC dI cI c2 cZ o91 o2 o92 o95 o3 rw93 Gw94 fw96 v97 v98 fw4 v5 v6 s.heap.size v97_h fw4_b v5_h) ⟨va_cnB 1 hts gX11_far_X2_bring_n244 rfl rfl rfl (hN.1 _ ns_128) (hts (.initialized RX2) hm_X11_far_4) (by decide +kernel) ⟨Nat.le_of_ble_eq_true rfl, Nat.le_of_ble_eq_true rfl⟩, (hts (.instanceMethod yX2_bring) hm_X11_far_3), (hts (.selects RX2 yX2_bring yX2_bring) hm_X11_far_5)⟩ (pre_V hPc hK hDc hN (ci := 2) (q0 := 0) rfl rfl) rfl rfl hl.1 rfl (lv_room (Nat.le_of_ble_eq_true rfl)) dX11_far_8 ⟨Nat.le_of_ble_eq_true rfl, Nat.le_of_ble_eq_true rfl⟩) hP hD hS hA [1, 2, 3, 4, 5, 6, 7, 8, 9, 10, 11, 12, 13, 14, 15, 16, 17] [0] [0, 1, 2, 3, 4, 5, 6, 7, 8, 9, 10, 11, 12, 13, 14, 15, 16, 17] rfl rfl (by decide +kernel) (by decide +kernel) (by decide +kernel) (by decide +kernel) (fun _ => rfl) (fun u H locs hq hP hD hS => ?_)
  obtain ⟨y1, y2, G3, f4⟩ := u
  have y1_h := hq
  have hP : va_P (dC, dI) vwCl (([(o1, .inr (11, [.ref o2, .ref o7, .ref o12, .ref o41, .ref o51, .ref o64, .ref o77, .ref o84, .ref o91, .ref o99, .ref o111, .ref o123, .int v125])), (o91, .inr (2, [.ref o92, .ref o95, .int y1, .int y2])), (o2, .inr (4, [.ref o3, .int v5, .int v6])), (o3, .inl (cI, 12, .inl fw4)), (o92, .inl (c2, 12, .inr (.inr (.inr (.inr (fun i => if i < 12 then some (rw93 i) else none)))))), (o95, .inl (cI, 3, .inl f4))] : va_W) ++ (gr12 rw93 cI 12 G3 ++ ([] : va_W))) H := hP
  have hD : va_D A (([(o1, .inr (11, [.ref o2, .ref o7, .ref o12, .ref o41, .ref o51, .ref o64, .ref o77, .ref o84, .ref o91, .ref o99, .ref o111, .ref o123, .int v125])), (o91, .inr (2, [.ref o92, .ref o95, .int y1, .int y2])), (o2, .inr (4, [.ref o3, .int v5, .int v6])), (o3, .inl (cI, 12, .inl fw4)), (o92, .inl (c2, 12, .inr (.inr (.inr (.inr (fun i => if i < 12 then some (rw93 i) else none)))))), (o95, .inl (cI, 3, .inl f4))] : va_W) ++ (gr12 rw93 cI 12 G3 ++ ([] : va_W))) := hD
  refine lv_aload_n hx hb dX11_far_11 rfl (lv_at hl 0 rfl) ?_
  refine va_get (D := (dC, dI)) (ci := 11) (v := .ref o91) (C := RX11) (T := TX11) (N := 13) hx hb hts iw_X11_far_X11 hown hK hP 0 rfl rfl 8 (by decide) (hts (.fieldLink RX11 66 "HolelessHouse" "farThree" "LHolelessHouse$FarThree;") hm_X11_far_1) (fun _ h9 => h9) rfl dX11_far_12 ?_
  refine va_getN (D := (dC, dI)) (ci := 2) (v := .int y1) (C := RX2) (T := TX2) (N := 4) hx hb hts iw_X11_far_X2 hown hK hP 1 rfl rfl 2 (by decide) (hN.use ns_42) (fun _ h9 => h9) rfl dX11_far_15 ?_
  refine lv_if_eq (tgt := 42) hx hb dX11_far_18 (by decide) (fun h5 => ?_) (fun h5 => ?_)
  ·
    have j6 : Iv 0 0 y1 := r_eq h5 ik_0
    refine lv_bipush (v := (-9)) hx hb dX11_far_42 (by decide) ?_
    rw [hQ]
    exact W.iret (v := (-9)) hx hb hr (fun t ht hW => ⟨⟨(-9), (y1, y2, G3, f4), rfl, (iv_w j6 (by decide)), by rw [ht]; exact hP, va_K.moved hW.alike hK, hD⟩, hS.F ht⟩) hS.2.2 dX11_far_44
  ·
    have j7 : Iv 1 1 y1 := r_nelo h5 y1_h ik_0 (by decide)
    refine lv_iload_n hx hb dX11_far_21 rfl (lv_at hl 1 rfl) ?_
    refine lv_if_lt (tgt := 42) hx hb dX11_far_22 (by decide) (fun h8 => ?_) (fun h8 => ?_)
    ·
      have qh8 := lt_i h8
      have j9 : Iv (-2147483648) (-1) a1 := r_ltl qh8 (iv_full a1) ik_0 (by decide)
      refine lv_bipush (v := (-9)) hx hb dX11_far_42 (by decide) ?_
      rw [hQ]
      exact W.iret (v := (-9)) hx hb hr (fun t ht hW => ⟨⟨(-9), (y1, y2, G3, f4), rfl, (iv_w j7 (by decide)), by rw [ht]; exact hP, va_K.moved hW.alike hK, hD⟩, hS.F ht⟩) hS.2.2 dX11_far_44
    ·
      have qh8 := nlt_i h8
      have j10 : Iv 0 2147483647 a1 := r_ler qh8 ik_0 (iv_full a1) (by decide)
      refine lv_iload_n hx hb dX11_far_25 rfl (lv_at hl 1 rfl) ?_
      refine lv_iconst (v := 3) hx hb dX11_far_26 (by decide) ?_
      refine lv_icmp_ge (tgt := 42) hx hb dX11_far_27 (by decide) (fun h11 => ?_) (fun h11 => ?_)
      ·
        have qh11 := le_i h11
        have j12 : Iv 3 2147483647 a1 := r_ler qh11 ik_3 j10 (by decide)
        refine lv_bipush (v := (-9)) hx hb dX11_far_42 (by decide) ?_
        rw [hQ]
        exact W.iret (v := (-9)) hx hb hr (fun t ht hW => ⟨⟨(-9), (y1, y2, G3, f4), rfl, (iv_w j7 (by decide)), by rw [ht]; exact hP, va_K.moved hW.alike hK, hD⟩, hS.F ht⟩) hS.2.2 dX11_far_44
      ·
        have qh11 := nle_i h11
        have j13 : Iv 0 2 a1 := r_ltl qh11 j10 ik_3 (by decide)
        refine lv_aload_n hx hb dX11_far_30 rfl (lv_at hl 0 rfl) ?_
        refine va_get (D := (dC, dI)) (ci := 11) (v := .ref o91) (C := RX11) (T := TX11) (N := 13) hx hb hts iw_X11_far_X11 hown hK hP 0 rfl rfl 8 (by decide) (hts (.fieldLink RX11 66 "HolelessHouse" "farThree" "LHolelessHouse$FarThree;") hm_X11_far_1) (fun _ h9 => h9) rfl dX11_far_31 ?_
        refine va_getN (D := (dC, dI)) (ci := 2) (v := .ref o95) (C := RX2) (T := TX2) (N := 4) hx hb hts iw_X11_far_X2 hown hK hP 1 rfl rfl 1 (by decide) (hN.use ns_41) (fun _ h9 => h9) rfl dX11_far_34 ?_
        refine lv_iload_n hx hb dX11_far_37 rfl (lv_at hl 1 rfl) ?_
        refine va_iald hx hb hK hP 5 0 rfl rfl (vin_iv j13 (by decide)) dX11_far_38 (lv_topi (fun x14 x14_e => ?_))
        refine lv_goto (tgt := 44) hx hb dX11_far_39 (by decide) ?_
        rw [hQ]
        exact W.iret (v := x14) hx hb hr (fun t ht hW => ⟨⟨x14, (y1, y2, G3, f4), rfl, (iv_w j7 (by decide)), by rw [ht]; exact hP, va_K.moved hW.alike hK, hD⟩, hS.F ht⟩) hS.2.2 dX11_far_44
set_option maxHeartbeats 4000000 in
set_option maxRecDepth 100000 in
theorem kJ7_fill_53178_3 (l : Launch) (dC : Nat → ClassId) (dI : Nat → Nat → Nat) (cI c2 cZ : ClassId) (o1 : Nat) (fw2 : Nat → Int32) (a1 : Int32) (sz : Nat) (fw2_b : Bd 12 (-1) 255 fw2) (a1_h : Iv (-1) (-1) a1) : Met l yJ7_fill_53178 wsJ7_fill_53178 ({ frames := 0, cells := 0, slots := 0, locals := 0 }) (va_Pc [.ref o1, .int a1] (wPre (dC, dI) [(cI, .int), (c2, .array .int), (cZ, .boolean)] ([(o1, .inl (cI, 12, .inl fw2))]) sz)) (va_Qv (fun (u : (Nat → Int32)) => Bd 12 (-1) 255 u) (fun u t => wPost (dC, dI) [(cI, .int), (c2, .array .int), (cZ, .boolean)] (va_A ([(o1, .inl (cI, 12, .inl fw2))]) sz) ([(o1, .inl (cI, 12, .inl u))]) t) (va_A ([(o1, .inl (cI, 12, .inl fw2))]) sz)) 0 0 (va_A ([(o1, .inl (cI, 12, .inl fw2))]) sz) := by
  refine Met.ofW (cc := cJ7_fill_53178) (maxL := 4) (ret := none) (by decide) rfl ?_
  intro p e s m args below meth c s₁ B hml hv
  obtain ⟨rfl, hsz, hP, hK, hD0, hN⟩ := hv
  have hx := B.exec
  have hb := B.bytes
  have hr := B.returns
  have hts := atoms_spec (ws := wsJ7_fill_53178) B.pre
  have hown : s.vm.findClass RJ7 = some m.cls := findClass_of_methodNamed B.named
  have hlocks := B.notSynchronized
  subst hsz
  have hD := hD0.self (sz := s.heap.size)
  generalize hAe : va_A ([(o1, .inl (cI, 12, .inl fw2))]) s.heap.size = A at hD ⊢
  have hA : ∀ q : Nat, s.heap.size ≤ q → A q := fun q h => by rw [← hAe]; exact Or.inr h
  have hS : va_S A s.heap s.heap [] := va_S.rf
  have hP : va_P (dC, dI) vwCl ([(o1, .inl (cI, 12, .inl fw2))]) s.heap := hP
  have hl := lv_entry ([.ref o1, .int a1]) (n := 4) (Nat.le_of_ble_eq_true rfl)
  rw [lg_entry_eq]
  generalize (lg_sl ([.ref o1, .int a1]) ++ List.replicate (4 - (lg_sl ([.ref o1, .int a1])).length) Slot.unset).toArray = ls at hl ⊢
  have hl : lv_has ls 4 [(0, .ref o1), (1, .int a1)] := hl
  refine gen_Q (fun Q hQ => ?_)
  refine lv_iconst (v := 0) hx hb dJ7_fill_53178_0 (by decide) ?_
  refine lv_istore_n (lv' := [(2, .int 0), (0, .ref o1), (1, .int a1)]) hx hb dJ7_fill_53178_1 rfl hl (by decide) rfl (fun ls hl => ?_)
  refine lv_aload_n hx hb dJ7_fill_53178_2 rfl (lv_at hl 1 rfl) ?_
  refine va_alen (v := 12) hx hb hK hP 0 0 rfl rfl (by show Int32.ofNat 12 = 12; decide +kernel) dJ7_fill_53178_3 ?_
  refine lv_istore_n (lv' := [(3, .int 12), (2, .int 0), (0, .ref o1), (1, .int a1)]) hx hb dJ7_fill_53178_4 rfl hl (by decide) rfl (fun ls hl => ?_)
  have L1 : ∀ (N : Nat) (x33 : Int32) (f34 : Nat → Int32) (H : Heap) (locs : List Loc) (ls : Array Slot), (12 - x33.toInt).toNat < N → Iv 0 12 x33 → Bd 12 (-1) 255 f34 → va_P (dC, dI) vwCl ([(o1, .inl (cI, 12, .inl f34))]) H → va_D A ([(o1, .inl (cI, 12, .inl f34))]) → va_S A s.heap H locs → lv_has ls 4 [(3, .int 12), (2, .int x33), (0, .ref o1), (1, .int a1)] → W p l e ({ frames := 0, cells := 0, slots := 0, locals := 0 }) s m ([.ref o1, .int a1] : List Value).toArray below meth c H locs 0 0 Q (F0 m 5 ls []) := by
    intro N
    induction N with
    | zero =>
      intro x33 f34 H locs ls hM
      exact absurd hM (Nat.not_lt_zero _)
    | succ N ih1 =>
      intro x33 f34 H locs ls hM1 x33_h f34_b hP hD hS hl
      refine lv_iload_n hx hb dJ7_fill_53178_5 rfl (lv_at hl 1 rfl) ?_
      refine lv_iload_n hx hb dJ7_fill_53178_6 rfl (lv_at hl 0 rfl) ?_
      refine lv_icmp_ge (tgt := 20) hx hb dJ7_fill_53178_7 (by decide) (fun h35 => ?_) (fun h35 => ?_)
      ·
        have qh35 := le_i h35
        have j36 : Iv 12 12 x33 := r_ler qh35 ik_12 x33_h (by decide)
        rw [hQ]
        exact W.vret hx hb hr (fun t ht hW => ⟨⟨f34, rfl, f34_b, by rw [ht]; exact hP, va_K.moved hW.alike hK, hD⟩, hS.F ht⟩) hS.2.2 dJ7_fill_53178_20
      ·
        have qh35 := nle_i h35
        have j37 : Iv 0 11 x33 := r_ltl qh35 x33_h ik_12 (by decide)
        refine lv_aload_n hx hb dJ7_fill_53178_10 rfl (lv_at hl 2 rfl) ?_
        refine lv_iload_n hx hb dJ7_fill_53178_11 rfl (lv_at hl 1 rfl) ?_
        refine lv_iload_n hx hb dJ7_fill_53178_12 rfl (lv_at hl 3 rfl) ?_
        refine k_iast hx hb hK hP hD hS 0 0 rfl rfl (vin_iv j37 (by decide)) dJ7_fill_53178_13 (fun f38 H locs f38_e hP hD hS => ?_)
        have f38_b : Bd 12 (-1) 255 f38 := bd_upd f38_e f34_b a1_h (by decide)
        have hP : va_P (dC, dI) vwCl ([(o1, .inl (cI, 12, .inl f38))]) H := hP
        have hD : va_D A ([(o1, .inl (cI, 12, .inl f38))]) := hD
        obtain ⟨x39, x39_e⟩ : ∃ z : Int32, z = x33 + 1 := ⟨_, rfl⟩
        have x39_h : Iv 1 12 x39 := iv_e x39_e (iv_add j37 ik_1 (by decide))
        refine lv_iinc (v := x39) (lv' := [(2, .int x39), (3, .int 12), (0, .ref o1), (1, .int a1)]) hx hb dJ7_fill_53178_14 hl (k := 1) rfl (incN (by decide +kernel) x39_e) (by decide) rfl (fun ls hl => ?_)
        refine lv_goto (tgt := 5) hx hb dJ7_fill_53178_17 (by decide) ?_
        exact ih1 x39 f38 _ _ _ (ms_up x39_e j37 (by decide) hM1) (iv_w x39_h (by decide)) f38_b hP hD hS (lv_sub hl [1, 0, 2, 3] rfl)
  exact L1 _ 0 fw2 _ _ _ (Nat.lt_succ_self _) (iv_w ik_0 (by decide)) fw2_b hP hD hS hl
theorem iw_X10_restart_X10 : ∀ w ∈ wsX100, w ∈ wsX10_restart := fun _ h => List.mem_cons.mpr (Or.inr (List.mem_append.mpr (Or.inr h)))
set_option maxHeartbeats 4000000 in
set_option maxRecDepth 100000 in
theorem kX10_restart_1 (l : Launch) (dC : Nat → ClassId) (dI : Nat → Nat → Nat) (cI c2 cZ : ClassId) (o1 : Nat) (o2 : Nat) (fw3 : Nat → Int32) (v4 : Int32) (v5 : Int32) (a1 : Int32) (sz : Nat) (fw3_b : Bd 12 (-1) 255 fw3) (v4_h : Iv 0 8 v4) (a1_h : Iv 0 8 a1) : Met l yX10_restart wsX10_restart ({ frames := 1, cells := 0, slots := 0, locals := 23 }) (va_Pc [.ref o1, .int a1] (wPre (dC, dI) [(cI, .int), (c2, .array .int), (cZ, .boolean)] ([(o1, .inr (10, [.ref o2, .int v4, .int v5])), (o2, .inl (cI, 12, .inl fw3))]) sz)) (va_Qv (fun (u : Int32 × Int32 × (Nat → Int32)) => Iv 0 8 u.1 ∧ Bd 12 (-1) 255 u.2.2) (fun u t => wPost (dC, dI) [(cI, .int), (c2, .array .int), (cZ, .boolean)] (va_A ([(o1, .inr (10, [.ref o2, .int v4, .int v5])), (o2, .inl (cI, 12, .inl fw3))]) sz) ([(o1, .inr (10, [.ref o2, .int u.1, .int u.2.1])), (o2, .inl (cI, 12, .inl u.2.2))]) t) (va_A ([(o1, .inr (10, [.ref o2, .int v4, .int v5])), (o2, .inl (cI, 12, .inl fw3))]) sz)) 0 0 (va_A ([(o1, .inr (10, [.ref o2, .int v4, .int v5])), (o2, .inl (cI, 12, .inl fw3))]) sz) := by
  refine Met.ofW (cc := cX10_restart) (maxL := 2) (ret := none) (by decide) rfl ?_
  intro p e s m args below meth c s₁ B hml hv
  obtain ⟨rfl, hsz, hP, hK, hD0, hN⟩ := hv
  have hx := B.exec
  have hb := B.bytes
  have hr := B.returns
  have hts := atoms_spec (ws := wsX10_restart) B.pre
  have hown : s.vm.findClass RX10 = some m.cls := findClass_of_methodNamed B.named
  have hlocks := B.notSynchronized
  subst hsz
  have hD := hD0.self (sz := s.heap.size)
  generalize hAe : va_A ([(o1, .inr (10, [.ref o2, .int v4, .int v5])), (o2, .inl (cI, 12, .inl fw3))]) s.heap.size = A at hD ⊢
  have hA : ∀ q : Nat, s.heap.size ≤ q → A q := fun q h => by rw [← hAe]; exact Or.inr h
  have hS : va_S A s.heap s.heap [] := va_S.rf
  have hP : va_P (dC, dI) vwCl ([(o1, .inr (10, [.ref o2, .int v4, .int v5])), (o2, .inl (cI, 12, .inl fw3))]) s.heap := hP
  have hl := lv_entry ([.ref o1, .int a1]) (n := 2) (Nat.le_of_ble_eq_true rfl)
  rw [lg_entry_eq]
  generalize (lg_sl ([.ref o1, .int a1]) ++ List.replicate (2 - (lg_sl ([.ref o1, .int a1])).length) Slot.unset).toArray = ls at hl ⊢
  have hl : lv_has ls 2 [(0, .ref o1), (1, .int a1)] := hl
  refine gen_Q (fun Q hQ => ?_)
  refine lv_aload_n hx hb dX10_restart_0 rfl (lv_at hl 0 rfl) ?_
  refine lv_iload_n hx hb dX10_restart_1 rfl (lv_at hl 1 rfl) ?_
  refine va_put (D := (dC, dI)) (ci := 10) (v := .int a1) (ty := .int) (C := RX10) (T := TX10) (N := 3) hx hb hts iw_X10_restart_X10 tyX10 tyX10_ok nmX10 hown hK hP hD hS 0 rfl rfl 1 (by decide) (hts (.fieldLink RX10 15 "HolelessHouse$Table" "width" "I") hm_X10_restart_1) (fun _ h9 => h9) rfl (by decide +kernel) rfl rfl (Nat.le_of_ble_eq_true rfl) dX10_restart_2 (fun H locs hP hD hS => ?_)
  have hP : va_P (dC, dI) vwCl ([(o1, .inr (10, [.ref o2, .int a1, .int v5])), (o2, .inl (cI, 12, .inl fw3))]) H := hP
  have hD : va_D A ([(o1, .inr (10, [.ref o2, .int a1, .int v5])), (o2, .inl (cI, 12, .inl fw3))]) := hD
  refine lv_aload_n hx hb dX10_restart_5 rfl (lv_at hl 0 rfl) ?_
  refine va_get (D := (dC, dI)) (ci := 10) (v := .ref o2) (C := RX10) (T := TX10) (N := 3) hx hb hts iw_X10_restart_X10 hown hK hP 0 rfl rfl 0 (by decide) (hts (.fieldLink RX10 9 "HolelessHouse$Table" "rows" "[I") hm_X10_restart_2) (fun _ h9 => h9) rfl dX10_restart_6 ?_
  refine lv_iconst (v := (-1)) hx hb dX10_restart_9 (by decide) ?_
  refine kc_v (D := (dC, dI)) (S := (Nat → Int32)) (wc := [(o2, .inl (cI, 12, .inl fw3))]) (wr := [(o1, .inr (10, [.ref o2, .int a1, .int v5]))]) (w1 := fun u => [(o2, .inl (cI, 12, .inl u))]) (wn := fun u => [(o1, .inr (10, [.ref o2, .int a1, .int v5])), (o2, .inl (cI, 12, .inl u))]) (fun hPc hDc => va_runS (As := [.ref o2, .int (-1)]) (rest := []) ⟨hx, hb, hml, hown, hts⟩ (kJ7_fill_53178_3 l dC dI cI c2 cZ o2 fw3 (-1) H.size fw3_b ikm_1) (va_cwS 2 hts gX10_restart_J7_fill_53178 rfl rfl rfl (by decide +kernel) ⟨Nat.le_of_ble_eq_true rfl, Nat.le_of_ble_eq_true rfl⟩) (pre_S hPc hK hDc hN) rfl rfl hl.1 rfl (lv_room (Nat.le_of_ble_eq_true rfl)) dX10_restart_10 ⟨Nat.le_of_ble_eq_true rfl, Nat.le_of_ble_eq_true rfl⟩) hP hD hS hA [1] [0] [0, 1] rfl rfl (by decide +kernel) (by decide +kernel) (by decide +kernel) (by decide +kernel) (fun _ => rfl) (fun f1 H locs hq hP hD hS => ?_)
  have f1_b := hq
  have hP : va_P (dC, dI) vwCl ([(o1, .inr (10, [.ref o2, .int a1, .int v5])), (o2, .inl (cI, 12, .inl f1))]) H := hP
  have hD : va_D A ([(o1, .inr (10, [.ref o2, .int a1, .int v5])), (o2, .inl (cI, 12, .inl f1))]) := hD
  refine lv_aload_n hx hb dX10_restart_13 rfl (lv_at hl 0 rfl) ?_
  refine lv_dup hx hb dX10_restart_14 rfl ?_
  refine va_get (D := (dC, dI)) (ci := 10) (v := .int v5) (C := RX10) (T := TX10) (N := 3) hx hb hts iw_X10_restart_X10 hown hK hP 0 rfl rfl 2 (by decide) (hts (.fieldLink RX10 19 "HolelessHouse$Table" "version" "I") hm_X10_restart_3) (fun _ h9 => h9) rfl dX10_restart_15 ?_
  refine lv_iconst (v := 1) hx hb dX10_restart_18 (by decide) ?_
  refine lv_iadd hx hb dX10_restart_19 (lv_topi (fun x2 x2_e => ?_))
  refine va_put (D := (dC, dI)) (ci := 10) (v := .int x2) (ty := .int) (C := RX10) (T := TX10) (N := 3) hx hb hts iw_X10_restart_X10 tyX10 tyX10_ok nmX10 hown hK hP hD hS 0 rfl rfl 2 (by decide) (hts (.fieldLink RX10 19 "HolelessHouse$Table" "version" "I") hm_X10_restart_3) (fun _ h9 => h9) rfl (by decide +kernel) rfl rfl (Nat.le_of_ble_eq_true rfl) dX10_restart_20 (fun H locs hP hD hS => ?_)
  have hP : va_P (dC, dI) vwCl ([(o1, .inr (10, [.ref o2, .int a1, .int x2])), (o2, .inl (cI, 12, .inl f1))]) H := hP
  have hD : va_D A ([(o1, .inr (10, [.ref o2, .int a1, .int x2])), (o2, .inl (cI, 12, .inl f1))]) := hD
  rw [hQ]
  exact W.vret hx hb hr (fun t ht hW => ⟨⟨(a1, x2, f1), rfl, ⟨a1_h, f1_b⟩, by rw [ht]; exact hP, va_K.moved hW.alike hK, hD⟩, hS.F ht⟩) hS.2.2 dX10_restart_23
set_option maxHeartbeats 4000000 in
set_option maxRecDepth 100000 in
theorem kX11_found_2 (l : Launch) (dC : Nat → ClassId) (dI : Nat → Nat → Nat) (cI c2 cZ : ClassId) (o1 : Nat) (o2 : Nat) (o7 : Nat) (o12 : Nat) (o41 : Nat) (o51 : Nat) (o64 : Nat) (o77 : Nat) (o84 : Nat) (o91 : Nat) (o99 : Nat) (o111 : Nat) (o123 : Nat) (fw124 : Nat → Int32) (v125 : Int32) (a1 : Int32) (sz : Nat) (a1_h : Iv 4 4 a1) : Met l yX11_found wsX11_found ({ frames := 0, cells := 0, slots := 0, locals := 0 }) (va_Pc [.ref o1, .int a1] (wPre (dC, dI) [(cI, .int), (c2, .array .int), (cZ, .boolean)] ([(o1, .inr (11, [.ref o2, .ref o7, .ref o12, .ref o41, .ref o51, .ref o64, .ref o77, .ref o84, .ref o91, .ref o99, .ref o111, .ref o123, .int v125])), (o123, .inl (cI, 5, .inl fw124))]) sz)) (va_Qi (fun (r : Int32) (u : Int32 × (Nat → Int32)) => Iv (-3) (-3) r) (fun u t => wPost (dC, dI) [(cI, .int), (c2, .array .int), (cZ, .boolean)] (va_A ([(o1, .inr (11, [.ref o2, .ref o7, .ref o12, .ref o41, .ref o51, .ref o64, .ref o77, .ref o84, .ref o91, .ref o99, .ref o111, .ref o123, .int v125])), (o123, .inl (cI, 5, .inl fw124))]) sz) ([(o1, .inr (11, [.ref o2, .ref o7, .ref o12, .ref o41, .ref o51, .ref o64, .ref o77, .ref o84, .ref o91, .ref o99, .ref o111, .ref o123, .int u.1])), (o123, .inl (cI, 5, .inl u.2))]) t) (va_A ([(o1, .inr (11, [.ref o2, .ref o7, .ref o12, .ref o41, .ref o51, .ref o64, .ref o77, .ref o84, .ref o91, .ref o99, .ref o111, .ref o123, .int v125])), (o123, .inl (cI, 5, .inl fw124))]) sz)) 0 0 (va_A ([(o1, .inr (11, [.ref o2, .ref o7, .ref o12, .ref o41, .ref o51, .ref o64, .ref o77, .ref o84, .ref o91, .ref o99, .ref o111, .ref o123, .int v125])), (o123, .inl (cI, 5, .inl fw124))]) sz) := by
  refine Met.ofW (cc := cX11_found) (maxL := 2) (ret := (some .int)) (by decide) rfl ?_
  intro p e s m args below meth c s₁ B hml hv
  obtain ⟨rfl, hsz, hP, hK, hD0, hN⟩ := hv
  have hx := B.exec
  have hb := B.bytes
  have hr := B.returns
  have hts := atoms_spec (ws := wsX11_found) B.pre
  have hown : s.vm.findClass RX11 = some m.cls := findClass_of_methodNamed B.named
  have hlocks := B.notSynchronized
  subst hsz
  have hD := hD0.self (sz := s.heap.size)
  generalize hAe : va_A ([(o1, .inr (11, [.ref o2, .ref o7, .ref o12, .ref o41, .ref o51, .ref o64, .ref o77, .ref o84, .ref o91, .ref o99, .ref o111, .ref o123, .int v125])), (o123, .inl (cI, 5, .inl fw124))]) s.heap.size = A at hD ⊢
  have hA : ∀ q : Nat, s.heap.size ≤ q → A q := fun q h => by rw [← hAe]; exact Or.inr h
  have hS : va_S A s.heap s.heap [] := va_S.rf
  have hP : va_P (dC, dI) vwCl ([(o1, .inr (11, [.ref o2, .ref o7, .ref o12, .ref o41, .ref o51, .ref o64, .ref o77, .ref o84, .ref o91, .ref o99, .ref o111, .ref o123, .int v125])), (o123, .inl (cI, 5, .inl fw124))]) s.heap := hP
  have hl := lv_entry ([.ref o1, .int a1]) (n := 2) (Nat.le_of_ble_eq_true rfl)
  rw [lg_entry_eq]
  generalize (lg_sl ([.ref o1, .int a1]) ++ List.replicate (2 - (lg_sl ([.ref o1, .int a1])).length) Slot.unset).toArray = ls at hl ⊢
  have hl : lv_has ls 2 [(0, .ref o1), (1, .int a1)] := hl
  refine gen_Q (fun Q hQ => ?_)
  refine lv_aload_n hx hb dX11_found_0 rfl (lv_at hl 0 rfl) ?_
  refine lv_iload_n hx hb dX11_found_1 rfl (lv_at hl 1 rfl) ?_
  refine va_put (D := (dC, dI)) (ci := 11) (v := .int a1) (ty := .int) (C := RX11) (T := TX11) (N := 13) hx hb hts iw_X11_found_X11 tyX11 tyX11_ok nmX11 hown hK hP hD hS 0 rfl rfl 12 (by decide) (hts (.fieldLink RX11 86 "HolelessHouse" "latest" "I") hm_X11_found_1) (fun _ h9 => h9) rfl (by decide +kernel) rfl rfl (Nat.le_of_ble_eq_true rfl) dX11_found_2 (fun H locs hP hD hS => ?_)
  have hP : va_P (dC, dI) vwCl ([(o1, .inr (11, [.ref o2, .ref o7, .ref o12, .ref o41, .ref o51, .ref o64, .ref o77, .ref o84, .ref o91, .ref o99, .ref o111, .ref o123, .int a1])), (o123, .inl (cI, 5, .inl fw124))]) H := hP
  have hD : va_D A ([(o1, .inr (11, [.ref o2, .ref o7, .ref o12, .ref o41, .ref o51, .ref o64, .ref o77, .ref o84, .ref o91, .ref o99, .ref o111, .ref o123, .int a1])), (o123, .inl (cI, 5, .inl fw124))]) := hD
  refine lv_aload_n hx hb dX11_found_5 rfl (lv_at hl 0 rfl) ?_
  refine va_get (D := (dC, dI)) (ci := 11) (v := .ref o123) (C := RX11) (T := TX11) (N := 13) hx hb hts iw_X11_found_X11 hown hK hP 0 rfl rfl 11 (by decide) (hts (.fieldLink RX11 82 "HolelessHouse" "timesFound" "[I") hm_X11_found_2) (fun _ h9 => h9) rfl dX11_found_6 ?_
  refine lv_iload_n hx hb dX11_found_9 rfl (lv_at hl 1 rfl) ?_
  refine lv_dup2_11 hx hb dX11_found_10 rfl rfl ?_
  refine va_iald hx hb hK hP 1 0 rfl rfl (vin_iv a1_h (by decide)) dX11_found_11 (lv_topi (fun x1 x1_e => ?_))
  refine lv_iconst (v := 1) hx hb dX11_found_12 (by decide) ?_
  refine lv_iadd hx hb dX11_found_13 (lv_topi (fun x2 x2_e => ?_))
  refine k_iast hx hb hK hP hD hS 1 0 rfl rfl (vin_iv a1_h (by decide)) dX11_found_14 (fun f3 H locs f3_e hP hD hS => ?_)
  have hP : va_P (dC, dI) vwCl ([(o1, .inr (11, [.ref o2, .ref o7, .ref o12, .ref o41, .ref o51, .ref o64, .ref o77, .ref o84, .ref o91, .ref o99, .ref o111, .ref o123, .int a1])), (o123, .inl (cI, 5, .inl f3))]) H := hP
  have hD : va_D A ([(o1, .inr (11, [.ref o2, .ref o7, .ref o12, .ref o41, .ref o51, .ref o64, .ref o77, .ref o84, .ref o91, .ref o99, .ref o111, .ref o123, .int a1])), (o123, .inl (cI, 5, .inl f3))]) := hD
  refine lv_bipush (v := (-3)) hx hb dX11_found_15 (by decide) ?_
  rw [hQ]
  exact W.iret (v := (-3)) hx hb hr (fun t ht hW => ⟨⟨(-3), (a1, f3), rfl, ikm_3, by rw [ht]; exact hP, va_K.moved hW.alike hK, hD⟩, hS.F ht⟩) hS.2.2 dX11_found_17
theorem iw_X11_columns_X11 : ∀ w ∈ wsX110, w ∈ wsX11_columns := fun _ h => List.mem_cons.mpr (Or.inr (List.mem_append.mpr (Or.inl (List.mem_append.mpr (Or.inr h)))))
set_option maxHeartbeats 4000000 in
set_option maxRecDepth 100000 in
theorem kX11_columns_1 (l : Launch) (dC : Nat → ClassId) (dI : Nat → Nat → Nat) (cI c2 cZ : ClassId) (o1 : Nat) (o2 : Nat) (o7 : Nat) (o12 : Nat) (o41 : Nat) (o51 : Nat) (o64 : Nat) (o77 : Nat) (o84 : Nat) (o91 : Nat) (o99 : Nat) (o111 : Nat) (o123 : Nat) (o8 : Nat) (fw9 : Nat → Int32) (v10 : Int32) (v11 : Int32) (fw124 : Nat → Int32) (v125 : Int32) (a1 : Int32) (sz : Nat) (fw9_b : Bd 12 (-1) 255 fw9) (v10_h : Iv 0 8 v10) : Met l yX11_columns wsX11_columns ({ frames := 2, cells := 0, slots := 0, locals := 44 }) (va_Pc [.ref o1, .int a1] (wPre (dC, dI) [(cI, .int), (c2, .array .int), (cZ, .boolean)] ([(o1, .inr (11, [.ref o2, .ref o7, .ref o12, .ref o41, .ref o51, .ref o64, .ref o77, .ref o84, .ref o91, .ref o99, .ref o111, .ref o123, .int v125])), (o7, .inr (10, [.ref o8, .int v10, .int v11])), (o8, .inl (cI, 12, .inl fw9)), (o123, .inl (cI, 5, .inl fw124))]) sz)) (va_Qi (fun (r : Int32) (u : Int32 × Int32 × Int32 × (Nat → Int32) × (Nat → Int32)) => Iv (-3) 8 r ∧ Iv 0 8 u.2.1 ∧ Bd 12 (-1) 255 u.2.2.2.1) (fun u t => wPost (dC, dI) [(cI, .int), (c2, .array .int), (cZ, .boolean)] (va_A ([(o1, .inr (11, [.ref o2, .ref o7, .ref o12, .ref o41, .ref o51, .ref o64, .ref o77, .ref o84, .ref o91, .ref o99, .ref o111, .ref o123, .int v125])), (o7, .inr (10, [.ref o8, .int v10, .int v11])), (o8, .inl (cI, 12, .inl fw9)), (o123, .inl (cI, 5, .inl fw124))]) sz) ([(o1, .inr (11, [.ref o2, .ref o7, .ref o12, .ref o41, .ref o51, .ref o64, .ref o77, .ref o84, .ref o91, .ref o99, .ref o111, .ref o123, .int u.1])), (o7, .inr (10, [.ref o8, .int u.2.1, .int u.2.2.1])), (o8, .inl (cI, 12, .inl u.2.2.2.1)), (o123, .inl (cI, 5, .inl u.2.2.2.2))]) t) (va_A ([(o1, .inr (11, [.ref o2, .ref o7, .ref o12, .ref o41, .ref o51, .ref o64, .ref o77, .ref o84, .ref o91, .ref o99, .ref o111, .ref o123, .int v125])), (o7, .inr (10, [.ref o8, .int v10, .int v11])), (o8, .inl (cI, 12, .inl fw9)), (o123, .inl (cI, 5, .inl fw124))]) sz)) 0 0 (va_A ([(o1, .inr (11, [.ref o2, .ref o7, .ref o12, .ref o41, .ref o51, .ref o64, .ref o77, .ref o84, .ref o91, .ref o99, .ref o111, .ref o123, .int v125])), (o7, .inr (10, [.ref o8, .int v10, .int v11])), (o8, .inl (cI, 12, .inl fw9)), (o123, .inl (cI, 5, .inl fw124))]) sz) := by
  refine Met.ofW (cc := cX11_columns) (maxL := 2) (ret := (some .int)) (by decide) rfl ?_
  intro p e s m args below meth c s₁ B hml hv
  obtain ⟨rfl, hsz, hP, hK, hD0, hN⟩ := hv
  have hx := B.exec
  have hb := B.bytes
  have hr := B.returns
  have hts := atoms_spec (ws := wsX11_columns) B.pre
  have hown : s.vm.findClass RX11 = some m.cls := findClass_of_methodNamed B.named
  have hlocks := B.notSynchronized
  subst hsz
  have hD := hD0.self (sz := s.heap.size)
  generalize hAe : va_A ([(o1, .inr (11, [.ref o2, .ref o7, .ref o12, .ref o41, .ref o51, .ref o64, .ref o77, .ref o84, .ref o91, .ref o99, .ref o111, .ref o123, .int v125])), (o7, .inr (10, [.ref o8, .int v10, .int v11])), (o8, .inl (cI, 12, .inl fw9)), (o123, .inl (cI, 5, .inl fw124))]) s.heap.size = A at hD ⊢
  have hA : ∀ q : Nat, s.heap.size ≤ q → A q := fun q h => by rw [← hAe]; exact Or.inr h
  have hS : va_S A s.heap s.heap [] := va_S.rf
  have hP : va_P (dC, dI) vwCl ([(o1, .inr (11, [.ref o2, .ref o7, .ref o12, .ref o41, .ref o51, .ref o64, .ref o77, .ref o84, .ref o91, .ref o99, .ref o111, .ref o123, .int v125])), (o7, .inr (10, [.ref o8, .int v10, .int v11])), (o8, .inl (cI, 12, .inl fw9)), (o123, .inl (cI, 5, .inl fw124))]) s.heap := hP
  have hl := lv_entry ([.ref o1, .int a1]) (n := 2) (Nat.le_of_ble_eq_true rfl)
  rw [lg_entry_eq]
  generalize (lg_sl ([.ref o1, .int a1]) ++ List.replicate (2 - (lg_sl ([.ref o1, .int a1])).length) Slot.unset).toArray = ls at hl ⊢
  have hl : lv_has ls 2 [(0, .ref o1), (1, .int a1)] := hl
  refine gen_Q (fun Q hQ => ?_)
  refine lv_iload_n hx hb dX11_columns_0 rfl (lv_at hl 1 rfl) ?_
  refine lv_bipush (v := 8) hx hb dX11_columns_1 (by decide) ?_
  refine lv_icmp_le (tgt := 8) hx hb dX11_columns_3 (by decide) (fun h1 => ?_) (fun h1 => ?_)
  ·
    have qh1 := le_i h1
    have j2 : Iv (-2147483648) 8 a1 := r_lel qh1 (iv_full a1) ik_8 (by decide)
    refine lv_iload_n hx hb dX11_columns_8 rfl (lv_at hl 1 rfl) ?_
    refine lv_if_ge (tgt := 18) hx hb dX11_columns_9 (by decide) (fun h3 => ?_) (fun h3 => ?_)
    ·
      have qh3 := le_i h3
      have j4 : Iv 0 8 a1 := r_ler qh3 ik_0 j2 (by decide)
      refine lv_aload_n hx hb dX11_columns_18 rfl (lv_at hl 0 rfl) ?_
      refine va_get (D := (dC, dI)) (ci := 11) (v := .ref o7) (C := RX11) (T := TX11) (N := 13) hx hb hts iw_X11_columns_X11 hown hK hP 0 rfl rfl 1 (by decide) (hts (.fieldLink RX11 19 "HolelessHouse" "table" "LHolelessHouse$Table;") hm_X11_columns_1) (fun _ h9 => h9) rfl dX11_columns_19 ?_
      refine lv_iload_n hx hb dX11_columns_22 rfl (lv_at hl 1 rfl) ?_
      refine kc_v (D := (dC, dI)) (S := Int32 × Int32 × (Nat → Int32)) (wc := [(o7, .inr (10, [.ref o8, .int v10, .int v11])), (o8, .inl (cI, 12, .inl fw9))]) (wr := [(o1, .inr (11, [.ref o2, .ref o7, .ref o12, .ref o41, .ref o51, .ref o64, .ref o77, .ref o84, .ref o91, .ref o99, .ref o111, .ref o123, .int v125])), (o123, .inl (cI, 5, .inl fw124))]) (w1 := fun u => [(o7, .inr (10, [.ref o8, .int u.1, .int u.2.1])), (o8, .inl (cI, 12, .inl u.2.2))]) (wn := fun u => [(o1, .inr (11, [.ref o2, .ref o7, .ref o12, .ref o41, .ref o51, .ref o64, .ref o77, .ref o84, .ref o91, .ref o99, .ref o111, .ref o123, .int v125])), (o7, .inr (10, [.ref o8, .int u.1, .int u.2.1])), (o8, .inl (cI, 12, .inl u.2.2)), (o123, .inl (cI, 5, .inl fw124))]) (fun hPc hDc => va_runVN (As := [.int a1]) (rest := []) ⟨hx, hb, hml, hown, hts⟩ (kX10_restart_1 l dC dI cI c2 cZ o7 o8 fw9 v10 v11 a1 s.heap.size fw9_b v10_h j4) ⟨va_cnB 1 hts gX11_columns_X10_restart_n249 rfl rfl rfl (hN.1 _ ns_132) (hts (.initialized RX10) hm_X11_columns_10) (by decide +kernel) ⟨Nat.le_of_ble_eq_true rfl, Nat.le_of_ble_eq_true rfl⟩, (hts (.instanceMethod yX10_restart) hm_X11_columns_9), (hts (.selects RX10 yX10_restart yX10_restart) hm_X11_columns_11)⟩ (pre_V hPc hK hDc hN (ci := 10) (q0 := 0) rfl rfl) rfl rfl hl.1 rfl (lv_room (Nat.le_of_ble_eq_true rfl)) dX11_columns_23 ⟨Nat.le_of_ble_eq_true rfl, Nat.le_of_ble_eq_true rfl⟩) hP hD hS hA [1, 2] [0, 3] [0, 2, 3, 1] rfl rfl (by decide +kernel) (by decide +kernel) (by decide +kernel) (by decide +kernel) (fun _ => rfl) (fun u H locs hq hP hD hS => ?_)
      obtain ⟨y5, y6, f7⟩ := u
      obtain ⟨y5_h, f7_b⟩ := hq
      have hP : va_P (dC, dI) vwCl ([(o1, .inr (11, [.ref o2, .ref o7, .ref o12, .ref o41, .ref o51, .ref o64, .ref o77, .ref o84, .ref o91, .ref o99, .ref o111, .ref o123, .int v125])), (o7, .inr (10, [.ref o8, .int y5, .int y6])), (o8, .inl (cI, 12, .inl f7)), (o123, .inl (cI, 5, .inl fw124))]) H := hP
      have hD : va_D A ([(o1, .inr (11, [.ref o2, .ref o7, .ref o12, .ref o41, .ref o51, .ref o64, .ref o77, .ref o84, .ref o91, .ref o99, .ref o111, .ref o123, .int v125])), (o7, .inr (10, [.ref o8, .int y5, .int y6])), (o8, .inl (cI, 12, .inl f7)), (o123, .inl (cI, 5, .inl fw124))]) := hD
      refine lv_iload_n hx hb dX11_columns_26 rfl (lv_at hl 1 rfl) ?_
      rw [hQ]
      exact W.iret (v := a1) hx hb hr (fun t ht hW => ⟨⟨a1, (v125, y5, y6, f7, fw124), rfl, ⟨(iv_w j4 (by decide)), y5_h, f7_b⟩, by rw [ht]; exact hP, va_K.moved hW.alike hK, hD⟩, hS.F ht⟩) hS.2.2 dX11_columns_27
    ·
      have qh3 := nle_i h3
      have j8 : Iv (-2147483648) (-1) a1 := r_ltl qh3 j2 ik_0 (by decide)
      refine lv_aload_n hx hb dX11_columns_12 rfl (lv_at hl 0 rfl) ?_
      refine lv_iconst (v := 4) hx hb dX11_columns_13 (by decide) ?_
      refine kc_i (D := (dC, dI)) (S := Int32 × (Nat → Int32)) (wc := [(o1, .inr (11, [.ref o2, .ref o7, .ref o12, .ref o41, .ref o51, .ref o64, .ref o77, .ref o84, .ref o91, .ref o99, .ref o111, .ref o123, .int v125])), (o123, .inl (cI, 5, .inl fw124))]) (wr := [(o7, .inr (10, [.ref o8, .int v10, .int v11])), (o8, .inl (cI, 12, .inl fw9))]) (w1 := fun u => [(o1, .inr (11, [.ref o2, .ref o7, .ref o12, .ref o41, .ref o51, .ref o64, .ref o77, .ref o84, .ref o91, .ref o99, .ref o111, .ref o123, .int u.1])), (o123, .inl (cI, 5, .inl u.2))]) (wn := fun u => [(o1, .inr (11, [.ref o2, .ref o7, .ref o12, .ref o41, .ref o51, .ref o64, .ref o77, .ref o84, .ref o91, .ref o99, .ref o111, .ref o123, .int u.1])), (o7, .inr (10, [.ref o8, .int v10, .int v11])), (o8, .inl (cI, 12, .inl fw9)), (o123, .inl (cI, 5, .inl u.2))]) (fun hPc hDc => va_runV (As := [.int 4]) (rest := []) ⟨hx, hb, hml, hown, hts⟩ (kX11_found_2 l dC dI cI c2 cZ o1 o2 o7 o12 o41 o51 o64 o77 o84 o91 o99 o111 o123 fw124 v125 4 s.heap.size ik_4) (cwV 1 hts gX11_columns_X11_found rfl rfl rfl (by decide +kernel) ⟨Nat.le_of_ble_eq_true rfl, Nat.le_of_ble_eq_true rfl⟩) (pre_V hPc hK hDc hN (ci := 11) (q0 := 0) rfl rfl) rfl rfl hl.1 rfl (lv_room (Nat.le_of_ble_eq_true rfl)) dX11_columns_14 ⟨Nat.le_of_ble_eq_true rfl, Nat.le_of_ble_eq_true rfl⟩) hP hD hS hA [0, 3] [1, 2] [2, 0, 1, 3] rfl rfl (by decide +kernel) (by decide +kernel) (by decide +kernel) (by decide +kernel) (fun _ => rfl) (fun x11 u H locs hq hP hD hS => ?_)
      obtain ⟨y9, f10⟩ := u
      have x11_h := hq
      have hP : va_P (dC, dI) vwCl ([(o1, .inr (11, [.ref o2, .ref o7, .ref o12, .ref o41, .ref o51, .ref o64, .ref o77, .ref o84, .ref o91, .ref o99, .ref o111, .ref o123, .int y9])), (o7, .inr (10, [.ref o8, .int v10, .int v11])), (o8, .inl (cI, 12, .inl fw9)), (o123, .inl (cI, 5, .inl f10))]) H := hP
      have hD : va_D A ([(o1, .inr (11, [.ref o2, .ref o7, .ref o12, .ref o41, .ref o51, .ref o64, .ref o77, .ref o84, .ref o91, .ref o99, .ref o111, .ref o123, .int y9])), (o7, .inr (10, [.ref o8, .int v10, .int v11])), (o8, .inl (cI, 12, .inl fw9)), (o123, .inl (cI, 5, .inl f10))]) := hD
      rw [hQ]
      exact W.iret (v := x11) hx hb hr (fun t ht hW => ⟨⟨x11, (y9, v10, v11, fw9, f10), rfl, ⟨(iv_w x11_h (by decide)), v10_h, fw9_b⟩, by rw [ht]; exact hP, va_K.moved hW.alike hK, hD⟩, hS.F ht⟩) hS.2.2 dX11_columns_17
  ·
    have qh1 := nle_i h1
    have j12 : Iv 9 2147483647 a1 := r_ltr qh1 ik_8 (iv_full a1) (by decide)
    refine lv_iconst (v := (-1)) hx hb dX11_columns_6 (by decide) ?_
    rw [hQ]
    exact W.iret (v := (-1)) hx hb hr (fun t ht hW => ⟨⟨(-1), (v125, v10, v11, fw9, fw124), rfl, ⟨(iv_w ikm_1 (by decide)), v10_h, fw9_b⟩, by rw [ht]; exact hP, va_K.moved hW.alike hK, hD⟩, hS.F ht⟩) hS.2.2 dX11_columns_7
set_option maxHeartbeats 4000000 in
set_option maxRecDepth 100000 in
theorem kX10_hasPlace_1 (l : Launch) (dC : Nat → ClassId) (dI : Nat → Nat → Nat) (cI c2 cZ : ClassId) (o1 : Nat) (o2 : Nat) (v4 : Int32) (v5 : Int32) (a1 : Int32) (sz : Nat) (v4_h : Iv 0 8 v4) : Met l yX10_hasPlace wsX10_hasPlace ({ frames := 0, cells := 0, slots := 0, locals := 0 }) (va_Pc [.ref o1, .int a1] (wPre (dC, dI) [(cI, .int), (c2, .array .int), (cZ, .boolean)] ([(o1, .inr (10, [.ref o2, .int v4, .int v5]))]) sz)) (va_Qi (fun (r : Int32) (_ : Unit) => Iv 0 1 r ∧ (¬ r = 0 → Iv 0 11 a1)) (fun _ t => wPost (dC, dI) [(cI, .int), (c2, .array .int), (cZ, .boolean)] (va_A ([(o1, .inr (10, [.ref o2, .int v4, .int v5]))]) sz) ([(o1, .inr (10, [.ref o2, .int v4, .int v5]))]) t) (va_A ([(o1, .inr (10, [.ref o2, .int v4, .int v5]))]) sz)) 0 0 (va_A ([(o1, .inr (10, [.ref o2, .int v4, .int v5]))]) sz) := by
  refine Met.ofW (cc := cX10_hasPlace) (maxL := 2) (ret := (some .boolean)) (by decide) rfl ?_
  intro p e s m args below meth c s₁ B hml hv
  obtain ⟨rfl, hsz, hP, hK, hD0, hN⟩ := hv
  have hx := B.exec
  have hb := B.bytes
  have hr := B.returns
  have hts := atoms_spec (ws := wsX10_hasPlace) B.pre
  have hown : s.vm.findClass RX10 = some m.cls := findClass_of_methodNamed B.named
  have hlocks := B.notSynchronized
  subst hsz
  have hD := hD0.self (sz := s.heap.size)
  generalize hAe : va_A ([(o1, .inr (10, [.ref o2, .int v4, .int v5]))]) s.heap.size = A at hD ⊢
  have hA : ∀ q : Nat, s.heap.size ≤ q → A q := fun q h => by rw [← hAe]; exact Or.inr h
  have hS : va_S A s.heap s.heap [] := va_S.rf
  have hP : va_P (dC, dI) vwCl ([(o1, .inr (10, [.ref o2, .int v4, .int v5]))]) s.heap := hP
  have hl := lv_entry ([.ref o1, .int a1]) (n := 2) (Nat.le_of_ble_eq_true rfl)
  rw [lg_entry_eq]
  generalize (lg_sl ([.ref o1, .int a1]) ++ List.replicate (2 - (lg_sl ([.ref o1, .int a1])).length) Slot.unset).toArray = ls at hl ⊢
  have hl : lv_has ls 2 [(0, .ref o1), (1, .int a1)] := hl
  refine gen_Q (fun Q hQ => ?_)
  refine lv_iload_n hx hb dX10_hasPlace_0 rfl (lv_at hl 1 rfl) ?_
  refine lv_if_lt (tgt := 14) hx hb dX10_hasPlace_1 (by decide) (fun h1 => ?_) (fun h1 => ?_)
  ·
    have qh1 := lt_i h1
    have j2 : Iv (-2147483648) (-1) a1 := r_ltl qh1 (iv_full a1) ik_0 (by decide)
    refine lv_iconst (v := 0) hx hb dX10_hasPlace_14 (by decide) ?_
    rw [hQ]
    exact W.zret (v := 0) (ty := .boolean) hx hb hr rfl (fun t ht hW => ⟨⟨0, (), rfl, ⟨(iv_w ik_0 (by decide)), (fun h8 => absurd rfl h8)⟩, by rw [ht]; exact hP, va_K.moved hW.alike hK, hD⟩, hS.F ht⟩) hS.2.2 dX10_hasPlace_15
  ·
    have qh1 := nlt_i h1
    have j3 : Iv 0 2147483647 a1 := r_ler qh1 ik_0 (iv_full a1) (by decide)
    refine lv_iload_n hx hb dX10_hasPlace_4 rfl (lv_at hl 1 rfl) ?_
    refine lv_bipush (v := 12) hx hb dX10_hasPlace_5 (by decide) ?_
    refine lv_icmp_ge (tgt := 14) hx hb dX10_hasPlace_7 (by decide) (fun h4 => ?_) (fun h4 => ?_)
    ·
      have qh4 := le_i h4
      have j5 : Iv 12 2147483647 a1 := r_ler qh4 ik_12 j3 (by decide)
      refine lv_iconst (v := 0) hx hb dX10_hasPlace_14 (by decide) ?_
      rw [hQ]
      exact W.zret (v := 0) (ty := .boolean) hx hb hr rfl (fun t ht hW => ⟨⟨0, (), rfl, ⟨(iv_w ik_0 (by decide)), (fun h8 => absurd rfl h8)⟩, by rw [ht]; exact hP, va_K.moved hW.alike hK, hD⟩, hS.F ht⟩) hS.2.2 dX10_hasPlace_15
    ·
      have qh4 := nle_i h4
      have j6 : Iv 0 11 a1 := r_ltl qh4 j3 ik_12 (by decide)
      refine lv_iconst (v := 1) hx hb dX10_hasPlace_10 (by decide) ?_
      refine lv_goto (tgt := 15) hx hb dX10_hasPlace_11 (by decide) ?_
      rw [hQ]
      exact W.zret (v := 1) (ty := .boolean) hx hb hr rfl (fun t ht hW => ⟨⟨1, (), rfl, ⟨(iv_w ik_1 (by decide)), (fun _ => j6)⟩, by rw [ht]; exact hP, va_K.moved hW.alike hK, hD⟩, hS.F ht⟩) hS.2.2 dX10_hasPlace_15
