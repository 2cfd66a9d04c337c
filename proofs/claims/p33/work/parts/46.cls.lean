theorem hm_X0_findFirst_1 : (.fieldLink RX0 38 "HolelessHouse$Benches" "notes" "[I" : Cond) ∈ wsX0_findFirst := List.mem_of_getElem? (i := 1) rfl
theorem hm_X0_findFirst_2 : (.fieldLink RX0 25 "HolelessHouse$Benches" "width" "I" : Cond) ∈ wsX0_findFirst := List.mem_of_getElem? (i := 2) rfl
theorem hm_X0_findFirst_3 : (.fieldLink RX0 31 "HolelessHouse$Benches" "seated" "Z" : Cond) ∈ wsX0_findFirst := List.mem_of_getElem? (i := 3) rfl
theorem hm_X0_refuse_1 : (.fieldLink RX0 31 "HolelessHouse$Benches" "seated" "Z" : Cond) ∈ wsX0_refuse := List.mem_of_getElem? (i := 1) rfl
theorem hm_X11_bringSpans_1 : (.fieldLink RX11 75 "HolelessHouse" "spans" "LHolelessHouse$Benches;" : Cond) ∈ wsX11_bringSpans := List.mem_of_getElem? (i := 1) rfl
theorem hm_X11_bringSpans_2 : (.fieldLink RX11 10 "HolelessHouse" "graph" "LHolelessHouse$Graph;" : Cond) ∈ wsX11_bringSpans := List.mem_of_getElem? (i := 2) rfl
theorem hm_X11_bringSpans_3 : (.fieldLink RX11 42 "HolelessHouse" "cliques" "LHolelessHouse$Cliques;" : Cond) ∈ wsX11_bringSpans := List.mem_of_getElem? (i := 3) rfl
theorem hm_X11_bringSpans_5 : (.initialized RX1 : Cond) ∈ wsX11_bringSpans := List.mem_of_getElem? (i := 5) rfl
theorem hm_X11_bringSpans_4 : (.instanceMethod yX1_bring : Cond) ∈ wsX11_bringSpans := List.mem_of_getElem? (i := 4) rfl
theorem hm_X11_bringSpans_6 : (.selects RX1 yX1_bring yX1_bring : Cond) ∈ wsX11_bringSpans := List.mem_of_getElem? (i := 6) rfl
theorem hm_X11_bringSpans_38 : (.initialized RX0 : Cond) ∈ wsX11_bringSpans := List.mem_of_getElem? (i := 38) rfl
theorem hm_X11_bringSpans_43 : (.instanceMethod yX0_restart : Cond) ∈ wsX11_bringSpans := List.mem_of_getElem? (i := 43) rfl
theorem hm_X11_bringSpans_44 : (.selects RX0 yX0_restart yX0_restart : Cond) ∈ wsX11_bringSpans := List.mem_of_getElem? (i := 44) rfl
theorem hm_X11_bringSpans_55 : (.instanceMethod yX0_findFirst : Cond) ∈ wsX11_bringSpans := List.mem_of_getElem? (i := 55) rfl
theorem hm_X11_bringSpans_56 : (.selects RX0 yX0_findFirst yX0_findFirst : Cond) ∈ wsX11_bringSpans := List.mem_of_getElem? (i := 56) rfl
theorem hm_X11_bringSpans_48 : (.instanceMethod yX1_with : Cond) ∈ wsX11_bringSpans := List.mem_of_getElem? (i := 48) rfl
theorem hm_X11_bringSpans_49 : (.selects RX1 yX1_with yX1_with : Cond) ∈ wsX11_bringSpans := List.mem_of_getElem? (i := 49) rfl
theorem hm_X11_bringSpans_51 : (.instanceMethod yX0_addRow : Cond) ∈ wsX11_bringSpans := List.mem_of_getElem? (i := 51) rfl
theorem hm_X11_bringSpans_52 : (.selects RX0 yX0_addRow yX0_addRow : Cond) ∈ wsX11_bringSpans := List.mem_of_getElem? (i := 52) rfl
theorem hm_X11_bringSpans_37 : (.instanceMethod yX0_refuse : Cond) ∈ wsX11_bringSpans := List.mem_of_getElem? (i := 37) rfl
theorem hm_X11_bringSpans_39 : (.selects RX0 yX0_refuse yX0_refuse : Cond) ∈ wsX11_bringSpans := List.mem_of_getElem? (i := 39) rfl
theorem hm_X11_line_1 : (.fieldLink RX11 75 "HolelessHouse" "spans" "LHolelessHouse$Benches;" : Cond) ∈ wsX11_line := List.mem_of_getElem? (i := 1) rfl
set_option maxHeartbeats 4000000 in
set_option maxRecDepth 100000 in
theorem kX0_seatsRest_10 (l : Launch) (dC : Nat → ClassId) (dI : Nat → Nat → Nat) (cI c2 cZ : ClassId) (o1 : Nat) (o2 : Nat) (o4 : Nat) (o6 : Nat) (fw3 : Nat → Int32) (fw5 : Nat → Int32) (fw7 : Nat → Int32) (v8 : Int32) (v9 : Int32) (v10 : Int32) (v11 : Int32) (v12 : Int32) (a1 : Int32) (sz : Nat) (v8_h : Iv 0 12 v8) (v9_h : Iv 0 12 v9) (v11_h : Iv 0 1 v11) (a1_h : Iv 0 4095 a1) : Met l yX0_seatsRest wsX0_seatsRest ({ frames := 9, cells := 0, slots := 0, locals := 216 }) (va_Pc [.ref o1, .int a1, .int 3] (wPre (dC, dI) [(cI, .int), (c2, .array .int), (cZ, .boolean)] ([(o1, .inr (0, [.ref o2, .ref o4, .ref o6, .int v8, .int v9, .int v10, .int v11, .int v12])), (o2, .inl (cI, 4096, .inl fw3)), (o4, .inl (cI, 12, .inl fw5)), (o6, .inl (cI, 12, .inl fw7))]) sz)) (va_Qi (fun (r : Int32) (u : (Nat → Int32) × (Nat → Int32)) => Iv 0 1 r) (fun u t => wPost (dC, dI) [(cI, .int), (c2, .array .int), (cZ, .boolean)] (va_A ([(o1, .inr (0, [.ref o2, .ref o4, .ref o6, .int v8, .int v9, .int v10, .int v11, .int v12])), (o2, .inl (cI, 4096, .inl fw3)), (o4, .inl (cI, 12, .inl fw5)), (o6, .inl (cI, 12, .inl fw7))]) sz) ([(o1, .inr (0, [.ref o2, .ref o4, .ref o6, .int v8, .int v9, .int v10, .int v11, .int v12])), (o2, .inl (cI, 4096, .inl u.1)), (o4, .inl (cI, 12, .inl fw5)), (o6, .inl (cI, 12, .inl u.2))]) t) (va_A ([(o1, .inr (0, [.ref o2, .ref o4, .ref o6, .int v8, .int v9, .int v10, .int v11, .int v12])), (o2, .inl (cI, 4096, .inl fw3)), (o4, .inl (cI, 12, .inl fw5)), (o6, .inl (cI, 12, .inl fw7))]) sz)) 0 0 (va_A ([(o1, .inr (0, [.ref o2, .ref o4, .ref o6, .int v8, .int v9, .int v10, .int v11, .int v12])), (o2, .inl (cI, 4096, .inl fw3)), (o4, .inl (cI, 12, .inl fw5)), (o6, .inl (cI, 12, .inl fw7))]) sz) := by
  refine Met.ofW (cc := cX0_seatsRest) (maxL := 5) (ret := (some .boolean)) (by decide) rfl ?_
  intro p e s m args below meth c s₁ B hml hv
  obtain ⟨rfl, hsz, hP, hK, hD0, hN⟩ := hv
  have hx := B.exec
  have hb := B.bytes
  have hr := B.returns
  have hts := atoms_spec (ws := wsX0_seatsRest) B.pre
  have hown : s.vm.findClass RX0 = some m.cls := findClass_of_methodNamed B.named
  have hlocks := B.notSynchronized
  subst hsz
  have hD := hD0.self (sz := s.heap.size)
  generalize hAe : va_A ([(o1, .inr (0, [.ref o2, .ref o4, .ref o6, .int v8, .int v9, .int v10, .int v11, .int v12])), (o2, .inl (cI, 4096, .inl fw3)), (o4, .inl (cI, 12, .inl fw5)), (o6, .inl (cI, 12, .inl fw7))]) s.heap.size = A at hD ⊢
  have hA : ∀ q : Nat, s.heap.size ≤ q → A q := fun q h => by rw [← hAe]; exact Or.inr h
  have hS : va_S A s.heap s.heap [] := va_S.rf
  have hP : va_P (dC, dI) vwCl ([(o1, .inr (0, [.ref o2, .ref o4, .ref o6, .int v8, .int v9, .int v10, .int v11, .int v12])), (o2, .inl (cI, 4096, .inl fw3)), (o4, .inl (cI, 12, .inl fw5)), (o6, .inl (cI, 12, .inl fw7))]) s.heap := hP
  have hl := lv_entry ([.ref o1, .int a1, .int 3]) (n := 5) (Nat.le_of_ble_eq_true rfl)
  rw [lg_entry_eq]
  generalize (lg_sl ([.ref o1, .int a1, .int 3]) ++ List.replicate (5 - (lg_sl ([.ref o1, .int a1, .int 3])).length) Slot.unset).toArray = ls at hl ⊢
  have hl : lv_has ls 5 [(0, .ref o1), (1, .int a1), (2, .int 3)] := hl
  refine gen_Q (fun Q hQ => ?_)
  refine lv_iload_n hx hb dX0_seatsRest_0 rfl (lv_at hl 2 rfl) ?_
  refine lv_aload_n hx hb dX0_seatsRest_1 rfl (lv_at hl 0 rfl) ?_
  refine va_get (D := (dC, dI)) (ci := 0) (v := .int v9) (C := RX0) (T := TX0) (N := 8) hx hb hts iw_X0_seatsRest_X0 hown hK hP 0 rfl rfl 4 (by decide) (hts (.fieldLink RX0 25 "HolelessHouse$Benches" "width" "I") hm_X0_seatsRest_1) (fun _ h9 => h9) rfl dX0_seatsRest_2 ?_
  refine lv_icmp_lt (tgt := 10) hx hb dX0_seatsRest_5 (by decide) (fun h1 => ?_) (fun h1 => ?_)
  ·
    have qh1 := lt_i h1
    have j2 : Iv 4 12 v9 := r_ltr qh1 ik_3 v9_h (by decide)
    refine lv_aload_n hx hb dX0_seatsRest_10 rfl (lv_at hl 0 rfl) ?_
    refine va_get (D := (dC, dI)) (ci := 0) (v := .ref o2) (C := RX0) (T := TX0) (N := 8) hx hb hts iw_X0_seatsRest_X0 hown hK hP 0 rfl rfl 0 (by decide) (hts (.fieldLink RX0 38 "HolelessHouse$Benches" "notes" "[I") hm_X0_seatsRest_2) (fun _ h9 => h9) rfl dX0_seatsRest_11 ?_
    refine lv_iload_n hx hb dX0_seatsRest_14 rfl (lv_at hl 1 rfl) ?_
    refine va_iald hx hb hK hP 1 0 rfl rfl (vin_iv a1_h (by decide)) dX0_seatsRest_15 (lv_topi (fun x3 x3_e => ?_))
    refine lv_iconst (v := 1) hx hb dX0_seatsRest_16 (by decide) ?_
    refine lv_icmp_ne (tgt := 22) hx hb dX0_seatsRest_17 (by decide) (fun h4 => ?_) (fun h4 => ?_)
    ·
      refine lv_aload_n hx hb dX0_seatsRest_22 rfl (lv_at hl 0 rfl) ?_
      refine lv_iload_n hx hb dX0_seatsRest_23 rfl (lv_at hl 1 rfl) ?_
      refine kc_i (D := (dC, dI)) (S := Unit) (wc := [(o1, .inr (0, [.ref o2, .ref o4, .ref o6, .int v8, .int v9, .int v10, .int v11, .int v12])), (o4, .inl (cI, 12, .inl fw5))]) (wr := [(o2, .inl (cI, 4096, .inl fw3)), (o6, .inl (cI, 12, .inl fw7))]) (w1 := fun _ => [(o1, .inr (0, [.ref o2, .ref o4, .ref o6, .int v8, .int v9, .int v10, .int v11, .int v12])), (o4, .inl (cI, 12, .inl fw5))]) (wn := fun _ => [(o1, .inr (0, [.ref o2, .ref o4, .ref o6, .int v8, .int v9, .int v10, .int v11, .int v12])), (o2, .inl (cI, 4096, .inl fw3)), (o4, .inl (cI, 12, .inl fw5)), (o6, .inl (cI, 12, .inl fw7))]) (fun hPc hDc => va_runV (As := [.int a1]) (rest := []) ⟨hx, hb, hml, hown, hts⟩ (kX0_mayCome_1 l dC dI cI c2 cZ o1 o2 o4 o6 fw5 v8 v9 v10 v11 v12 a1 s.heap.size v8_h (iv_w j2 (by decide)) v11_h a1_h) (cwV 1 hts gX0_seatsRest_X0_mayCome rfl rfl rfl (by decide +kernel) ⟨Nat.le_of_ble_eq_true rfl, Nat.le_of_ble_eq_true rfl⟩) (pre_V hPc hK hDc hN (ci := 0) (q0 := 0) rfl rfl) rfl rfl hl.1 rfl (lv_room (Nat.le_of_ble_eq_true rfl)) dX0_seatsRest_24 ⟨Nat.le_of_ble_eq_true rfl, Nat.le_of_ble_eq_true rfl⟩) hP hD hS hA [0, 2] [1, 3] [2, 0, 3, 1] rfl rfl (by decide +kernel) (by decide +kernel) (by decide +kernel) (by decide +kernel) (fun _ => rfl) (fun x5 _ H locs hq hP hD hS => ?_)
      have x5_h := hq
      have hP : va_P (dC, dI) vwCl ([(o1, .inr (0, [.ref o2, .ref o4, .ref o6, .int v8, .int v9, .int v10, .int v11, .int v12])), (o2, .inl (cI, 4096, .inl fw3)), (o4, .inl (cI, 12, .inl fw5)), (o6, .inl (cI, 12, .inl fw7))]) H := hP
      have hD : va_D A ([(o1, .inr (0, [.ref o2, .ref o4, .ref o6, .int v8, .int v9, .int v10, .int v11, .int v12])), (o2, .inl (cI, 4096, .inl fw3)), (o4, .inl (cI, 12, .inl fw5)), (o6, .inl (cI, 12, .inl fw7))]) := hD
      refine lv_istore_n (lv' := [(3, .int x5), (0, .ref o1), (1, .int a1), (2, .int 3)]) hx hb dX0_seatsRest_27 rfl hl (by decide) rfl (fun ls hl => ?_)
      refine lv_iconst (v := 0) hx hb dX0_seatsRest_28 (by decide) ?_
      refine lv_istore (lv' := [(4, .int 0), (3, .int x5), (0, .ref o1), (1, .int a1), (2, .int 3)]) hx hb dX0_seatsRest_29 hl (by decide) rfl (fun ls hl => ?_)
      have L1 : ∀ (N : Nat) (x156 : Int32) (f157 : Nat → Int32) (f158 : Nat → Int32) (H : Heap) (locs : List Loc) (ls : Array Slot), (12 - x156.toInt).toNat < N → Iv 0 12 x156 → va_P (dC, dI) vwCl ([(o1, .inr (0, [.ref o2, .ref o4, .ref o6, .int v8, .int v9, .int v10, .int v11, .int v12])), (o2, .inl (cI, 4096, .inl f157)), (o4, .inl (cI, 12, .inl fw5)), (o6, .inl (cI, 12, .inl f158))]) H → va_D A ([(o1, .inr (0, [.ref o2, .ref o4, .ref o6, .int v8, .int v9, .int v10, .int v11, .int v12])), (o2, .inl (cI, 4096, .inl f157)), (o4, .inl (cI, 12, .inl fw5)), (o6, .inl (cI, 12, .inl f158))]) → va_S A s.heap H locs → lv_has ls 5 [(4, .int x156), (3, .int x5), (0, .ref o1), (1, .int a1), (2, .int 3)] → W p l e ({ frames := 9, cells := 0, slots := 0, locals := 216 }) s m ([.ref o1, .int a1, .int 3] : List Value).toArray below meth c H locs 0 0 Q (F0 m 31 ls []) := by
        intro N
        induction N with
        | zero =>
          intro x156 f157 f158 H locs ls hM
          exact absurd hM (Nat.not_lt_zero _)
        | succ N ih1 =>
          intro x156 f157 f158 H locs ls hM1 x156_h hP hD hS hl
          refine lv_iload hx hb dX0_seatsRest_31 (lv_at hl 0 rfl) ?_
          refine lv_aload_n hx hb dX0_seatsRest_33 rfl (lv_at hl 2 rfl) ?_
          refine va_get (D := (dC, dI)) (ci := 0) (v := .int v9) (C := RX0) (T := TX0) (N := 8) hx hb hts iw_X0_seatsRest_X0 hown hK hP 0 rfl rfl 4 (by decide) (hts (.fieldLink RX0 25 "HolelessHouse$Benches" "width" "I") hm_X0_seatsRest_1) (fun _ h9 => h9) rfl dX0_seatsRest_34 ?_
          refine lv_icmp_ge (tgt := 81) hx hb dX0_seatsRest_37 (by decide) (fun h159 => ?_) (fun h159 => ?_)
          ·
            have qh159 := le_i h159
            have j160 : Iv 4 12 x156 := r_ler qh159 j2 x156_h (by decide)
            refine lv_aload_n hx hb dX0_seatsRest_81 rfl (lv_at hl 2 rfl) ?_
            refine va_get (D := (dC, dI)) (ci := 0) (v := .ref o2) (C := RX0) (T := TX0) (N := 8) hx hb hts iw_X0_seatsRest_X0 hown hK hP 0 rfl rfl 0 (by decide) (hts (.fieldLink RX0 38 "HolelessHouse$Benches" "notes" "[I") hm_X0_seatsRest_2) (fun _ h9 => h9) rfl dX0_seatsRest_82 ?_
            refine lv_iload_n hx hb dX0_seatsRest_85 rfl (lv_at hl 3 rfl) ?_
            refine lv_iconst (v := 1) hx hb dX0_seatsRest_86 (by decide) ?_
            refine k_iast hx hb hK hP hD hS 1 0 rfl rfl (vin_iv a1_h (by decide)) dX0_seatsRest_87 (fun f161 H locs f161_e hP hD hS => ?_)
            have hP : va_P (dC, dI) vwCl ([(o1, .inr (0, [.ref o2, .ref o4, .ref o6, .int v8, .int v9, .int v10, .int v11, .int v12])), (o2, .inl (cI, 4096, .inl f161)), (o4, .inl (cI, 12, .inl fw5)), (o6, .inl (cI, 12, .inl f158))]) H := hP
            have hD : va_D A ([(o1, .inr (0, [.ref o2, .ref o4, .ref o6, .int v8, .int v9, .int v10, .int v11, .int v12])), (o2, .inl (cI, 4096, .inl f161)), (o4, .inl (cI, 12, .inl fw5)), (o6, .inl (cI, 12, .inl f158))]) := hD
            refine lv_iconst (v := 0) hx hb dX0_seatsRest_88 (by decide) ?_
            rw [hQ]
            exact W.zret (v := 0) (ty := .boolean) hx hb hr rfl (fun t ht hW => ⟨⟨0, (f161, f158), rfl, (iv_w ik_0 (by decide)), by rw [ht]; exact hP, va_K.moved hW.alike hK, hD⟩, hS.F ht⟩) hS.2.2 dX0_seatsRest_89
          ·
            have qh159 := nle_i h159
            have j162 : Iv 0 11 x156 := r_ltl qh159 x156_h j2 (by decide)
            refine lv_iload_n hx hb dX0_seatsRest_40 rfl (lv_at hl 1 rfl) ?_
            refine lv_iload hx hb dX0_seatsRest_41 (lv_at hl 0 rfl) ?_
            refine kc_i (D := (dC, dI)) (S := Unit) (wc := []) (wr := [(o1, .inr (0, [.ref o2, .ref o4, .ref o6, .int v8, .int v9, .int v10, .int v11, .int v12])), (o2, .inl (cI, 4096, .inl f157)), (o4, .inl (cI, 12, .inl fw5)), (o6, .inl (cI, 12, .inl f158))]) (w1 := fun _ => []) (wn := fun _ => [(o1, .inr (0, [.ref o2, .ref o4, .ref o6, .int v8, .int v9, .int v10, .int v11, .int v12])), (o2, .inl (cI, 4096, .inl f157)), (o4, .inl (cI, 12, .inl fw5)), (o6, .inl (cI, 12, .inl f158))]) (fun hPc hDc => va_runSN (As := [.int x5, .int x156]) (rest := []) ⟨hx, hb, hml, hown, hts⟩ (kX11_in_1 l dC dI cI c2 cZ x5 x156 H.size) ⟨va_cnB 2 hts gX0_seatsRest_X11_in_n62 rfl rfl rfl (hN.1 _ ns_125) (hts (.initialized RX11) hm_X0_seatsRest_12) (by decide +kernel) ⟨Nat.le_of_ble_eq_true rfl, Nat.le_of_ble_eq_true rfl⟩, (hts (.static yX11_in) hm_X0_seatsRest_11), trivial⟩ (pre_S hPc hK hDc hN) rfl rfl hl.1 rfl (lv_room (Nat.le_of_ble_eq_true rfl)) dX0_seatsRest_43 ⟨Nat.le_of_ble_eq_true rfl, Nat.le_of_ble_eq_true rfl⟩) hP hD hS hA [] [0, 1, 2, 3] [0, 1, 2, 3] rfl rfl (by decide +kernel) (by decide +kernel) (by decide +kernel) (by decide +kernel) (fun _ => rfl) (fun x163 _ H locs hq hP hD hS => ?_)
            have x163_h := hq
            have hP : va_P (dC, dI) vwCl ([(o1, .inr (0, [.ref o2, .ref o4, .ref o6, .int v8, .int v9, .int v10, .int v11, .int v12])), (o2, .inl (cI, 4096, .inl f157)), (o4, .inl (cI, 12, .inl fw5)), (o6, .inl (cI, 12, .inl f158))]) H := hP
            have hD : va_D A ([(o1, .inr (0, [.ref o2, .ref o4, .ref o6, .int v8, .int v9, .int v10, .int v11, .int v12])), (o2, .inl (cI, 4096, .inl f157)), (o4, .inl (cI, 12, .inl fw5)), (o6, .inl (cI, 12, .inl f158))]) := hD
            refine lv_if_eq (tgt := 75) hx hb dX0_seatsRest_46 (by decide) (fun h164 => ?_) (fun h164 => ?_)
            ·
              have j165 : Iv 0 0 x163 := r_eq h164 ik_0
              obtain ⟨x166, x166_e⟩ : ∃ z : Int32, z = x156 + 1 := ⟨_, rfl⟩
              have x166_h : Iv 1 12 x166 := iv_e x166_e (iv_add j162 ik_1 (by decide))
              refine lv_iinc (v := x166) (lv' := [(4, .int x166), (3, .int x5), (0, .ref o1), (1, .int a1), (2, .int 3)]) hx hb dX0_seatsRest_75 hl (k := 0) rfl (incN (by decide +kernel) x166_e) (by decide) rfl (fun ls hl => ?_)
              refine lv_goto (tgt := 31) hx hb dX0_seatsRest_78 (by decide) ?_
              exact ih1 x166 f157 f158 _ _ _ (ms_up x166_e j162 (by decide) hM1) (iv_w x166_h (by decide)) hP hD hS hl
            ·
              have j167 : Iv 1 1 x163 := r_nelo h164 x163_h ik_0 (by decide)
              refine lv_aload_n hx hb dX0_seatsRest_49 rfl (lv_at hl 2 rfl) ?_
              refine va_get (D := (dC, dI)) (ci := 0) (v := .ref o6) (C := RX0) (T := TX0) (N := 8) hx hb hts iw_X0_seatsRest_X0 hown hK hP 0 rfl rfl 2 (by decide) (hts (.fieldLink RX0 41 "HolelessHouse$Benches" "places" "[I") hm_X0_seatsRest_3) (fun _ h9 => h9) rfl dX0_seatsRest_50 ?_
              refine lv_iload_n hx hb dX0_seatsRest_53 rfl (lv_at hl 4 rfl) ?_
              refine lv_iload hx hb dX0_seatsRest_54 (lv_at hl 0 rfl) ?_
              refine k_iast hx hb hK hP hD hS 3 0 rfl rfl (vin_iv ik_3 (by decide)) dX0_seatsRest_56 (fun f168 H locs f168_e hP hD hS => ?_)
              have hP : va_P (dC, dI) vwCl ([(o1, .inr (0, [.ref o2, .ref o4, .ref o6, .int v8, .int v9, .int v10, .int v11, .int v12])), (o2, .inl (cI, 4096, .inl f157)), (o4, .inl (cI, 12, .inl fw5)), (o6, .inl (cI, 12, .inl f168))]) H := hP
              have hD : va_D A ([(o1, .inr (0, [.ref o2, .ref o4, .ref o6, .int v8, .int v9, .int v10, .int v11, .int v12])), (o2, .inl (cI, 4096, .inl f157)), (o4, .inl (cI, 12, .inl fw5)), (o6, .inl (cI, 12, .inl f168))]) := hD
              refine lv_aload_n hx hb dX0_seatsRest_57 rfl (lv_at hl 2 rfl) ?_
              refine lv_iload_n hx hb dX0_seatsRest_58 rfl (lv_at hl 3 rfl) ?_
              refine lv_iconst (v := 1) hx hb dX0_seatsRest_59 (by decide) ?_
              refine lv_iload hx hb dX0_seatsRest_60 (lv_at hl 0 rfl) ?_
              refine lv_ishl hx hb dX0_seatsRest_62 (lv_topi (fun x169 x169_e => ?_))
              have x169_h : Iv 1 2048 x169 := iv_e x169_e (iv_shl1 j162 (by decide))
              refine lv_ior hx hb dX0_seatsRest_63 (lv_topi (fun x170 x170_e => ?_))
              have x170_h : Iv 0 4095 x170 := iv_e x170_e (iv_or 12 a1_h x169_h (by decide))
              refine lv_iload_n hx hb dX0_seatsRest_64 rfl (lv_at hl 4 rfl) ?_
              refine lv_iconst (v := 1) hx hb dX0_seatsRest_65 (by decide) ?_
              refine lv_iadd hx hb dX0_seatsRest_66 (tk_i (v := 4) (by decide +kernel) ?_)
              refine kc_i (D := (dC, dI)) (S := (Nat → Int32) × (Nat → Int32)) (wc := [(o1, .inr (0, [.ref o2, .ref o4, .ref o6, .int v8, .int v9, .int v10, .int v11, .int v12])), (o2, .inl (cI, 4096, .inl f157)), (o4, .inl (cI, 12, .inl fw5)), (o6, .inl (cI, 12, .inl f168))]) (wr := []) (w1 := fun u => [(o1, .inr (0, [.ref o2, .ref o4, .ref o6, .int v8, .int v9, .int v10, .int v11, .int v12])), (o2, .inl (cI, 4096, .inl u.1)), (o4, .inl (cI, 12, .inl fw5)), (o6, .inl (cI, 12, .inl u.2))]) (wn := fun u => [(o1, .inr (0, [.ref o2, .ref o4, .ref o6, .int v8, .int v9, .int v10, .int v11, .int v12])), (o2, .inl (cI, 4096, .inl u.1)), (o4, .inl (cI, 12, .inl fw5)), (o6, .inl (cI, 12, .inl u.2))]) (fun hPc hDc => va_runS (As := [.ref o1, .int x170, .int 4]) (rest := []) ⟨hx, hb, hml, hown, hts⟩ (kX0_seatsRest_9 l dC dI cI c2 cZ o1 o2 o4 o6 f157 fw5 f168 v8 v9 v10 v11 v12 x170 H.size v8_h (iv_w j2 (by decide)) v11_h x170_h) (va_cwS 3 hts gX0_seatsRest_X0_seatsRest rfl rfl rfl (by decide +kernel) ⟨Nat.le_of_ble_eq_true rfl, Nat.le_of_ble_eq_true rfl⟩) (pre_S hPc hK hDc hN) rfl rfl hl.1 rfl (lv_room (Nat.le_of_ble_eq_true rfl)) dX0_seatsRest_67 ⟨Nat.le_of_ble_eq_true rfl, Nat.le_of_ble_eq_true rfl⟩) hP hD hS hA [0, 1, 2, 3] [] [0, 1, 2, 3] rfl rfl (by decide +kernel) (by decide +kernel) (by decide +kernel) (by decide +kernel) (fun _ => rfl) (fun x173 u H locs hq hP hD hS => ?_)
              obtain ⟨f171, f172⟩ := u
              have x173_h := hq
              have hP : va_P (dC, dI) vwCl ([(o1, .inr (0, [.ref o2, .ref o4, .ref o6, .int v8, .int v9, .int v10, .int v11, .int v12])), (o2, .inl (cI, 4096, .inl f171)), (o4, .inl (cI, 12, .inl fw5)), (o6, .inl (cI, 12, .inl f172))]) H := hP
              have hD : va_D A ([(o1, .inr (0, [.ref o2, .ref o4, .ref o6, .int v8, .int v9, .int v10, .int v11, .int v12])), (o2, .inl (cI, 4096, .inl f171)), (o4, .inl (cI, 12, .inl fw5)), (o6, .inl (cI, 12, .inl f172))]) := hD
              refine lv_if_eq (tgt := 75) hx hb dX0_seatsRest_70 (by decide) (fun h174 => ?_) (fun h174 => ?_)
              ·
                have j175 : Iv 0 0 x173 := r_eq h174 ik_0
                obtain ⟨x176, x176_e⟩ : ∃ z : Int32, z = x156 + 1 := ⟨_, rfl⟩
                have x176_h : Iv 1 12 x176 := iv_e x176_e (iv_add j162 ik_1 (by decide))
                refine lv_iinc (v := x176) (lv' := [(4, .int x176), (3, .int x5), (0, .ref o1), (1, .int a1), (2, .int 3)]) hx hb dX0_seatsRest_75 hl (k := 0) rfl (incN (by decide +kernel) x176_e) (by decide) rfl (fun ls hl => ?_)
                refine lv_goto (tgt := 31) hx hb dX0_seatsRest_78 (by decide) ?_
                exact ih1 x176 f171 f172 _ _ _ (ms_up x176_e j162 (by decide) hM1) (iv_w x176_h (by decide)) hP hD hS hl
              ·
                have j177 : Iv 1 1 x173 := r_nelo h174 x173_h ik_0 (by decide)
                refine lv_iconst (v := 1) hx hb dX0_seatsRest_73 (by decide) ?_
                rw [hQ]
                exact W.zret (v := 1) (ty := .boolean) hx hb hr rfl (fun t ht hW => ⟨⟨1, (f171, f172), rfl, (iv_w ik_1 (by decide)), by rw [ht]; exact hP, va_K.moved hW.alike hK, hD⟩, hS.F ht⟩) hS.2.2 dX0_seatsRest_74
      exact L1 _ 0 fw3 fw7 _ _ _ (Nat.lt_succ_self _) (iv_w ik_0 (by decide)) hP hD hS hl
    ·
      have j178 : Iv 1 1 x3 := r_eq h4 ik_1
      refine lv_iconst (v := 0) hx hb dX0_seatsRest_20 (by decide) ?_
      rw [hQ]
      exact W.zret (v := 0) (ty := .boolean) hx hb hr rfl (fun t ht hW => ⟨⟨0, (fw3, fw7), rfl, (iv_w ik_0 (by decide)), by rw [ht]; exact hP, va_K.moved hW.alike hK, hD⟩, hS.F ht⟩) hS.2.2 dX0_seatsRest_21
  ·
    have qh1 := nlt_i h1
    have j179 : Iv 0 3 v9 := r_lel qh1 v9_h ik_3 (by decide)
    refine lv_iconst (v := 1) hx hb dX0_seatsRest_8 (by decide) ?_
    rw [hQ]
    exact W.zret (v := 1) (ty := .boolean) hx hb hr rfl (fun t ht hW => ⟨⟨1, (fw3, fw7), rfl, (iv_w ik_1 (by decide)), by rw [ht]; exact hP, va_K.moved hW.alike hK, hD⟩, hS.F ht⟩) hS.2.2 dX0_seatsRest_9
set_option maxHeartbeats 4000000 in
set_option maxRecDepth 100000 in
theorem kX0_seatsRest_11 (l : Launch) (dC : Nat → ClassId) (dI : Nat → Nat → Nat) (cI c2 cZ : ClassId) (o1 : Nat) (o2 : Nat) (o4 : Nat) (o6 : Nat) (fw3 : Nat → Int32) (fw5 : Nat → Int32) (fw7 : Nat → Int32) (v8 : Int32) (v9 : Int32) (v10 : Int32) (v11 : Int32) (v12 : Int32) (a1 : Int32) (sz : Nat) (v8_h : Iv 0 12 v8) (v9_h : Iv 0 12 v9) (v11_h : Iv 0 1 v11) (a1_h : Iv 0 4095 a1) : Met l yX0_seatsRest wsX0_seatsRest ({ frames := 10, cells := 0, slots := 0, locals := 240 }) (va_Pc [.ref o1, .int a1, .int 2] (wPre (dC, dI) [(cI, .int), (c2, .array .int), (cZ, .boolean)] ([(o1, .inr (0, [.ref o2, .ref o4, .ref o6, .int v8, .int v9, .int v10, .int v11, .int v12])), (o2, .inl (cI, 4096, .inl fw3)), (o4, .inl (cI, 12, .inl fw5)), (o6, .inl (cI, 12, .inl fw7))]) sz)) (va_Qi (fun (r : Int32) (u : (Nat → Int32) × (Nat → Int32)) => Iv 0 1 r) (fun u t => wPost (dC, dI) [(cI, .int), (c2, .array .int), (cZ, .boolean)] (va_A ([(o1, .inr (0, [.ref o2, .ref o4, .ref o6, .int v8, .int v9, .int v10, .int v11, .int v12])), (o2, .inl (cI, 4096, .inl fw3)), (o4, .inl (cI, 12, .inl fw5)), (o6, .inl (cI, 12, .inl fw7))]) sz) ([(o1, .inr (0, [.ref o2, .ref o4, .ref o6, .int v8, .int v9, .int v10, .int v11, .int v12])), (o2, .inl (cI, 4096, .inl u.1)), (o4, .inl (cI, 12, .inl fw5)), (o6, .inl (cI, 12, .inl u.2))]) t) (va_A ([(o1, .inr (0, [.ref o2, .ref o4, .ref o6, .int v8, .int v9, .int v10, .int v11, .int v12])), (o2, .inl (cI, 4096, .inl fw3)), (o4, .inl (cI, 12, .inl fw5)), (o6, .inl (cI, 12, .inl fw7))]) sz)) 0 0 (va_A ([(o1, .inr (0, [.ref o2, .ref o4, .ref o6, .int v8, .int v9, .int v10, .int v11, .int v12])), (o2, .inl (cI, 4096, .inl fw3)), (o4, .inl (cI, 12, .inl fw5)), (o6, .inl (cI, 12, .inl fw7))]) sz) := by
  refine Met.ofW (cc := cX0_seatsRest) (maxL := 5) (ret := (some .boolean)) (by decide) rfl ?_
  intro p e s m args below meth c s₁ B hml hv
  obtain ⟨rfl, hsz, hP, hK, hD0, hN⟩ := hv
  have hx := B.exec
  have hb := B.bytes
  have hr := B.returns
  have hts := atoms_spec (ws := wsX0_seatsRest) B.pre
  have hown : s.vm.findClass RX0 = some m.cls := findClass_of_methodNamed B.named
  have hlocks := B.notSynchronized
  subst hsz
  have hD := hD0.self (sz := s.heap.size)
  generalize hAe : va_A ([(o1, .inr (0, [.ref o2, .ref o4, .ref o6, .int v8, .int v9, .int v10, .int v11, .int v12])), (o2, .inl (cI, 4096, .inl fw3)), (o4, .inl (cI, 12, .inl fw5)), (o6, .inl (cI, 12, .inl fw7))]) s.heap.size = A at hD ⊢
  have hA : ∀ q : Nat, s.heap.size ≤ q → A q := fun q h => by rw [← hAe]; exact Or.inr h
  have hS : va_S A s.heap s.heap [] := va_S.rf
  have hP : va_P (dC, dI) vwCl ([(o1, .inr (0, [.ref o2, .ref o4, .ref o6, .int v8, .int v9, .int v10, .int v11, .int v12])), (o2, .inl (cI, 4096, .inl fw3)), (o4, .inl (cI, 12, .inl fw5)), (o6, .inl (cI, 12, .inl fw7))]) s.heap := hP
  have hl := lv_entry ([.ref o1, .int a1, .int 2]) (n := 5) (Nat.le_of_ble_eq_true rfl)
  rw [lg_entry_eq]
  generalize (lg_sl ([.ref o1, .int a1, .int 2]) ++ List.replicate (5 - (lg_sl ([.ref o1, .int a1, .int 2])).length) Slot.unset).toArray = ls at hl ⊢
  have hl : lv_has ls 5 [(0, .ref o1), (1, .int a1), (2, .int 2)] := hl
  refine gen_Q (fun Q hQ => ?_)
  refine lv_iload_n hx hb dX0_seatsRest_0 rfl (lv_at hl 2 rfl) ?_
  refine lv_aload_n hx hb dX0_seatsRest_1 rfl (lv_at hl 0 rfl) ?_
  refine va_get (D := (dC, dI)) (ci := 0) (v := .int v9) (C := RX0) (T := TX0) (N := 8) hx hb hts iw_X0_seatsRest_X0 hown hK hP 0 rfl rfl 4 (by decide) (hts (.fieldLink RX0 25 "HolelessHouse$Benches" "width" "I") hm_X0_seatsRest_1) (fun _ h9 => h9) rfl dX0_seatsRest_2 ?_
  refine lv_icmp_lt (tgt := 10) hx hb dX0_seatsRest_5 (by decide) (fun h1 => ?_) (fun h1 => ?_)
  ·
    have qh1 := lt_i h1
    have j2 : Iv 3 12 v9 := r_ltr qh1 ik_2 v9_h (by decide)
    refine lv_aload_n hx hb dX0_seatsRest_10 rfl (lv_at hl 0 rfl) ?_
    refine va_get (D := (dC, dI)) (ci := 0) (v := .ref o2) (C := RX0) (T := TX0) (N := 8) hx hb hts iw_X0_seatsRest_X0 hown hK hP 0 rfl rfl 0 (by decide) (hts (.fieldLink RX0 38 "HolelessHouse$Benches" "notes" "[I") hm_X0_seatsRest_2) (fun _ h9 => h9) rfl dX0_seatsRest_11 ?_
    refine lv_iload_n hx hb dX0_seatsRest_14 rfl (lv_at hl 1 rfl) ?_
    refine va_iald hx hb hK hP 1 0 rfl rfl (vin_iv a1_h (by decide)) dX0_seatsRest_15 (lv_topi (fun x3 x3_e => ?_))
    refine lv_iconst (v := 1) hx hb dX0_seatsRest_16 (by decide) ?_
    refine lv_icmp_ne (tgt := 22) hx hb dX0_seatsRest_17 (by decide) (fun h4 => ?_) (fun h4 => ?_)
    ·
      refine lv_aload_n hx hb dX0_seatsRest_22 rfl (lv_at hl 0 rfl) ?_
      refine lv_iload_n hx hb dX0_seatsRest_23 rfl (lv_at hl 1 rfl) ?_
      refine kc_i (D := (dC, dI)) (S := Unit) (wc := [(o1, .inr (0, [.ref o2, .ref o4, .ref o6, .int v8, .int v9, .int v10, .int v11, .int v12])), (o4, .inl (cI, 12, .inl fw5))]) (wr := [(o2, .inl (cI, 4096, .inl fw3)), (o6, .inl (cI, 12, .inl fw7))]) (w1 := fun _ => [(o1, .inr (0, [.ref o2, .ref o4, .ref o6, .int v8, .int v9, .int v10, .int v11, .int v12])), (o4, .inl (cI, 12, .inl fw5))]) (wn := fun _ => [(o1, .inr (0, [.ref o2, .ref o4, .ref o6, .int v8, .int v9, .int v10, .int v11, .int v12])), (o2, .inl (cI, 4096, .inl fw3)), (o4, .inl (cI, 12, .inl fw5)), (o6, .inl (cI, 12, .inl fw7))]) (fun hPc hDc => va_runV (As := [.int a1]) (rest := []) ⟨hx, hb, hml, hown, hts⟩ (kX0_mayCome_1 l dC dI cI c2 cZ o1 o2 o4 o6 fw5 v8 v9 v10 v11 v12 a1 s.heap.size v8_h (iv_w j2 (by decide)) v11_h a1_h) (cwV 1 hts gX0_seatsRest_X0_mayCome rfl rfl rfl (by decide +kernel) ⟨Nat.le_of_ble_eq_true rfl, Nat.le_of_ble_eq_true rfl⟩) (pre_V hPc hK hDc hN (ci := 0) (q0 := 0) rfl rfl) rfl rfl hl.1 rfl (lv_room (Nat.le_of_ble_eq_true rfl)) dX0_seatsRest_24 ⟨Nat.le_of_ble_eq_true rfl, Nat.le_of_ble_eq_true rfl⟩) hP hD hS hA [0, 2] [1, 3] [2, 0, 3, 1] rfl rfl (by decide +kernel) (by decide +kernel) (by decide +kernel) (by decide +kernel) (fun _ => rfl) (fun x5 _ H locs hq hP hD hS => ?_)
      have x5_h := hq
      have hP : va_P (dC, dI) vwCl ([(o1, .inr (0, [.ref o2, .ref o4, .ref o6, .int v8, .int v9, .int v10, .int v11, .int v12])), (o2, .inl (cI, 4096, .inl fw3)), (o4, .inl (cI, 12, .inl fw5)), (o6, .inl (cI, 12, .inl fw7))]) H := hP
      have hD : va_D A ([(o1, .inr (0, [.ref o2, .ref o4, .ref o6, .int v8, .int v9, .int v10, .int v11, .int v12])), (o2, .inl (cI, 4096, .inl fw3)), (o4, .inl (cI, 12, .inl fw5)), (o6, .inl (cI, 12, .inl fw7))]) := hD
      refine lv_istore_n (lv' := [(3, .int x5), (0, .ref o1), (1, .int a1), (2, .int 2)]) hx hb dX0_seatsRest_27 rfl hl (by decide) rfl (fun ls hl => ?_)
      refine lv_iconst (v := 0) hx hb dX0_seatsRest_28 (by decide) ?_
      refine lv_istore (lv' := [(4, .int 0), (3, .int x5), (0, .ref o1), (1, .int a1), (2, .int 2)]) hx hb dX0_seatsRest_29 hl (by decide) rfl (fun ls hl => ?_)
      have L1 : ∀ (N : Nat) (x159 : Int32) (f160 : Nat → Int32) (f161 : Nat → Int32) (H : Heap) (locs : List Loc) (ls : Array Slot), (12 - x159.toInt).toNat < N → Iv 0 12 x159 → va_P (dC, dI) vwCl ([(o1, .inr (0, [.ref o2, .ref o4, .ref o6, .int v8, .int v9, .int v10, .int v11, .int v12])), (o2, .inl (cI, 4096, .inl f160)), (o4, .inl (cI, 12, .inl fw5)), (o6, .inl (cI, 12, .inl f161))]) H → va_D A ([(o1, .inr (0, [.ref o2, .ref o4, .ref o6, .int v8, .int v9, .int v10, .int v11, .int v12])), (o2, .inl (cI, 4096, .inl f160)), (o4, .inl (cI, 12, .inl fw5)), (o6, .inl (cI, 12, .inl f161))]) → va_S A s.heap H locs → lv_has ls 5 [(4, .int x159), (3, .int x5), (0, .ref o1), (1, .int a1), (2, .int 2)] → W p l e ({ frames := 10, cells := 0, slots := 0, locals := 240 }) s m ([.ref o1, .int a1, .int 2] : List Value).toArray below meth c H locs 0 0 Q (F0 m 31 ls []) := by
        intro N
        induction N with
        | zero =>
          intro x159 f160 f161 H locs ls hM
          exact absurd hM (Nat.not_lt_zero _)
        | succ N ih1 =>
          intro x159 f160 f161 H locs ls hM1 x159_h hP hD hS hl
          refine lv_iload hx hb dX0_seatsRest_31 (lv_at hl 0 rfl) ?_
          refine lv_aload_n hx hb dX0_seatsRest_33 rfl (lv_at hl 2 rfl) ?_
          refine va_get (D := (dC, dI)) (ci := 0) (v := .int v9) (C := RX0) (T := TX0) (N := 8) hx hb hts iw_X0_seatsRest_X0 hown hK hP 0 rfl rfl 4 (by decide) (hts (.fieldLink RX0 25 "HolelessHouse$Benches" "width" "I") hm_X0_seatsRest_1) (fun _ h9 => h9) rfl dX0_seatsRest_34 ?_
          refine lv_icmp_ge (tgt := 81) hx hb dX0_seatsRest_37 (by decide) (fun h162 => ?_) (fun h162 => ?_)
          ·
            have qh162 := le_i h162
            have j163 : Iv 3 12 x159 := r_ler qh162 j2 x159_h (by decide)
            refine lv_aload_n hx hb dX0_seatsRest_81 rfl (lv_at hl 2 rfl) ?_
            refine va_get (D := (dC, dI)) (ci := 0) (v := .ref o2) (C := RX0) (T := TX0) (N := 8) hx hb hts iw_X0_seatsRest_X0 hown hK hP 0 rfl rfl 0 (by decide) (hts (.fieldLink RX0 38 "HolelessHouse$Benches" "notes" "[I") hm_X0_seatsRest_2) (fun _ h9 => h9) rfl dX0_seatsRest_82 ?_
            refine lv_iload_n hx hb dX0_seatsRest_85 rfl (lv_at hl 3 rfl) ?_
            refine lv_iconst (v := 1) hx hb dX0_seatsRest_86 (by decide) ?_
            refine k_iast hx hb hK hP hD hS 1 0 rfl rfl (vin_iv a1_h (by decide)) dX0_seatsRest_87 (fun f164 H locs f164_e hP hD hS => ?_)
            have hP : va_P (dC, dI) vwCl ([(o1, .inr (0, [.ref o2, .ref o4, .ref o6, .int v8, .int v9, .int v10, .int v11, .int v12])), (o2, .inl (cI, 4096, .inl f164)), (o4, .inl (cI, 12, .inl fw5)), (o6, .inl (cI, 12, .inl f161))]) H := hP
            have hD : va_D A ([(o1, .inr (0, [.ref o2, .ref o4, .ref o6, .int v8, .int v9, .int v10, .int v11, .int v12])), (o2, .inl (cI, 4096, .inl f164)), (o4, .inl (cI, 12, .inl fw5)), (o6, .inl (cI, 12, .inl f161))]) := hD
            refine lv_iconst (v := 0) hx hb dX0_seatsRest_88 (by decide) ?_
            rw [hQ]
            exact W.zret (v := 0) (ty := .boolean) hx hb hr rfl (fun t ht hW => ⟨⟨0, (f164, f161), rfl, (iv_w ik_0 (by decide)), by rw [ht]; exact hP, va_K.moved hW.alike hK, hD⟩, hS.F ht⟩) hS.2.2 dX0_seatsRest_89
          ·
            have qh162 := nle_i h162
            have j165 : Iv 0 11 x159 := r_ltl qh162 x159_h j2 (by decide)
            refine lv_iload_n hx hb dX0_seatsRest_40 rfl (lv_at hl 1 rfl) ?_
            refine lv_iload hx hb dX0_seatsRest_41 (lv_at hl 0 rfl) ?_
            refine kc_i (D := (dC, dI)) (S := Unit) (wc := []) (wr := [(o1, .inr (0, [.ref o2, .ref o4, .ref o6, .int v8, .int v9, .int v10, .int v11, .int v12])), (o2, .inl (cI, 4096, .inl f160)), (o4, .inl (cI, 12, .inl fw5)), (o6, .inl (cI, 12, .inl f161))]) (w1 := fun _ => []) (wn := fun _ => [(o1, .inr (0, [.ref o2, .ref o4, .ref o6, .int v8, .int v9, .int v10, .int v11, .int v12])), (o2, .inl (cI, 4096, .inl f160)), (o4, .inl (cI, 12, .inl fw5)), (o6, .inl (cI, 12, .inl f161))]) (fun hPc hDc => va_runSN (As := [.int x5, .int x159]) (rest := []) ⟨hx, hb, hml, hown, hts⟩ (kX11_in_1 l dC dI cI c2 cZ x5 x159 H.size) ⟨va_cnB 2 hts gX0_seatsRest_X11_in_n62 rfl rfl rfl (hN.1 _ ns_125) (hts (.initialized RX11) hm_X0_seatsRest_12) (by decide +kernel) ⟨Nat.le_of_ble_eq_true rfl, Nat.le_of_ble_eq_true rfl⟩, (hts (.static yX11_in) hm_X0_seatsRest_11), trivial⟩ (pre_S hPc hK hDc hN) rfl rfl hl.1 rfl (lv_room (Nat.le_of_ble_eq_true rfl)) dX0_seatsRest_43 ⟨Nat.le_of_ble_eq_true rfl, Nat.le_of_ble_eq_true rfl⟩) hP hD hS hA [] [0, 1, 2, 3] [0, 1, 2, 3] rfl rfl (by decide +kernel) (by decide +kernel) (by decide +kernel) (by decide +kernel) (fun _ => rfl) (fun x166 _ H locs hq hP hD hS => ?_)
            have x166_h := hq
            have hP : va_P (dC, dI) vwCl ([(o1, .inr (0, [.ref o2, .ref o4, .ref o6, .int v8, .int v9, .int v10, .int v11, .int v12])), (o2, .inl (cI, 4096, .inl f160)), (o4, .inl (cI, 12, .inl fw5)), (o6, .inl (cI, 12, .inl f161))]) H := hP
            have hD : va_D A ([(o1, .inr (0, [.ref o2, .ref o4, .ref o6, .int v8, .int v9, .int v10, .int v11, .int v12])), (o2, .inl (cI, 4096, .inl f160)), (o4, .inl (cI, 12, .inl fw5)), (o6, .inl (cI, 12, .inl f161))]) := hD
            refine lv_if_eq (tgt := 75) hx hb dX0_seatsRest_46 (by decide) (fun h167 => ?_) (fun h167 => ?_)
            ·
              have j168 : Iv 0 0 x166 := r_eq h167 ik_0
              obtain ⟨x169, x169_e⟩ : ∃ z : Int32, z = x159 + 1 := ⟨_, rfl⟩
              have x169_h : Iv 1 12 x169 := iv_e x169_e (iv_add j165 ik_1 (by decide))
              refine lv_iinc (v := x169) (lv' := [(4, .int x169), (3, .int x5), (0, .ref o1), (1, .int a1), (2, .int 2)]) hx hb dX0_seatsRest_75 hl (k := 0) rfl (incN (by decide +kernel) x169_e) (by decide) rfl (fun ls hl => ?_)
              refine lv_goto (tgt := 31) hx hb dX0_seatsRest_78 (by decide) ?_
              exact ih1 x169 f160 f161 _ _ _ (ms_up x169_e j165 (by decide) hM1) (iv_w x169_h (by decide)) hP hD hS hl
            ·
              have j170 : Iv 1 1 x166 := r_nelo h167 x166_h ik_0 (by decide)
              refine lv_aload_n hx hb dX0_seatsRest_49 rfl (lv_at hl 2 rfl) ?_
              refine va_get (D := (dC, dI)) (ci := 0) (v := .ref o6) (C := RX0) (T := TX0) (N := 8) hx hb hts iw_X0_seatsRest_X0 hown hK hP 0 rfl rfl 2 (by decide) (hts (.fieldLink RX0 41 "HolelessHouse$Benches" "places" "[I") hm_X0_seatsRest_3) (fun _ h9 => h9) rfl dX0_seatsRest_50 ?_
              refine lv_iload_n hx hb dX0_seatsRest_53 rfl (lv_at hl 4 rfl) ?_
              refine lv_iload hx hb dX0_seatsRest_54 (lv_at hl 0 rfl) ?_
              refine k_iast hx hb hK hP hD hS 3 0 rfl rfl (vin_iv ik_2 (by decide)) dX0_seatsRest_56 (fun f171 H locs f171_e hP hD hS => ?_)
              have hP : va_P (dC, dI) vwCl ([(o1, .inr (0, [.ref o2, .ref o4, .ref o6, .int v8, .int v9, .int v10, .int v11, .int v12])), (o2, .inl (cI, 4096, .inl f160)), (o4, .inl (cI, 12, .inl fw5)), (o6, .inl (cI, 12, .inl f171))]) H := hP
              have hD : va_D A ([(o1, .inr (0, [.ref o2, .ref o4, .ref o6, .int v8, .int v9, .int v10, .int v11, .int v12])), (o2, .inl (cI, 4096, .inl f160)), (o4, .inl (cI, 12, .inl fw5)), (o6, .inl (cI, 12, .inl f171))]) := hD
              refine lv_aload_n hx hb dX0_seatsRest_57 rfl (lv_at hl 2 rfl) ?_
              refine lv_iload_n hx hb dX0_seatsRest_58 rfl (lv_at hl 3 rfl) ?_
              refine lv_iconst (v := 1) hx hb dX0_seatsRest_59 (by decide) ?_
              refine lv_iload hx hb dX0_seatsRest_60 (lv_at hl 0 rfl) ?_
              refine lv_ishl hx hb dX0_seatsRest_62 (lv_topi (fun x172 x172_e => ?_))
              have x172_h : Iv 1 2048 x172 := iv_e x172_e (iv_shl1 j165 (by decide))
              refine lv_ior hx hb dX0_seatsRest_63 (lv_topi (fun x173 x173_e => ?_))
              have x173_h : Iv 0 4095 x173 := iv_e x173_e (iv_or 12 a1_h x172_h (by decide))
              refine lv_iload_n hx hb dX0_seatsRest_64 rfl (lv_at hl 4 rfl) ?_
              refine lv_iconst (v := 1) hx hb dX0_seatsRest_65 (by decide) ?_
              refine lv_iadd hx hb dX0_seatsRest_66 (tk_i (v := 3) (by decide +kernel) ?_)
              refine kc_i (D := (dC, dI)) (S := (Nat → Int32) × (Nat → Int32)) (wc := [(o1, .inr (0, [.ref o2, .ref o4, .ref o6, .int v8, .int v9, .int v10, .int v11, .int v12])), (o2, .inl (cI, 4096, .inl f160)), (o4, .inl (cI, 12, .inl fw5)), (o6, .inl (cI, 12, .inl f171))]) (wr := []) (w1 := fun u => [(o1, .inr (0, [.ref o2, .ref o4, .ref o6, .int v8, .int v9, .int v10, .int v11, .int v12])), (o2, .inl (cI, 4096, .inl u.1)), (o4, .inl (cI, 12, .inl fw5)), (o6, .inl (cI, 12, .inl u.2))]) (wn := fun u => [(o1, .inr (0, [.ref o2, .ref o4, .ref o6, .int v8, .int v9, .int v10, .int v11, .int v12])), (o2, .inl (cI, 4096, .inl u.1)), (o4, .inl (cI, 12, .inl fw5)), (o6, .inl (cI, 12, .inl u.2))]) (fun hPc hDc => va_runS (As := [.ref o1, .int x173, .int 3]) (rest := []) ⟨hx, hb, hml, hown, hts⟩ (kX0_seatsRest_10 l dC dI cI c2 cZ o1 o2 o4 o6 f160 fw5 f171 v8 v9 v10 v11 v12 x173 H.size v8_h (iv_w j2 (by decide)) v11_h x173_h) (va_cwS 3 hts gX0_seatsRest_X0_seatsRest rfl rfl rfl (by decide +kernel) ⟨Nat.le_of_ble_eq_true rfl, Nat.le_of_ble_eq_true rfl⟩) (pre_S hPc hK hDc hN) rfl rfl hl.1 rfl (lv_room (Nat.le_of_ble_eq_true rfl)) dX0_seatsRest_67 ⟨Nat.le_of_ble_eq_true rfl, Nat.le_of_ble_eq_true rfl⟩) hP hD hS hA [0, 1, 2, 3] [] [0, 1, 2, 3] rfl rfl (by decide +kernel) (by decide +kernel) (by decide +kernel) (by decide +kernel) (fun _ => rfl) (fun x176 u H locs hq hP hD hS => ?_)
              obtain ⟨f174, f175⟩ := u
              have x176_h := hq
              have hP : va_P (dC, dI) vwCl ([(o1, .inr (0, [.ref o2, .ref o4, .ref o6, .int v8, .int v9, .int v10, .int v11, .int v12])), (o2, .inl (cI, 4096, .inl f174)), (o4, .inl (cI, 12, .inl fw5)), (o6, .inl (cI, 12, .inl f175))]) H := hP
              have hD : va_D A ([(o1, .inr (0, [.ref o2, .ref o4, .ref o6, .int v8, .int v9, .int v10, .int v11, .int v12])), (o2, .inl (cI, 4096, .inl f174)), (o4, .inl (cI, 12, .inl fw5)), (o6, .inl (cI, 12, .inl f175))]) := hD
              refine lv_if_eq (tgt := 75) hx hb dX0_seatsRest_70 (by decide) (fun h177 => ?_) (fun h177 => ?_)
              ·
                have j178 : Iv 0 0 x176 := r_eq h177 ik_0
                obtain ⟨x179, x179_e⟩ : ∃ z : Int32, z = x159 + 1 := ⟨_, rfl⟩
                have x179_h : Iv 1 12 x179 := iv_e x179_e (iv_add j165 ik_1 (by decide))
                refine lv_iinc (v := x179) (lv' := [(4, .int x179), (3, .int x5), (0, .ref o1), (1, .int a1), (2, .int 2)]) hx hb dX0_seatsRest_75 hl (k := 0) rfl (incN (by decide +kernel) x179_e) (by decide) rfl (fun ls hl => ?_)
                refine lv_goto (tgt := 31) hx hb dX0_seatsRest_78 (by decide) ?_
                exact ih1 x179 f174 f175 _ _ _ (ms_up x179_e j165 (by decide) hM1) (iv_w x179_h (by decide)) hP hD hS hl
              ·
                have j180 : Iv 1 1 x176 := r_nelo h177 x176_h ik_0 (by decide)
                refine lv_iconst (v := 1) hx hb dX0_seatsRest_73 (by decide) ?_
                rw [hQ]
                exact W.zret (v := 1) (ty := .boolean) hx hb hr rfl (fun t ht hW => ⟨⟨1, (f174, f175), rfl, (iv_w ik_1 (by decide)), by rw [ht]; exact hP, va_K.moved hW.alike hK, hD⟩, hS.F ht⟩) hS.2.2 dX0_seatsRest_74
      exact L1 _ 0 fw3 fw7 _ _ _ (Nat.lt_succ_self _) (iv_w ik_0 (by decide)) hP hD hS hl
    ·
      have j181 : Iv 1 1 x3 := r_eq h4 ik_1
      refine lv_iconst (v := 0) hx hb dX0_seatsRest_20 (by decide) ?_
      rw [hQ]
      exact W.zret (v := 0) (ty := .boolean) hx hb hr rfl (fun t ht hW => ⟨⟨0, (fw3, fw7), rfl, (iv_w ik_0 (by decide)), by rw [ht]; exact hP, va_K.moved hW.alike hK, hD⟩, hS.F ht⟩) hS.2.2 dX0_seatsRest_21
  ·
    have qh1 := nlt_i h1
    have j182 : Iv 0 2 v9 := r_lel qh1 v9_h ik_2 (by decide)
    refine lv_iconst (v := 1) hx hb dX0_seatsRest_8 (by decide) ?_
    rw [hQ]
    exact W.zret (v := 1) (ty := .boolean) hx hb hr rfl (fun t ht hW => ⟨⟨1, (fw3, fw7), rfl, (iv_w ik_1 (by decide)), by rw [ht]; exact hP, va_K.moved hW.alike hK, hD⟩, hS.F ht⟩) hS.2.2 dX0_seatsRest_9
set_option maxHeartbeats 4000000 in
set_option maxRecDepth 100000 in
theorem kX0_seatsRest_12 (l : Launch) (dC : Nat → ClassId) (dI : Nat → Nat → Nat) (cI c2 cZ : ClassId) (o1 : Nat) (o2 : Nat) (o4 : Nat) (o6 : Nat) (fw3 : Nat → Int32) (fw5 : Nat → Int32) (fw7 : Nat → Int32) (v8 : Int32) (v9 : Int32) (v10 : Int32) (v11 : Int32) (v12 : Int32) (a1 : Int32) (sz : Nat) (v8_h : Iv 0 12 v8) (v9_h : Iv 0 12 v9) (v11_h : Iv 0 1 v11) (a1_h : Iv 0 4095 a1) : Met l yX0_seatsRest wsX0_seatsRest ({ frames := 11, cells := 0, slots := 0, locals := 264 }) (va_Pc [.ref o1, .int a1, .int 1] (wPre (dC, dI) [(cI, .int), (c2, .array .int), (cZ, .boolean)] ([(o1, .inr (0, [.ref o2, .ref o4, .ref o6, .int v8, .int v9, .int v10, .int v11, .int v12])), (o2, .inl (cI, 4096, .inl fw3)), (o4, .inl (cI, 12, .inl fw5)), (o6, .inl (cI, 12, .inl fw7))]) sz)) (va_Qi (fun (r : Int32) (u : (Nat → Int32) × (Nat → Int32)) => Iv 0 1 r) (fun u t => wPost (dC, dI) [(cI, .int), (c2, .array .int), (cZ, .boolean)] (va_A ([(o1, .inr (0, [.ref o2, .ref o4, .ref o6, .int v8, .int v9, .int v10, .int v11, .int v12])), (o2, .inl (cI, 4096, .inl fw3)), (o4, .inl (cI, 12, .inl fw5)), (o6, .inl (cI, 12, .inl fw7))]) sz) ([(o1, .inr (0, [.ref o2, .ref o4, .ref o6, .int v8, .int v9, .int v10, .int v11, .int v12])), (o2, .inl (cI, 4096, .inl u.1)), (o4, .inl (cI, 12, .inl fw5)), (o6, .inl (cI, 12, .inl u.2))]) t) (va_A ([(o1, .inr (0, [.ref o2, .ref o4, .ref o6, .int v8, .int v9, .int v10, .int v11, .int v12])), (o2, .inl (cI, 4096, .inl fw3)), (o4, .inl (cI, 12, .inl fw5)), (o6, .inl (cI, 12, .inl fw7))]) sz)) 0 0 (va_A ([(o1, .inr (0, [.ref o2, .ref o4, .ref o6, .int v8, .int v9, .int v10, .int v11, .int v12])), (o2, .inl (cI, 4096, .inl fw3)), (o4, .inl (cI, 12, .inl fw5)), (o6, .inl (cI, 12, .inl fw7))]) sz) := by
  refine Met.ofW (cc := cX0_seatsRest) (maxL := 5) (ret := (some .boolean)) (by decide) rfl ?_
  intro p e s m args below meth c s₁ B hml hv
  obtain ⟨rfl, hsz, hP, hK, hD0, hN⟩ := hv
  have hx := B.exec
  have hb := B.bytes
  have hr := B.returns
  have hts := atoms_spec (ws := wsX0_seatsRest) B.pre
  have hown : s.vm.findClass RX0 = some m.cls := findClass_of_methodNamed B.named
  have hlocks := B.notSynchronized
  subst hsz
  have hD := hD0.self (sz := s.heap.size)
  generalize hAe : va_A ([(o1, .inr (0, [.ref o2, .ref o4, .ref o6, .int v8, .int v9, .int v10, .int v11, .int v12])), (o2, .inl (cI, 4096, .inl fw3)), (o4, .inl (cI, 12, .inl fw5)), (o6, .inl (cI, 12, .inl fw7))]) s.heap.size = A at hD ⊢
  have hA : ∀ q : Nat, s.heap.size ≤ q → A q := fun q h => by rw [← hAe]; exact Or.inr h
  have hS : va_S A s.heap s.heap [] := va_S.rf
  have hP : va_P (dC, dI) vwCl ([(o1, .inr (0, [.ref o2, .ref o4, .ref o6, .int v8, .int v9, .int v10, .int v11, .int v12])), (o2, .inl (cI, 4096, .inl fw3)), (o4, .inl (cI, 12, .inl fw5)), (o6, .inl (cI, 12, .inl fw7))]) s.heap := hP
  have hl := lv_entry ([.ref o1, .int a1, .int 1]) (n := 5) (Nat.le_of_ble_eq_true rfl)
  rw [lg_entry_eq]
  generalize (lg_sl ([.ref o1, .int a1, .int 1]) ++ List.replicate (5 - (lg_sl ([.ref o1, .int a1, .int 1])).length) Slot.unset).toArray = ls at hl ⊢
  have hl : lv_has ls 5 [(0, .ref o1), (1, .int a1), (2, .int 1)] := hl
  refine gen_Q (fun Q hQ => ?_)
  refine lv_iload_n hx hb dX0_seatsRest_0 rfl (lv_at hl 2 rfl) ?_
  refine lv_aload_n hx hb dX0_seatsRest_1 rfl (lv_at hl 0 rfl) ?_
  refine va_get (D := (dC, dI)) (ci := 0) (v := .int v9) (C := RX0) (T := TX0) (N := 8) hx hb hts iw_X0_seatsRest_X0 hown hK hP 0 rfl rfl 4 (by decide) (hts (.fieldLink RX0 25 "HolelessHouse$Benches" "width" "I") hm_X0_seatsRest_1) (fun _ h9 => h9) rfl dX0_seatsRest_2 ?_
  refine lv_icmp_lt (tgt := 10) hx hb dX0_seatsRest_5 (by decide) (fun h1 => ?_) (fun h1 => ?_)
  ·
    have qh1 := lt_i h1
    have j2 : Iv 2 12 v9 := r_ltr qh1 ik_1 v9_h (by decide)
    refine lv_aload_n hx hb dX0_seatsRest_10 rfl (lv_at hl 0 rfl) ?_
    refine va_get (D := (dC, dI)) (ci := 0) (v := .ref o2) (C := RX0) (T := TX0) (N := 8) hx hb hts iw_X0_seatsRest_X0 hown hK hP 0 rfl rfl 0 (by decide) (hts (.fieldLink RX0 38 "HolelessHouse$Benches" "notes" "[I") hm_X0_seatsRest_2) (fun _ h9 => h9) rfl dX0_seatsRest_11 ?_
    refine lv_iload_n hx hb dX0_seatsRest_14 rfl (lv_at hl 1 rfl) ?_
    refine va_iald hx hb hK hP 1 0 rfl rfl (vin_iv a1_h (by decide)) dX0_seatsRest_15 (lv_topi (fun x3 x3_e => ?_))
    refine lv_iconst (v := 1) hx hb dX0_seatsRest_16 (by decide) ?_
    refine lv_icmp_ne (tgt := 22) hx hb dX0_seatsRest_17 (by decide) (fun h4 => ?_) (fun h4 => ?_)
    ·
      refine lv_aload_n hx hb dX0_seatsRest_22 rfl (lv_at hl 0 rfl) ?_
      refine lv_iload_n hx hb dX0_seatsRest_23 rfl (lv_at hl 1 rfl) ?_
      refine kc_i (D := (dC, dI)) (S := Unit) (wc := [(o1, .inr (0, [.ref o2, .ref o4, .ref o6, .int v8, .int v9, .int v10, .int v11, .int v12])), (o4, .inl (cI, 12, .inl fw5))]) (wr := [(o2, .inl (cI, 4096, .inl fw3)), (o6, .inl (cI, 12, .inl fw7))]) (w1 := fun _ => [(o1, .inr (0, [.ref o2, .ref o4, .ref o6, .int v8, .int v9, .int v10, .int v11, .int v12])), (o4, .inl (cI, 12, .inl fw5))]) (wn := fun _ => [(o1, .inr (0, [.ref o2, .ref o4, .ref o6, .int v8, .int v9, .int v10, .int v11, .int v12])), (o2, .inl (cI, 4096, .inl fw3)), (o4, .inl (cI, 12, .inl fw5)), (o6, .inl (cI, 12, .inl fw7))]) (fun hPc hDc => va_runV (As := [.int a1]) (rest := []) ⟨hx, hb, hml, hown, hts⟩ (kX0_mayCome_1 l dC dI cI c2 cZ o1 o2 o4 o6 fw5 v8 v9 v10 v11 v12 a1 s.heap.size v8_h (iv_w j2 (by decide)) v11_h a1_h) (cwV 1 hts gX0_seatsRest_X0_mayCome rfl rfl rfl (by decide +kernel) ⟨Nat.le_of_ble_eq_true rfl, Nat.le_of_ble_eq_true rfl⟩) (pre_V hPc hK hDc hN (ci := 0) (q0 := 0) rfl rfl) rfl rfl hl.1 rfl (lv_room (Nat.le_of_ble_eq_true rfl)) dX0_seatsRest_24 ⟨Nat.le_of_ble_eq_true rfl, Nat.le_of_ble_eq_true rfl⟩) hP hD hS hA [0, 2] [1, 3] [2, 0, 3, 1] rfl rfl (by decide +kernel) (by decide +kernel) (by decide +kernel) (by decide +kernel) (fun _ => rfl) (fun x5 _ H locs hq hP hD hS => ?_)
      have x5_h := hq
      have hP : va_P (dC, dI) vwCl ([(o1, .inr (0, [.ref o2, .ref o4, .ref o6, .int v8, .int v9, .int v10, .int v11, .int v12])), (o2, .inl (cI, 4096, .inl fw3)), (o4, .inl (cI, 12, .inl fw5)), (o6, .inl (cI, 12, .inl fw7))]) H := hP
      have hD : va_D A ([(o1, .inr (0, [.ref o2, .ref o4, .ref o6, .int v8, .int v9, .int v10, .int v11, .int v12])), (o2, .inl (cI, 4096, .inl fw3)), (o4, .inl (cI, 12, .inl fw5)), (o6, .inl (cI, 12, .inl fw7))]) := hD
      refine lv_istore_n (lv' := [(3, .int x5), (0, .ref o1), (1, .int a1), (2, .int 1)]) hx hb dX0_seatsRest_27 rfl hl (by decide) rfl (fun ls hl => ?_)
      refine lv_iconst (v := 0) hx hb dX0_seatsRest_28 (by decide) ?_
      refine lv_istore (lv' := [(4, .int 0), (3, .int x5), (0, .ref o1), (1, .int a1), (2, .int 1)]) hx hb dX0_seatsRest_29 hl (by decide) rfl (fun ls hl => ?_)
      have L1 : ∀ (N : Nat) (x162 : Int32) (f163 : Nat → Int32) (f164 : Nat → Int32) (H : Heap) (locs : List Loc) (ls : Array Slot), (12 - x162.toInt).toNat < N → Iv 0 12 x162 → va_P (dC, dI) vwCl ([(o1, .inr (0, [.ref o2, .ref o4, .ref o6, .int v8, .int v9, .int v10, .int v11, .int v12])), (o2, .inl (cI, 4096, .inl f163)), (o4, .inl (cI, 12, .inl fw5)), (o6, .inl (cI, 12, .inl f164))]) H → va_D A ([(o1, .inr (0, [.ref o2, .ref o4, .ref o6, .int v8, .int v9, .int v10, .int v11, .int v12])), (o2, .inl (cI, 4096, .inl f163)), (o4, .inl (cI, 12, .inl fw5)), (o6, .inl (cI, 12, .inl f164))]) → va_S A s.heap H locs → lv_has ls 5 [(4, .int x162), (3, .int x5), (0, .ref o1), (1, .int a1), (2, .int 1)] → W p l e ({ frames := 11, cells := 0, slots := 0, locals := 264 }) s m ([.ref o1, .int a1, .int 1] : List Value).toArray below meth c H locs 0 0 Q (F0 m 31 ls []) := by
        intro N
        induction N with
        | zero =>
          intro x162 f163 f164 H locs ls hM
          exact absurd hM (Nat.not_lt_zero _)
        | succ N ih1 =>
          intro x162 f163 f164 H locs ls hM1 x162_h hP hD hS hl
          refine lv_iload hx hb dX0_seatsRest_31 (lv_at hl 0 rfl) ?_
          refine lv_aload_n hx hb dX0_seatsRest_33 rfl (lv_at hl 2 rfl) ?_
          refine va_get (D := (dC, dI)) (ci := 0) (v := .int v9) (C := RX0) (T := TX0) (N := 8) hx hb hts iw_X0_seatsRest_X0 hown hK hP 0 rfl rfl 4 (by decide) (hts (.fieldLink RX0 25 "HolelessHouse$Benches" "width" "I") hm_X0_seatsRest_1) (fun _ h9 => h9) rfl dX0_seatsRest_34 ?_
          refine lv_icmp_ge (tgt := 81) hx hb dX0_seatsRest_37 (by decide) (fun h165 => ?_) (fun h165 => ?_)
          ·
            have qh165 := le_i h165
            have j166 : Iv 2 12 x162 := r_ler qh165 j2 x162_h (by decide)
            refine lv_aload_n hx hb dX0_seatsRest_81 rfl (lv_at hl 2 rfl) ?_
            refine va_get (D := (dC, dI)) (ci := 0) (v := .ref o2) (C := RX0) (T := TX0) (N := 8) hx hb hts iw_X0_seatsRest_X0 hown hK hP 0 rfl rfl 0 (by decide) (hts (.fieldLink RX0 38 "HolelessHouse$Benches" "notes" "[I") hm_X0_seatsRest_2) (fun _ h9 => h9) rfl dX0_seatsRest_82 ?_
            refine lv_iload_n hx hb dX0_seatsRest_85 rfl (lv_at hl 3 rfl) ?_
            refine lv_iconst (v := 1) hx hb dX0_seatsRest_86 (by decide) ?_
            refine k_iast hx hb hK hP hD hS 1 0 rfl rfl (vin_iv a1_h (by decide)) dX0_seatsRest_87 (fun f167 H locs f167_e hP hD hS => ?_)
            have hP : va_P (dC, dI) vwCl ([(o1, .inr (0, [.ref o2, .ref o4, .ref o6, .int v8, .int v9, .int v10, .int v11, .int v12])), (o2, .inl (cI, 4096, .inl f167)), (o4, .inl (cI, 12, .inl fw5)), (o6, .inl (cI, 12, .inl f164))]) H := hP
            have hD : va_D A ([(o1, .inr (0, [.ref o2, .ref o4, .ref o6, .int v8, .int v9, .int v10, .int v11, .int v12])), (o2, .inl (cI, 4096, .inl f167)), (o4, .inl (cI, 12, .inl fw5)), (o6, .inl (cI, 12, .inl f164))]) := hD
            refine lv_iconst (v := 0) hx hb dX0_seatsRest_88 (by decide) ?_
            rw [hQ]
            exact W.zret (v := 0) (ty := .boolean) hx hb hr rfl (fun t ht hW => ⟨⟨0, (f167, f164), rfl, (iv_w ik_0 (by decide)), by rw [ht]; exact hP, va_K.moved hW.alike hK, hD⟩, hS.F ht⟩) hS.2.2 dX0_seatsRest_89
          ·
            have qh165 := nle_i h165
            have j168 : Iv 0 11 x162 := r_ltl qh165 x162_h j2 (by decide)
            refine lv_iload_n hx hb dX0_seatsRest_40 rfl (lv_at hl 1 rfl) ?_
            refine lv_iload hx hb dX0_seatsRest_41 (lv_at hl 0 rfl) ?_
            refine kc_i (D := (dC, dI)) (S := Unit) (wc := []) (wr := [(o1, .inr (0, [.ref o2, .ref o4, .ref o6, .int v8, .int v9, .int v10, .int v11, .int v12])), (o2, .inl (cI, 4096, .inl f163)), (o4, .inl (cI, 12, .inl fw5)), (o6, .inl (cI, 12, .inl f164))]) (w1 := fun _ => []) (wn := fun _ => [(o1, .inr (0, [.ref o2, .ref o4, .ref o6, .int v8, .int v9, .int v10, .int v11, .int v12])), (o2, .inl (cI, 4096, .inl f163)), (o4, .inl (cI, 12, .inl fw5)), (o6, .inl (cI, 12, .inl f164))]) (fun hPc hDc => va_runSN (As := [.int x5, .int x162]) (rest := []) ⟨hx, hb, hml, hown, hts⟩ (kX11_in_1 l dC dI cI c2 cZ x5 x162 H.size) ⟨va_cnB 2 hts gX0_seatsRest_X11_in_n62 rfl rfl rfl (hN.1 _ ns_125) (hts (.initialized RX11) hm_X0_seatsRest_12) (by decide +kernel) ⟨Nat.le_of_ble_eq_true rfl, Nat.le_of_ble_eq_true rfl⟩, (hts (.static yX11_in) hm_X0_seatsRest_11), trivial⟩ (pre_S hPc hK hDc hN) rfl rfl hl.1 rfl (lv_room (Nat.le_of_ble_eq_true rfl)) dX0_seatsRest_43 ⟨Nat.le_of_ble_eq_true rfl, Nat.le_of_ble_eq_true rfl⟩) hP hD hS hA [] [0, 1, 2, 3] [0, 1, 2, 3] rfl rfl (by decide +kernel) (by decide +kernel) (by decide +kernel) (by decide +kernel) (fun _ => rfl) (fun x169 _ H locs hq hP hD hS => ?_)
            have x169_h := hq
            have hP : va_P (dC, dI) vwCl ([(o1, .inr (0, [.ref o2, .ref o4, .ref o6, .int v8, .int v9, .int v10, .int v11, .int v12])), (o2, .inl (cI, 4096, .inl f163)), (o4, .inl (cI, 12, .inl fw5)), (o6, .inl (cI, 12, .inl f164))]) H := hP
            have hD : va_D A ([(o1, .inr (0, [.ref o2, .ref o4, .ref o6, .int v8, .int v9, .int v10, .int v11, .int v12])), (o2, .inl (cI, 4096, .inl f163)), (o4, .inl (cI, 12, .inl fw5)), (o6, .inl (cI, 12, .inl f164))]) := hD
            refine lv_if_eq (tgt := 75) hx hb dX0_seatsRest_46 (by decide) (fun h170 => ?_) (fun h170 => ?_)
            ·
              have j171 : Iv 0 0 x169 := r_eq h170 ik_0
              obtain ⟨x172, x172_e⟩ : ∃ z : Int32, z = x162 + 1 := ⟨_, rfl⟩
              have x172_h : Iv 1 12 x172 := iv_e x172_e (iv_add j168 ik_1 (by decide))
              refine lv_iinc (v := x172) (lv' := [(4, .int x172), (3, .int x5), (0, .ref o1), (1, .int a1), (2, .int 1)]) hx hb dX0_seatsRest_75 hl (k := 0) rfl (incN (by decide +kernel) x172_e) (by decide) rfl (fun ls hl => ?_)
              refine lv_goto (tgt := 31) hx hb dX0_seatsRest_78 (by decide) ?_
              exact ih1 x172 f163 f164 _ _ _ (ms_up x172_e j168 (by decide) hM1) (iv_w x172_h (by decide)) hP hD hS hl
            ·
              have j173 : Iv 1 1 x169 := r_nelo h170 x169_h ik_0 (by decide)
              refine lv_aload_n hx hb dX0_seatsRest_49 rfl (lv_at hl 2 rfl) ?_
              refine va_get (D := (dC, dI)) (ci := 0) (v := .ref o6) (C := RX0) (T := TX0) (N := 8) hx hb hts iw_X0_seatsRest_X0 hown hK hP 0 rfl rfl 2 (by decide) (hts (.fieldLink RX0 41 "HolelessHouse$Benches" "places" "[I") hm_X0_seatsRest_3) (fun _ h9 => h9) rfl dX0_seatsRest_50 ?_
              refine lv_iload_n hx hb dX0_seatsRest_53 rfl (lv_at hl 4 rfl) ?_
              refine lv_iload hx hb dX0_seatsRest_54 (lv_at hl 0 rfl) ?_
              refine k_iast hx hb hK hP hD hS 3 0 rfl rfl (vin_iv ik_1 (by decide)) dX0_seatsRest_56 (fun f174 H locs f174_e hP hD hS => ?_)
              have hP : va_P (dC, dI) vwCl ([(o1, .inr (0, [.ref o2, .ref o4, .ref o6, .int v8, .int v9, .int v10, .int v11, .int v12])), (o2, .inl (cI, 4096, .inl f163)), (o4, .inl (cI, 12, .inl fw5)), (o6, .inl (cI, 12, .inl f174))]) H := hP
              have hD : va_D A ([(o1, .inr (0, [.ref o2, .ref o4, .ref o6, .int v8, .int v9, .int v10, .int v11, .int v12])), (o2, .inl (cI, 4096, .inl f163)), (o4, .inl (cI, 12, .inl fw5)), (o6, .inl (cI, 12, .inl f174))]) := hD
              refine lv_aload_n hx hb dX0_seatsRest_57 rfl (lv_at hl 2 rfl) ?_
              refine lv_iload_n hx hb dX0_seatsRest_58 rfl (lv_at hl 3 rfl) ?_
              refine lv_iconst (v := 1) hx hb dX0_seatsRest_59 (by decide) ?_
              refine lv_iload hx hb dX0_seatsRest_60 (lv_at hl 0 rfl) ?_
              refine lv_ishl hx hb dX0_seatsRest_62 (lv_topi (fun x175 x175_e => ?_))
              have x175_h : Iv 1 2048 x175 := iv_e x175_e (iv_shl1 j168 (by decide))
              refine lv_ior hx hb dX0_seatsRest_63 (lv_topi (fun x176 x176_e => ?_))
              have x176_h : Iv 0 4095 x176 := iv_e x176_e (iv_or 12 a1_h x175_h (by decide))
              refine lv_iload_n hx hb dX0_seatsRest_64 rfl (lv_at hl 4 rfl) ?_
              refine lv_iconst (v := 1) hx hb dX0_seatsRest_65 (by decide) ?_
              refine lv_iadd hx hb dX0_seatsRest_66 (tk_i (v := 2) (by decide +kernel) ?_)
              refine kc_i (D := (dC, dI)) (S := (Nat → Int32) × (Nat → Int32)) (wc := [(o1, .inr (0, [.ref o2, .ref o4, .ref o6, .int v8, .int v9, .int v10, .int v11, .int v12])), (o2, .inl (cI, 4096, .inl f163)), (o4, .inl (cI, 12, .inl fw5)), (o6, .inl (cI, 12, .inl f174))]) (wr := []) (w1 := fun u => [(o1, .inr (0, [.ref o2, .ref o4, .ref o6, .int v8, .int v9, .int v10, .int v11, .int v12])), (o2, .inl (cI, 4096, .inl u.1)), (o4, .inl (cI, 12, .inl fw5)), (o6, .inl (cI, 12, .inl u.2))]) (wn := fun u => [(o1, .inr (0, [.ref o2, .ref o4, .ref o6, .int v8, .int v9, .int v10, .int v11, .int v12])), (o2, .inl (cI, 4096, .inl u.1)), (o4, .inl (cI, 12, .inl fw5)), (o6, .inl (cI, 12, .inl u.2))]) (fun hPc hDc => va_runS (As := [.ref o1, .int x176, .int 2]) (rest := []) ⟨hx, hb, hml, hown, hts⟩ (kX0_seatsRest_11 l dC dI cI c2 cZ o1 o2 o4 o6 f163 fw5 f174 v8 v9 v10 v11 v12 x176 H.size v8_h (iv_w j2 (by decide)) v11_h x176_h) (va_cwS 3 hts gX0_seatsRest_X0_seatsRest rfl rfl rfl (by decide +kernel) ⟨Nat.le_of_ble_eq_true rfl, Nat.le_of_ble_eq_true rfl⟩) (pre_S hPc hK hDc hN) rfl rfl hl.1 rfl (lv_room (Nat.le_of_ble_eq_true rfl)) dX0_seatsRest_67 ⟨Nat.le_of_ble_eq_true rfl, Nat.le_of_ble_eq_true rfl⟩) hP hD hS hA [0, 1, 2, 3] [] [0, 1, 2, 3] rfl rfl (by decide +kernel) (by decide +kernel) (by decide +kernel) (by decide +kernel) (fun _ => rfl) (fun x179 u H locs hq hP hD hS => ?_)
              obtain ⟨f177, f178⟩ := u
              have x179_h := hq
              have hP : va_P (dC, dI) vwCl ([(o1, .inr (0, [.ref o2, .ref o4, .ref o6, .int v8, .int v9, .int v10, .int v11, .int v12])), (o2, .inl (cI, 4096, .inl f177)), (o4, .inl (cI, 12, .inl fw5)), (o6, .inl (cI, 12, .inl f178))]) H := hP
              have hD : va_D A ([(o1, .inr (0, [.ref o2, .ref o4, .ref o6, .int v8, .int v9, .int v10, .int v11, .int v12])), (o2, .inl (cI, 4096, .inl f177)), (o4, .inl (cI, 12, .inl fw5)), (o6, .inl (cI, 12, .inl f178))]) := hD
              refine lv_if_eq (tgt := 75) hx hb dX0_seatsRest_70 (by decide) (fun h180 => ?_) (fun h180 => ?_)
              ·
                have j181 : Iv 0 0 x179 := r_eq h180 ik_0
                obtain ⟨x182, x182_e⟩ : ∃ z : Int32, z = x162 + 1 := ⟨_, rfl⟩
                have x182_h : Iv 1 12 x182 := iv_e x182_e (iv_add j168 ik_1 (by decide))
                refine lv_iinc (v := x182) (lv' := [(4, .int x182), (3, .int x5), (0, .ref o1), (1, .int a1), (2, .int 1)]) hx hb dX0_seatsRest_75 hl (k := 0) rfl (incN (by decide +kernel) x182_e) (by decide) rfl (fun ls hl => ?_)
                refine lv_goto (tgt := 31) hx hb dX0_seatsRest_78 (by decide) ?_
                exact ih1 x182 f177 f178 _ _ _ (ms_up x182_e j168 (by decide) hM1) (iv_w x182_h (by decide)) hP hD hS hl
              ·
                have j183 : Iv 1 1 x179 := r_nelo h180 x179_h ik_0 (by decide)
                refine lv_iconst (v := 1) hx hb dX0_seatsRest_73 (by decide) ?_
                rw [hQ]
                exact W.zret (v := 1) (ty := .boolean) hx hb hr rfl (fun t ht hW => ⟨⟨1, (f177, f178), rfl, (iv_w ik_1 (by decide)), by rw [ht]; exact hP, va_K.moved hW.alike hK, hD⟩, hS.F ht⟩) hS.2.2 dX0_seatsRest_74
      exact L1 _ 0 fw3 fw7 _ _ _ (Nat.lt_succ_self _) (iv_w ik_0 (by decide)) hP hD hS hl
    ·
      have j184 : Iv 1 1 x3 := r_eq h4 ik_1
      refine lv_iconst (v := 0) hx hb dX0_seatsRest_20 (by decide) ?_
      rw [hQ]
      exact W.zret (v := 0) (ty := .boolean) hx hb hr rfl (fun t ht hW => ⟨⟨0, (fw3, fw7), rfl, (iv_w ik_0 (by decide)), by rw [ht]; exact hP, va_K.moved hW.alike hK, hD⟩, hS.F ht⟩) hS.2.2 dX0_seatsRest_21
  ·
    have qh1 := nlt_i h1
    have j185 : Iv 0 1 v9 := r_lel qh1 v9_h ik_1 (by decide)
    refine lv_iconst (v := 1) hx hb dX0_seatsRest_8 (by decide) ?_
    rw [hQ]
    exact W.zret (v := 1) (ty := .boolean) hx hb hr rfl (fun t ht hW => ⟨⟨1, (fw3, fw7), rfl, (iv_w ik_1 (by decide)), by rw [ht]; exact hP, va_K.moved hW.alike hK, hD⟩, hS.F ht⟩) hS.2.2 dX0_seatsRest_9
set_option maxHeartbeats 4000000 in
set_option maxRecDepth 100000 in
theorem kX0_seatsRest_13 (l : Launch) (dC : Nat → ClassId) (dI : Nat → Nat → Nat) (cI c2 cZ : ClassId) (o1 : Nat) (o2 : Nat) (o4 : Nat) (o6 : Nat) (fw3 : Nat → Int32) (fw5 : Nat → Int32) (fw7 : Nat → Int32) (v8 : Int32) (v9 : Int32) (v10 : Int32) (v11 : Int32) (v12 : Int32) (a1 : Int32) (sz : Nat) (v8_h : Iv 0 12 v8) (v9_h : Iv 0 12 v9) (v11_h : Iv 0 1 v11) (a1_h : Iv 0 4095 a1) : Met l yX0_seatsRest wsX0_seatsRest ({ frames := 12, cells := 0, slots := 0, locals := 288 }) (va_Pc [.ref o1, .int a1, .int 0] (wPre (dC, dI) [(cI, .int), (c2, .array .int), (cZ, .boolean)] ([(o1, .inr (0, [.ref o2, .ref o4, .ref o6, .int v8, .int v9, .int v10, .int v11, .int v12])), (o2, .inl (cI, 4096, .inl fw3)), (o4, .inl (cI, 12, .inl fw5)), (o6, .inl (cI, 12, .inl fw7))]) sz)) (va_Qi (fun (r : Int32) (u : (Nat → Int32) × (Nat → Int32)) => Iv 0 1 r) (fun u t => wPost (dC, dI) [(cI, .int), (c2, .array .int), (cZ, .boolean)] (va_A ([(o1, .inr (0, [.ref o2, .ref o4, .ref o6, .int v8, .int v9, .int v10, .int v11, .int v12])), (o2, .inl (cI, 4096, .inl fw3)), (o4, .inl (cI, 12, .inl fw5)), (o6, .inl (cI, 12, .inl fw7))]) sz) ([(o1, .inr (0, [.ref o2, .ref o4, .ref o6, .int v8, .int v9, .int v10, .int v11, .int v12])), (o2, .inl (cI, 4096, .inl u.1)), (o4, .inl (cI, 12, .inl fw5)), (o6, .inl (cI, 12, .inl u.2))]) t) (va_A ([(o1, .inr (0, [.ref o2, .ref o4, .ref o6, .int v8, .int v9, .int v10, .int v11, .int v12])), (o2, .inl (cI, 4096, .inl fw3)), (o4, .inl (cI, 12, .inl fw5)), (o6, .inl (cI, 12, .inl fw7))]) sz)) 0 0 (va_A ([(o1, .inr (0, [.ref o2, .ref o4, .ref o6, .int v8, .int v9, .int v10, .int v11, .int v12])), (o2, .inl (cI, 4096, .inl fw3)), (o4, .inl (cI, 12, .inl fw5)), (o6, .inl (cI, 12, .inl fw7))]) sz) := by
  refine Met.ofW (cc := cX0_seatsRest) (maxL := 5) (ret := (some .boolean)) (by decide) rfl ?_
  intro p e s m args below meth c s₁ B hml hv
  obtain ⟨rfl, hsz, hP, hK, hD0, hN⟩ := hv
  have hx := B.exec
  have hb := B.bytes
  have hr := B.returns
  have hts := atoms_spec (ws := wsX0_seatsRest) B.pre
  have hown : s.vm.findClass RX0 = some m.cls := findClass_of_methodNamed B.named
  have hlocks := B.notSynchronized
  subst hsz
  have hD := hD0.self (sz := s.heap.size)
  generalize hAe : va_A ([(o1, .inr (0, [.ref o2, .ref o4, .ref o6, .int v8, .int v9, .int v10, .int v11, .int v12])), (o2, .inl (cI, 4096, .inl fw3)), (o4, .inl (cI, 12, .inl fw5)), (o6, .inl (cI, 12, .inl fw7))]) s.heap.size = A at hD ⊢
  have hA : ∀ q : Nat, s.heap.size ≤ q → A q := fun q h => by rw [← hAe]; exact Or.inr h
  have hS : va_S A s.heap s.heap [] := va_S.rf
  have hP : va_P (dC, dI) vwCl ([(o1, .inr (0, [.ref o2, .ref o4, .ref o6, .int v8, .int v9, .int v10, .int v11, .int v12])), (o2, .inl (cI, 4096, .inl fw3)), (o4, .inl (cI, 12, .inl fw5)), (o6, .inl (cI, 12, .inl fw7))]) s.heap := hP
  have hl := lv_entry ([.ref o1, .int a1, .int 0]) (n := 5) (Nat.le_of_ble_eq_true rfl)
  rw [lg_entry_eq]
  generalize (lg_sl ([.ref o1, .int a1, .int 0]) ++ List.replicate (5 - (lg_sl ([.ref o1, .int a1, .int 0])).length) Slot.unset).toArray = ls at hl ⊢
  have hl : lv_has ls 5 [(0, .ref o1), (1, .int a1), (2, .int 0)] := hl
  refine gen_Q (fun Q hQ => ?_)
  refine lv_iload_n hx hb dX0_seatsRest_0 rfl (lv_at hl 2 rfl) ?_
  refine lv_aload_n hx hb dX0_seatsRest_1 rfl (lv_at hl 0 rfl) ?_
  refine va_get (D := (dC, dI)) (ci := 0) (v := .int v9) (C := RX0) (T := TX0) (N := 8) hx hb hts iw_X0_seatsRest_X0 hown hK hP 0 rfl rfl 4 (by decide) (hts (.fieldLink RX0 25 "HolelessHouse$Benches" "width" "I") hm_X0_seatsRest_1) (fun _ h9 => h9) rfl dX0_seatsRest_2 ?_
  refine lv_icmp_lt (tgt := 10) hx hb dX0_seatsRest_5 (by decide) (fun h1 => ?_) (fun h1 => ?_)
  ·
    have qh1 := lt_i h1
    have j2 : Iv 1 12 v9 := r_ltr qh1 ik_0 v9_h (by decide)
    refine lv_aload_n hx hb dX0_seatsRest_10 rfl (lv_at hl 0 rfl) ?_
    refine va_get (D := (dC, dI)) (ci := 0) (v := .ref o2) (C := RX0) (T := TX0) (N := 8) hx hb hts iw_X0_seatsRest_X0 hown hK hP 0 rfl rfl 0 (by decide) (hts (.fieldLink RX0 38 "HolelessHouse$Benches" "notes" "[I") hm_X0_seatsRest_2) (fun _ h9 => h9) rfl dX0_seatsRest_11 ?_
    refine lv_iload_n hx hb dX0_seatsRest_14 rfl (lv_at hl 1 rfl) ?_
    refine va_iald hx hb hK hP 1 0 rfl rfl (vin_iv a1_h (by decide)) dX0_seatsRest_15 (lv_topi (fun x3 x3_e => ?_))
    refine lv_iconst (v := 1) hx hb dX0_seatsRest_16 (by decide) ?_
    refine lv_icmp_ne (tgt := 22) hx hb dX0_seatsRest_17 (by decide) (fun h4 => ?_) (fun h4 => ?_)
    ·
      refine lv_aload_n hx hb dX0_seatsRest_22 rfl (lv_at hl 0 rfl) ?_
      refine lv_iload_n hx hb dX0_seatsRest_23 rfl (lv_at hl 1 rfl) ?_
      refine kc_i (D := (dC, dI)) (S := Unit) (wc := [(o1, .inr (0, [.ref o2, .ref o4, .ref o6, .int v8, .int v9, .int v10, .int v11, .int v12])), (o4, .inl (cI, 12, .inl fw5))]) (wr := [(o2, .inl (cI, 4096, .inl fw3)), (o6, .inl (cI, 12, .inl fw7))]) (w1 := fun _ => [(o1, .inr (0, [.ref o2, .ref o4, .ref o6, .int v8, .int v9, .int v10, .int v11, .int v12])), (o4, .inl (cI, 12, .inl fw5))]) (wn := fun _ => [(o1, .inr (0, [.ref o2, .ref o4, .ref o6, .int v8, .int v9, .int v10, .int v11, .int v12])), (o2, .inl (cI, 4096, .inl fw3)), (o4, .inl (cI, 12, .inl fw5)), (o6, .inl (cI, 12, .inl fw7))]) (fun hPc hDc => va_runV (As := [.int a1]) (rest := []) ⟨hx, hb, hml, hown, hts⟩ (kX0_mayCome_1 l dC dI cI c2 cZ o1 o2 o4 o6 fw5 v8 v9 v10 v11 v12 a1 s.heap.size v8_h (iv_w j2 (by decide)) v11_h a1_h) (cwV 1 hts gX0_seatsRest_X0_mayCome rfl rfl rfl (by decide +kernel) ⟨Nat.le_of_ble_eq_true rfl, Nat.le_of_ble_eq_true rfl⟩) (pre_V hPc hK hDc hN (ci := 0) (q0 := 0) rfl rfl) rfl rfl hl.1 rfl (lv_room (Nat.le_of_ble_eq_true rfl)) dX0_seatsRest_24 ⟨Nat.le_of_ble_eq_true rfl, Nat.le_of_ble_eq_true rfl⟩) hP hD hS hA [0, 2] [1, 3] [2, 0, 3, 1] rfl rfl (by decide +kernel) (by decide +kernel) (by decide +kernel) (by decide +kernel) (fun _ => rfl) (fun x5 _ H locs hq hP hD hS => ?_)
      have x5_h := hq
      have hP : va_P (dC, dI) vwCl ([(o1, .inr (0, [.ref o2, .ref o4, .ref o6, .int v8, .int v9, .int v10, .int v11, .int v12])), (o2, .inl (cI, 4096, .inl fw3)), (o4, .inl (cI, 12, .inl fw5)), (o6, .inl (cI, 12, .inl fw7))]) H := hP
      have hD : va_D A ([(o1, .inr (0, [.ref o2, .ref o4, .ref o6, .int v8, .int v9, .int v10, .int v11, .int v12])), (o2, .inl (cI, 4096, .inl fw3)), (o4, .inl (cI, 12, .inl fw5)), (o6, .inl (cI, 12, .inl fw7))]) := hD
      refine lv_istore_n (lv' := [(3, .int x5), (0, .ref o1), (1, .int a1), (2, .int 0)]) hx hb dX0_seatsRest_27 rfl hl (by decide) rfl (fun ls hl => ?_)
      refine lv_iconst (v := 0) hx hb dX0_seatsRest_28 (by decide) ?_
      refine lv_istore (lv' := [(4, .int 0), (3, .int x5), (0, .ref o1), (1, .int a1), (2, .int 0)]) hx hb dX0_seatsRest_29 hl (by decide) rfl (fun ls hl => ?_)
      have L1 : ∀ (N : Nat) (x165 : Int32) (f166 : Nat → Int32) (f167 : Nat → Int32) (H : Heap) (locs : List Loc) (ls : Array Slot), (12 - x165.toInt).toNat < N → Iv 0 12 x165 → va_P (dC, dI) vwCl ([(o1, .inr (0, [.ref o2, .ref o4, .ref o6, .int v8, .int v9, .int v10, .int v11, .int v12])), (o2, .inl (cI, 4096, .inl f166)), (o4, .inl (cI, 12, .inl fw5)), (o6, .inl (cI, 12, .inl f167))]) H → va_D A ([(o1, .inr (0, [.ref o2, .ref o4, .ref o6, .int v8, .int v9, .int v10, .int v11, .int v12])), (o2, .inl (cI, 4096, .inl f166)), (o4, .inl (cI, 12, .inl fw5)), (o6, .inl (cI, 12, .inl f167))]) → va_S A s.heap H locs → lv_has ls 5 [(4, .int x165), (3, .int x5), (0, .ref o1), (1, .int a1), (2, .int 0)] → W p l e ({ frames := 12, cells := 0, slots := 0, locals := 288 }) s m ([.ref o1, .int a1, .int 0] : List Value).toArray below meth c H locs 0 0 Q (F0 m 31 ls []) := by
        intro N
        induction N with
        | zero =>
          intro x165 f166 f167 H locs ls hM
          exact absurd hM (Nat.not_lt_zero _)
        | succ N ih1 =>
          intro x165 f166 f167 H locs ls hM1 x165_h hP hD hS hl
          refine lv_iload hx hb dX0_seatsRest_31 (lv_at hl 0 rfl) ?_
          refine lv_aload_n hx hb dX0_seatsRest_33 rfl (lv_at hl 2 rfl) ?_
          refine va_get (D := (dC, dI)) (ci := 0) (v := .int v9) (C := RX0) (T := TX0) (N := 8) hx hb hts iw_X0_seatsRest_X0 hown hK hP 0 rfl rfl 4 (by decide) (hts (.fieldLink RX0 25 "HolelessHouse$Benches" "width" "I") hm_X0_seatsRest_1) (fun _ h9 => h9) rfl dX0_seatsRest_34 ?_
          refine lv_icmp_ge (tgt := 81) hx hb dX0_seatsRest_37 (by decide) (fun h168 => ?_) (fun h168 => ?_)
          ·
            have qh168 := le_i h168
            have j169 : Iv 1 12 x165 := r_ler qh168 j2 x165_h (by decide)
            refine lv_aload_n hx hb dX0_seatsRest_81 rfl (lv_at hl 2 rfl) ?_
            refine va_get (D := (dC, dI)) (ci := 0) (v := .ref o2) (C := RX0) (T := TX0) (N := 8) hx hb hts iw_X0_seatsRest_X0 hown hK hP 0 rfl rfl 0 (by decide) (hts (.fieldLink RX0 38 "HolelessHouse$Benches" "notes" "[I") hm_X0_seatsRest_2) (fun _ h9 => h9) rfl dX0_seatsRest_82 ?_
            refine lv_iload_n hx hb dX0_seatsRest_85 rfl (lv_at hl 3 rfl) ?_
            refine lv_iconst (v := 1) hx hb dX0_seatsRest_86 (by decide) ?_
            refine k_iast hx hb hK hP hD hS 1 0 rfl rfl (vin_iv a1_h (by decide)) dX0_seatsRest_87 (fun f170 H locs f170_e hP hD hS => ?_)
            have hP : va_P (dC, dI) vwCl ([(o1, .inr (0, [.ref o2, .ref o4, .ref o6, .int v8, .int v9, .int v10, .int v11, .int v12])), (o2, .inl (cI, 4096, .inl f170)), (o4, .inl (cI, 12, .inl fw5)), (o6, .inl (cI, 12, .inl f167))]) H := hP
            have hD : va_D A ([(o1, .inr (0, [.ref o2, .ref o4, .ref o6, .int v8, .int v9, .int v10, .int v11, .int v12])), (o2, .inl (cI, 4096, .inl f170)), (o4, .inl (cI, 12, .inl fw5)), (o6, .inl (cI, 12, .inl f167))]) := hD
            refine lv_iconst (v := 0) hx hb dX0_seatsRest_88 (by decide) ?_
            rw [hQ]
            exact W.zret (v := 0) (ty := .boolean) hx hb hr rfl (fun t ht hW => ⟨⟨0, (f170, f167), rfl, (iv_w ik_0 (by decide)), by rw [ht]; exact hP, va_K.moved hW.alike hK, hD⟩, hS.F ht⟩) hS.2.2 dX0_seatsRest_89
          ·
            have qh168 := nle_i h168
            have j171 : Iv 0 11 x165 := r_ltl qh168 x165_h j2 (by decide)
            refine lv_iload_n hx hb dX0_seatsRest_40 rfl (lv_at hl 1 rfl) ?_
            refine lv_iload hx hb dX0_seatsRest_41 (lv_at hl 0 rfl) ?_
            refine kc_i (D := (dC, dI)) (S := Unit) (wc := []) (wr := [(o1, .inr (0, [.ref o2, .ref o4, .ref o6, .int v8, .int v9, .int v10, .int v11, .int v12])), (o2, .inl (cI, 4096, .inl f166)), (o4, .inl (cI, 12, .inl fw5)), (o6, .inl (cI, 12, .inl f167))]) (w1 := fun _ => []) (wn := fun _ => [(o1, .inr (0, [.ref o2, .ref o4, .ref o6, .int v8, .int v9, .int v10, .int v11, .int v12])), (o2, .inl (cI, 4096, .inl f166)), (o4, .inl (cI, 12, .inl fw5)), (o6, .inl (cI, 12, .inl f167))]) (fun hPc hDc => va_runSN (As := [.int x5, .int x165]) (rest := []) ⟨hx, hb, hml, hown, hts⟩ (kX11_in_1 l dC dI cI c2 cZ x5 x165 H.size) ⟨va_cnB 2 hts gX0_seatsRest_X11_in_n62 rfl rfl rfl (hN.1 _ ns_125) (hts (.initialized RX11) hm_X0_seatsRest_12) (by decide +kernel) ⟨Nat.le_of_ble_eq_true rfl, Nat.le_of_ble_eq_true rfl⟩, (hts (.static yX11_in) hm_X0_seatsRest_11), trivial⟩ (pre_S hPc hK hDc hN) rfl rfl hl.1 rfl (lv_room (Nat.le_of_ble_eq_true rfl)) dX0_seatsRest_43 ⟨Nat.le_of_ble_eq_true rfl, Nat.le_of_ble_eq_true rfl⟩) hP hD hS hA [] [0, 1, 2, 3] [0, 1, 2, 3] rfl rfl (by decide +kernel) (by decide +kernel) (by decide +kernel) (by decide +kernel) (fun _ => rfl) (fun x172 _ H locs hq hP hD hS => ?_)
            have x172_h := hq
            have hP : va_P (dC, dI) vwCl ([(o1, .inr (0, [.ref o2, .ref o4, .ref o6, .int v8, .int v9, .int v10, .int v11, .int v12])), (o2, .inl (cI, 4096, .inl f166)), (o4, .inl (cI, 12, .inl fw5)), (o6, .inl (cI, 12, .inl f167))]) H := hP
            have hD : va_D A ([(o1, .inr (0, [.ref o2, .ref o4, .ref o6, .int v8, .int v9, .int v10, .int v11, .int v12])), (o2, .inl (cI, 4096, .inl f166)), (o4, .inl (cI, 12, .inl fw5)), (o6, .inl (cI, 12, .inl f167))]) := hD
            refine lv_if_eq (tgt := 75) hx hb dX0_seatsRest_46 (by decide) (fun h173 => ?_) (fun h173 => ?_)
            ·
              have j174 : Iv 0 0 x172 := r_eq h173 ik_0
              obtain ⟨x175, x175_e⟩ : ∃ z : Int32, z = x165 + 1 := ⟨_, rfl⟩
              have x175_h : Iv 1 12 x175 := iv_e x175_e (iv_add j171 ik_1 (by decide))
              refine lv_iinc (v := x175) (lv' := [(4, .int x175), (3, .int x5), (0, .ref o1), (1, .int a1), (2, .int 0)]) hx hb dX0_seatsRest_75 hl (k := 0) rfl (incN (by decide +kernel) x175_e) (by decide) rfl (fun ls hl => ?_)
              refine lv_goto (tgt := 31) hx hb dX0_seatsRest_78 (by decide) ?_
              exact ih1 x175 f166 f167 _ _ _ (ms_up x175_e j171 (by decide) hM1) (iv_w x175_h (by decide)) hP hD hS hl
            ·
              have j176 : Iv 1 1 x172 := r_nelo h173 x172_h ik_0 (by decide)
              refine lv_aload_n hx hb dX0_seatsRest_49 rfl (lv_at hl 2 rfl) ?_
              refine va_get (D := (dC, dI)) (ci := 0) (v := .ref o6) (C := RX0) (T := TX0) (N := 8) hx hb hts iw_X0_seatsRest_X0 hown hK hP 0 rfl rfl 2 (by decide) (hts (.fieldLink RX0 41 "HolelessHouse$Benches" "places" "[I") hm_X0_seatsRest_3) (fun _ h9 => h9) rfl dX0_seatsRest_50 ?_
              refine lv_iload_n hx hb dX0_seatsRest_53 rfl (lv_at hl 4 rfl) ?_
              refine lv_iload hx hb dX0_seatsRest_54 (lv_at hl 0 rfl) ?_
              refine k_iast hx hb hK hP hD hS 3 0 rfl rfl (vin_iv ik_0 (by decide)) dX0_seatsRest_56 (fun f177 H locs f177_e hP hD hS => ?_)
              have hP : va_P (dC, dI) vwCl ([(o1, .inr (0, [.ref o2, .ref o4, .ref o6, .int v8, .int v9, .int v10, .int v11, .int v12])), (o2, .inl (cI, 4096, .inl f166)), (o4, .inl (cI, 12, .inl fw5)), (o6, .inl (cI, 12, .inl f177))]) H := hP
              have hD : va_D A ([(o1, .inr (0, [.ref o2, .ref o4, .ref o6, .int v8, .int v9, .int v10, .int v11, .int v12])), (o2, .inl (cI, 4096, .inl f166)), (o4, .inl (cI, 12, .inl fw5)), (o6, .inl (cI, 12, .inl f177))]) := hD
              refine lv_aload_n hx hb dX0_seatsRest_57 rfl (lv_at hl 2 rfl) ?_
              refine lv_iload_n hx hb dX0_seatsRest_58 rfl (lv_at hl 3 rfl) ?_
              refine lv_iconst (v := 1) hx hb dX0_seatsRest_59 (by decide) ?_
              refine lv_iload hx hb dX0_seatsRest_60 (lv_at hl 0 rfl) ?_
              refine lv_ishl hx hb dX0_seatsRest_62 (lv_topi (fun x178 x178_e => ?_))
              have x178_h : Iv 1 2048 x178 := iv_e x178_e (iv_shl1 j171 (by decide))
              refine lv_ior hx hb dX0_seatsRest_63 (lv_topi (fun x179 x179_e => ?_))
              have x179_h : Iv 0 4095 x179 := iv_e x179_e (iv_or 12 a1_h x178_h (by decide))
              refine lv_iload_n hx hb dX0_seatsRest_64 rfl (lv_at hl 4 rfl) ?_
              refine lv_iconst (v := 1) hx hb dX0_seatsRest_65 (by decide) ?_
              refine lv_iadd hx hb dX0_seatsRest_66 (tk_i (v := 1) (by decide +kernel) ?_)
              refine kc_i (D := (dC, dI)) (S := (Nat → Int32) × (Nat → Int32)) (wc := [(o1, .inr (0, [.ref o2, .ref o4, .ref o6, .int v8, .int v9, .int v10, .int v11, .int v12])), (o2, .inl (cI, 4096, .inl f166)), (o4, .inl (cI, 12, .inl fw5)), (o6, .inl (cI, 12, .inl f177))]) (wr := []) (w1 := fun u => [(o1, .inr (0, [.ref o2, .ref o4, .ref o6, .int v8, .int v9, .int v10, .int v11, .int v12])), (o2, .inl (cI, 4096, .inl u.1)), (o4, .inl (cI, 12, .inl fw5)), (o6, .inl (cI, 12, .inl u.2))]) (wn := fun u => [(o1, .inr (0, [.ref o2, .ref o4, .ref o6, .int v8, .int v9, .int v10, .int v11, .int v12])), (o2, .inl (cI, 4096, .inl u.1)), (o4, .inl (cI, 12, .inl fw5)), (o6, .inl (cI, 12, .inl u.2))]) (fun hPc hDc => va_runS (As := [.ref o1, .int x179, .int 1]) (rest := []) ⟨hx, hb, hml, hown, hts⟩ (kX0_seatsRest_12 l dC dI cI c2 cZ o1 o2 o4 o6 f166 fw5 f177 v8 v9 v10 v11 v12 x179 H.size v8_h (iv_w j2 (by decide)) v11_h x179_h) (va_cwS 3 hts gX0_seatsRest_X0_seatsRest rfl rfl rfl (by decide +kernel) ⟨Nat.le_of_ble_eq_true rfl, Nat.le_of_ble_eq_true rfl⟩) (pre_S hPc hK hDc hN) rfl rfl hl.1 rfl (lv_room (Nat.le_of_ble_eq_true rfl)) dX0_seatsRest_67 ⟨Nat.le_of_ble_eq_true rfl, Nat.le_of_ble_eq_true rfl⟩) hP hD hS hA [0, 1, 2, 3] [] [0, 1, 2, 3] rfl rfl (by decide +kernel) (by decide +kernel) (by decide +kernel) (by decide +kernel) (fun _ => rfl) (fun x182 u H locs hq hP hD hS => ?_)
              obtain ⟨f180, f181⟩ := u
              have x182_h := hq
              have hP : va_P (dC, dI) vwCl ([(o1, .inr (0, [.ref o2, .ref o4, .ref o6, .int v8, .int v9, .int v10, .int v11, .int v12])), (o2, .inl (cI, 4096, .inl f180)), (o4, .inl (cI, 12, .inl fw5)), (o6, .inl (cI, 12, .inl f181))]) H := hP
              have hD : va_D A ([(o1, .inr (0, [.ref o2, .ref o4, .ref o6, .int v8, .int v9, .int v10, .int v11, .int v12])), (o2, .inl (cI, 4096, .inl f180)), (o4, .inl (cI, 12, .inl fw5)), (o6, .inl (cI, 12, .inl f181))]) := hD
              refine lv_if_eq (tgt := 75) hx hb dX0_seatsRest_70 (by decide) (fun h183 => ?_) (fun h183 => ?_)
              ·
                have j184 : Iv 0 0 x182 := r_eq h183 ik_0
                obtain ⟨x185, x185_e⟩ : ∃ z : Int32, z = x165 + 1 := ⟨_, rfl⟩
                have x185_h : Iv 1 12 x185 := iv_e x185_e (iv_add j171 ik_1 (by decide))
                refine lv_iinc (v := x185) (lv' := [(4, .int x185), (3, .int x5), (0, .ref o1), (1, .int a1), (2, .int 0)]) hx hb dX0_seatsRest_75 hl (k := 0) rfl (incN (by decide +kernel) x185_e) (by decide) rfl (fun ls hl => ?_)
                refine lv_goto (tgt := 31) hx hb dX0_seatsRest_78 (by decide) ?_
                exact ih1 x185 f180 f181 _ _ _ (ms_up x185_e j171 (by decide) hM1) (iv_w x185_h (by decide)) hP hD hS hl
              ·
                have j186 : Iv 1 1 x182 := r_nelo h183 x182_h ik_0 (by decide)
                refine lv_iconst (v := 1) hx hb dX0_seatsRest_73 (by decide) ?_
                rw [hQ]
                exact W.zret (v := 1) (ty := .boolean) hx hb hr rfl (fun t ht hW => ⟨⟨1, (f180, f181), rfl, (iv_w ik_1 (by decide)), by rw [ht]; exact hP, va_K.moved hW.alike hK, hD⟩, hS.F ht⟩) hS.2.2 dX0_seatsRest_74
      exact L1 _ 0 fw3 fw7 _ _ _ (Nat.lt_succ_self _) (iv_w ik_0 (by decide)) hP hD hS hl
    ·
      have j187 : Iv 1 1 x3 := r_eq h4 ik_1
      refine lv_iconst (v := 0) hx hb dX0_seatsRest_20 (by decide) ?_
      rw [hQ]
      exact W.zret (v := 0) (ty := .boolean) hx hb hr rfl (fun t ht hW => ⟨⟨0, (fw3, fw7), rfl, (iv_w ik_0 (by decide)), by rw [ht]; exact hP, va_K.moved hW.alike hK, hD⟩, hS.F ht⟩) hS.2.2 dX0_seatsRest_21
  ·
    have qh1 := nlt_i h1
    have j188 : Iv 0 0 v9 := r_lel qh1 v9_h ik_0 (by decide)
    refine lv_iconst (v := 1) hx hb dX0_seatsRest_8 (by decide) ?_
    rw [hQ]
    exact W.zret (v := 1) (ty := .boolean) hx hb hr rfl (fun t ht hW => ⟨⟨1, (fw3, fw7), rfl, (iv_w ik_1 (by decide)), by rw [ht]; exact hP, va_K.moved hW.alike hK, hD⟩, hS.F ht⟩) hS.2.2 dX0_seatsRest_9
theorem iw_X0_findFirst_X0 : ∀ w ∈ wsX00, w ∈ wsX0_findFirst := fun _ h => List.mem_cons.mpr (Or.inr (List.mem_append.mpr (Or.inr h)))
set_option maxHeartbeats 4000000 in
set_option maxRecDepth 100000 in
theorem kX0_findFirst_1 (l : Launch) (dC : Nat → ClassId) (dI : Nat → Nat → Nat) (cI c2 cZ : ClassId) (o1 : Nat) (o2 : Nat) (o4 : Nat) (o6 : Nat) (fw3 : Nat → Int32) (fw5 : Nat → Int32) (fw7 : Nat → Int32) (v8 : Int32) (v9 : Int32) (v10 : Int32) (v11 : Int32) (v12 : Int32) (sz : Nat) (v8_h : Iv 0 12 v8) (v9_h : Iv 0 12 v9) (v11_h : Iv 0 1 v11) : Met l yX0_findFirst wsX0_findFirst ({ frames := 13, cells := 0, slots := 0, locals := 312 }) (va_Pc [.ref o1] (wPre (dC, dI) [(cI, .int), (c2, .array .int), (cZ, .boolean)] ([(o1, .inr (0, [.ref o2, .ref o4, .ref o6, .int v8, .int v9, .int v10, .int v11, .int v12])), (o2, .inl (cI, 4096, .inl fw3)), (o4, .inl (cI, 12, .inl fw5)), (o6, .inl (cI, 12, .inl fw7))]) sz)) (va_Qv (fun (u : Int32 × (Nat → Int32) × (Nat → Int32)) => Iv 0 1 u.1) (fun u t => wPost (dC, dI) [(cI, .int), (c2, .array .int), (cZ, .boolean)] (va_A ([(o1, .inr (0, [.ref o2, .ref o4, .ref o6, .int v8, .int v9, .int v10, .int v11, .int v12])), (o2, .inl (cI, 4096, .inl fw3)), (o4, .inl (cI, 12, .inl fw5)), (o6, .inl (cI, 12, .inl fw7))]) sz) ([(o1, .inr (0, [.ref o2, .ref o4, .ref o6, .int v8, .int v9, .int v10, .int u.1, .int v12])), (o2, .inl (cI, 4096, .inl u.2.1)), (o4, .inl (cI, 12, .inl fw5)), (o6, .inl (cI, 12, .inl u.2.2))]) t) (va_A ([(o1, .inr (0, [.ref o2, .ref o4, .ref o6, .int v8, .int v9, .int v10, .int v11, .int v12])), (o2, .inl (cI, 4096, .inl fw3)), (o4, .inl (cI, 12, .inl fw5)), (o6, .inl (cI, 12, .inl fw7))]) sz)) 0 0 (va_A ([(o1, .inr (0, [.ref o2, .ref o4, .ref o6, .int v8, .int v9, .int v10, .int v11, .int v12])), (o2, .inl (cI, 4096, .inl fw3)), (o4, .inl (cI, 12, .inl fw5)), (o6, .inl (cI, 12, .inl fw7))]) sz) := by
  refine Met.ofW (cc := cX0_findFirst) (maxL := 1) (ret := none) (by decide) rfl ?_
  intro p e s m args below meth c s₁ B hml hv
  obtain ⟨rfl, hsz, hP, hK, hD0, hN⟩ := hv
  have hx := B.exec
  have hb := B.bytes
  have hr := B.returns
  have hts := atoms_spec (ws := wsX0_findFirst) B.pre
  have hown : s.vm.findClass RX0 = some m.cls := findClass_of_methodNamed B.named
  have hlocks := B.notSynchronized
  subst hsz
  have hD := hD0.self (sz := s.heap.size)
  generalize hAe : va_A ([(o1, .inr (0, [.ref o2, .ref o4, .ref o6, .int v8, .int v9, .int v10, .int v11, .int v12])), (o2, .inl (cI, 4096, .inl fw3)), (o4, .inl (cI, 12, .inl fw5)), (o6, .inl (cI, 12, .inl fw7))]) s.heap.size = A at hD ⊢
  have hA : ∀ q : Nat, s.heap.size ≤ q → A q := fun q h => by rw [← hAe]; exact Or.inr h
  have hS : va_S A s.heap s.heap [] := va_S.rf
  have hP : va_P (dC, dI) vwCl ([(o1, .inr (0, [.ref o2, .ref o4, .ref o6, .int v8, .int v9, .int v10, .int v11, .int v12])), (o2, .inl (cI, 4096, .inl fw3)), (o4, .inl (cI, 12, .inl fw5)), (o6, .inl (cI, 12, .inl fw7))]) s.heap := hP
  have hl := lv_entry ([.ref o1]) (n := 1) (Nat.le_of_ble_eq_true rfl)
  rw [lg_entry_eq]
  generalize (lg_sl ([.ref o1]) ++ List.replicate (1 - (lg_sl ([.ref o1])).length) Slot.unset).toArray = ls at hl ⊢
  have hl : lv_has ls 1 [(0, .ref o1)] := hl
  refine gen_Q (fun Q hQ => ?_)
  refine lv_aload_n hx hb dX0_findFirst_0 rfl (lv_at hl 0 rfl) ?_
  refine va_get (D := (dC, dI)) (ci := 0) (v := .ref o2) (C := RX0) (T := TX0) (N := 8) hx hb hts iw_X0_findFirst_X0 hown hK hP 0 rfl rfl 0 (by decide) (hts (.fieldLink RX0 38 "HolelessHouse$Benches" "notes" "[I") hm_X0_findFirst_1) (fun _ h9 => h9) rfl dX0_findFirst_1 ?_
  refine lv_iconst (v := 0) hx hb dX0_findFirst_4 (by decide) ?_
  refine lv_iconst (v := 1) hx hb dX0_findFirst_5 (by decide) ?_
  refine lv_aload_n hx hb dX0_findFirst_6 rfl (lv_at hl 0 rfl) ?_
  refine va_get (D := (dC, dI)) (ci := 0) (v := .int v9) (C := RX0) (T := TX0) (N := 8) hx hb hts iw_X0_findFirst_X0 hown hK hP 0 rfl rfl 4 (by decide) (hts (.fieldLink RX0 25 "HolelessHouse$Benches" "width" "I") hm_X0_findFirst_2) (fun _ h9 => h9) rfl dX0_findFirst_7 ?_
  refine lv_ishl hx hb dX0_findFirst_10 (lv_topi (fun x1 x1_e => ?_))
  have x1_h : Iv 1 4096 x1 := iv_e x1_e (iv_shl1 v9_h (by decide))
  refine lv_iconst (v := 0) hx hb dX0_findFirst_11 (by decide) ?_
  refine kc_v (D := (dC, dI)) (S := (Nat → Int32)) (wc := [(o2, .inl (cI, 4096, .inl fw3))]) (wr := [(o1, .inr (0, [.ref o2, .ref o4, .ref o6, .int v8, .int v9, .int v10, .int v11, .int v12])), (o4, .inl (cI, 12, .inl fw5)), (o6, .inl (cI, 12, .inl fw7))]) (w1 := fun u => [(o2, .inl (cI, 4096, .inl u))]) (wn := fun u => [(o1, .inr (0, [.ref o2, .ref o4, .ref o6, .int v8, .int v9, .int v10, .int v11, .int v12])), (o2, .inl (cI, 4096, .inl u)), (o4, .inl (cI, 12, .inl fw5)), (o6, .inl (cI, 12, .inl fw7))]) (fun hPc hDc => va_runS (As := [.ref o2, .int 0, .int x1, .int 0]) (rest := []) ⟨hx, hb, hml, hown, hts⟩ (kJ7_fill_fda19_2 l dC dI cI c2 cZ o2 fw3 0 x1 0 s.heap.size ik_0 x1_h ik_0) (va_cwS 4 hts gX0_findFirst_J7_fill_fda19 rfl rfl rfl (by decide +kernel) ⟨Nat.le_of_ble_eq_true rfl, Nat.le_of_ble_eq_true rfl⟩) (pre_S hPc hK hDc hN) rfl rfl hl.1 rfl (lv_room (Nat.le_of_ble_eq_true rfl)) dX0_findFirst_12 ⟨Nat.le_of_ble_eq_true rfl, Nat.le_of_ble_eq_true rfl⟩) hP hD hS hA [1] [0, 2, 3] [0, 3, 1, 2] rfl rfl (by decide +kernel) (by decide +kernel) (by decide +kernel) (by decide +kernel) (fun _ => rfl) (fun f2 H locs hq hP hD hS => ?_)
  have hP : va_P (dC, dI) vwCl ([(o1, .inr (0, [.ref o2, .ref o4, .ref o6, .int v8, .int v9, .int v10, .int v11, .int v12])), (o2, .inl (cI, 4096, .inl f2)), (o4, .inl (cI, 12, .inl fw5)), (o6, .inl (cI, 12, .inl fw7))]) H := hP
  have hD : va_D A ([(o1, .inr (0, [.ref o2, .ref o4, .ref o6, .int v8, .int v9, .int v10, .int v11, .int v12])), (o2, .inl (cI, 4096, .inl f2)), (o4, .inl (cI, 12, .inl fw5)), (o6, .inl (cI, 12, .inl fw7))]) := hD
  refine lv_aload_n hx hb dX0_findFirst_15 rfl (lv_at hl 0 rfl) ?_
  refine lv_aload_n hx hb dX0_findFirst_16 rfl (lv_at hl 0 rfl) ?_
  refine lv_iconst (v := 0) hx hb dX0_findFirst_17 (by decide) ?_
  refine lv_iconst (v := 0) hx hb dX0_findFirst_18 (by decide) ?_
  refine kc_i (D := (dC, dI)) (S := (Nat → Int32) × (Nat → Int32)) (wc := [(o1, .inr (0, [.ref o2, .ref o4, .ref o6, .int v8, .int v9, .int v10, .int v11, .int v12])), (o2, .inl (cI, 4096, .inl f2)), (o4, .inl (cI, 12, .inl fw5)), (o6, .inl (cI, 12, .inl fw7))]) (wr := []) (w1 := fun u => [(o1, .inr (0, [.ref o2, .ref o4, .ref o6, .int v8, .int v9, .int v10, .int v11, .int v12])), (o2, .inl (cI, 4096, .inl u.1)), (o4, .inl (cI, 12, .inl fw5)), (o6, .inl (cI, 12, .inl u.2))]) (wn := fun u => [(o1, .inr (0, [.ref o2, .ref o4, .ref o6, .int v8, .int v9, .int v10, .int v11, .int v12])), (o2, .inl (cI, 4096, .inl u.1)), (o4, .inl (cI, 12, .inl fw5)), (o6, .inl (cI, 12, .inl u.2))]) (fun hPc hDc => va_runS (As := [.ref o1, .int 0, .int 0]) (rest := [.ref o1]) ⟨hx, hb, hml, hown, hts⟩ (kX0_seatsRest_13 l dC dI cI c2 cZ o1 o2 o4 o6 f2 fw5 fw7 v8 v9 v10 v11 v12 0 H.size v8_h v9_h v11_h (iv_w ik_0 (by decide))) (va_cwS 3 hts gX0_findFirst_X0_seatsRest rfl rfl rfl (by decide +kernel) ⟨Nat.le_of_ble_eq_true rfl, Nat.le_of_ble_eq_true rfl⟩) (pre_S hPc hK hDc hN) rfl rfl hl.1 rfl (lv_room (Nat.le_of_ble_eq_true rfl)) dX0_findFirst_19 ⟨Nat.le_of_ble_eq_true rfl, Nat.le_of_ble_eq_true rfl⟩) hP hD hS hA [0, 1, 2, 3] [] [0, 1, 2, 3] rfl rfl (by decide +kernel) (by decide +kernel) (by decide +kernel) (by decide +kernel) (fun _ => rfl) (fun x5 u H locs hq hP hD hS => ?_)
  obtain ⟨f3, f4⟩ := u
  have x5_h := hq
  have hP : va_P (dC, dI) vwCl ([(o1, .inr (0, [.ref o2, .ref o4, .ref o6, .int v8, .int v9, .int v10, .int v11, .int v12])), (o2, .inl (cI, 4096, .inl f3)), (o4, .inl (cI, 12, .inl fw5)), (o6, .inl (cI, 12, .inl f4))]) H := hP
  have hD : va_D A ([(o1, .inr (0, [.ref o2, .ref o4, .ref o6, .int v8, .int v9, .int v10, .int v11, .int v12])), (o2, .inl (cI, 4096, .inl f3)), (o4, .inl (cI, 12, .inl fw5)), (o6, .inl (cI, 12, .inl f4))]) := hD
  refine va_put (D := (dC, dI)) (ci := 0) (v := .int x5) (ty := .boolean) (C := RX0) (T := TX0) (N := 8) hx hb hts iw_X0_findFirst_X0 tyX0 tyX0_ok nmX0 hown hK hP hD hS 0 rfl rfl 6 (by decide) (hts (.fieldLink RX0 31 "HolelessHouse$Benches" "seated" "Z") hm_X0_findFirst_3) (fun _ h9 => h9) rfl (by decide +kernel) (nar_z x5_h) (fit_z x5_h) (Nat.le_of_ble_eq_true rfl) dX0_findFirst_22 (fun H locs hP hD hS => ?_)
  have hP : va_P (dC, dI) vwCl ([(o1, .inr (0, [.ref o2, .ref o4, .ref o6, .int v8, .int v9, .int v10, .int x5, .int v12])), (o2, .inl (cI, 4096, .inl f3)), (o4, .inl (cI, 12, .inl fw5)), (o6, .inl (cI, 12, .inl f4))]) H := hP
  have hD : va_D A ([(o1, .inr (0, [.ref o2, .ref o4, .ref o6, .int v8, .int v9, .int v10, .int x5, .int v12])), (o2, .inl (cI, 4096, .inl f3)), (o4, .inl (cI, 12, .inl fw5)), (o6, .inl (cI, 12, .inl f4))]) := hD
  rw [hQ]
  exact W.vret hx hb hr (fun t ht hW => ⟨⟨(x5, f3, f4), rfl, x5_h, by rw [ht]; exact hP, va_K.moved hW.alike hK, hD⟩, hS.F ht⟩) hS.2.2 dX0_findFirst_25
set_option maxHeartbeats 4000000 in
set_option maxRecDepth 100000 in
theorem kX0_restart_2 (l : Launch) (dC : Nat → ClassId) (dI : Nat → Nat → Nat) (cI c2 cZ : ClassId) (o1 : Nat) (o2 : Nat) (o4 : Nat) (o6 : Nat) (v8 : Int32) (v9 : Int32) (v10 : Int32) (v11 : Int32) (v12 : Int32) (a1 : Int32) (sz : Nat) (v8_h : Iv 0 12 v8) (v9_h : Iv 0 12 v9) (v11_h : Iv 0 1 v11) (a1_h : Iv 0 0 a1) : Met l yX0_restart wsX0_restart ({ frames := 0, cells := 0, slots := 0, locals := 0 }) (va_Pc [.ref o1, .int a1] (wPre (dC, dI) [(cI, .int), (c2, .array .int), (cZ, .boolean)] ([(o1, .inr (0, [.ref o2, .ref o4, .ref o6, .int v8, .int v9, .int v10, .int v11, .int v12]))]) sz)) (va_Qv (fun (u : Int32 × Int32) => Iv 0 12 u.1 ∧ Iv 0 12 u.2) (fun u t => wPost (dC, dI) [(cI, .int), (c2, .array .int), (cZ, .boolean)] (va_A ([(o1, .inr (0, [.ref o2, .ref o4, .ref o6, .int v8, .int v9, .int v10, .int v11, .int v12]))]) sz) ([(o1, .inr (0, [.ref o2, .ref o4, .ref o6, .int u.1, .int u.2, .int v10, .int v11, .int v12]))]) t) (va_A ([(o1, .inr (0, [.ref o2, .ref o4, .ref o6, .int v8, .int v9, .int v10, .int v11, .int v12]))]) sz)) 0 0 (va_A ([(o1, .inr (0, [.ref o2, .ref o4, .ref o6, .int v8, .int v9, .int v10, .int v11, .int v12]))]) sz) := by
  refine Met.ofW (cc := cX0_restart) (maxL := 2) (ret := none) (by decide) rfl ?_
  intro p e s m args below meth c s₁ B hml hv
  obtain ⟨rfl, hsz, hP, hK, hD0, hN⟩ := hv
  have hx := B.exec
  have hb := B.bytes
  have hr := B.returns
  have hts := atoms_spec (ws := wsX0_restart) B.pre
  have hown : s.vm.findClass RX0 = some m.cls := findClass_of_methodNamed B.named
  have hlocks := B.notSynchronized
  subst hsz
  have hD := hD0.self (sz := s.heap.size)
  generalize hAe : va_A ([(o1, .inr (0, [.ref o2, .ref o4, .ref o6, .int v8, .int v9, .int v10, .int v11, .int v12]))]) s.heap.size = A at hD ⊢
  have hA : ∀ q : Nat, s.heap.size ≤ q → A q := fun q h => by rw [← hAe]; exact Or.inr h
  have hS : va_S A s.heap s.heap [] := va_S.rf
  have hP : va_P (dC, dI) vwCl ([(o1, .inr (0, [.ref o2, .ref o4, .ref o6, .int v8, .int v9, .int v10, .int v11, .int v12]))]) s.heap := hP
  have hl := lv_entry ([.ref o1, .int a1]) (n := 2) (Nat.le_of_ble_eq_true rfl)
  rw [lg_entry_eq]
  generalize (lg_sl ([.ref o1, .int a1]) ++ List.replicate (2 - (lg_sl ([.ref o1, .int a1])).length) Slot.unset).toArray = ls at hl ⊢
  have hl : lv_has ls 2 [(0, .ref o1), (1, .int a1)] := hl
  refine gen_Q (fun Q hQ => ?_)
  refine lv_aload_n hx hb dX0_restart_0 rfl (lv_at hl 0 rfl) ?_
  refine lv_iload_n hx hb dX0_restart_1 rfl (lv_at hl 1 rfl) ?_
  refine va_put (D := (dC, dI)) (ci := 0) (v := .int a1) (ty := .int) (C := RX0) (T := TX0) (N := 8) hx hb hts iw_X0_restart_X0 tyX0 tyX0_ok nmX0 hown hK hP hD hS 0 rfl rfl 4 (by decide) (hts (.fieldLink RX0 25 "HolelessHouse$Benches" "width" "I") hm_X0_restart_1) (fun _ h9 => h9) rfl (by decide +kernel) rfl rfl (Nat.le_of_ble_eq_true rfl) dX0_restart_2 (fun H locs hP hD hS => ?_)
  have hP : va_P (dC, dI) vwCl ([(o1, .inr (0, [.ref o2, .ref o4, .ref o6, .int v8, .int a1, .int v10, .int v11, .int v12]))]) H := hP
  have hD : va_D A ([(o1, .inr (0, [.ref o2, .ref o4, .ref o6, .int v8, .int a1, .int v10, .int v11, .int v12]))]) := hD
  refine lv_aload_n hx hb dX0_restart_5 rfl (lv_at hl 0 rfl) ?_
  refine lv_iconst (v := 0) hx hb dX0_restart_6 (by decide) ?_
  refine va_put (D := (dC, dI)) (ci := 0) (v := .int 0) (ty := .int) (C := RX0) (T := TX0) (N := 8) hx hb hts iw_X0_restart_X0 tyX0 tyX0_ok nmX0 hown hK hP hD hS 0 rfl rfl 3 (by decide) (hts (.fieldLink RX0 21 "HolelessHouse$Benches" "rowCount" "I") hm_X0_restart_2) (fun _ h9 => h9) rfl (by decide +kernel) rfl rfl (Nat.le_of_ble_eq_true rfl) dX0_restart_7 (fun H locs hP hD hS => ?_)
  have hP : va_P (dC, dI) vwCl ([(o1, .inr (0, [.ref o2, .ref o4, .ref o6, .int 0, .int a1, .int v10, .int v11, .int v12]))]) H := hP
  have hD : va_D A ([(o1, .inr (0, [.ref o2, .ref o4, .ref o6, .int 0, .int a1, .int v10, .int v11, .int v12]))]) := hD
  rw [hQ]
  exact W.vret hx hb hr (fun t ht hW => ⟨⟨(0, a1), rfl, ⟨(iv_w ik_0 (by decide)), (iv_w a1_h (by decide))⟩, by rw [ht]; exact hP, va_K.moved hW.alike hK, hD⟩, hS.F ht⟩) hS.2.2 dX0_restart_10
theorem iw_X0_refuse_X0 : ∀ w ∈ wsX00, w ∈ wsX0_refuse := fun _ h => List.mem_cons.mpr (Or.inr (List.mem_append.mpr (Or.inr h)))
set_option maxHeartbeats 4000000 in
set_option maxRecDepth 100000 in
theorem kX0_refuse_1 (l : Launch) (dC : Nat → ClassId) (dI : Nat → Nat → Nat) (cI c2 cZ : ClassId) (o1 : Nat) (o2 : Nat) (o4 : Nat) (o6 : Nat) (v8 : Int32) (v9 : Int32) (v10 : Int32) (v11 : Int32) (v12 : Int32) (sz : Nat) (v8_h : Iv 0 12 v8) (v9_h : Iv 0 12 v9) (v11_h : Iv 0 1 v11) : Met l yX0_refuse wsX0_refuse ({ frames := 1, cells := 0, slots := 0, locals := 21 }) (va_Pc [.ref o1] (wPre (dC, dI) [(cI, .int), (c2, .array .int), (cZ, .boolean)] ([(o1, .inr (0, [.ref o2, .ref o4, .ref o6, .int v8, .int v9, .int v10, .int v11, .int v12]))]) sz)) (va_Qv (fun (u : Int32 × Int32 × Int32) => Iv 0 12 u.1 ∧ Iv 0 12 u.2.1 ∧ Iv 0 1 u.2.2) (fun u t => wPost (dC, dI) [(cI, .int), (c2, .array .int), (cZ, .boolean)] (va_A ([(o1, .inr (0, [.ref o2, .ref o4, .ref o6, .int v8, .int v9, .int v10, .int v11, .int v12]))]) sz) ([(o1, .inr (0, [.ref o2, .ref o4, .ref o6, .int u.1, .int u.2.1, .int v10, .int u.2.2, .int v12]))]) t) (va_A ([(o1, .inr (0, [.ref o2, .ref o4, .ref o6, .int v8, .int v9, .int v10, .int v11, .int v12]))]) sz)) 0 0 (va_A ([(o1, .inr (0, [.ref o2, .ref o4, .ref o6, .int v8, .int v9, .int v10, .int v11, .int v12]))]) sz) := by
  refine Met.ofW (cc := cX0_refuse) (maxL := 1) (ret := none) (by decide) rfl ?_
  intro p e s m args below meth c s₁ B hml hv
  obtain ⟨rfl, hsz, hP, hK, hD0, hN⟩ := hv
  have hx := B.exec
  have hb := B.bytes
  have hr := B.returns
  have hts := atoms_spec (ws := wsX0_refuse) B.pre
  have hown : s.vm.findClass RX0 = some m.cls := findClass_of_methodNamed B.named
  have hlocks := B.notSynchronized
  subst hsz
  have hD := hD0.self (sz := s.heap.size)
  generalize hAe : va_A ([(o1, .inr (0, [.ref o2, .ref o4, .ref o6, .int v8, .int v9, .int v10, .int v11, .int v12]))]) s.heap.size = A at hD ⊢
  have hA : ∀ q : Nat, s.heap.size ≤ q → A q := fun q h => by rw [← hAe]; exact Or.inr h
  have hS : va_S A s.heap s.heap [] := va_S.rf
  have hP : va_P (dC, dI) vwCl ([(o1, .inr (0, [.ref o2, .ref o4, .ref o6, .int v8, .int v9, .int v10, .int v11, .int v12]))]) s.heap := hP
  have hl := lv_entry ([.ref o1]) (n := 1) (Nat.le_of_ble_eq_true rfl)
  rw [lg_entry_eq]
  generalize (lg_sl ([.ref o1]) ++ List.replicate (1 - (lg_sl ([.ref o1])).length) Slot.unset).toArray = ls at hl ⊢
  have hl : lv_has ls 1 [(0, .ref o1)] := hl
  refine gen_Q (fun Q hQ => ?_)
  refine lv_aload_n hx hb dX0_refuse_0 rfl (lv_at hl 0 rfl) ?_
  refine lv_iconst (v := 0) hx hb dX0_refuse_1 (by decide) ?_
  refine kc_v (D := (dC, dI)) (S := Int32 × Int32) (wc := [(o1, .inr (0, [.ref o2, .ref o4, .ref o6, .int v8, .int v9, .int v10, .int v11, .int v12]))]) (wr := []) (w1 := fun u => [(o1, .inr (0, [.ref o2, .ref o4, .ref o6, .int u.1, .int u.2, .int v10, .int v11, .int v12]))]) (wn := fun u => [(o1, .inr (0, [.ref o2, .ref o4, .ref o6, .int u.1, .int u.2, .int v10, .int v11, .int v12]))]) (fun hPc hDc => va_runV (As := [.int 0]) (rest := []) ⟨hx, hb, hml, hown, hts⟩ (kX0_restart_2 l dC dI cI c2 cZ o1 o2 o4 o6 v8 v9 v10 v11 v12 0 s.heap.size v8_h v9_h v11_h ik_0) (cwV 1 hts gX0_refuse_X0_restart rfl rfl rfl (by decide +kernel) ⟨Nat.le_of_ble_eq_true rfl, Nat.le_of_ble_eq_true rfl⟩) (pre_V hPc hK hDc hN (ci := 0) (q0 := 0) rfl rfl) rfl rfl hl.1 rfl (lv_room (Nat.le_of_ble_eq_true rfl)) dX0_refuse_2 ⟨Nat.le_of_ble_eq_true rfl, Nat.le_of_ble_eq_true rfl⟩) hP hD hS hA [0] [] [0] rfl rfl (by decide +kernel) (by decide +kernel) (by decide +kernel) (by decide +kernel) (fun _ => rfl) (fun u H locs hq hP hD hS => ?_)
  obtain ⟨y1, y2⟩ := u
  obtain ⟨y1_h, y2_h⟩ := hq
  have hP : va_P (dC, dI) vwCl ([(o1, .inr (0, [.ref o2, .ref o4, .ref o6, .int y1, .int y2, .int v10, .int v11, .int v12]))]) H := hP
  have hD : va_D A ([(o1, .inr (0, [.ref o2, .ref o4, .ref o6, .int y1, .int y2, .int v10, .int v11, .int v12]))]) := hD
  refine lv_aload_n hx hb dX0_refuse_5 rfl (lv_at hl 0 rfl) ?_
  refine lv_iconst (v := 0) hx hb dX0_refuse_6 (by decide) ?_
  refine va_put (D := (dC, dI)) (ci := 0) (v := .int 0) (ty := .boolean) (C := RX0) (T := TX0) (N := 8) hx hb hts iw_X0_refuse_X0 tyX0 tyX0_ok nmX0 hown hK hP hD hS 0 rfl rfl 6 (by decide) (hts (.fieldLink RX0 31 "HolelessHouse$Benches" "seated" "Z") hm_X0_refuse_1) (fun _ h9 => h9) rfl (by decide +kernel) rfl rfl (Nat.le_of_ble_eq_true rfl) dX0_refuse_7 (fun H locs hP hD hS => ?_)
  have hP : va_P (dC, dI) vwCl ([(o1, .inr (0, [.ref o2, .ref o4, .ref o6, .int y1, .int y2, .int v10, .int 0, .int v12]))]) H := hP
  have hD : va_D A ([(o1, .inr (0, [.ref o2, .ref o4, .ref o6, .int y1, .int y2, .int v10, .int 0, .int v12]))]) := hD
  rw [hQ]
  exact W.vret hx hb hr (fun t ht hW => ⟨⟨(y1, y2, 0), rfl, ⟨y1_h, y2_h, (iv_w ik_0 (by decide))⟩, by rw [ht]; exact hP, va_K.moved hW.alike hK, hD⟩, hS.F ht⟩) hS.2.2 dX0_refuse_10
theorem iw_X11_bringSpans_X0 : ∀ w ∈ wsX00, w ∈ wsX11_bringSpans := fun _ h => List.mem_cons.mpr (Or.inr (List.mem_append.mpr (Or.inl (List.mem_append.mpr (Or.inl (List.mem_append.mpr (Or.inr h)))))))
theorem iw_X11_bringSpans_X1 : ∀ w ∈ wsX10, w ∈ wsX11_bringSpans := fun _ h => List.mem_cons.mpr (Or.inr (List.mem_append.mpr (Or.inr h)))
theorem iw_X11_bringSpans_X11 : ∀ w ∈ wsX110, w ∈ wsX11_bringSpans := fun _ h => List.mem_cons.mpr (Or.inr (List.mem_append.mpr (Or.inl (List.mem_append.mpr (Or.inl (List.mem_append.mpr (Or.inl (List.mem_append.mpr (Or.inr h)))))))))
theorem iw_X11_bringSpans_X4 : ∀ w ∈ wsX40, w ∈ wsX11_bringSpans := fun _ h => List.mem_cons.mpr (Or.inr (List.mem_append.mpr (Or.inl (List.mem_append.mpr (Or.inr h)))))
set_option maxHeartbeats 4000000 in
set_option maxRecDepth 100000 in
theorem kX11_bringSpans_1 (l : Launch) (dC : Nat → ClassId) (dI : Nat → Nat → Nat) (cI c2 cZ : ClassId) (o1 : Nat) (o2 : Nat) (o7 : Nat) (o12 : Nat) (o41 : Nat) (o51 : Nat) (o64 : Nat) (o77 : Nat) (o84 : Nat) (o91 : Nat) (o99 : Nat) (o111 : Nat) (o123 : Nat) (o100 : Nat) (o102 : Nat) (o104 : Nat) (o3 : Nat) (o53 : Nat) (o55 : Nat) (o57 : Nat) (o59 : Nat) (fw4 : Nat → Int32) (v5 : Int32) (v6 : Int32) (v52 : Int32) (fw54 : Nat → Int32) (fw56 : Nat → Int32) (v61 : Int32) (v62 : Int32) (v63 : Int32) (fw101 : Nat → Int32) (fw103 : Nat → Int32) (fw105 : Nat → Int32) (v106 : Int32) (v107 : Int32) (v108 : Int32) (v109 : Int32) (v110 : Int32) (v125 : Int32) (sz : Nat) (fw4_b : Bd 12 0 4095 fw4) (v5_h : Iv 0 12 v5) (v52_h : Iv 0 1 v52) (fw54_b : Bd 12 0 4095 fw54) (v61_h : Iv 0 81 v61) (v106_h : Iv 0 12 v106) (v107_h : Iv 0 12 v107) (v109_h : Iv 0 1 v109) : Met l yX11_bringSpans wsX11_bringSpans ({ frames := 16, cells := 0, slots := 0, locals := 404 }) (va_Pc [.ref o1] (wPre (dC, dI) [(cI, .int), (c2, .array .int), (cZ, .boolean)] ([(o1, .inr (11, [.ref o2, .ref o7, .ref o12, .ref o41, .ref o51, .ref o64, .ref o77, .ref o84, .ref o91, .ref o99, .ref o111, .ref o123, .int v125])), (o99, .inr (0, [.ref o100, .ref o102, .ref o104, .int v106, .int v107, .int v108, .int v109, .int v110])), (o2, .inr (4, [.ref o3, .int v5, .int v6])), (o51, .inr (1, [.int v52, .ref o53, .ref o55, .ref o57, .ref o59, .int v61, .int v62, .int v63])), (o3, .inl (cI, 12, .inl fw4)), (o53, .inl (cI, 12, .inl fw54)), (o55, .inl (cI, 81, .inl fw56)), (o102, .inl (cI, 12, .inl fw103)), (o100, .inl (cI, 4096, .inl fw101)), (o104, .inl (cI, 12, .inl fw105))]) sz)) (va_Qv (fun (u : Int32 × Int32 × Int32 × Int32 × Int32 × Int32 × (Nat → Int32) × (Nat → Int32) × (Nat → Int32) × (Nat → Int32) × (Nat → Int32)) => Iv 0 12 u.1 ∧ Iv 0 12 u.2.1 ∧ Iv 0 1 u.2.2.1 ∧ Iv 0 81 u.2.2.2.2.1 ∧ Bd 12 0 4095 u.2.2.2.2.2.2.1) (fun u t => wPost (dC, dI) [(cI, .int), (c2, .array .int), (cZ, .boolean)] (va_A ([(o1, .inr (11, [.ref o2, .ref o7, .ref o12, .ref o41, .ref o51, .ref o64, .ref o77, .ref o84, .ref o91, .ref o99, .ref o111, .ref o123, .int v125])), (o99, .inr (0, [.ref o100, .ref o102, .ref o104, .int v106, .int v107, .int v108, .int v109, .int v110])), (o2, .inr (4, [.ref o3, .int v5, .int v6])), (o51, .inr (1, [.int v52, .ref o53, .ref o55, .ref o57, .ref o59, .int v61, .int v62, .int v63])), (o3, .inl (cI, 12, .inl fw4)), (o53, .inl (cI, 12, .inl fw54)), (o55, .inl (cI, 81, .inl fw56)), (o102, .inl (cI, 12, .inl fw103)), (o100, .inl (cI, 4096, .inl fw101)), (o104, .inl (cI, 12, .inl fw105))]) sz) ([(o1, .inr (11, [.ref o2, .ref o7, .ref o12, .ref o41, .ref o51, .ref o64, .ref o77, .ref o84, .ref o91, .ref o99, .ref o111, .ref o123, .int v125])), (o99, .inr (0, [.ref o100, .ref o102, .ref o104, .int u.1, .int u.2.1, .int v108, .int u.2.2.1, .int u.2.2.2.1])), (o2, .inr (4, [.ref o3, .int v5, .int v6])), (o51, .inr (1, [.int v52, .ref o53, .ref o55, .ref o57, .ref o59, .int u.2.2.2.2.1, .int u.2.2.2.2.2.1, .int v63])), (o3, .inl (cI, 12, .inl fw4)), (o53, .inl (cI, 12, .inl u.2.2.2.2.2.2.1)), (o55, .inl (cI, 81, .inl u.2.2.2.2.2.2.2.1)), (o102, .inl (cI, 12, .inl u.2.2.2.2.2.2.2.2.1)), (o100, .inl (cI, 4096, .inl u.2.2.2.2.2.2.2.2.2.1)), (o104, .inl (cI, 12, .inl u.2.2.2.2.2.2.2.2.2.2))]) t) (va_A ([(o1, .inr (11, [.ref o2, .ref o7, .ref o12, .ref o41, .ref o51, .ref o64, .ref o77, .ref o84, .ref o91, .ref o99, .ref o111, .ref o123, .int v125])), (o99, .inr (0, [.ref o100, .ref o102, .ref o104, .int v106, .int v107, .int v108, .int v109, .int v110])), (o2, .inr (4, [.ref o3, .int v5, .int v6])), (o51, .inr (1, [.int v52, .ref o53, .ref o55, .ref o57, .ref o59, .int v61, .int v62, .int v63])), (o3, .inl (cI, 12, .inl fw4)), (o53, .inl (cI, 12, .inl fw54)), (o55, .inl (cI, 81, .inl fw56)), (o102, .inl (cI, 12, .inl fw103)), (o100, .inl (cI, 4096, .inl fw101)), (o104, .inl (cI, 12, .inl fw105))]) sz)) 0 0 (va_A ([(o1, .inr (11, [.ref o2, .ref o7, .ref o12, .ref o41, .ref o51, .ref o64, .ref o77, .ref o84, .ref o91, .ref o99, .ref o111, .ref o123, .int v125])), (o99, .inr (0, [.ref o100, .ref o102, .ref o104, .int v106, .int v107, .int v108, .int v109, .int v110])), (o2, .inr (4, [.ref o3, .int v5, .int v6])), (o51, .inr (1, [.int v52, .ref o53, .ref o55, .ref o57, .ref o59, .int v61, .int v62, .int v63])), (o3, .inl (cI, 12, .inl fw4)), (o53, .inl (cI, 12, .inl fw54)), (o55, .inl (cI, 81, .inl fw56)), (o102, .inl (cI, 12, .inl fw103)), (o100, .inl (cI, 4096, .inl fw101)), (o104, .inl (cI, 12, .inl fw105))]) sz) := by
  refine Met.ofW (cc := cX11_bringSpans) (maxL := 2) (ret := none) (by decide) rfl ?_
  intro p e s m args below meth c s₁ B hml hv
  obtain ⟨rfl, hsz, hP, hK, hD0, hN⟩ := hv
  have hx := B.exec
  have hb := B.bytes
  have hr := B.returns
  have hts := atoms_spec (ws := wsX11_bringSpans) B.pre
  have hown : s.vm.findClass RX11 = some m.cls := findClass_of_methodNamed B.named
  have hlocks := B.notSynchronized
  subst hsz
  have hD := hD0.self (sz := s.heap.size)
  generalize hAe : va_A ([(o1, .inr (11, [.ref o2, .ref o7, .ref o12, .ref o41, .ref o51, .ref o64, .ref o77, .ref o84, .ref o91, .ref o99, .ref o111, .ref o123, .int v125])), (o99, .inr (0, [.ref o100, .ref o102, .ref o104, .int v106, .int v107, .int v108, .int v109, .int v110])), (o2, .inr (4, [.ref o3, .int v5, .int v6])), (o51, .inr (1, [.int v52, .ref o53, .ref o55, .ref o57, .ref o59, .int v61, .int v62, .int v63])), (o3, .inl (cI, 12, .inl fw4)), (o53, .inl (cI, 12, .inl fw54)), (o55, .inl (cI, 81, .inl fw56)), (o102, .inl (cI, 12, .inl fw103)), (o100, .inl (cI, 4096, .inl fw101)), (o104, .inl (cI, 12, .inl fw105))]) s.heap.size = A at hD ⊢
  have hA : ∀ q : Nat, s.heap.size ≤ q → A q := fun q h => by rw [← hAe]; exact Or.inr h
  have hS : va_S A s.heap s.heap [] := va_S.rf
  have hP : va_P (dC, dI) vwCl ([(o1, .inr (11, [.ref o2, .ref o7, .ref o12, .ref o41, .ref o51, .ref o64, .ref o77, .ref o84, .ref o91, .ref o99, .ref o111, .ref o123, .int v125])), (o99, .inr (0, [.ref o100, .ref o102, .ref o104, .int v106, .int v107, .int v108, .int v109, .int v110])), (o2, .inr (4, [.ref o3, .int v5, .int v6])), (o51, .inr (1, [.int v52, .ref o53, .ref o55, .ref o57, .ref o59, .int v61, .int v62, .int v63])), (o3, .inl (cI, 12, .inl fw4)), (o53, .inl (cI, 12, .inl fw54)), (o55, .inl (cI, 81, .inl fw56)), (o102, .inl (cI, 12, .inl fw103)), (o100, .inl (cI, 4096, .inl fw101)), (o104, .inl (cI, 12, .inl fw105))]) s.heap := hP
  have hl := lv_entry ([.ref o1]) (n := 2) (Nat.le_of_ble_eq_true rfl)
  rw [lg_entry_eq]
  generalize (lg_sl ([.ref o1]) ++ List.replicate (2 - (lg_sl ([.ref o1])).length) Slot.unset).toArray = ls at hl ⊢
  have hl : lv_has ls 2 [(0, .ref o1)] := hl
  refine gen_Q (fun Q hQ => ?_)
  refine lv_aload_n hx hb dX11_bringSpans_0 rfl (lv_at hl 0 rfl) ?_
  refine va_get (D := (dC, dI)) (ci := 11) (v := .ref o99) (C := RX11) (T := TX11) (N := 13) hx hb hts iw_X11_bringSpans_X11 hown hK hP 0 rfl rfl 9 (by decide) (hts (.fieldLink RX11 75 "HolelessHouse" "spans" "LHolelessHouse$Benches;") hm_X11_bringSpans_1) (fun _ h9 => h9) rfl dX11_bringSpans_1 ?_
  refine va_getN (D := (dC, dI)) (ci := 0) (v := .int v110) (C := RX0) (T := TX0) (N := 8) hx hb hts iw_X11_bringSpans_X0 hown hK hP 1 rfl rfl 7 (by decide) (hN.use ns_47) (fun _ h9 => h9) rfl dX11_bringSpans_4 ?_
  refine lv_aload_n hx hb dX11_bringSpans_7 rfl (lv_at hl 0 rfl) ?_
  refine va_get (D := (dC, dI)) (ci := 11) (v := .ref o2) (C := RX11) (T := TX11) (N := 13) hx hb hts iw_X11_bringSpans_X11 hown hK hP 0 rfl rfl 0 (by decide) (hts (.fieldLink RX11 10 "HolelessHouse" "graph" "LHolelessHouse$Graph;") hm_X11_bringSpans_2) (fun _ h9 => h9) rfl dX11_bringSpans_8 ?_
  refine va_getN (D := (dC, dI)) (ci := 4) (v := .int v6) (C := RX4) (T := TX4) (N := 3) hx hb hts iw_X11_bringSpans_X4 hown hK hP 2 rfl rfl 2 (by decide) (hN.use ns_20) (fun _ h9 => h9) rfl dX11_bringSpans_11 ?_
  refine lv_icmp_ne (tgt := 18) hx hb dX11_bringSpans_14 (by decide) (fun h1 => ?_) (fun h1 => ?_)
  ·
    refine lv_aload_n hx hb dX11_bringSpans_18 rfl (lv_at hl 0 rfl) ?_
    refine va_get (D := (dC, dI)) (ci := 11) (v := .ref o99) (C := RX11) (T := TX11) (N := 13) hx hb hts iw_X11_bringSpans_X11 hown hK hP 0 rfl rfl 9 (by decide) (hts (.fieldLink RX11 75 "HolelessHouse" "spans" "LHolelessHouse$Benches;") hm_X11_bringSpans_1) (fun _ h9 => h9) rfl dX11_bringSpans_19 ?_
    refine lv_aload_n hx hb dX11_bringSpans_22 rfl (lv_at hl 0 rfl) ?_
    refine va_get (D := (dC, dI)) (ci := 11) (v := .ref o2) (C := RX11) (T := TX11) (N := 13) hx hb hts iw_X11_bringSpans_X11 hown hK hP 0 rfl rfl 0 (by decide) (hts (.fieldLink RX11 10 "HolelessHouse" "graph" "LHolelessHouse$Graph;") hm_X11_bringSpans_2) (fun _ h9 => h9) rfl dX11_bringSpans_23 ?_
    refine va_getN (D := (dC, dI)) (ci := 4) (v := .int v6) (C := RX4) (T := TX4) (N := 3) hx hb hts iw_X11_bringSpans_X4 hown hK hP 2 rfl rfl 2 (by decide) (hN.use ns_20) (fun _ h9 => h9) rfl dX11_bringSpans_26 ?_
    refine va_putN (D := (dC, dI)) (ci := 0) (v := .int v6) (ty := .int) (C := RX0) (T := TX0) (N := 8) hx hb hts iw_X11_bringSpans_X0 tyX0 tyX0_ok nmX0 hown hK hP hD hS 1 rfl rfl 7 (by decide) (hN.use ns_47) (fun _ h9 => h9) rfl (by decide +kernel) rfl rfl (Nat.le_of_ble_eq_true rfl) dX11_bringSpans_29 (fun H locs hP hD hS => ?_)
    have hP : va_P (dC, dI) vwCl ([(o1, .inr (11, [.ref o2, .ref o7, .ref o12, .ref o41, .ref o51, .ref o64, .ref o77, .ref o84, .ref o91, .ref o99, .ref o111, .ref o123, .int v125])), (o99, .inr (0, [.ref o100, .ref o102, .ref o104, .int v106, .int v107, .int v108, .int v109, .int v6])), (o2, .inr (4, [.ref o3, .int v5, .int v6])), (o51, .inr (1, [.int v52, .ref o53, .ref o55, .ref o57, .ref o59, .int v61, .int v62, .int v63])), (o3, .inl (cI, 12, .inl fw4)), (o53, .inl (cI, 12, .inl fw54)), (o55, .inl (cI, 81, .inl fw56)), (o102, .inl (cI, 12, .inl fw103)), (o100, .inl (cI, 4096, .inl fw101)), (o104, .inl (cI, 12, .inl fw105))]) H := hP
    have hD : va_D A ([(o1, .inr (11, [.ref o2, .ref o7, .ref o12, .ref o41, .ref o51, .ref o64, .ref o77, .ref o84, .ref o91, .ref o99, .ref o111, .ref o123, .int v125])), (o99, .inr (0, [.ref o100, .ref o102, .ref o104, .int v106, .int v107, .int v108, .int v109, .int v6])), (o2, .inr (4, [.ref o3, .int v5, .int v6])), (o51, .inr (1, [.int v52, .ref o53, .ref o55, .ref o57, .ref o59, .int v61, .int v62, .int v63])), (o3, .inl (cI, 12, .inl fw4)), (o53, .inl (cI, 12, .inl fw54)), (o55, .inl (cI, 81, .inl fw56)), (o102, .inl (cI, 12, .inl fw103)), (o100, .inl (cI, 4096, .inl fw101)), (o104, .inl (cI, 12, .inl fw105))]) := hD
    refine lv_aload_n hx hb dX11_bringSpans_32 rfl (lv_at hl 0 rfl) ?_
    refine va_get (D := (dC, dI)) (ci := 11) (v := .ref o51) (C := RX11) (T := TX11) (N := 13) hx hb hts iw_X11_bringSpans_X11 hown hK hP 0 rfl rfl 4 (by decide) (hts (.fieldLink RX11 42 "HolelessHouse" "cliques" "LHolelessHouse$Cliques;") hm_X11_bringSpans_3) (fun _ h9 => h9) rfl dX11_bringSpans_33 ?_
    refine lv_aload_n hx hb dX11_bringSpans_36 rfl (lv_at hl 0 rfl) ?_
    refine va_get (D := (dC, dI)) (ci := 11) (v := .ref o2) (C := RX11) (T := TX11) (N := 13) hx hb hts iw_X11_bringSpans_X11 hown hK hP 0 rfl rfl 0 (by decide) (hts (.fieldLink RX11 10 "HolelessHouse" "graph" "LHolelessHouse$Graph;") hm_X11_bringSpans_2) (fun _ h9 => h9) rfl dX11_bringSpans_37 ?_
    refine kc_v (D := (dC, dI)) (S := Int32 × Int32 × (Nat → Int32) × (Nat → Int32)) (wc := [(o51, .inr (1, [.int v52, .ref o53, .ref o55, .ref o57, .ref o59, .int v61, .int v62, .int v63])), (o2, .inr (4, [.ref o3, .int v5, .int v6])), (o3, .inl (cI, 12, .inl fw4)), (o53, .inl (cI, 12, .inl fw54)), (o55, .inl (cI, 81, .inl fw56))]) (wr := [(o1, .inr (11, [.ref o2, .ref o7, .ref o12, .ref o41, .ref o51, .ref o64, .ref o77, .ref o84, .ref o91, .ref o99, .ref o111, .ref o123, .int v125])), (o99, .inr (0, [.ref o100, .ref o102, .ref o104, .int v106, .int v107, .int v108, .int v109, .int v6])), (o102, .inl (cI, 12, .inl fw103)), (o100, .inl (cI, 4096, .inl fw101)), (o104, .inl (cI, 12, .inl fw105))]) (w1 := fun u => [(o51, .inr (1, [.int v52, .ref o53, .ref o55, .ref o57, .ref o59, .int u.1, .int u.2.1, .int v63])), (o2, .inr (4, [.ref o3, .int v5, .int v6])), (o3, .inl (cI, 12, .inl fw4)), (o53, .inl (cI, 12, .inl u.2.2.1)), (o55, .inl (cI, 81, .inl u.2.2.2))]) (wn := fun u => [(o1, .inr (11, [.ref o2, .ref o7, .ref o12, .ref o41, .ref o51, .ref o64, .ref o77, .ref o84, .ref o91, .ref o99, .ref o111, .ref o123, .int v125])), (o99, .inr (0, [.ref o100, .ref o102, .ref o104, .int v106, .int v107, .int v108, .int v109, .int v6])), (o2, .inr (4, [.ref o3, .int v5, .int v6])), (o51, .inr (1, [.int v52, .ref o53, .ref o55, .ref o57, .ref o59, .int u.1, .int u.2.1, .int v63])), (o3, .inl (cI, 12, .inl fw4)), (o53, .inl (cI, 12, .inl u.2.2.1)), (o55, .inl (cI, 81, .inl u.2.2.2)), (o102, .inl (cI, 12, .inl fw103)), (o100, .inl (cI, 4096, .inl fw101)), (o104, .inl (cI, 12, .inl fw105))]) (fun hPc hDc => va_runVN (As := [.ref o2]) (rest := []) ⟨hx, hb, hml, hown, hts⟩ (kX1_bring_1 l dC dI cI c2 cZ o51 o2 o53 o55 o57 o59 o3 v52 fw54 fw56 v61 v62 v63 fw4 v5 v6 H.size v52_h fw54_b v61_h fw4_b v5_h) ⟨va_cnB 1 hts gX11_bringSpans_X1_bring_n193 rfl rfl rfl (hN.1 _ ns_105) (hts (.initialized RX1) hm_X11_bringSpans_5) (by decide +kernel) ⟨Nat.le_of_ble_eq_true rfl, Nat.le_of_ble_eq_true rfl⟩, (hts (.instanceMethod yX1_bring) hm_X11_bringSpans_4), (hts (.selects RX1 yX1_bring yX1_bring) hm_X11_bringSpans_6)⟩ (pre_V hPc hK hDc hN (ci := 1) (q0 := 0) rfl rfl) rfl rfl hl.1 rfl (lv_room (Nat.le_of_ble_eq_true rfl)) dX11_bringSpans_40 ⟨Nat.le_of_ble_eq_true rfl, Nat.le_of_ble_eq_true rfl⟩) hP hD hS hA [3, 2, 4, 5, 6] [0, 1, 7, 8, 9] [0, 1, 6, 5, 7, 8, 9, 2, 3, 4] rfl rfl (by decide +kernel) (by decide +kernel) (by decide +kernel) (by decide +kernel) (fun _ => rfl) (fun u H locs hq hP hD hS => ?_)
    obtain ⟨y2, y3, f4, f5⟩ := u
    obtain ⟨y2_h, f4_b⟩ := hq
    have hP : va_P (dC, dI) vwCl ([(o1, .inr (11, [.ref o2, .ref o7, .ref o12, .ref o41, .ref o51, .ref o64, .ref o77, .ref o84, .ref o91, .ref o99, .ref o111, .ref o123, .int v125])), (o99, .inr (0, [.ref o100, .ref o102, .ref o104, .int v106, .int v107, .int v108, .int v109, .int v6])), (o2, .inr (4, [.ref o3, .int v5, .int v6])), (o51, .inr (1, [.int v52, .ref o53, .ref o55, .ref o57, .ref o59, .int y2, .int y3, .int v63])), (o3, .inl (cI, 12, .inl fw4)), (o53, .inl (cI, 12, .inl f4)), (o55, .inl (cI, 81, .inl f5)), (o102, .inl (cI, 12, .inl fw103)), (o100, .inl (cI, 4096, .inl fw101)), (o104, .inl (cI, 12, .inl fw105))]) H := hP
    have hD : va_D A ([(o1, .inr (11, [.ref o2, .ref o7, .ref o12, .ref o41, .ref o51, .ref o64, .ref o77, .ref o84, .ref o91, .ref o99, .ref o111, .ref o123, .int v125])), (o99, .inr (0, [.ref o100, .ref o102, .ref o104, .int v106, .int v107, .int v108, .int v109, .int v6])), (o2, .inr (4, [.ref o3, .int v5, .int v6])), (o51, .inr (1, [.int v52, .ref o53, .ref o55, .ref o57, .ref o59, .int y2, .int y3, .int v63])), (o3, .inl (cI, 12, .inl fw4)), (o53, .inl (cI, 12, .inl f4)), (o55, .inl (cI, 81, .inl f5)), (o102, .inl (cI, 12, .inl fw103)), (o100, .inl (cI, 4096, .inl fw101)), (o104, .inl (cI, 12, .inl fw105))]) := hD
    refine lv_aload_n hx hb dX11_bringSpans_43 rfl (lv_at hl 0 rfl) ?_
    refine va_get (D := (dC, dI)) (ci := 11) (v := .ref o51) (C := RX11) (T := TX11) (N := 13) hx hb hts iw_X11_bringSpans_X11 hown hK hP 0 rfl rfl 4 (by decide) (hts (.fieldLink RX11 42 "HolelessHouse" "cliques" "LHolelessHouse$Cliques;") hm_X11_bringSpans_3) (fun _ h9 => h9) rfl dX11_bringSpans_44 ?_
    refine va_getN (D := (dC, dI)) (ci := 1) (v := .int y2) (C := RX1) (T := TX1) (N := 8) hx hb hts iw_X11_bringSpans_X1 hown hK hP 3 rfl rfl 5 (by decide) (hN.use ns_36) (fun _ h9 => h9) rfl dX11_bringSpans_47 ?_
    refine lv_bipush (v := 12) hx hb dX11_bringSpans_50 (by decide) ?_
    refine lv_icmp_le (tgt := 63) hx hb dX11_bringSpans_52 (by decide) (fun h6 => ?_) (fun h6 => ?_)
    ·
      have qh6 := le_i h6
      have j7 : Iv 0 12 y2 := r_lel qh6 y2_h ik_12 (by decide)
      refine lv_aload_n hx hb dX11_bringSpans_63 rfl (lv_at hl 0 rfl) ?_
      refine va_get (D := (dC, dI)) (ci := 11) (v := .ref o99) (C := RX11) (T := TX11) (N := 13) hx hb hts iw_X11_bringSpans_X11 hown hK hP 0 rfl rfl 9 (by decide) (hts (.fieldLink RX11 75 "HolelessHouse" "spans" "LHolelessHouse$Benches;") hm_X11_bringSpans_1) (fun _ h9 => h9) rfl dX11_bringSpans_64 ?_
      refine lv_aload_n hx hb dX11_bringSpans_67 rfl (lv_at hl 0 rfl) ?_
      refine va_get (D := (dC, dI)) (ci := 11) (v := .ref o51) (C := RX11) (T := TX11) (N := 13) hx hb hts iw_X11_bringSpans_X11 hown hK hP 0 rfl rfl 4 (by decide) (hts (.fieldLink RX11 42 "HolelessHouse" "cliques" "LHolelessHouse$Cliques;") hm_X11_bringSpans_3) (fun _ h9 => h9) rfl dX11_bringSpans_68 ?_
      refine va_getN (D := (dC, dI)) (ci := 1) (v := .int y2) (C := RX1) (T := TX1) (N := 8) hx hb hts iw_X11_bringSpans_X1 hown hK hP 3 rfl rfl 5 (by decide) (hN.use ns_36) (fun _ h9 => h9) rfl dX11_bringSpans_71 ?_
      refine kc_v (D := (dC, dI)) (S := Int32 × Int32) (wc := [(o99, .inr (0, [.ref o100, .ref o102, .ref o104, .int v106, .int v107, .int v108, .int v109, .int v6]))]) (wr := [(o1, .inr (11, [.ref o2, .ref o7, .ref o12, .ref o41, .ref o51, .ref o64, .ref o77, .ref o84, .ref o91, .ref o99, .ref o111, .ref o123, .int v125])), (o2, .inr (4, [.ref o3, .int v5, .int v6])), (o51, .inr (1, [.int v52, .ref o53, .ref o55, .ref o57, .ref o59, .int y2, .int y3, .int v63])), (o3, .inl (cI, 12, .inl fw4)), (o53, .inl (cI, 12, .inl f4)), (o55, .inl (cI, 81, .inl f5)), (o102, .inl (cI, 12, .inl fw103)), (o100, .inl (cI, 4096, .inl fw101)), (o104, .inl (cI, 12, .inl fw105))]) (w1 := fun u => [(o99, .inr (0, [.ref o100, .ref o102, .ref o104, .int u.1, .int u.2, .int v108, .int v109, .int v6]))]) (wn := fun u => [(o1, .inr (11, [.ref o2, .ref o7, .ref o12, .ref o41, .ref o51, .ref o64, .ref o77, .ref o84, .ref o91, .ref o99, .ref o111, .ref o123, .int v125])), (o99, .inr (0, [.ref o100, .ref o102, .ref o104, .int u.1, .int u.2, .int v108, .int v109, .int v6])), (o2, .inr (4, [.ref o3, .int v5, .int v6])), (o51, .inr (1, [.int v52, .ref o53, .ref o55, .ref o57, .ref o59, .int y2, .int y3, .int v63])), (o3, .inl (cI, 12, .inl fw4)), (o53, .inl (cI, 12, .inl f4)), (o55, .inl (cI, 81, .inl f5)), (o102, .inl (cI, 12, .inl fw103)), (o100, .inl (cI, 4096, .inl fw101)), (o104, .inl (cI, 12, .inl fw105))]) (fun hPc hDc => va_runVN (As := [.int y2]) (rest := []) ⟨hx, hb, hml, hown, hts⟩ (kX0_restart_1 l dC dI cI c2 cZ o99 o100 o102 o104 v106 v107 v108 v109 v6 y2 H.size v106_h v107_h v109_h j7) ⟨va_cnB 1 hts gX11_bringSpans_X0_restart_n303 rfl rfl rfl (hN.1 _ ns_121) (hts (.initialized RX0) hm_X11_bringSpans_38) (by decide +kernel) ⟨Nat.le_of_ble_eq_true rfl, Nat.le_of_ble_eq_true rfl⟩, (hts (.instanceMethod yX0_restart) hm_X11_bringSpans_43), (hts (.selects RX0 yX0_restart yX0_restart) hm_X11_bringSpans_44)⟩ (pre_V hPc hK hDc hN (ci := 0) (q0 := 0) rfl rfl) rfl rfl hl.1 rfl (lv_room (Nat.le_of_ble_eq_true rfl)) dX11_bringSpans_74 ⟨Nat.le_of_ble_eq_true rfl, Nat.le_of_ble_eq_true rfl⟩) hP hD hS hA [1] [0, 2, 3, 4, 5, 6, 7, 8, 9] [0, 9, 1, 2, 3, 4, 5, 6, 7, 8] rfl rfl (by decide +kernel) (by decide +kernel) (by decide +kernel) (by decide +kernel) (fun _ => rfl) (fun u H locs hq hP hD hS => ?_)
      obtain ⟨y8, y9⟩ := u
      obtain ⟨y8_h, y9_h⟩ := hq
      have hP : va_P (dC, dI) vwCl ([(o1, .inr (11, [.ref o2, .ref o7, .ref o12, .ref o41, .ref o51, .ref o64, .ref o77, .ref o84, .ref o91, .ref o99, .ref o111, .ref o123, .int v125])), (o99, .inr (0, [.ref o100, .ref o102, .ref o104, .int y8, .int y9, .int v108, .int v109, .int v6])), (o2, .inr (4, [.ref o3, .int v5, .int v6])), (o51, .inr (1, [.int v52, .ref o53, .ref o55, .ref o57, .ref o59, .int y2, .int y3, .int v63])), (o3, .inl (cI, 12, .inl fw4)), (o53, .inl (cI, 12, .inl f4)), (o55, .inl (cI, 81, .inl f5)), (o102, .inl (cI, 12, .inl fw103)), (o100, .inl (cI, 4096, .inl fw101)), (o104, .inl (cI, 12, .inl fw105))]) H := hP
      have hD : va_D A ([(o1, .inr (11, [.ref o2, .ref o7, .ref o12, .ref o41, .ref o51, .ref o64, .ref o77, .ref o84, .ref o91, .ref o99, .ref o111, .ref o123, .int v125])), (o99, .inr (0, [.ref o100, .ref o102, .ref o104, .int y8, .int y9, .int v108, .int v109, .int v6])), (o2, .inr (4, [.ref o3, .int v5, .int v6])), (o51, .inr (1, [.int v52, .ref o53, .ref o55, .ref o57, .ref o59, .int y2, .int y3, .int v63])), (o3, .inl (cI, 12, .inl fw4)), (o53, .inl (cI, 12, .inl f4)), (o55, .inl (cI, 81, .inl f5)), (o102, .inl (cI, 12, .inl fw103)), (o100, .inl (cI, 4096, .inl fw101)), (o104, .inl (cI, 12, .inl fw105))]) := hD
      refine lv_iconst (v := 0) hx hb dX11_bringSpans_77 (by decide) ?_
      refine lv_istore_n (lv' := [(1, .int 0), (0, .ref o1)]) hx hb dX11_bringSpans_78 rfl hl (by decide) rfl (fun ls hl => ?_)
      have L1 : ∀ (N : Nat) (x86 : Int32) (f87 : Nat → Int32) (x88 : Int32) (H : Heap) (locs : List Loc) (ls : Array Slot), (12 - x86.toInt).toNat < N → Iv 0 12 x86 → Iv 0 12 x88 → va_P (dC, dI) vwCl ([(o1, .inr (11, [.ref o2, .ref o7, .ref o12, .ref o41, .ref o51, .ref o64, .ref o77, .ref o84, .ref o91, .ref o99, .ref o111, .ref o123, .int v125])), (o99, .inr (0, [.ref o100, .ref o102, .ref o104, .int x88, .int y9, .int v108, .int v109, .int v6])), (o2, .inr (4, [.ref o3, .int v5, .int v6])), (o51, .inr (1, [.int v52, .ref o53, .ref o55, .ref o57, .ref o59, .int y2, .int y3, .int v63])), (o3, .inl (cI, 12, .inl fw4)), (o53, .inl (cI, 12, .inl f4)), (o55, .inl (cI, 81, .inl f5)), (o102, .inl (cI, 12, .inl f87)), (o100, .inl (cI, 4096, .inl fw101)), (o104, .inl (cI, 12, .inl fw105))]) H → va_D A ([(o1, .inr (11, [.ref o2, .ref o7, .ref o12, .ref o41, .ref o51, .ref o64, .ref o77, .ref o84, .ref o91, .ref o99, .ref o111, .ref o123, .int v125])), (o99, .inr (0, [.ref o100, .ref o102, .ref o104, .int x88, .int y9, .int v108, .int v109, .int v6])), (o2, .inr (4, [.ref o3, .int v5, .int v6])), (o51, .inr (1, [.int v52, .ref o53, .ref o55, .ref o57, .ref o59, .int y2, .int y3, .int v63])), (o3, .inl (cI, 12, .inl fw4)), (o53, .inl (cI, 12, .inl f4)), (o55, .inl (cI, 81, .inl f5)), (o102, .inl (cI, 12, .inl f87)), (o100, .inl (cI, 4096, .inl fw101)), (o104, .inl (cI, 12, .inl fw105))]) → va_S A s.heap H locs → lv_has ls 2 [(1, .int x86), (0, .ref o1)] → W p l e ({ frames := 16, cells := 0, slots := 0, locals := 404 }) s m ([.ref o1] : List Value).toArray below meth c H locs 0 0 Q (F0 m 79 ls []) := by
        intro N
        induction N with
        | zero =>
          intro x86 f87 x88 H locs ls hM
          exact absurd hM (Nat.not_lt_zero _)
        | succ N ih1 =>
          intro x86 f87 x88 H locs ls hM1 x86_h x88_h hP hD hS hl
          refine lv_iload_n hx hb dX11_bringSpans_79 rfl (lv_at hl 0 rfl) ?_
          refine lv_aload_n hx hb dX11_bringSpans_80 rfl (lv_at hl 1 rfl) ?_
          refine va_get (D := (dC, dI)) (ci := 11) (v := .ref o2) (C := RX11) (T := TX11) (N := 13) hx hb hts iw_X11_bringSpans_X11 hown hK hP 0 rfl rfl 0 (by decide) (hts (.fieldLink RX11 10 "HolelessHouse" "graph" "LHolelessHouse$Graph;") hm_X11_bringSpans_2) (fun _ h9 => h9) rfl dX11_bringSpans_81 ?_
          refine va_getN (D := (dC, dI)) (ci := 4) (v := .int v5) (C := RX4) (T := TX4) (N := 3) hx hb hts iw_X11_bringSpans_X4 hown hK hP 2 rfl rfl 1 (by decide) (hN.use ns_14) (fun _ h9 => h9) rfl dX11_bringSpans_84 ?_
          refine lv_icmp_ge (tgt := 111) hx hb dX11_bringSpans_87 (by decide) (fun h89 => ?_) (fun h89 => ?_)
          ·
            have qh89 := le_i h89
            refine lv_aload_n hx hb dX11_bringSpans_111 rfl (lv_at hl 1 rfl) ?_
            refine va_get (D := (dC, dI)) (ci := 11) (v := .ref o99) (C := RX11) (T := TX11) (N := 13) hx hb hts iw_X11_bringSpans_X11 hown hK hP 0 rfl rfl 9 (by decide) (hts (.fieldLink RX11 75 "HolelessHouse" "spans" "LHolelessHouse$Benches;") hm_X11_bringSpans_1) (fun _ h9 => h9) rfl dX11_bringSpans_112 ?_
            refine kc_v (D := (dC, dI)) (S := Int32 × (Nat → Int32) × (Nat → Int32)) (wc := [(o99, .inr (0, [.ref o100, .ref o102, .ref o104, .int x88, .int y9, .int v108, .int v109, .int v6])), (o100, .inl (cI, 4096, .inl fw101)), (o102, .inl (cI, 12, .inl f87)), (o104, .inl (cI, 12, .inl fw105))]) (wr := [(o1, .inr (11, [.ref o2, .ref o7, .ref o12, .ref o41, .ref o51, .ref o64, .ref o77, .ref o84, .ref o91, .ref o99, .ref o111, .ref o123, .int v125])), (o2, .inr (4, [.ref o3, .int v5, .int v6])), (o51, .inr (1, [.int v52, .ref o53, .ref o55, .ref o57, .ref o59, .int y2, .int y3, .int v63])), (o3, .inl (cI, 12, .inl fw4)), (o53, .inl (cI, 12, .inl f4)), (o55, .inl (cI, 81, .inl f5))]) (w1 := fun u => [(o99, .inr (0, [.ref o100, .ref o102, .ref o104, .int x88, .int y9, .int v108, .int u.1, .int v6])), (o100, .inl (cI, 4096, .inl u.2.1)), (o102, .inl (cI, 12, .inl f87)), (o104, .inl (cI, 12, .inl u.2.2))]) (wn := fun u => [(o1, .inr (11, [.ref o2, .ref o7, .ref o12, .ref o41, .ref o51, .ref o64, .ref o77, .ref o84, .ref o91, .ref o99, .ref o111, .ref o123, .int v125])), (o99, .inr (0, [.ref o100, .ref o102, .ref o104, .int x88, .int y9, .int v108, .int u.1, .int v6])), (o2, .inr (4, [.ref o3, .int v5, .int v6])), (o51, .inr (1, [.int v52, .ref o53, .ref o55, .ref o57, .ref o59, .int y2, .int y3, .int v63])), (o3, .inl (cI, 12, .inl fw4)), (o53, .inl (cI, 12, .inl f4)), (o55, .inl (cI, 81, .inl f5)), (o102, .inl (cI, 12, .inl f87)), (o100, .inl (cI, 4096, .inl u.2.1)), (o104, .inl (cI, 12, .inl u.2.2))]) (fun hPc hDc => va_runVN (As := []) (rest := []) ⟨hx, hb, hml, hown, hts⟩ (kX0_findFirst_1 l dC dI cI c2 cZ o99 o100 o102 o104 fw101 f87 fw105 x88 y9 v108 v109 v6 H.size x88_h y9_h v109_h) ⟨va_cnB 0 hts gX11_bringSpans_X0_findFirst_n310 rfl rfl rfl (hN.1 _ ns_124) (hts (.initialized RX0) hm_X11_bringSpans_38) (by decide +kernel) ⟨Nat.le_of_ble_eq_true rfl, Nat.le_of_ble_eq_true rfl⟩, (hts (.instanceMethod yX0_findFirst) hm_X11_bringSpans_55), (hts (.selects RX0 yX0_findFirst yX0_findFirst) hm_X11_bringSpans_56)⟩ (pre_V hPc hK hDc hN (ci := 0) (q0 := 0) rfl rfl) rfl rfl hl.1 rfl (lv_room (Nat.le_of_ble_eq_true rfl)) dX11_bringSpans_115 ⟨Nat.le_of_ble_eq_true rfl, Nat.le_of_ble_eq_true rfl⟩) hP hD hS hA [1, 8, 7, 9] [0, 2, 3, 4, 5, 6] [0, 6, 1, 2, 3, 4, 5, 8, 7, 9] rfl rfl (by decide +kernel) (by decide +kernel) (by decide +kernel) (by decide +kernel) (fun _ => rfl) (fun u H locs hq hP hD hS => ?_)
            obtain ⟨y90, f91, f92⟩ := u
            have y90_h := hq
            have hP : va_P (dC, dI) vwCl ([(o1, .inr (11, [.ref o2, .ref o7, .ref o12, .ref o41, .ref o51, .ref o64, .ref o77, .ref o84, .ref o91, .ref o99, .ref o111, .ref o123, .int v125])), (o99, .inr (0, [.ref o100, .ref o102, .ref o104, .int x88, .int y9, .int v108, .int y90, .int v6])), (o2, .inr (4, [.ref o3, .int v5, .int v6])), (o51, .inr (1, [.int v52, .ref o53, .ref o55, .ref o57, .ref o59, .int y2, .int y3, .int v63])), (o3, .inl (cI, 12, .inl fw4)), (o53, .inl (cI, 12, .inl f4)), (o55, .inl (cI, 81, .inl f5)), (o102, .inl (cI, 12, .inl f87)), (o100, .inl (cI, 4096, .inl f91)), (o104, .inl (cI, 12, .inl f92))]) H := hP
            have hD : va_D A ([(o1, .inr (11, [.ref o2, .ref o7, .ref o12, .ref o41, .ref o51, .ref o64, .ref o77, .ref o84, .ref o91, .ref o99, .ref o111, .ref o123, .int v125])), (o99, .inr (0, [.ref o100, .ref o102, .ref o104, .int x88, .int y9, .int v108, .int y90, .int v6])), (o2, .inr (4, [.ref o3, .int v5, .int v6])), (o51, .inr (1, [.int v52, .ref o53, .ref o55, .ref o57, .ref o59, .int y2, .int y3, .int v63])), (o3, .inl (cI, 12, .inl fw4)), (o53, .inl (cI, 12, .inl f4)), (o55, .inl (cI, 81, .inl f5)), (o102, .inl (cI, 12, .inl f87)), (o100, .inl (cI, 4096, .inl f91)), (o104, .inl (cI, 12, .inl f92))]) := hD
            rw [hQ]
            exact W.vret hx hb hr (fun t ht hW => ⟨⟨(x88, y9, y90, v6, y2, y3, f4, f5, f87, f91, f92), rfl, ⟨x88_h, y9_h, y90_h, (iv_w j7 (by decide)), f4_b⟩, by rw [ht]; exact hP, va_K.moved hW.alike hK, hD⟩, hS.F ht⟩) hS.2.2 dX11_bringSpans_118
          ·
            have qh89 := nle_i h89
            have j93 : Iv 0 11 x86 := r_ltl qh89 x86_h v5_h (by decide)
            have j94 : Iv 1 12 v5 := r_ltr qh89 x86_h v5_h (by decide)
            refine lv_aload_n hx hb dX11_bringSpans_90 rfl (lv_at hl 1 rfl) ?_
            refine va_get (D := (dC, dI)) (ci := 11) (v := .ref o99) (C := RX11) (T := TX11) (N := 13) hx hb hts iw_X11_bringSpans_X11 hown hK hP 0 rfl rfl 9 (by decide) (hts (.fieldLink RX11 75 "HolelessHouse" "spans" "LHolelessHouse$Benches;") hm_X11_bringSpans_1) (fun _ h9 => h9) rfl dX11_bringSpans_91 ?_
            refine lv_aload_n hx hb dX11_bringSpans_94 rfl (lv_at hl 1 rfl) ?_
            refine va_get (D := (dC, dI)) (ci := 11) (v := .ref o51) (C := RX11) (T := TX11) (N := 13) hx hb hts iw_X11_bringSpans_X11 hown hK hP 0 rfl rfl 4 (by decide) (hts (.fieldLink RX11 42 "HolelessHouse" "cliques" "LHolelessHouse$Cliques;") hm_X11_bringSpans_3) (fun _ h9 => h9) rfl dX11_bringSpans_95 ?_
            refine lv_iload_n hx hb dX11_bringSpans_98 rfl (lv_at hl 0 rfl) ?_
            refine kc_i (D := (dC, dI)) (S := Unit) (wc := [(o51, .inr (1, [.int v52, .ref o53, .ref o55, .ref o57, .ref o59, .int y2, .int y3, .int v63])), (o55, .inl (cI, 81, .inl f5))]) (wr := [(o1, .inr (11, [.ref o2, .ref o7, .ref o12, .ref o41, .ref o51, .ref o64, .ref o77, .ref o84, .ref o91, .ref o99, .ref o111, .ref o123, .int v125])), (o99, .inr (0, [.ref o100, .ref o102, .ref o104, .int x88, .int y9, .int v108, .int v109, .int v6])), (o2, .inr (4, [.ref o3, .int v5, .int v6])), (o3, .inl (cI, 12, .inl fw4)), (o53, .inl (cI, 12, .inl f4)), (o102, .inl (cI, 12, .inl f87)), (o100, .inl (cI, 4096, .inl fw101)), (o104, .inl (cI, 12, .inl fw105))]) (w1 := fun _ => [(o51, .inr (1, [.int v52, .ref o53, .ref o55, .ref o57, .ref o59, .int y2, .int y3, .int v63])), (o55, .inl (cI, 81, .inl f5))]) (wn := fun _ => [(o1, .inr (11, [.ref o2, .ref o7, .ref o12, .ref o41, .ref o51, .ref o64, .ref o77, .ref o84, .ref o91, .ref o99, .ref o111, .ref o123, .int v125])), (o99, .inr (0, [.ref o100, .ref o102, .ref o104, .int x88, .int y9, .int v108, .int v109, .int v6])), (o2, .inr (4, [.ref o3, .int v5, .int v6])), (o51, .inr (1, [.int v52, .ref o53, .ref o55, .ref o57, .ref o59, .int y2, .int y3, .int v63])), (o3, .inl (cI, 12, .inl fw4)), (o53, .inl (cI, 12, .inl f4)), (o55, .inl (cI, 81, .inl f5)), (o102, .inl (cI, 12, .inl f87)), (o100, .inl (cI, 4096, .inl fw101)), (o104, .inl (cI, 12, .inl fw105))]) (fun hPc hDc => va_runVN (As := [.int x86]) (rest := [.ref o99]) ⟨hx, hb, hml, hown, hts⟩ (kX1_with_1 l dC dI cI c2 cZ o51 o53 o55 o57 o59 v52 f5 y2 y3 v63 x86 H.size v52_h (iv_w j7 (by decide)) j93) ⟨va_cnB 1 hts gX11_bringSpans_X1_with_n304 rfl rfl rfl (hN.1 _ ns_122) (hts (.initialized RX1) hm_X11_bringSpans_5) (by decide +kernel) ⟨Nat.le_of_ble_eq_true rfl, Nat.le_of_ble_eq_true rfl⟩, (hts (.instanceMethod yX1_with) hm_X11_bringSpans_48), (hts (.selects RX1 yX1_with yX1_with) hm_X11_bringSpans_49)⟩ (pre_V hPc hK hDc hN (ci := 1) (q0 := 0) rfl rfl) rfl rfl hl.1 rfl (lv_room (Nat.le_of_ble_eq_true rfl)) dX11_bringSpans_99 ⟨Nat.le_of_ble_eq_true rfl, Nat.le_of_ble_eq_true rfl⟩) hP hD hS hA [3, 6] [0, 1, 2, 4, 5, 7, 8, 9] [0, 1, 2, 8, 3, 4, 9, 5, 6, 7] rfl rfl (by decide +kernel) (by decide +kernel) (by decide +kernel) (by decide +kernel) (fun _ => rfl) (fun x95 _ H locs hq hP hD hS => ?_)
            have x95_h := hq
            have hP : va_P (dC, dI) vwCl ([(o1, .inr (11, [.ref o2, .ref o7, .ref o12, .ref o41, .ref o51, .ref o64, .ref o77, .ref o84, .ref o91, .ref o99, .ref o111, .ref o123, .int v125])), (o99, .inr (0, [.ref o100, .ref o102, .ref o104, .int x88, .int y9, .int v108, .int v109, .int v6])), (o2, .inr (4, [.ref o3, .int v5, .int v6])), (o51, .inr (1, [.int v52, .ref o53, .ref o55, .ref o57, .ref o59, .int y2, .int y3, .int v63])), (o3, .inl (cI, 12, .inl fw4)), (o53, .inl (cI, 12, .inl f4)), (o55, .inl (cI, 81, .inl f5)), (o102, .inl (cI, 12, .inl f87)), (o100, .inl (cI, 4096, .inl fw101)), (o104, .inl (cI, 12, .inl fw105))]) H := hP
            have hD : va_D A ([(o1, .inr (11, [.ref o2, .ref o7, .ref o12, .ref o41, .ref o51, .ref o64, .ref o77, .ref o84, .ref o91, .ref o99, .ref o111, .ref o123, .int v125])), (o99, .inr (0, [.ref o100, .ref o102, .ref o104, .int x88, .int y9, .int v108, .int v109, .int v6])), (o2, .inr (4, [.ref o3, .int v5, .int v6])), (o51, .inr (1, [.int v52, .ref o53, .ref o55, .ref o57, .ref o59, .int y2, .int y3, .int v63])), (o3, .inl (cI, 12, .inl fw4)), (o53, .inl (cI, 12, .inl f4)), (o55, .inl (cI, 81, .inl f5)), (o102, .inl (cI, 12, .inl f87)), (o100, .inl (cI, 4096, .inl fw101)), (o104, .inl (cI, 12, .inl fw105))]) := hD
            refine kc_v (D := (dC, dI)) (S := Int32 × (Nat → Int32)) (wc := [(o99, .inr (0, [.ref o100, .ref o102, .ref o104, .int x88, .int y9, .int v108, .int v109, .int v6])), (o102, .inl (cI, 12, .inl f87))]) (wr := [(o1, .inr (11, [.ref o2, .ref o7, .ref o12, .ref o41, .ref o51, .ref o64, .ref o77, .ref o84, .ref o91, .ref o99, .ref o111, .ref o123, .int v125])), (o2, .inr (4, [.ref o3, .int v5, .int v6])), (o51, .inr (1, [.int v52, .ref o53, .ref o55, .ref o57, .ref o59, .int y2, .int y3, .int v63])), (o3, .inl (cI, 12, .inl fw4)), (o53, .inl (cI, 12, .inl f4)), (o55, .inl (cI, 81, .inl f5)), (o100, .inl (cI, 4096, .inl fw101)), (o104, .inl (cI, 12, .inl fw105))]) (w1 := fun u => [(o99, .inr (0, [.ref o100, .ref o102, .ref o104, .int u.1, .int y9, .int v108, .int v109, .int v6])), (o102, .inl (cI, 12, .inl u.2))]) (wn := fun u => [(o1, .inr (11, [.ref o2, .ref o7, .ref o12, .ref o41, .ref o51, .ref o64, .ref o77, .ref o84, .ref o91, .ref o99, .ref o111, .ref o123, .int v125])), (o99, .inr (0, [.ref o100, .ref o102, .ref o104, .int u.1, .int y9, .int v108, .int v109, .int v6])), (o2, .inr (4, [.ref o3, .int v5, .int v6])), (o51, .inr (1, [.int v52, .ref o53, .ref o55, .ref o57, .ref o59, .int y2, .int y3, .int v63])), (o3, .inl (cI, 12, .inl fw4)), (o53, .inl (cI, 12, .inl f4)), (o55, .inl (cI, 81, .inl f5)), (o102, .inl (cI, 12, .inl u.2)), (o100, .inl (cI, 4096, .inl fw101)), (o104, .inl (cI, 12, .inl fw105))]) (fun hPc hDc => va_runVN (As := [.int x95]) (rest := []) ⟨hx, hb, hml, hown, hts⟩ (kX0_addRow_1 l dC dI cI c2 cZ o99 o100 o102 o104 f87 x88 y9 v108 v109 v6 x95 H.size x88_h y9_h v109_h) ⟨va_cnB 1 hts gX11_bringSpans_X0_addRow_n307 rfl rfl rfl (hN.1 _ ns_123) (hts (.initialized RX0) hm_X11_bringSpans_38) (by decide +kernel) ⟨Nat.le_of_ble_eq_true rfl, Nat.le_of_ble_eq_true rfl⟩, (hts (.instanceMethod yX0_addRow) hm_X11_bringSpans_51), (hts (.selects RX0 yX0_addRow yX0_addRow) hm_X11_bringSpans_52)⟩ (pre_V hPc hK hDc hN (ci := 0) (q0 := 0) rfl rfl) rfl rfl hl.1 rfl (lv_room (Nat.le_of_ble_eq_true rfl)) dX11_bringSpans_102 ⟨Nat.le_of_ble_eq_true rfl, Nat.le_of_ble_eq_true rfl⟩) hP hD hS hA [1, 7] [0, 2, 3, 4, 5, 6, 8, 9] [0, 8, 1, 2, 3, 4, 5, 9, 6, 7] rfl rfl (by decide +kernel) (by decide +kernel) (by decide +kernel) (by decide +kernel) (fun _ => rfl) (fun u H locs hq hP hD hS => ?_)
            obtain ⟨y96, f97⟩ := u
            have y96_h := hq
            have hP : va_P (dC, dI) vwCl ([(o1, .inr (11, [.ref o2, .ref o7, .ref o12, .ref o41, .ref o51, .ref o64, .ref o77, .ref o84, .ref o91, .ref o99, .ref o111, .ref o123, .int v125])), (o99, .inr (0, [.ref o100, .ref o102, .ref o104, .int y96, .int y9, .int v108, .int v109, .int v6])), (o2, .inr (4, [.ref o3, .int v5, .int v6])), (o51, .inr (1, [.int v52, .ref o53, .ref o55, .ref o57, .ref o59, .int y2, .int y3, .int v63])), (o3, .inl (cI, 12, .inl fw4)), (o53, .inl (cI, 12, .inl f4)), (o55, .inl (cI, 81, .inl f5)), (o102, .inl (cI, 12, .inl f97)), (o100, .inl (cI, 4096, .inl fw101)), (o104, .inl (cI, 12, .inl fw105))]) H := hP
            have hD : va_D A ([(o1, .inr (11, [.ref o2, .ref o7, .ref o12, .ref o41, .ref o51, .ref o64, .ref o77, .ref o84, .ref o91, .ref o99, .ref o111, .ref o123, .int v125])), (o99, .inr (0, [.ref o100, .ref o102, .ref o104, .int y96, .int y9, .int v108, .int v109, .int v6])), (o2, .inr (4, [.ref o3, .int v5, .int v6])), (o51, .inr (1, [.int v52, .ref o53, .ref o55, .ref o57, .ref o59, .int y2, .int y3, .int v63])), (o3, .inl (cI, 12, .inl fw4)), (o53, .inl (cI, 12, .inl f4)), (o55, .inl (cI, 81, .inl f5)), (o102, .inl (cI, 12, .inl f97)), (o100, .inl (cI, 4096, .inl fw101)), (o104, .inl (cI, 12, .inl fw105))]) := hD
            obtain ⟨x98, x98_e⟩ : ∃ z : Int32, z = x86 + 1 := ⟨_, rfl⟩
            have x98_h : Iv 1 12 x98 := iv_e x98_e (iv_add j93 ik_1 (by decide))
            refine lv_iinc (v := x98) (lv' := [(1, .int x98), (0, .ref o1)]) hx hb dX11_bringSpans_105 hl (k := 0) rfl (incN (by decide +kernel) x98_e) (by decide) rfl (fun ls hl => ?_)
            refine lv_goto (tgt := 79) hx hb dX11_bringSpans_108 (by decide) ?_
            exact ih1 x98 f97 y96 _ _ _ (ms_up x98_e j93 (by decide) hM1) (iv_w x98_h (by decide)) y96_h hP hD hS hl
      exact L1 _ 0 fw103 y8 _ _ _ (Nat.lt_succ_self _) (iv_w ik_0 (by decide)) y8_h hP hD hS hl
    ·
      have qh6 := nle_i h6
      have j99 : Iv 13 81 y2 := r_ltr qh6 ik_12 y2_h (by decide)
      refine lv_aload_n hx hb dX11_bringSpans_55 rfl (lv_at hl 0 rfl) ?_
      refine va_get (D := (dC, dI)) (ci := 11) (v := .ref o99) (C := RX11) (T := TX11) (N := 13) hx hb hts iw_X11_bringSpans_X11 hown hK hP 0 rfl rfl 9 (by decide) (hts (.fieldLink RX11 75 "HolelessHouse" "spans" "LHolelessHouse$Benches;") hm_X11_bringSpans_1) (fun _ h9 => h9) rfl dX11_bringSpans_56 ?_
      refine kc_v (D := (dC, dI)) (S := Int32 × Int32 × Int32) (wc := [(o99, .inr (0, [.ref o100, .ref o102, .ref o104, .int v106, .int v107, .int v108, .int v109, .int v6]))]) (wr := [(o1, .inr (11, [.ref o2, .ref o7, .ref o12, .ref o41, .ref o51, .ref o64, .ref o77, .ref o84, .ref o91, .ref o99, .ref o111, .ref o123, .int v125])), (o2, .inr (4, [.ref o3, .int v5, .int v6])), (o51, .inr (1, [.int v52, .ref o53, .ref o55, .ref o57, .ref o59, .int y2, .int y3, .int v63])), (o3, .inl (cI, 12, .inl fw4)), (o53, .inl (cI, 12, .inl f4)), (o55, .inl (cI, 81, .inl f5)), (o102, .inl (cI, 12, .inl fw103)), (o100, .inl (cI, 4096, .inl fw101)), (o104, .inl (cI, 12, .inl fw105))]) (w1 := fun u => [(o99, .inr (0, [.ref o100, .ref o102, .ref o104, .int u.1, .int u.2.1, .int v108, .int u.2.2, .int v6]))]) (wn := fun u => [(o1, .inr (11, [.ref o2, .ref o7, .ref o12, .ref o41, .ref o51, .ref o64, .ref o77, .ref o84, .ref o91, .ref o99, .ref o111, .ref o123, .int v125])), (o99, .inr (0, [.ref o100, .ref o102, .ref o104, .int u.1, .int u.2.1, .int v108, .int u.2.2, .int v6])), (o2, .inr (4, [.ref o3, .int v5, .int v6])), (o51, .inr (1, [.int v52, .ref o53, .ref o55, .ref o57, .ref o59, .int y2, .int y3, .int v63])), (o3, .inl (cI, 12, .inl fw4)), (o53, .inl (cI, 12, .inl f4)), (o55, .inl (cI, 81, .inl f5)), (o102, .inl (cI, 12, .inl fw103)), (o100, .inl (cI, 4096, .inl fw101)), (o104, .inl (cI, 12, .inl fw105))]) (fun hPc hDc => va_runVN (As := []) (rest := []) ⟨hx, hb, hml, hown, hts⟩ (kX0_refuse_1 l dC dI cI c2 cZ o99 o100 o102 o104 v106 v107 v108 v109 v6 H.size v106_h v107_h v109_h) ⟨va_cnB 0 hts gX11_bringSpans_X0_refuse_n300 rfl rfl rfl (hN.1 _ ns_120) (hts (.initialized RX0) hm_X11_bringSpans_38) (by decide +kernel) ⟨Nat.le_of_ble_eq_true rfl, Nat.le_of_ble_eq_true rfl⟩, (hts (.instanceMethod yX0_refuse) hm_X11_bringSpans_37), (hts (.selects RX0 yX0_refuse yX0_refuse) hm_X11_bringSpans_39)⟩ (pre_V hPc hK hDc hN (ci := 0) (q0 := 0) rfl rfl) rfl rfl hl.1 rfl (lv_room (Nat.le_of_ble_eq_true rfl)) dX11_bringSpans_59 ⟨Nat.le_of_ble_eq_true rfl, Nat.le_of_ble_eq_true rfl⟩) hP hD hS hA [1] [0, 2, 3, 4, 5, 6, 7, 8, 9] [0, 9, 1, 2, 3, 4, 5, 6, 7, 8] rfl rfl (by decide +kernel) (by decide +kernel) (by decide +kernel) (by decide +kernel) (fun _ => rfl) (fun u H locs hq hP hD hS => ?_)
      obtain ⟨y100, y101, y102⟩ := u
      obtain ⟨y100_h, y101_h, y102_h⟩ := hq
      have hP : va_P (dC, dI) vwCl ([(o1, .inr (11, [.ref o2, .ref o7, .ref o12, .ref o41, .ref o51, .ref o64, .ref o77, .ref o84, .ref o91, .ref o99, .ref o111, .ref o123, .int v125])), (o99, .inr (0, [.ref o100, .ref o102, .ref o104, .int y100, .int y101, .int v108, .int y102, .int v6])), (o2, .inr (4, [.ref o3, .int v5, .int v6])), (o51, .inr (1, [.int v52, .ref o53, .ref o55, .ref o57, .ref o59, .int y2, .int y3, .int v63])), (o3, .inl (cI, 12, .inl fw4)), (o53, .inl (cI, 12, .inl f4)), (o55, .inl (cI, 81, .inl f5)), (o102, .inl (cI, 12, .inl fw103)), (o100, .inl (cI, 4096, .inl fw101)), (o104, .inl (cI, 12, .inl fw105))]) H := hP
      have hD : va_D A ([(o1, .inr (11, [.ref o2, .ref o7, .ref o12, .ref o41, .ref o51, .ref o64, .ref o77, .ref o84, .ref o91, .ref o99, .ref o111, .ref o123, .int v125])), (o99, .inr (0, [.ref o100, .ref o102, .ref o104, .int y100, .int y101, .int v108, .int y102, .int v6])), (o2, .inr (4, [.ref o3, .int v5, .int v6])), (o51, .inr (1, [.int v52, .ref o53, .ref o55, .ref o57, .ref o59, .int y2, .int y3, .int v63])), (o3, .inl (cI, 12, .inl fw4)), (o53, .inl (cI, 12, .inl f4)), (o55, .inl (cI, 81, .inl f5)), (o102, .inl (cI, 12, .inl fw103)), (o100, .inl (cI, 4096, .inl fw101)), (o104, .inl (cI, 12, .inl fw105))]) := hD
      rw [hQ]
      exact W.vret hx hb hr (fun t ht hW => ⟨⟨(y100, y101, y102, v6, y2, y3, f4, f5, fw103, fw101, fw105), rfl, ⟨y100_h, y101_h, y102_h, (iv_w j99 (by decide)), f4_b⟩, by rw [ht]; exact hP, va_K.moved hW.alike hK, hD⟩, hS.F ht⟩) hS.2.2 dX11_bringSpans_62
  ·
    rw [hQ]
    exact W.vret hx hb hr (fun t ht hW => ⟨⟨(v106, v107, v109, v110, v61, v62, fw54, fw56, fw103, fw101, fw105), rfl, ⟨v106_h, v107_h, v109_h, v61_h, fw54_b⟩, by rw [ht]; exact hP, va_K.moved hW.alike hK, hD⟩, hS.F ht⟩) hS.2.2 dX11_bringSpans_17
theorem iw_X11_line_X0 : ∀ w ∈ wsX00, w ∈ wsX11_line := fun _ h => List.mem_cons.mpr (Or.inr (List.mem_append.mpr (Or.inl (List.mem_append.mpr (Or.inl (List.mem_append.mpr (Or.inr h)))))))
theorem iw_X11_line_X11 : ∀ w ∈ wsX110, w ∈ wsX11_line := fun _ h => List.mem_cons.mpr (Or.inr (List.mem_append.mpr (Or.inl (List.mem_append.mpr (Or.inl (List.mem_append.mpr (Or.inl (List.mem_append.mpr (Or.inr h)))))))))
set_option maxHeartbeats 4000000 in
set_option maxRecDepth 100000 in
theorem kX11_line_1 (l : Launch) (dC : Nat → ClassId) (dI : Nat → Nat → Nat) (cI c2 cZ : ClassId) (o1 : Nat) (o2 : Nat) (o7 : Nat) (o12 : Nat) (o41 : Nat) (o51 : Nat) (o64 : Nat) (o77 : Nat) (o84 : Nat) (o91 : Nat) (o99 : Nat) (o111 : Nat) (o123 : Nat) (o100 : Nat) (o102 : Nat) (o104 : Nat) (o3 : Nat) (o53 : Nat) (o55 : Nat) (o57 : Nat) (o59 : Nat) (fw4 : Nat → Int32) (v5 : Int32) (v6 : Int32) (v52 : Int32) (fw54 : Nat → Int32) (fw56 : Nat → Int32) (v61 : Int32) (v62 : Int32) (v63 : Int32) (fw101 : Nat → Int32) (fw103 : Nat → Int32) (fw105 : Nat → Int32) (v106 : Int32) (v107 : Int32) (v108 : Int32) (v109 : Int32) (v110 : Int32) (v125 : Int32) (a1 : Int32) (sz : Nat) (fw4_b : Bd 12 0 4095 fw4) (v5_h : Iv 0 12 v5) (v52_h : Iv 0 1 v52) (fw54_b : Bd 12 0 4095 fw54) (v61_h : Iv 0 81 v61) (v106_h : Iv 0 12 v106) (v107_h : Iv 0 12 v107) (v109_h : Iv 0 1 v109) : Met l yX11_line wsX11_line ({ frames := 17, cells := 0, slots := 0, locals := 425 }) (va_Pc [.ref o1, .int a1] (wPre (dC, dI) [(cI, .int), (c2, .array .int), (cZ, .boolean)] ([(o1, .inr (11, [.ref o2, .ref o7, .ref o12, .ref o41, .ref o51, .ref o64, .ref o77, .ref o84, .ref o91, .ref o99, .ref o111, .ref o123, .int v125])), (o99, .inr (0, [.ref o100, .ref o102, .ref o104, .int v106, .int v107, .int v108, .int v109, .int v110])), (o2, .inr (4, [.ref o3, .int v5, .int v6])), (o51, .inr (1, [.int v52, .ref o53, .ref o55, .ref o57, .ref o59, .int v61, .int v62, .int v63])), (o3, .inl (cI, 12, .inl fw4)), (o53, .inl (cI, 12, .inl fw54)), (o55, .inl (cI, 81, .inl fw56)), (o102, .inl (cI, 12, .inl fw103)), (o100, .inl (cI, 4096, .inl fw101)), (o104, .inl (cI, 12, .inl fw105))]) sz)) (va_Qi (fun (r : Int32) (u : Int32 × Int32 × Int32 × Int32 × Int32 × Int32 × (Nat → Int32) × (Nat → Int32) × (Nat → Int32) × (Nat → Int32) × (Nat → Int32)) => Iv 0 12 u.1 ∧ Iv 0 12 u.2.1 ∧ Iv 0 1 u.2.2.1 ∧ Iv 0 81 u.2.2.2.2.1 ∧ Bd 12 0 4095 u.2.2.2.2.2.2.1) (fun u t => wPost (dC, dI) [(cI, .int), (c2, .array .int), (cZ, .boolean)] (va_A ([(o1, .inr (11, [.ref o2, .ref o7, .ref o12, .ref o41, .ref o51, .ref o64, .ref o77, .ref o84, .ref o91, .ref o99, .ref o111, .ref o123, .int v125])), (o99, .inr (0, [.ref o100, .ref o102, .ref o104, .int v106, .int v107, .int v108, .int v109, .int v110])), (o2, .inr (4, [.ref o3, .int v5, .int v6])), (o51, .inr (1, [.int v52, .ref o53, .ref o55, .ref o57, .ref o59, .int v61, .int v62, .int v63])), (o3, .inl (cI, 12, .inl fw4)), (o53, .inl (cI, 12, .inl fw54)), (o55, .inl (cI, 81, .inl fw56)), (o102, .inl (cI, 12, .inl fw103)), (o100, .inl (cI, 4096, .inl fw101)), (o104, .inl (cI, 12, .inl fw105))]) sz) ([(o1, .inr (11, [.ref o2, .ref o7, .ref o12, .ref o41, .ref o51, .ref o64, .ref o77, .ref o84, .ref o91, .ref o99, .ref o111, .ref o123, .int v125])), (o99, .inr (0, [.ref o100, .ref o102, .ref o104, .int u.1, .int u.2.1, .int v108, .int u.2.2.1, .int u.2.2.2.1])), (o2, .inr (4, [.ref o3, .int v5, .int v6])), (o51, .inr (1, [.int v52, .ref o53, .ref o55, .ref o57, .ref o59, .int u.2.2.2.2.1, .int u.2.2.2.2.2.1, .int v63])), (o3, .inl (cI, 12, .inl fw4)), (o53, .inl (cI, 12, .inl u.2.2.2.2.2.2.1)), (o55, .inl (cI, 81, .inl u.2.2.2.2.2.2.2.1)), (o102, .inl (cI, 12, .inl u.2.2.2.2.2.2.2.2.1)), (o100, .inl (cI, 4096, .inl u.2.2.2.2.2.2.2.2.2.1)), (o104, .inl (cI, 12, .inl u.2.2.2.2.2.2.2.2.2.2))]) t) (va_A ([(o1, .inr (11, [.ref o2, .ref o7, .ref o12, .ref o41, .ref o51, .ref o64, .ref o77, .ref o84, .ref o91, .ref o99, .ref o111, .ref o123, .int v125])), (o99, .inr (0, [.ref o100, .ref o102, .ref o104, .int v106, .int v107, .int v108, .int v109, .int v110])), (o2, .inr (4, [.ref o3, .int v5, .int v6])), (o51, .inr (1, [.int v52, .ref o53, .ref o55, .ref o57, .ref o59, .int v61, .int v62, .int v63])), (o3, .inl (cI, 12, .inl fw4)), (o53, .inl (cI, 12, .inl fw54)), (o55, .inl (cI, 81, .inl fw56)), (o102, .inl (cI, 12, .inl fw103)), (o100, .inl (cI, 4096, .inl fw101)), (o104, .inl (cI, 12, .inl fw105))]) sz)) 0 0 (va_A ([(o1, .inr (11, [.ref o2, .ref o7, .ref o12, .ref o41, .ref o51, .ref o64, .ref o77, .ref o84, .ref o91, .ref o99, .ref o111, .ref o123, .int v125])), (o99, .inr (0, [.ref o100, .ref o102, .ref o104, .int v106, .int v107, .int v108, .int v109, .int v110])), (o2, .inr (4, [.ref o3, .int v5, .int v6])), (o51, .inr (1, [.int v52, .ref o53, .ref o55, .ref o57, .ref o59, .int v61, .int v62, .int v63])), (o3, .inl (cI, 12, .inl fw4)), (o53, .inl (cI, 12, .inl fw54)), (o55, .inl (cI, 81, .inl fw56)), (o102, .inl (cI, 12, .inl fw103)), (o100, .inl (cI, 4096, .inl fw101)), (o104, .inl (cI, 12, .inl fw105))]) sz) := by
  refine Met.ofW (cc := cX11_line) (maxL := 2) (ret := (some .int)) (by decide) rfl ?_
  intro p e s m args below meth c s₁ B hml hv
  obtain ⟨rfl, hsz, hP, hK, hD0, hN⟩ := hv
  have hx := B.exec
  have hb := B.bytes
  have hr := B.returns
  have hts := atoms_spec (ws := wsX11_line) B.pre
  have hown : s.vm.findClass RX11 = some m.cls := findClass_of_methodNamed B.named
  have hlocks := B.notSynchronized
  subst hsz
  have hD := hD0.self (sz := s.heap.size)
  generalize hAe : va_A ([(o1, .inr (11, [.ref o2, .ref o7, .ref o12, .ref o41, .ref o51, .ref o64, .ref o77, .ref o84, .ref o91, .ref o99, .ref o111, .ref o123, .int v125])), (o99, .inr (0, [.ref o100, .ref o102, .ref o104, .int v106, .int v107, .int v108, .int v109, .int v110])), (o2, .inr (4, [.ref o3, .int v5, .int v6])), (o51, .inr (1, [.int v52, .ref o53, .ref o55, .ref o57, .ref o59, .int v61, .int v62, .int v63])), (o3, .inl (cI, 12, .inl fw4)), (o53, .inl (cI, 12, .inl fw54)), (o55, .inl (cI, 81, .inl fw56)), (o102, .inl (cI, 12, .inl fw103)), (o100, .inl (cI, 4096, .inl fw101)), (o104, .inl (cI, 12, .inl fw105))]) s.heap.size = A at hD ⊢
  have hA : ∀ q : Nat, s.heap.size ≤ q → A q := fun q h => by rw [← hAe]; exact Or.inr h
  have hS : va_S A s.heap s.heap [] := va_S.rf
  have hP : va_P (dC, dI) vwCl ([(o1, .inr (11, [.ref o2, .ref o7, .ref o12, .ref o41, .ref o51, .ref o64, .ref o77, .ref o84, .ref o91, .ref o99, .ref o111, .ref o123, .int v125])), (o99, .inr (0, [.ref o100, .ref o102, .ref o104, .int v106, .int v107, .int v108, .int v109, .int v110])), (o2, .inr (4, [.ref o3, .int v5, .int v6])), (o51, .inr (1, [.int v52, .ref o53, .ref o55, .ref o57, .ref o59, .int v61, .int v62, .int v63])), (o3, .inl (cI, 12, .inl fw4)), (o53, .inl (cI, 12, .inl fw54)), (o55, .inl (cI, 81, .inl fw56)), (o102, .inl (cI, 12, .inl fw103)), (o100, .inl (cI, 4096, .inl fw101)), (o104, .inl (cI, 12, .inl fw105))]) s.heap := hP
  have hl := lv_entry ([.ref o1, .int a1]) (n := 2) (Nat.le_of_ble_eq_true rfl)
  rw [lg_entry_eq]
  generalize (lg_sl ([.ref o1, .int a1]) ++ List.replicate (2 - (lg_sl ([.ref o1, .int a1])).length) Slot.unset).toArray = ls at hl ⊢
  have hl : lv_has ls 2 [(0, .ref o1), (1, .int a1)] := hl
  refine gen_Q (fun Q hQ => ?_)
  refine lv_aload_n hx hb dX11_line_0 rfl (lv_at hl 0 rfl) ?_
  refine kc_v (D := (dC, dI)) (S := Int32 × Int32 × Int32 × Int32 × Int32 × Int32 × (Nat → Int32) × (Nat → Int32) × (Nat → Int32) × (Nat → Int32) × (Nat → Int32)) (wc := [(o1, .inr (11, [.ref o2, .ref o7, .ref o12, .ref o41, .ref o51, .ref o64, .ref o77, .ref o84, .ref o91, .ref o99, .ref o111, .ref o123, .int v125])), (o99, .inr (0, [.ref o100, .ref o102, .ref o104, .int v106, .int v107, .int v108, .int v109, .int v110])), (o2, .inr (4, [.ref o3, .int v5, .int v6])), (o51, .inr (1, [.int v52, .ref o53, .ref o55, .ref o57, .ref o59, .int v61, .int v62, .int v63])), (o3, .inl (cI, 12, .inl fw4)), (o53, .inl (cI, 12, .inl fw54)), (o55, .inl (cI, 81, .inl fw56)), (o102, .inl (cI, 12, .inl fw103)), (o100, .inl (cI, 4096, .inl fw101)), (o104, .inl (cI, 12, .inl fw105))]) (wr := []) (w1 := fun u => [(o1, .inr (11, [.ref o2, .ref o7, .ref o12, .ref o41, .ref o51, .ref o64, .ref o77, .ref o84, .ref o91, .ref o99, .ref o111, .ref o123, .int v125])), (o99, .inr (0, [.ref o100, .ref o102, .ref o104, .int u.1, .int u.2.1, .int v108, .int u.2.2.1, .int u.2.2.2.1])), (o2, .inr (4, [.ref o3, .int v5, .int v6])), (o51, .inr (1, [.int v52, .ref o53, .ref o55, .ref o57, .ref o59, .int u.2.2.2.2.1, .int u.2.2.2.2.2.1, .int v63])), (o3, .inl (cI, 12, .inl fw4)), (o53, .inl (cI, 12, .inl u.2.2.2.2.2.2.1)), (o55, .inl (cI, 81, .inl u.2.2.2.2.2.2.2.1)), (o102, .inl (cI, 12, .inl u.2.2.2.2.2.2.2.2.1)), (o100, .inl (cI, 4096, .inl u.2.2.2.2.2.2.2.2.2.1)), (o104, .inl (cI, 12, .inl u.2.2.2.2.2.2.2.2.2.2))]) (wn := fun u => [(o1, .inr (11, [.ref o2, .ref o7, .ref o12, .ref o41, .ref o51, .ref o64, .ref o77, .ref o84, .ref o91, .ref o99, .ref o111, .ref o123, .int v125])), (o99, .inr (0, [.ref o100, .ref o102, .ref o104, .int u.1, .int u.2.1, .int v108, .int u.2.2.1, .int u.2.2.2.1])), (o2, .inr (4, [.ref o3, .int v5, .int v6])), (o51, .inr (1, [.int v52, .ref o53, .ref o55, .ref o57, .ref o59, .int u.2.2.2.2.1, .int u.2.2.2.2.2.1, .int v63])), (o3, .inl (cI, 12, .inl fw4)), (o53, .inl (cI, 12, .inl u.2.2.2.2.2.2.1)), (o55, .inl (cI, 81, .inl u.2.2.2.2.2.2.2.1)), (o102, .inl (cI, 12, .inl u.2.2.2.2.2.2.2.2.1)), (o100, .inl (cI, 4096, .inl u.2.2.2.2.2.2.2.2.2.1)), (o104, .inl (cI, 12, .inl u.2.2.2.2.2.2.2.2.2.2))]) (fun hPc hDc => va_runV (As := []) (rest := []) ⟨hx, hb, hml, hown, hts⟩ (kX11_bringSpans_1 l dC dI cI c2 cZ o1 o2 o7 o12 o41 o51 o64 o77 o84 o91 o99 o111 o123 o100 o102 o104 o3 o53 o55 o57 o59 fw4 v5 v6 v52 fw54 fw56 v61 v62 v63 fw101 fw103 fw105 v106 v107 v108 v109 v110 v125 s.heap.size fw4_b v5_h v52_h fw54_b v61_h v106_h v107_h v109_h) (cwV 0 hts gX11_line_X11_bringSpans rfl rfl rfl (by decide +kernel) ⟨Nat.le_of_ble_eq_true rfl, Nat.le_of_ble_eq_true rfl⟩) (pre_V hPc hK hDc hN (ci := 11) (q0 := 0) rfl rfl) rfl rfl hl.1 rfl (lv_room (Nat.le_of_ble_eq_true rfl)) dX11_line_1 ⟨Nat.le_of_ble_eq_true rfl, Nat.le_of_ble_eq_true rfl⟩) hP hD hS hA [0, 1, 2, 3, 4, 5, 6, 7, 8, 9] [] [0, 1, 2, 3, 4, 5, 6, 7, 8, 9] rfl rfl (by decide +kernel) (by decide +kernel) (by decide +kernel) (by decide +kernel) (fun _ => rfl) (fun u H locs hq hP hD hS => ?_)
  obtain ⟨y1, y2, y3, y4, y5, y6, f7, f8, f9, f10, f11⟩ := u
  obtain ⟨y1_h, y2_h, y3_h, y5_h, f7_b⟩ := hq
  have hP : va_P (dC, dI) vwCl ([(o1, .inr (11, [.ref o2, .ref o7, .ref o12, .ref o41, .ref o51, .ref o64, .ref o77, .ref o84, .ref o91, .ref o99, .ref o111, .ref o123, .int v125])), (o99, .inr (0, [.ref o100, .ref o102, .ref o104, .int y1, .int y2, .int v108, .int y3, .int y4])), (o2, .inr (4, [.ref o3, .int v5, .int v6])), (o51, .inr (1, [.int v52, .ref o53, .ref o55, .ref o57, .ref o59, .int y5, .int y6, .int v63])), (o3, .inl (cI, 12, .inl fw4)), (o53, .inl (cI, 12, .inl f7)), (o55, .inl (cI, 81, .inl f8)), (o102, .inl (cI, 12, .inl f9)), (o100, .inl (cI, 4096, .inl f10)), (o104, .inl (cI, 12, .inl f11))]) H := hP
  have hD : va_D A ([(o1, .inr (11, [.ref o2, .ref o7, .ref o12, .ref o41, .ref o51, .ref o64, .ref o77, .ref o84, .ref o91, .ref o99, .ref o111, .ref o123, .int v125])), (o99, .inr (0, [.ref o100, .ref o102, .ref o104, .int y1, .int y2, .int v108, .int y3, .int y4])), (o2, .inr (4, [.ref o3, .int v5, .int v6])), (o51, .inr (1, [.int v52, .ref o53, .ref o55, .ref o57, .ref o59, .int y5, .int y6, .int v63])), (o3, .inl (cI, 12, .inl fw4)), (o53, .inl (cI, 12, .inl f7)), (o55, .inl (cI, 81, .inl f8)), (o102, .inl (cI, 12, .inl f9)), (o100, .inl (cI, 4096, .inl f10)), (o104, .inl (cI, 12, .inl f11))]) := hD
  refine lv_aload_n hx hb dX11_line_4 rfl (lv_at hl 0 rfl) ?_
  refine va_get (D := (dC, dI)) (ci := 11) (v := .ref o99) (C := RX11) (T := TX11) (N := 13) hx hb hts iw_X11_line_X11 hown hK hP 0 rfl rfl 9 (by decide) (hts (.fieldLink RX11 75 "HolelessHouse" "spans" "LHolelessHouse$Benches;") hm_X11_line_1) (fun _ h9 => h9) rfl dX11_line_5 ?_
  refine va_getN (D := (dC, dI)) (ci := 0) (v := .int y3) (C := RX0) (T := TX0) (N := 8) hx hb hts iw_X11_line_X0 hown hK hP 1 rfl rfl 6 (by decide) (hN.use ns_46) (fun _ h9 => h9) rfl dX11_line_8 ?_
  refine lv_if_eq (tgt := 41) hx hb dX11_line_11 (by decide) (fun h12 => ?_) (fun h12 => ?_)
  ·
    have j13 : Iv 0 0 y3 := r_eq h12 ik_0
    refine lv_bipush (v := (-9)) hx hb dX11_line_41 (by decide) ?_
    rw [hQ]
    exact W.iret (v := (-9)) hx hb hr (fun t ht hW => ⟨⟨(-9), (y1, y2, y3, y4, y5, y6, f7, f8, f9, f10, f11), rfl, ⟨y1_h, y2_h, (iv_w j13 (by decide)), y5_h, f7_b⟩, by rw [ht]; exact hP, va_K.moved hW.alike hK, hD⟩, hS.F ht⟩) hS.2.2 dX11_line_43
  ·
    have j14 : Iv 1 1 y3 := r_nelo h12 y3_h ik_0 (by decide)
    refine lv_iload_n hx hb dX11_line_14 rfl (lv_at hl 1 rfl) ?_
    refine lv_if_lt (tgt := 41) hx hb dX11_line_15 (by decide) (fun h15 => ?_) (fun h15 => ?_)
    ·
      have qh15 := lt_i h15
      have j16 : Iv (-2147483648) (-1) a1 := r_ltl qh15 (iv_full a1) ik_0 (by decide)
      refine lv_bipush (v := (-9)) hx hb dX11_line_41 (by decide) ?_
      rw [hQ]
      exact W.iret (v := (-9)) hx hb hr (fun t ht hW => ⟨⟨(-9), (y1, y2, y3, y4, y5, y6, f7, f8, f9, f10, f11), rfl, ⟨y1_h, y2_h, (iv_w j14 (by decide)), y5_h, f7_b⟩, by rw [ht]; exact hP, va_K.moved hW.alike hK, hD⟩, hS.F ht⟩) hS.2.2 dX11_line_43
    ·
      have qh15 := nlt_i h15
      have j17 : Iv 0 2147483647 a1 := r_ler qh15 ik_0 (iv_full a1) (by decide)
      refine lv_iload_n hx hb dX11_line_18 rfl (lv_at hl 1 rfl) ?_
      refine lv_aload_n hx hb dX11_line_19 rfl (lv_at hl 0 rfl) ?_
      refine va_get (D := (dC, dI)) (ci := 11) (v := .ref o99) (C := RX11) (T := TX11) (N := 13) hx hb hts iw_X11_line_X11 hown hK hP 0 rfl rfl 9 (by decide) (hts (.fieldLink RX11 75 "HolelessHouse" "spans" "LHolelessHouse$Benches;") hm_X11_line_1) (fun _ h9 => h9) rfl dX11_line_20 ?_
      refine va_getN (D := (dC, dI)) (ci := 0) (v := .int y2) (C := RX0) (T := TX0) (N := 8) hx hb hts iw_X11_line_X0 hown hK hP 1 rfl rfl 4 (by decide) (hN.use ns_44) (fun _ h9 => h9) rfl dX11_line_23 ?_
      refine lv_icmp_ge (tgt := 41) hx hb dX11_line_26 (by decide) (fun h18 => ?_) (fun h18 => ?_)
      ·
        have qh18 := le_i h18
        refine lv_bipush (v := (-9)) hx hb dX11_line_41 (by decide) ?_
        rw [hQ]
        exact W.iret (v := (-9)) hx hb hr (fun t ht hW => ⟨⟨(-9), (y1, y2, y3, y4, y5, y6, f7, f8, f9, f10, f11), rfl, ⟨y1_h, y2_h, (iv_w j14 (by decide)), y5_h, f7_b⟩, by rw [ht]; exact hP, va_K.moved hW.alike hK, hD⟩, hS.F ht⟩) hS.2.2 dX11_line_43
      ·
        have qh18 := nle_i h18
        have j19 : Iv 0 11 a1 := r_ltl qh18 j17 y2_h (by decide)
        have j20 : Iv 1 12 y2 := r_ltr qh18 j17 y2_h (by decide)
        refine lv_aload_n hx hb dX11_line_29 rfl (lv_at hl 0 rfl) ?_
        refine va_get (D := (dC, dI)) (ci := 11) (v := .ref o99) (C := RX11) (T := TX11) (N := 13) hx hb hts iw_X11_line_X11 hown hK hP 0 rfl rfl 9 (by decide) (hts (.fieldLink RX11 75 "HolelessHouse" "spans" "LHolelessHouse$Benches;") hm_X11_line_1) (fun _ h9 => h9) rfl dX11_line_30 ?_
        refine va_getN (D := (dC, dI)) (ci := 0) (v := .ref o104) (C := RX0) (T := TX0) (N := 8) hx hb hts iw_X11_line_X0 hown hK hP 1 rfl rfl 2 (by decide) (hN.use ns_43) (fun _ h9 => h9) rfl dX11_line_33 ?_
        refine lv_iload_n hx hb dX11_line_36 rfl (lv_at hl 1 rfl) ?_
        refine va_iald hx hb hK hP 9 0 rfl rfl (vin_iv j19 (by decide)) dX11_line_37 (lv_topi (fun x21 x21_e => ?_))
        refine lv_goto (tgt := 43) hx hb dX11_line_38 (by decide) ?_
        rw [hQ]
        exact W.iret (v := x21) hx hb hr (fun t ht hW => ⟨⟨x21, (y1, y2, y3, y4, y5, y6, f7, f8, f9, f10, f11), rfl, ⟨y1_h, (iv_w j20 (by decide)), (iv_w j14 (by decide)), y5_h, f7_b⟩, by rw [ht]; exact hP, va_K.moved hW.alike hK, hD⟩, hS.F ht⟩) hS.2.2 dX11_line_43
