theorem hm_X0_seatsRest_1 : (.fieldLink RX0 25 "HolelessHouse$Benches" "width" "I" : Cond) ∈ wsX0_seatsRest := List.mem_of_getElem? (i := 1) rfl
theorem hm_X0_seatsRest_2 : (.fieldLink RX0 38 "HolelessHouse$Benches" "notes" "[I" : Cond) ∈ wsX0_seatsRest := List.mem_of_getElem? (i := 2) rfl
theorem hm_X0_seatsRest_12 : (.initialized RX11 : Cond) ∈ wsX0_seatsRest := List.mem_of_getElem? (i := 12) rfl
theorem hm_X0_seatsRest_11 : (.static yX11_in : Cond) ∈ wsX0_seatsRest := List.mem_of_getElem? (i := 11) rfl
theorem hm_X0_seatsRest_3 : (.fieldLink RX0 41 "HolelessHouse$Benches" "places" "[I" : Cond) ∈ wsX0_seatsRest := List.mem_of_getElem? (i := 3) rfl
theorem iw_X0_seatsRest_X0 : ∀ w ∈ wsX00, w ∈ wsX0_seatsRest := fun _ h => List.mem_cons.mpr (Or.inr (List.mem_append.mpr (Or.inr h)))
set_option maxHeartbeats 4000000 in
set_option maxRecDepth 100000 in
theorem kX0_seatsRest_1 (l : Launch) (dC : Nat → ClassId) (dI : Nat → Nat → Nat) (cI c2 cZ : ClassId) (o1 : Nat) (o2 : Nat) (o4 : Nat) (o6 : Nat) (v8 : Int32) (v9 : Int32) (v10 : Int32) (v11 : Int32) (v12 : Int32) (a1 : Int32) (sz : Nat) (v8_h : Iv 0 12 v8) (v9_h : Iv 0 12 v9) (v11_h : Iv 0 1 v11) (a1_h : Iv 0 4095 a1) : Met l yX0_seatsRest wsX0_seatsRest ({ frames := 0, cells := 0, slots := 0, locals := 0 }) (va_Pc [.ref o1, .int a1, .int 12] (wPre (dC, dI) [(cI, .int), (c2, .array .int), (cZ, .boolean)] ([(o1, .inr (0, [.ref o2, .ref o4, .ref o6, .int v8, .int v9, .int v10, .int v11, .int v12]))]) sz)) (va_Qi (fun (r : Int32) (_ : Unit) => Iv 1 1 r) (fun _ t => wPost (dC, dI) [(cI, .int), (c2, .array .int), (cZ, .boolean)] (va_A ([(o1, .inr (0, [.ref o2, .ref o4, .ref o6, .int v8, .int v9, .int v10, .int v11, .int v12]))]) sz) ([(o1, .inr (0, [.ref o2, .ref o4, .ref o6, .int v8, .int v9, .int v10, .int v11, .int v12]))]) t) (va_A ([(o1, .inr (0, [.ref o2, .ref o4, .ref o6, .int v8, .int v9, .int v10, .int v11, .int v12]))]) sz)) 0 0 (va_A ([(o1, .inr (0, [.ref o2, .ref o4, .ref o6, .int v8, .int v9, .int v10, .int v11, .int v12]))]) sz) := by
  refine Met.ofW (cc := cX0_seatsRest) (maxL := 5) (ret := (some .boolean)) (by decide) rfl ?_
  intro p e s m args below meth c s₁ B hml hv
  obtain ⟨rfl, hsz, hP, hK, hD0, hN⟩ := hv
  have hx := B.exec
  have hb := B.bytes
  have hr := B.returns
  have hts := atoms_spec (ws := wsX0_seatsRest) B.pre
  have hown : s.vm.findClass RX0 = some m.cls := findClass_of_methodNamed B.named
  have hlocks := B.notSynchronized
  subst hsz
  have hD := hD0.self (sz := s.heap.size)
  generalize hAe : va_A ([(o1, .inr (0, [.ref o2, .ref o4, .ref o6, .int v8, .int v9, .int v10, .int v11, .int v12]))]) s.heap.size = A at hD ⊢
  have hA : ∀ q : Nat, s.heap.size ≤ q → A q := fun q h => by rw [← hAe]; exact Or.inr h
  have hS : va_S A s.heap s.heap [] := va_S.rf
  have hP : va_P (dC, dI) vwCl ([(o1, .inr (0, [.ref o2, .ref o4, .ref o6, .int v8, .int v9, .int v10, .int v11, .int v12]))]) s.heap := hP
  have hl := lv_entry ([.ref o1, .int a1, .int 12]) (n := 5) (Nat.le_of_ble_eq_true rfl)
  rw [lg_entry_eq]
  generalize (lg_sl ([.ref o1, .int a1, .int 12]) ++ List.replicate (5 - (lg_sl ([.ref o1, .int a1, .int 12])).length) Slot.unset).toArray = ls at hl ⊢
  have hl : lv_has ls 5 [(0, .ref o1), (1, .int a1), (2, .int 12)] := hl
  refine gen_Q (fun Q hQ => ?_)
  refine lv_iload_n hx hb dX0_seatsRest_0 rfl (lv_at hl 2 rfl) ?_
  refine lv_aload_n hx hb dX0_seatsRest_1 rfl (lv_at hl 0 rfl) ?_
  refine va_get (D := (dC, dI)) (ci := 0) (v := .int v9) (C := RX0) (T := TX0) (N := 8) hx hb hts iw_X0_seatsRest_X0 hown hK hP 0 rfl rfl 4 (by decide) (hts (.fieldLink RX0 25 "HolelessHouse$Benches" "width" "I") hm_X0_seatsRest_1) (fun _ h9 => h9) rfl dX0_seatsRest_2 ?_
  refine lv_icmp_lt (tgt := 10) hx hb dX0_seatsRest_5 (by decide) (fun h9 => absurd h9 (d_nlt ik_12 v9_h (by decide))) (fun _ => ?_)
  refine lv_iconst (v := 1) hx hb dX0_seatsRest_8 (by decide) ?_
  rw [hQ]
  exact W.zret (v := 1) (ty := .boolean) hx hb hr rfl (fun t ht hW => ⟨⟨1, (), rfl, ik_1, by rw [ht]; exact hP, va_K.moved hW.alike hK, hD⟩, hS.F ht⟩) hS.2.2 dX0_seatsRest_9
set_option maxHeartbeats 4000000 in
set_option maxRecDepth 100000 in
theorem kX0_seatsRest_2 (l : Launch) (dC : Nat → ClassId) (dI : Nat → Nat → Nat) (cI c2 cZ : ClassId) (o1 : Nat) (o2 : Nat) (o4 : Nat) (o6 : Nat) (fw3 : Nat → Int32) (fw5 : Nat → Int32) (fw7 : Nat → Int32) (v8 : Int32) (v9 : Int32) (v10 : Int32) (v11 : Int32) (v12 : Int32) (a1 : Int32) (sz : Nat) (v8_h : Iv 0 12 v8) (v9_h : Iv 0 12 v9) (v11_h : Iv 0 1 v11) (a1_h : Iv 0 4095 a1) : Met l yX0_seatsRest wsX0_seatsRest ({ frames := 1, cells := 0, slots := 0, locals := 24 }) (va_Pc [.ref o1, .int a1, .int 11] (wPre (dC, dI) [(cI, .int), (c2, .array .int), (cZ, .boolean)] ([(o1, .inr (0, [.ref o2, .ref o4, .ref o6, .int v8, .int v9, .int v10, .int v11, .int v12])), (o2, .inl (cI, 4096, .inl fw3)), (o4, .inl (cI, 12, .inl fw5)), (o6, .inl (cI, 12, .inl fw7))]) sz)) (va_Qi (fun (r : Int32) (u : (Nat → Int32) × (Nat → Int32)) => Iv 0 1 r) (fun u t => wPost (dC, dI) [(cI, .int), (c2, .array .int), (cZ, .boolean)] (va_A ([(o1, .inr (0, [.ref o2, .ref o4, .ref o6, .int v8, .int v9, .int v10, .int v11, .int v12])), (o2, .inl (cI, 4096, .inl fw3)), (o4, .inl (cI, 12, .inl fw5)), (o6, .inl (cI, 12, .inl fw7))]) sz) ([(o1, .inr (0, [.ref o2, .ref o4, .ref o6, .int v8, .int v9, .int v10, .int v11, .int v12])), (o2, .inl (cI, 4096, .inl u.1)), (o4, .inl (cI, 12, .inl fw5)), (o6, .inl (cI, 12, .inl u.2))]) t) (va_A ([(o1, .inr (0, [.ref o2, .ref o4, .ref o6, .int v8, .int v9, .int v10, .int v11, .int v12])), (o2, .inl (cI, 4096, .inl fw3)), (o4, .inl (cI, 12, .inl fw5)), (o6, .inl (cI, 12, .inl fw7))]) sz)) 0 0 (va_A ([(o1, .inr (0, [.ref o2, .ref o4, .ref o6, .int v8, .int v9, .int v10, .int v11, .int v12])), (o2, .inl (cI, 4096, .inl fw3)), (o4, .inl (cI, 12, .inl fw5)), (o6, .inl (cI, 12, .inl fw7))]) sz) := by
  refine Met.ofW (cc := cX0_seatsRest) (maxL := 5) (ret := (some .boolean)) (by decide) rfl ?_
  intro p e s m args below meth c s₁ B hml hv
  obtain ⟨rfl, hsz, hP, hK, hD0, hN⟩ := hv
  have hx := B.exec
  have hb := B.bytes
  have hr := B.returns
  have hts := atoms_spec (ws := wsX0_seatsRest) B.pre
  have hown : s.vm.findClass RX0 = some m.cls := findClass_of_methodNamed B.named
  have hlocks := B.notSynchronized
  subst hsz
  have hD := hD0.self (sz := s.heap.size)
  generalize hAe : va_A ([(o1, .inr (0, [.ref o2, .ref o4, .ref o6, .int v8, .int v9, .int v10, .int v11, .int v12])), (o2, .inl (cI, 4096, .inl fw3)), (o4, .inl (cI, 12, .inl fw5)), (o6, .inl (cI, 12, .inl fw7))]) s.heap.size = A at hD ⊢
  have hA : ∀ q : Nat, s.heap.size ≤ q → A q := fun q h => by rw [← hAe]; exact Or.inr h
  have hS : va_S A s.heap s.heap [] := va_S.rf
  have hP : va_P (dC, dI) vwCl ([(o1, .inr (0, [.ref o2, .ref o4, .ref o6, .int v8, .int v9, .int v10, .int v11, .int v12])), (o2, .inl (cI, 4096, .inl fw3)), (o4, .inl (cI, 12, .inl fw5)), (o6, .inl (cI, 12, .inl fw7))]) s.heap := hP
  have hl := lv_entry ([.ref o1, .int a1, .int 11]) (n := 5) (Nat.le_of_ble_eq_true rfl)
  rw [lg_entry_eq]
  generalize (lg_sl ([.ref o1, .int a1, .int 11]) ++ List.replicate (5 - (lg_sl ([.ref o1, .int a1, .int 11])).length) Slot.unset).toArray = ls at hl ⊢
  have hl : lv_has ls 5 [(0, .ref o1), (1, .int a1), (2, .int 11)] := hl
  refine gen_Q (fun Q hQ => ?_)
  refine lv_iload_n hx hb dX0_seatsRest_0 rfl (lv_at hl 2 rfl) ?_
  refine lv_aload_n hx hb dX0_seatsRest_1 rfl (lv_at hl 0 rfl) ?_
  refine va_get (D := (dC, dI)) (ci := 0) (v := .int v9) (C := RX0) (T := TX0) (N := 8) hx hb hts iw_X0_seatsRest_X0 hown hK hP 0 rfl rfl 4 (by decide) (hts (.fieldLink RX0 25 "HolelessHouse$Benches" "width" "I") hm_X0_seatsRest_1) (fun _ h9 => h9) rfl dX0_seatsRest_2 ?_
  refine lv_icmp_lt (tgt := 10) hx hb dX0_seatsRest_5 (by decide) (fun h1 => ?_) (fun h1 => ?_)
  ·
    have qh1 := lt_i h1
    have j2 : Iv 12 12 v9 := r_ltr qh1 ik_11 v9_h (by decide)
    refine lv_aload_n hx hb dX0_seatsRest_10 rfl (lv_at hl 0 rfl) ?_
    refine va_get (D := (dC, dI)) (ci := 0) (v := .ref o2) (C := RX0) (T := TX0) (N := 8) hx hb hts iw_X0_seatsRest_X0 hown hK hP 0 rfl rfl 0 (by decide) (hts (.fieldLink RX0 38 "HolelessHouse$Benches" "notes" "[I") hm_X0_seatsRest_2) (fun _ h9 => h9) rfl dX0_seatsRest_11 ?_
    refine lv_iload_n hx hb dX0_seatsRest_14 rfl (lv_at hl 1 rfl) ?_
    refine va_iald hx hb hK hP 1 0 rfl rfl (vin_iv a1_h (by decide)) dX0_seatsRest_15 (lv_topi (fun x3 x3_e => ?_))
    refine lv_iconst (v := 1) hx hb dX0_seatsRest_16 (by decide) ?_
    refine lv_icmp_ne (tgt := 22) hx hb dX0_seatsRest_17 (by decide) (fun h4 => ?_) (fun h4 => ?_)
    ·
      refine lv_aload_n hx hb dX0_seatsRest_22 rfl (lv_at hl 0 rfl) ?_
      refine lv_iload_n hx hb dX0_seatsRest_23 rfl (lv_at hl 1 rfl) ?_
      refine kc_i (D := (dC, dI)) (S := Unit) (wc := [(o1, .inr (0, [.ref o2, .ref o4, .ref o6, .int v8, .int v9, .int v10, .int v11, .int v12])), (o4, .inl (cI, 12, .inl fw5))]) (wr := [(o2, .inl (cI, 4096, .inl fw3)), (o6, .inl (cI, 12, .inl fw7))]) (w1 := fun _ => [(o1, .inr (0, [.ref o2, .ref o4, .ref o6, .int v8, .int v9, .int v10, .int v11, .int v12])), (o4, .inl (cI, 12, .inl fw5))]) (wn := fun _ => [(o1, .inr (0, [.ref o2, .ref o4, .ref o6, .int v8, .int v9, .int v10, .int v11, .int v12])), (o2, .inl (cI, 4096, .inl fw3)), (o4, .inl (cI, 12, .inl fw5)), (o6, .inl (cI, 12, .inl fw7))]) (fun hPc hDc => va_runV (As := [.int a1]) (rest := []) ⟨hx, hb, hml, hown, hts⟩ (kX0_mayCome_1 l dC dI cI c2 cZ o1 o2 o4 o6 fw5 v8 v9 v10 v11 v12 a1 s.heap.size v8_h (iv_w j2 (by decide)) v11_h a1_h) (cwV 1 hts gX0_seatsRest_X0_mayCome rfl rfl rfl (by decide +kernel) ⟨Nat.le_of_ble_eq_true rfl, Nat.le_of_ble_eq_true rfl⟩) (pre_V hPc hK hDc hN (ci := 0) (q0 := 0) rfl rfl) rfl rfl hl.1 rfl (lv_room (Nat.le_of_ble_eq_true rfl)) dX0_seatsRest_24 ⟨Nat.le_of_ble_eq_true rfl, Nat.le_of_ble_eq_true rfl⟩) hP hD hS hA [0, 2] [1, 3] [2, 0, 3, 1] rfl rfl (by decide +kernel) (by decide +kernel) (by decide +kernel) (by decide +kernel) (fun _ => rfl) (fun x5 _ H locs hq hP hD hS => ?_)
      have x5_h := hq
      have hP : va_P (dC, dI) vwCl ([(o1, .inr (0, [.ref o2, .ref o4, .ref o6, .int v8, .int v9, .int v10, .int v11, .int v12])), (o2, .inl (cI, 4096, .inl fw3)), (o4, .inl (cI, 12, .inl fw5)), (o6, .inl (cI, 12, .inl fw7))]) H := hP
      have hD : va_D A ([(o1, .inr (0, [.ref o2, .ref o4, .ref o6, .int v8, .int v9, .int v10, .int v11, .int v12])), (o2, .inl (cI, 4096, .inl fw3)), (o4, .inl (cI, 12, .inl fw5)), (o6, .inl (cI, 12, .inl fw7))]) := hD
      refine lv_istore_n (lv' := [(3, .int x5), (0, .ref o1), (1, .int a1), (2, .int 11)]) hx hb dX0_seatsRest_27 rfl hl (by decide) rfl (fun ls hl => ?_)
      refine lv_iconst (v := 0) hx hb dX0_seatsRest_28 (by decide) ?_
      refine lv_istore (lv' := [(4, .int 0), (3, .int x5), (0, .ref o1), (1, .int a1), (2, .int 11)]) hx hb dX0_seatsRest_29 hl (by decide) rfl (fun ls hl => ?_)
      have L1 : ∀ (N : Nat) (x86 : Int32) (H : Heap) (locs : List Loc) (ls : Array Slot), (12 - x86.toInt).toNat < N → Iv 0 12 x86 → va_P (dC, dI) vwCl ([(o1, .inr (0, [.ref o2, .ref o4, .ref o6, .int v8, .int v9, .int v10, .int v11, .int v12])), (o2, .inl (cI, 4096, .inl fw3)), (o4, .inl (cI, 12, .inl fw5)), (o6, .inl (cI, 12, .inl fw7))]) H → va_D A ([(o1, .inr (0, [.ref o2, .ref o4, .ref o6, .int v8, .int v9, .int v10, .int v11, .int v12])), (o2, .inl (cI, 4096, .inl fw3)), (o4, .inl (cI, 12, .inl fw5)), (o6, .inl (cI, 12, .inl fw7))]) → va_S A s.heap H locs → lv_has ls 5 [(4, .int x86), (3, .int x5), (0, .ref o1), (1, .int a1), (2, .int 11)] → W p l e ({ frames := 1, cells := 0, slots := 0, locals := 24 }) s m ([.ref o1, .int a1, .int 11] : List Value).toArray below meth c H locs 0 0 Q (F0 m 31 ls []) := by
        intro N
        induction N with
        | zero =>
          intro x86 H locs ls hM
          exact absurd hM (Nat.not_lt_zero _)
        | succ N ih1 =>
          intro x86 H locs ls hM1 x86_h hP hD hS hl
          refine lv_iload hx hb dX0_seatsRest_31 (lv_at hl 0 rfl) ?_
          refine lv_aload_n hx hb dX0_seatsRest_33 rfl (lv_at hl 2 rfl) ?_
          refine va_get (D := (dC, dI)) (ci := 0) (v := .int v9) (C := RX0) (T := TX0) (N := 8) hx hb hts iw_X0_seatsRest_X0 hown hK hP 0 rfl rfl 4 (by decide) (hts (.fieldLink RX0 25 "HolelessHouse$Benches" "width" "I") hm_X0_seatsRest_1) (fun _ h9 => h9) rfl dX0_seatsRest_34 ?_
          refine lv_icmp_ge (tgt := 81) hx hb dX0_seatsRest_37 (by decide) (fun h87 => ?_) (fun h87 => ?_)
          ·
            have qh87 := le_i h87
            have j88 : Iv 12 12 x86 := r_ler qh87 j2 x86_h (by decide)
            refine lv_aload_n hx hb dX0_seatsRest_81 rfl (lv_at hl 2 rfl) ?_
            refine va_get (D := (dC, dI)) (ci := 0) (v := .ref o2) (C := RX0) (T := TX0) (N := 8) hx hb hts iw_X0_seatsRest_X0 hown hK hP 0 rfl rfl 0 (by decide) (hts (.fieldLink RX0 38 "HolelessHouse$Benches" "notes" "[I") hm_X0_seatsRest_2) (fun _ h9 => h9) rfl dX0_seatsRest_82 ?_
            refine lv_iload_n hx hb dX0_seatsRest_85 rfl (lv_at hl 3 rfl) ?_
            refine lv_iconst (v := 1) hx hb dX0_seatsRest_86 (by decide) ?_
            refine k_iast hx hb hK hP hD hS 1 0 rfl rfl (vin_iv a1_h (by decide)) dX0_seatsRest_87 (fun f89 H locs f89_e hP hD hS => ?_)
            have hP : va_P (dC, dI) vwCl ([(o1, .inr (0, [.ref o2, .ref o4, .ref o6, .int v8, .int v9, .int v10, .int v11, .int v12])), (o2, .inl (cI, 4096, .inl f89)), (o4, .inl (cI, 12, .inl fw5)), (o6, .inl (cI, 12, .inl fw7))]) H := hP
            have hD : va_D A ([(o1, .inr (0, [.ref o2, .ref o4, .ref o6, .int v8, .int v9, .int v10, .int v11, .int v12])), (o2, .inl (cI, 4096, .inl f89)), (o4, .inl (cI, 12, .inl fw5)), (o6, .inl (cI, 12, .inl fw7))]) := hD
            refine lv_iconst (v := 0) hx hb dX0_seatsRest_88 (by decide) ?_
            rw [hQ]
            exact W.zret (v := 0) (ty := .boolean) hx hb hr rfl (fun t ht hW => ⟨⟨0, (f89, fw7), rfl, (iv_w ik_0 (by decide)), by rw [ht]; exact hP, va_K.moved hW.alike hK, hD⟩, hS.F ht⟩) hS.2.2 dX0_seatsRest_89
          ·
            have qh87 := nle_i h87
            have j90 : Iv 0 11 x86 := r_ltl qh87 x86_h j2 (by decide)
            refine lv_iload_n hx hb dX0_seatsRest_40 rfl (lv_at hl 1 rfl) ?_
            refine lv_iload hx hb dX0_seatsRest_41 (lv_at hl 0 rfl) ?_
            refine kc_i (D := (dC, dI)) (S := Unit) (wc := []) (wr := [(o1, .inr (0, [.ref o2, .ref o4, .ref o6, .int v8, .int v9, .int v10, .int v11, .int v12])), (o2, .inl (cI, 4096, .inl fw3)), (o4, .inl (cI, 12, .inl fw5)), (o6, .inl (cI, 12, .inl fw7))]) (w1 := fun _ => []) (wn := fun _ => [(o1, .inr (0, [.ref o2, .ref o4, .ref o6, .int v8, .int v9, .int v10, .int v11, .int v12])), (o2, .inl (cI, 4096, .inl fw3)), (o4, .inl (cI, 12, .inl fw5)), (o6, .inl (cI, 12, .inl fw7))]) (fun hPc hDc => va_runSN (As := [.int x5, .int x86]) (rest := []) ⟨hx, hb, hml, hown, hts⟩ (kX11_in_1 l dC dI cI c2 cZ x5 x86 H.size) ⟨va_cnB 2 hts gX0_seatsRest_X11_in_n62 rfl rfl rfl (hN.1 _ ns_125) (hts (.initialized RX11) hm_X0_seatsRest_12) (by decide +kernel) ⟨Nat.le_of_ble_eq_true rfl, Nat.le_of_ble_eq_true rfl⟩, (hts (.static yX11_in) hm_X0_seatsRest_11), trivial⟩ (pre_S hPc hK hDc hN) rfl rfl hl.1 rfl (lv_room (Nat.le_of_ble_eq_true rfl)) dX0_seatsRest_43 ⟨Nat.le_of_ble_eq_true rfl, Nat.le_of_ble_eq_true rfl⟩) hP hD hS hA [] [0, 1, 2, 3] [0, 1, 2, 3] rfl rfl (by decide +kernel) (by decide +kernel) (by decide +kernel) (by decide +kernel) (fun _ => rfl) (fun x91 _ H locs hq hP hD hS => ?_)
            have x91_h := hq
            have hP : va_P (dC, dI) vwCl ([(o1, .inr (0, [.ref o2, .ref o4, .ref o6, .int v8, .int v9, .int v10, .int v11, .int v12])), (o2, .inl (cI, 4096, .inl fw3)), (o4, .inl (cI, 12, .inl fw5)), (o6, .inl (cI, 12, .inl fw7))]) H := hP
            have hD : va_D A ([(o1, .inr (0, [.ref o2, .ref o4, .ref o6, .int v8, .int v9, .int v10, .int v11, .int v12])), (o2, .inl (cI, 4096, .inl fw3)), (o4, .inl (cI, 12, .inl fw5)), (o6, .inl (cI, 12, .inl fw7))]) := hD
            refine lv_if_eq (tgt := 75) hx hb dX0_seatsRest_46 (by decide) (fun h92 => ?_) (fun h92 => ?_)
            ·
              have j93 : Iv 0 0 x91 := r_eq h92 ik_0
              obtain ⟨x94, x94_e⟩ : ∃ z : Int32, z = x86 + 1 := ⟨_, rfl⟩
              have x94_h : Iv 1 12 x94 := iv_e x94_e (iv_add j90 ik_1 (by decide))
              refine lv_iinc (v := x94) (lv' := [(4, .int x94), (3, .int x5), (0, .ref o1), (1, .int a1), (2, .int 11)]) hx hb dX0_seatsRest_75 hl (k := 0) rfl (incN (by decide +kernel) x94_e) (by decide) rfl (fun ls hl => ?_)
              refine lv_goto (tgt := 31) hx hb dX0_seatsRest_78 (by decide) ?_
              exact ih1 x94 _ _ _ (ms_up x94_e j90 (by decide) hM1) (iv_w x94_h (by decide)) hP hD hS hl
            ·
              have j95 : Iv 1 1 x91 := r_nelo h92 x91_h ik_0 (by decide)
              refine lv_aload_n hx hb dX0_seatsRest_49 rfl (lv_at hl 2 rfl) ?_
              refine va_get (D := (dC, dI)) (ci := 0) (v := .ref o6) (C := RX0) (T := TX0) (N := 8) hx hb hts iw_X0_seatsRest_X0 hown hK hP 0 rfl rfl 2 (by decide) (hts (.fieldLink RX0 41 "HolelessHouse$Benches" "places" "[I") hm_X0_seatsRest_3) (fun _ h9 => h9) rfl dX0_seatsRest_50 ?_
              refine lv_iload_n hx hb dX0_seatsRest_53 rfl (lv_at hl 4 rfl) ?_
              refine lv_iload hx hb dX0_seatsRest_54 (lv_at hl 0 rfl) ?_
              refine k_iast hx hb hK hP hD hS 3 0 rfl rfl (vin_iv ik_11 (by decide)) dX0_seatsRest_56 (fun f96 H locs f96_e hP hD hS => ?_)
              have hP : va_P (dC, dI) vwCl ([(o1, .inr (0, [.ref o2, .ref o4, .ref o6, .int v8, .int v9, .int v10, .int v11, .int v12])), (o2, .inl (cI, 4096, .inl fw3)), (o4, .inl (cI, 12, .inl fw5)), (o6, .inl (cI, 12, .inl f96))]) H := hP
              have hD : va_D A ([(o1, .inr (0, [.ref o2, .ref o4, .ref o6, .int v8, .int v9, .int v10, .int v11, .int v12])), (o2, .inl (cI, 4096, .inl fw3)), (o4, .inl (cI, 12, .inl fw5)), (o6, .inl (cI, 12, .inl f96))]) := hD
              refine lv_aload_n hx hb dX0_seatsRest_57 rfl (lv_at hl 2 rfl) ?_
              refine lv_iload_n hx hb dX0_seatsRest_58 rfl (lv_at hl 3 rfl) ?_
              refine lv_iconst (v := 1) hx hb dX0_seatsRest_59 (by decide) ?_
              refine lv_iload hx hb dX0_seatsRest_60 (lv_at hl 0 rfl) ?_
              refine lv_ishl hx hb dX0_seatsRest_62 (lv_topi (fun x97 x97_e => ?_))
              have x97_h : Iv 1 2048 x97 := iv_e x97_e (iv_shl1 j90 (by decide))
              refine lv_ior hx hb dX0_seatsRest_63 (lv_topi (fun x98 x98_e => ?_))
              have x98_h : Iv 0 4095 x98 := iv_e x98_e (iv_or 12 a1_h x97_h (by decide))
              refine lv_iload_n hx hb dX0_seatsRest_64 rfl (lv_at hl 4 rfl) ?_
              refine lv_iconst (v := 1) hx hb dX0_seatsRest_65 (by decide) ?_
              refine lv_iadd hx hb dX0_seatsRest_66 (tk_i (v := 12) (by decide +kernel) ?_)
              refine kc_i (D := (dC, dI)) (S := Unit) (wc := [(o1, .inr (0, [.ref o2, .ref o4, .ref o6, .int v8, .int v9, .int v10, .int v11, .int v12]))]) (wr := [(o2, .inl (cI, 4096, .inl fw3)), (o4, .inl (cI, 12, .inl fw5)), (o6, .inl (cI, 12, .inl f96))]) (w1 := fun _ => [(o1, .inr (0, [.ref o2, .ref o4, .ref o6, .int v8, .int v9, .int v10, .int v11, .int v12]))]) (wn := fun _ => [(o1, .inr (0, [.ref o2, .ref o4, .ref o6, .int v8, .int v9, .int v10, .int v11, .int v12])), (o2, .inl (cI, 4096, .inl fw3)), (o4, .inl (cI, 12, .inl fw5)), (o6, .inl (cI, 12, .inl f96))]) (fun hPc hDc => va_runS (As := [.ref o1, .int x98, .int 12]) (rest := []) ⟨hx, hb, hml, hown, hts⟩ (kX0_seatsRest_1 l dC dI cI c2 cZ o1 o2 o4 o6 v8 v9 v10 v11 v12 x98 H.size v8_h (iv_w j2 (by decide)) v11_h x98_h) (va_cwS 3 hts gX0_seatsRest_X0_seatsRest rfl rfl rfl (by decide +kernel) ⟨Nat.le_of_ble_eq_true rfl, Nat.le_of_ble_eq_true rfl⟩) (pre_S hPc hK hDc hN) rfl rfl hl.1 rfl (lv_room (Nat.le_of_ble_eq_true rfl)) dX0_seatsRest_67 ⟨Nat.le_of_ble_eq_true rfl, Nat.le_of_ble_eq_true rfl⟩) hP hD hS hA [0] [1, 2, 3] [3, 0, 1, 2] rfl rfl (by decide +kernel) (by decide +kernel) (by decide +kernel) (by decide +kernel) (fun _ => rfl) (fun x99 _ H locs hq hP hD hS => ?_)
              have x99_h := hq
              have hP : va_P (dC, dI) vwCl ([(o1, .inr (0, [.ref o2, .ref o4, .ref o6, .int v8, .int v9, .int v10, .int v11, .int v12])), (o2, .inl (cI, 4096, .inl fw3)), (o4, .inl (cI, 12, .inl fw5)), (o6, .inl (cI, 12, .inl f96))]) H := hP
              have hD : va_D A ([(o1, .inr (0, [.ref o2, .ref o4, .ref o6, .int v8, .int v9, .int v10, .int v11, .int v12])), (o2, .inl (cI, 4096, .inl fw3)), (o4, .inl (cI, 12, .inl fw5)), (o6, .inl (cI, 12, .inl f96))]) := hD
              refine lv_if_eq (tgt := 75) hx hb dX0_seatsRest_70 (by decide) (fun h9 => absurd h9 (d_ne x99_h ik_0 (by decide))) (fun _ => ?_)
              refine lv_iconst (v := 1) hx hb dX0_seatsRest_73 (by decide) ?_
              rw [hQ]
              exact W.zret (v := 1) (ty := .boolean) hx hb hr rfl (fun t ht hW => ⟨⟨1, (fw3, f96), rfl, (iv_w ik_1 (by decide)), by rw [ht]; exact hP, va_K.moved hW.alike hK, hD⟩, hS.F ht⟩) hS.2.2 dX0_seatsRest_74
      exact L1 _ 0 _ _ _ (Nat.lt_succ_self _) (iv_w ik_0 (by decide)) hP hD hS hl
    ·
      have j100 : Iv 1 1 x3 := r_eq h4 ik_1
      refine lv_iconst (v := 0) hx hb dX0_seatsRest_20 (by decide) ?_
      rw [hQ]
      exact W.zret (v := 0) (ty := .boolean) hx hb hr rfl (fun t ht hW => ⟨⟨0, (fw3, fw7), rfl, (iv_w ik_0 (by decide)), by rw [ht]; exact hP, va_K.moved hW.alike hK, hD⟩, hS.F ht⟩) hS.2.2 dX0_seatsRest_21
  ·
    have qh1 := nlt_i h1
    have j101 : Iv 0 11 v9 := r_lel qh1 v9_h ik_11 (by decide)
    refine lv_iconst (v := 1) hx hb dX0_seatsRest_8 (by decide) ?_
    rw [hQ]
    exact W.zret (v := 1) (ty := .boolean) hx hb hr rfl (fun t ht hW => ⟨⟨1, (fw3, fw7), rfl, (iv_w ik_1 (by decide)), by rw [ht]; exact hP, va_K.moved hW.alike hK, hD⟩, hS.F ht⟩) hS.2.2 dX0_seatsRest_9
set_option maxHeartbeats 4000000 in
set_option maxRecDepth 100000 in
theorem kX0_seatsRest_3 (l : Launch) (dC : Nat → ClassId) (dI : Nat → Nat → Nat) (cI c2 cZ : ClassId) (o1 : Nat) (o2 : Nat) (o4 : Nat) (o6 : Nat) (fw3 : Nat → Int32) (fw5 : Nat → Int32) (fw7 : Nat → Int32) (v8 : Int32) (v9 : Int32) (v10 : Int32) (v11 : Int32) (v12 : Int32) (a1 : Int32) (sz : Nat) (v8_h : Iv 0 12 v8) (v9_h : Iv 0 12 v9) (v11_h : Iv 0 1 v11) (a1_h : Iv 0 4095 a1) : Met l yX0_seatsRest wsX0_seatsRest ({ frames := 2, cells := 0, slots := 0, locals := 48 }) (va_Pc [.ref o1, .int a1, .int 10] (wPre (dC, dI) [(cI, .int), (c2, .array .int), (cZ, .boolean)] ([(o1, .inr (0, [.ref o2, .ref o4, .ref o6, .int v8, .int v9, .int v10, .int v11, .int v12])), (o2, .inl (cI, 4096, .inl fw3)), (o4, .inl (cI, 12, .inl fw5)), (o6, .inl (cI, 12, .inl fw7))]) sz)) (va_Qi (fun (r : Int32) (u : (Nat → Int32) × (Nat → Int32)) => Iv 0 1 r) (fun u t => wPost (dC, dI) [(cI, .int), (c2, .array .int), (cZ, .boolean)] (va_A ([(o1, .inr (0, [.ref o2, .ref o4, .ref o6, .int v8, .int v9, .int v10, .int v11, .int v12])), (o2, .inl (cI, 4096, .inl fw3)), (o4, .inl (cI, 12, .inl fw5)), (o6, .inl (cI, 12, .inl fw7))]) sz) ([(o1, .inr (0, [.ref o2, .ref o4, .ref o6, .int v8, .int v9, .int v10, .int v11, .int v12])), (o2, .inl (cI, 4096, .inl u.1)), (o4, .inl (cI, 12, .inl fw5)), (o6, .inl (cI, 12, .inl u.2))]) t) (va_A ([(o1, .inr (0, [.ref o2, .ref o4, .ref o6, .int v8, .int v9, .int v10, .int v11, .int v12])), (o2, .inl (cI, 4096, .inl fw3)), (o4, .inl (cI, 12, .inl fw5)), (o6, .inl (cI, 12, .inl fw7))]) sz)) 0 0 (va_A ([(o1, .inr (0, [.ref o2, .ref o4, .ref o6, .int v8, .int v9, .int v10, .int v11, .int v12])), (o2, .inl (cI, 4096, .inl fw3)), (o4, .inl (cI, 12, .inl fw5)), (o6, .inl (cI, 12, .inl fw7))]) sz) := by
  refine Met.ofW (cc := cX0_seatsRest) (maxL := 5) (ret := (some .boolean)) (by decide) rfl ?_
  intro p e s m args below meth c s₁ B hml hv
  obtain ⟨rfl, hsz, hP, hK, hD0, hN⟩ := hv
  have hx := B.exec
  have hb := B.bytes
  have hr := B.returns
  have hts := atoms_spec (ws := wsX0_seatsRest) B.pre
  have hown : s.vm.findClass RX0 = some m.cls := findClass_of_methodNamed B.named
  have hlocks := B.notSynchronized
  subst hsz
  have hD := hD0.self (sz := s.heap.size)
  generalize hAe : va_A ([(o1, .inr (0, [.ref o2, .ref o4, .ref o6, .int v8, .int v9, .int v10, .int v11, .int v12])), (o2, .inl (cI, 4096, .inl fw3)), (o4, .inl (cI, 12, .inl fw5)), (o6, .inl (cI, 12, .inl fw7))]) s.heap.size = A at hD ⊢
  have hA : ∀ q : Nat, s.heap.size ≤ q → A q := fun q h => by rw [← hAe]; exact Or.inr h
  have hS : va_S A s.heap s.heap [] := va_S.rf
  have hP : va_P (dC, dI) vwCl ([(o1, .inr (0, [.ref o2, .ref o4, .ref o6, .int v8, .int v9, .int v10, .int v11, .int v12])), (o2, .inl (cI, 4096, .inl fw3)), (o4, .inl (cI, 12, .inl fw5)), (o6, .inl (cI, 12, .inl fw7))]) s.heap := hP
  have hl := lv_entry ([.ref o1, .int a1, .int 10]) (n := 5) (Nat.le_of_ble_eq_true rfl)
  rw [lg_entry_eq]
  generalize (lg_sl ([.ref o1, .int a1, .int 10]) ++ List.replicate (5 - (lg_sl ([.ref o1, .int a1, .int 10])).length) Slot.unset).toArray = ls at hl ⊢
  have hl : lv_has ls 5 [(0, .ref o1), (1, .int a1), (2, .int 10)] := hl
  refine gen_Q (fun Q hQ => ?_)
  refine lv_iload_n hx hb dX0_seatsRest_0 rfl (lv_at hl 2 rfl) ?_
  refine lv_aload_n hx hb dX0_seatsRest_1 rfl (lv_at hl 0 rfl) ?_
  refine va_get (D := (dC, dI)) (ci := 0) (v := .int v9) (C := RX0) (T := TX0) (N := 8) hx hb hts iw_X0_seatsRest_X0 hown hK hP 0 rfl rfl 4 (by decide) (hts (.fieldLink RX0 25 "HolelessHouse$Benches" "width" "I") hm_X0_seatsRest_1) (fun _ h9 => h9) rfl dX0_seatsRest_2 ?_
  refine lv_icmp_lt (tgt := 10) hx hb dX0_seatsRest_5 (by decide) (fun h1 => ?_) (fun h1 => ?_)
  ·
    have qh1 := lt_i h1
    have j2 : Iv 11 12 v9 := r_ltr qh1 ik_10 v9_h (by decide)
    refine lv_aload_n hx hb dX0_seatsRest_10 rfl (lv_at hl 0 rfl) ?_
    refine va_get (D := (dC, dI)) (ci := 0) (v := .ref o2) (C := RX0) (T := TX0) (N := 8) hx hb hts iw_X0_seatsRest_X0 hown hK hP 0 rfl rfl 0 (by decide) (hts (.fieldLink RX0 38 "HolelessHouse$Benches" "notes" "[I") hm_X0_seatsRest_2) (fun _ h9 => h9) rfl dX0_seatsRest_11 ?_
    refine lv_iload_n hx hb dX0_seatsRest_14 rfl (lv_at hl 1 rfl) ?_
    refine va_iald hx hb hK hP 1 0 rfl rfl (vin_iv a1_h (by decide)) dX0_seatsRest_15 (lv_topi (fun x3 x3_e => ?_))
    refine lv_iconst (v := 1) hx hb dX0_seatsRest_16 (by decide) ?_
    refine lv_icmp_ne (tgt := 22) hx hb dX0_seatsRest_17 (by decide) (fun h4 => ?_) (fun h4 => ?_)
    ·
      refine lv_aload_n hx hb dX0_seatsRest_22 rfl (lv_at hl 0 rfl) ?_
      refine lv_iload_n hx hb dX0_seatsRest_23 rfl (lv_at hl 1 rfl) ?_
      refine kc_i (D := (dC, dI)) (S := Unit) (wc := [(o1, .inr (0, [.ref o2, .ref o4, .ref o6, .int v8, .int v9, .int v10, .int v11, .int v12])), (o4, .inl (cI, 12, .inl fw5))]) (wr := [(o2, .inl (cI, 4096, .inl fw3)), (o6, .inl (cI, 12, .inl fw7))]) (w1 := fun _ => [(o1, .inr (0, [.ref o2, .ref o4, .ref o6, .int v8, .int v9, .int v10, .int v11, .int v12])), (o4, .inl (cI, 12, .inl fw5))]) (wn := fun _ => [(o1, .inr (0, [.ref o2, .ref o4, .ref o6, .int v8, .int v9, .int v10, .int v11, .int v12])), (o2, .inl (cI, 4096, .inl fw3)), (o4, .inl (cI, 12, .inl fw5)), (o6, .inl (cI, 12, .inl fw7))]) (fun hPc hDc => va_runV (As := [.int a1]) (rest := []) ⟨hx, hb, hml, hown, hts⟩ (kX0_mayCome_1 l dC dI cI c2 cZ o1 o2 o4 o6 fw5 v8 v9 v10 v11 v12 a1 s.heap.size v8_h (iv_w j2 (by decide)) v11_h a1_h) (cwV 1 hts gX0_seatsRest_X0_mayCome rfl rfl rfl (by decide +kernel) ⟨Nat.le_of_ble_eq_true rfl, Nat.le_of_ble_eq_true rfl⟩) (pre_V hPc hK hDc hN (ci := 0) (q0 := 0) rfl rfl) rfl rfl hl.1 rfl (lv_room (Nat.le_of_ble_eq_true rfl)) dX0_seatsRest_24 ⟨Nat.le_of_ble_eq_true rfl, Nat.le_of_ble_eq_true rfl⟩) hP hD hS hA [0, 2] [1, 3] [2, 0, 3, 1] rfl rfl (by decide +kernel) (by decide +kernel) (by decide +kernel) (by decide +kernel) (fun _ => rfl) (fun x5 _ H locs hq hP hD hS => ?_)
      have x5_h := hq
      have hP : va_P (dC, dI) vwCl ([(o1, .inr (0, [.ref o2, .ref o4, .ref o6, .int v8, .int v9, .int v10, .int v11, .int v12])), (o2, .inl (cI, 4096, .inl fw3)), (o4, .inl (cI, 12, .inl fw5)), (o6, .inl (cI, 12, .inl fw7))]) H := hP
      have hD : va_D A ([(o1, .inr (0, [.ref o2, .ref o4, .ref o6, .int v8, .int v9, .int v10, .int v11, .int v12])), (o2, .inl (cI, 4096, .inl fw3)), (o4, .inl (cI, 12, .inl fw5)), (o6, .inl (cI, 12, .inl fw7))]) := hD
      refine lv_istore_n (lv' := [(3, .int x5), (0, .ref o1), (1, .int a1), (2, .int 10)]) hx hb dX0_seatsRest_27 rfl hl (by decide) rfl (fun ls hl => ?_)
      refine lv_iconst (v := 0) hx hb dX0_seatsRest_28 (by decide) ?_
      refine lv_istore (lv' := [(4, .int 0), (3, .int x5), (0, .ref o1), (1, .int a1), (2, .int 10)]) hx hb dX0_seatsRest_29 hl (by decide) rfl (fun ls hl => ?_)
      have L1 : ∀ (N : Nat) (x150 : Int32) (f151 : Nat → Int32) (f152 : Nat → Int32) (H : Heap) (locs : List Loc) (ls : Array Slot), (12 - x150.toInt).toNat < N → Iv 0 12 x150 → va_P (dC, dI) vwCl ([(o1, .inr (0, [.ref o2, .ref o4, .ref o6, .int v8, .int v9, .int v10, .int v11, .int v12])), (o2, .inl (cI, 4096, .inl f151)), (o4, .inl (cI, 12, .inl fw5)), (o6, .inl (cI, 12, .inl f152))]) H → va_D A ([(o1, .inr (0, [.ref o2, .ref o4, .ref o6, .int v8, .int v9, .int v10, .int v11, .int v12])), (o2, .inl (cI, 4096, .inl f151)), (o4, .inl (cI, 12, .inl fw5)), (o6, .inl (cI, 12, .inl f152))]) → va_S A s.heap H locs → lv_has ls 5 [(4, .int x150), (3, .int x5), (0, .ref o1), (1, .int a1), (2, .int 10)] → W p l e ({ frames := 2, cells := 0, slots := 0, locals := 48 }) s m ([.ref o1, .int a1, .int 10] : List Value).toArray below meth c H locs 0 0 Q (F0 m 31 ls []) := by
        intro N
        induction N with
        | zero =>
          intro x150 f151 f152 H locs ls hM
          exact absurd hM (Nat.not_lt_zero _)
        | succ N ih1 =>
          intro x150 f151 f152 H locs ls hM1 x150_h hP hD hS hl
          refine lv_iload hx hb dX0_seatsRest_31 (lv_at hl 0 rfl) ?_
          refine lv_aload_n hx hb dX0_seatsRest_33 rfl (lv_at hl 2 rfl) ?_
          refine va_get (D := (dC, dI)) (ci := 0) (v := .int v9) (C := RX0) (T := TX0) (N := 8) hx hb hts iw_X0_seatsRest_X0 hown hK hP 0 rfl rfl 4 (by decide) (hts (.fieldLink RX0 25 "HolelessHouse$Benches" "width" "I") hm_X0_seatsRest_1) (fun _ h9 => h9) rfl dX0_seatsRest_34 ?_
          refine lv_icmp_ge (tgt := 81) hx hb dX0_seatsRest_37 (by decide) (fun h153 => ?_) (fun h153 => ?_)
          ·
            have qh153 := le_i h153
            have j154 : Iv 11 12 x150 := r_ler qh153 j2 x150_h (by decide)
            refine lv_aload_n hx hb dX0_seatsRest_81 rfl (lv_at hl 2 rfl) ?_
            refine va_get (D := (dC, dI)) (ci := 0) (v := .ref o2) (C := RX0) (T := TX0) (N := 8) hx hb hts iw_X0_seatsRest_X0 hown hK hP 0 rfl rfl 0 (by decide) (hts (.fieldLink RX0 38 "HolelessHouse$Benches" "notes" "[I") hm_X0_seatsRest_2) (fun _ h9 => h9) rfl dX0_seatsRest_82 ?_
            refine lv_iload_n hx hb dX0_seatsRest_85 rfl (lv_at hl 3 rfl) ?_
            refine lv_iconst (v := 1) hx hb dX0_seatsRest_86 (by decide) ?_
            refine k_iast hx hb hK hP hD hS 1 0 rfl rfl (vin_iv a1_h (by decide)) dX0_seatsRest_87 (fun f155 H locs f155_e hP hD hS => ?_)
            have hP : va_P (dC, dI) vwCl ([(o1, .inr (0, [.ref o2, .ref o4, .ref o6, .int v8, .int v9, .int v10, .int v11, .int v12])), (o2, .inl (cI, 4096, .inl f155)), (o4, .inl (cI, 12, .inl fw5)), (o6, .inl (cI, 12, .inl f152))]) H := hP
            have hD : va_D A ([(o1, .inr (0, [.ref o2, .ref o4, .ref o6, .int v8, .int v9, .int v10, .int v11, .int v12])), (o2, .inl (cI, 4096, .inl f155)), (o4, .inl (cI, 12, .inl fw5)), (o6, .inl (cI, 12, .inl f152))]) := hD
            refine lv_iconst (v := 0) hx hb dX0_seatsRest_88 (by decide) ?_
            rw [hQ]
            exact W.zret (v := 0) (ty := .boolean) hx hb hr rfl (fun t ht hW => ⟨⟨0, (f155, f152), rfl, (iv_w ik_0 (by decide)), by rw [ht]; exact hP, va_K.moved hW.alike hK, hD⟩, hS.F ht⟩) hS.2.2 dX0_seatsRest_89
          ·
            have qh153 := nle_i h153
            have j156 : Iv 0 11 x150 := r_ltl qh153 x150_h j2 (by decide)
            refine lv_iload_n hx hb dX0_seatsRest_40 rfl (lv_at hl 1 rfl) ?_
            refine lv_iload hx hb dX0_seatsRest_41 (lv_at hl 0 rfl) ?_
            refine kc_i (D := (dC, dI)) (S := Unit) (wc := []) (wr := [(o1, .inr (0, [.ref o2, .ref o4, .ref o6, .int v8, .int v9, .int v10, .int v11, .int v12])), (o2, .inl (cI, 4096, .inl f151)), (o4, .inl (cI, 12, .inl fw5)), (o6, .inl (cI, 12, .inl f152))]) (w1 := fun _ => []) (wn := fun _ => [(o1, .inr (0, [.ref o2, .ref o4, .ref o6, .int v8, .int v9, .int v10, .int v11, .int v12])), (o2, .inl (cI, 4096, .inl f151)), (o4, .inl (cI, 12, .inl fw5)), (o6, .inl (cI, 12, .inl f152))]) (fun hPc hDc => va_runSN (As := [.int x5, .int x150]) (rest := []) ⟨hx, hb, hml, hown, hts⟩ (kX11_in_1 l dC dI cI c2 cZ x5 x150 H.size) ⟨va_cnB 2 hts gX0_seatsRest_X11_in_n62 rfl rfl rfl (hN.1 _ ns_125) (hts (.initialized RX11) hm_X0_seatsRest_12) (by decide +kernel) ⟨Nat.le_of_ble_eq_true rfl, Nat.le_of_ble_eq_true rfl⟩, (hts (.static yX11_in) hm_X0_seatsRest_11), trivial⟩ (pre_S hPc hK hDc hN) rfl rfl hl.1 rfl (lv_room (Nat.le_of_ble_eq_true rfl)) dX0_seatsRest_43 ⟨Nat.le_of_ble_eq_true rfl, Nat.le_of_ble_eq_true rfl⟩) hP hD hS hA [] [0, 1, 2, 3] [0, 1, 2, 3] rfl rfl (by decide +kernel) (by decide +kernel) (by decide +kernel) (by decide +kernel) (fun _ => rfl) (fun x157 _ H locs hq hP hD hS => ?_)
            have x157_h := hq
            have hP : va_P (dC, dI) vwCl ([(o1, .inr (0, [.ref o2, .ref o4, .ref o6, .int v8, .int v9, .int v10, .int v11, .int v12])), (o2, .inl (cI, 4096, .inl f151)), (o4, .inl (cI, 12, .inl fw5)), (o6, .inl (cI, 12, .inl f152))]) H := hP
            have hD : va_D A ([(o1, .inr (0, [.ref o2, .ref o4, .ref o6, .int v8, .int v9, .int v10, .int v11, .int v12])), (o2, .inl (cI, 4096, .inl f151)), (o4, .inl (cI, 12, .inl fw5)), (o6, .inl (cI, 12, .inl f152))]) := hD
            refine lv_if_eq (tgt := 75) hx hb dX0_seatsRest_46 (by decide) (fun h158 => ?_) (fun h158 => ?_)
            ·
              have j159 : Iv 0 0 x157 := r_eq h158 ik_0
              obtain ⟨x160, x160_e⟩ : ∃ z : Int32, z = x150 + 1 := ⟨_, rfl⟩
              have x160_h : Iv 1 12 x160 := iv_e x160_e (iv_add j156 ik_1 (by decide))
              refine lv_iinc (v := x160) (lv' := [(4, .int x160), (3, .int x5), (0, .ref o1), (1, .int a1), (2, .int 10)]) hx hb dX0_seatsRest_75 hl (k := 0) rfl (incN (by decide +kernel) x160_e) (by decide) rfl (fun ls hl => ?_)
              refine lv_goto (tgt := 31) hx hb dX0_seatsRest_78 (by decide) ?_
              exact ih1 x160 f151 f152 _ _ _ (ms_up x160_e j156 (by decide) hM1) (iv_w x160_h (by decide)) hP hD hS hl
            ·
              have j161 : Iv 1 1 x157 := r_nelo h158 x157_h ik_0 (by decide)
              refine lv_aload_n hx hb dX0_seatsRest_49 rfl (lv_at hl 2 rfl) ?_
              refine va_get (D := (dC, dI)) (ci := 0) (v := .ref o6) (C := RX0) (T := TX0) (N := 8) hx hb hts iw_X0_seatsRest_X0 hown hK hP 0 rfl rfl 2 (by decide) (hts (.fieldLink RX0 41 "HolelessHouse$Benches" "places" "[I") hm_X0_seatsRest_3) (fun _ h9 => h9) rfl dX0_seatsRest_50 ?_
              refine lv_iload_n hx hb dX0_seatsRest_53 rfl (lv_at hl 4 rfl) ?_
              refine lv_iload hx hb dX0_seatsRest_54 (lv_at hl 0 rfl) ?_
              refine k_iast hx hb hK hP hD hS 3 0 rfl rfl (vin_iv ik_10 (by decide)) dX0_seatsRest_56 (fun f162 H locs f162_e hP hD hS => ?_)
              have hP : va_P (dC, dI) vwCl ([(o1, .inr (0, [.ref o2, .ref o4, .ref o6, .int v8, .int v9, .int v10, .int v11, .int v12])), (o2, .inl (cI, 4096, .inl f151)), (o4, .inl (cI, 12, .inl fw5)), (o6, .inl (cI, 12, .inl f162))]) H := hP
              have hD : va_D A ([(o1, .inr (0, [.ref o2, .ref o4, .ref o6, .int v8, .int v9, .int v10, .int v11, .int v12])), (o2, .inl (cI, 4096, .inl f151)), (o4, .inl (cI, 12, .inl fw5)), (o6, .inl (cI, 12, .inl f162))]) := hD
              refine lv_aload_n hx hb dX0_seatsRest_57 rfl (lv_at hl 2 rfl) ?_
              refine lv_iload_n hx hb dX0_seatsRest_58 rfl (lv_at hl 3 rfl) ?_
              refine lv_iconst (v := 1) hx hb dX0_seatsRest_59 (by decide) ?_
              refine lv_iload hx hb dX0_seatsRest_60 (lv_at hl 0 rfl) ?_
              refine lv_ishl hx hb dX0_seatsRest_62 (lv_topi (fun x163 x163_e => ?_))
              have x163_h : Iv 1 2048 x163 := iv_e x163_e (iv_shl1 j156 (by decide))
              refine lv_ior hx hb dX0_seatsRest_63 (lv_topi (fun x164 x164_e => ?_))
              have x164_h : Iv 0 4095 x164 := iv_e x164_e (iv_or 12 a1_h x163_h (by decide))
              refine lv_iload_n hx hb dX0_seatsRest_64 rfl (lv_at hl 4 rfl) ?_
              refine lv_iconst (v := 1) hx hb dX0_seatsRest_65 (by decide) ?_
              refine lv_iadd hx hb dX0_seatsRest_66 (tk_i (v := 11) (by decide +kernel) ?_)
              refine kc_i (D := (dC, dI)) (S := (Nat → Int32) × (Nat → Int32)) (wc := [(o1, .inr (0, [.ref o2, .ref o4, .ref o6, .int v8, .int v9, .int v10, .int v11, .int v12])), (o2, .inl (cI, 4096, .inl f151)), (o4, .inl (cI, 12, .inl fw5)), (o6, .inl (cI, 12, .inl f162))]) (wr := []) (w1 := fun u => [(o1, .inr (0, [.ref o2, .ref o4, .ref o6, .int v8, .int v9, .int v10, .int v11, .int v12])), (o2, .inl (cI, 4096, .inl u.1)), (o4, .inl (cI, 12, .inl fw5)), (o6, .inl (cI, 12, .inl u.2))]) (wn := fun u => [(o1, .inr (0, [.ref o2, .ref o4, .ref o6, .int v8, .int v9, .int v10, .int v11, .int v12])), (o2, .inl (cI, 4096, .inl u.1)), (o4, .inl (cI, 12, .inl fw5)), (o6, .inl (cI, 12, .inl u.2))]) (fun hPc hDc => va_runS (As := [.ref o1, .int x164, .int 11]) (rest := []) ⟨hx, hb, hml, hown, hts⟩ (kX0_seatsRest_2 l dC dI cI c2 cZ o1 o2 o4 o6 f151 fw5 f162 v8 v9 v10 v11 v12 x164 H.size v8_h (iv_w j2 (by decide)) v11_h x164_h) (va_cwS 3 hts gX0_seatsRest_X0_seatsRest rfl rfl rfl (by decide +kernel) ⟨Nat.le_of_ble_eq_true rfl, Nat.le_of_ble_eq_true rfl⟩) (pre_S hPc hK hDc hN) rfl rfl hl.1 rfl (lv_room (Nat.le_of_ble_eq_true rfl)) dX0_seatsRest_67 ⟨Nat.le_of_ble_eq_true rfl, Nat.le_of_ble_eq_true rfl⟩) hP hD hS hA [0, 1, 2, 3] [] [0, 1, 2, 3] rfl rfl (by decide +kernel) (by decide +kernel) (by decide +kernel) (by decide +kernel) (fun _ => rfl) (fun x167 u H locs hq hP hD hS => ?_)
              obtain ⟨f165, f166⟩ := u
              have x167_h := hq
              have hP : va_P (dC, dI) vwCl ([(o1, .inr (0, [.ref o2, .ref o4, .ref o6, .int v8, .int v9, .int v10, .int v11, .int v12])), (o2, .inl (cI, 4096, .inl f165)), (o4, .inl (cI, 12, .inl fw5)), (o6, .inl (cI, 12, .inl f166))]) H := hP
              have hD : va_D A ([(o1, .inr (0, [.ref o2, .ref o4, .ref o6, .int v8, .int v9, .int v10, .int v11, .int v12])), (o2, .inl (cI, 4096, .inl f165)), (o4, .inl (cI, 12, .inl fw5)), (o6, .inl (cI, 12, .inl f166))]) := hD
              refine lv_if_eq (tgt := 75) hx hb dX0_seatsRest_70 (by decide) (fun h168 => ?_) (fun h168 => ?_)
              ·
                have j169 : Iv 0 0 x167 := r_eq h168 ik_0
                obtain ⟨x170, x170_e⟩ : ∃ z : Int32, z = x150 + 1 := ⟨_, rfl⟩
                have x170_h : Iv 1 12 x170 := iv_e x170_e (iv_add j156 ik_1 (by decide))
                refine lv_iinc (v := x170) (lv' := [(4, .int x170), (3, .int x5), (0, .ref o1), (1, .int a1), (2, .int 10)]) hx hb dX0_seatsRest_75 hl (k := 0) rfl (incN (by decide +kernel) x170_e) (by decide) rfl (fun ls hl => ?_)
                refine lv_goto (tgt := 31) hx hb dX0_seatsRest_78 (by decide) ?_
                exact ih1 x170 f165 f166 _ _ _ (ms_up x170_e j156 (by decide) hM1) (iv_w x170_h (by decide)) hP hD hS hl
              ·
                have j171 : Iv 1 1 x167 := r_nelo h168 x167_h ik_0 (by decide)
                refine lv_iconst (v := 1) hx hb dX0_seatsRest_73 (by decide) ?_
                rw [hQ]
                exact W.zret (v := 1) (ty := .boolean) hx hb hr rfl (fun t ht hW => ⟨⟨1, (f165, f166), rfl, (iv_w ik_1 (by decide)), by rw [ht]; exact hP, va_K.moved hW.alike hK, hD⟩, hS.F ht⟩) hS.2.2 dX0_seatsRest_74
      exact L1 _ 0 fw3 fw7 _ _ _ (Nat.lt_succ_self _) (iv_w ik_0 (by decide)) hP hD hS hl
    ·
      have j172 : Iv 1 1 x3 := r_eq h4 ik_1
      refine lv_iconst (v := 0) hx hb dX0_seatsRest_20 (by decide) ?_
      rw [hQ]
      exact W.zret (v := 0) (ty := .boolean) hx hb hr rfl (fun t ht hW => ⟨⟨0, (fw3, fw7), rfl, (iv_w ik_0 (by decide)), by rw [ht]; exact hP, va_K.moved hW.alike hK, hD⟩, hS.F ht⟩) hS.2.2 dX0_seatsRest_21
  ·
    have qh1 := nlt_i h1
    have j173 : Iv 0 10 v9 := r_lel qh1 v9_h ik_10 (by decide)
    refine lv_iconst (v := 1) hx hb dX0_seatsRest_8 (by decide) ?_
    rw [hQ]
    exact W.zret (v := 1) (ty := .boolean) hx hb hr rfl (fun t ht hW => ⟨⟨1, (fw3, fw7), rfl, (iv_w ik_1 (by decide)), by rw [ht]; exact hP, va_K.moved hW.alike hK, hD⟩, hS.F ht⟩) hS.2.2 dX0_seatsRest_9
set_option maxHeartbeats 4000000 in
set_option maxRecDepth 100000 in
theorem kX0_seatsRest_4 (l : Launch) (dC : Nat → ClassId) (dI : Nat → Nat → Nat) (cI c2 cZ : ClassId) (o1 : Nat) (o2 : Nat) (o4 : Nat) (o6 : Nat) (fw3 : Nat → Int32) (fw5 : Nat → Int32) (fw7 : Nat → Int32) (v8 : Int32) (v9 : Int32) (v10 : Int32) (v11 : Int32) (v12 : Int32) (a1 : Int32) (sz : Nat) (v8_h : Iv 0 12 v8) (v9_h : Iv 0 12 v9) (v11_h : Iv 0 1 v11) (a1_h : Iv 0 4095 a1) : Met l yX0_seatsRest wsX0_seatsRest ({ frames := 3, cells := 0, slots := 0, locals := 72 }) (va_Pc [.ref o1, .int a1, .int 9] (wPre (dC, dI) [(cI, .int), (c2, .array .int), (cZ, .boolean)] ([(o1, .inr (0, [.ref o2, .ref o4, .ref o6, .int v8, .int v9, .int v10, .int v11, .int v12])), (o2, .inl (cI, 4096, .inl fw3)), (o4, .inl (cI, 12, .inl fw5)), (o6, .inl (cI, 12, .inl fw7))]) sz)) (va_Qi (fun (r : Int32) (u : (Nat → Int32) × (Nat → Int32)) => Iv 0 1 r) (fun u t => wPost (dC, dI) [(cI, .int), (c2, .array .int), (cZ, .boolean)] (va_A ([(o1, .inr (0, [.ref o2, .ref o4, .ref o6, .int v8, .int v9, .int v10, .int v11, .int v12])), (o2, .inl (cI, 4096, .inl fw3)), (o4, .inl (cI, 12, .inl fw5)), (o6, .inl (cI, 12, .inl fw7))]) sz) ([(o1, .inr (0, [.ref o2, .ref o4, .ref o6, .int v8, .int v9, .int v10, .int v11, .int v12])), (o2, .inl (cI, 4096, .inl u.1)), (o4, .inl (cI, 12, .inl fw5)), (o6, .inl (cI, 12, .inl u.2))]) t) (va_A ([(o1, .inr (0, [.ref o2, .ref o4, .ref o6, .int v8, .int v9, .int v10, .int v11, .int v12])), (o2, .inl (cI, 4096, .inl fw3)), (o4, .inl (cI, 12, .inl fw5)), (o6, .inl (cI, 12, .inl fw7))]) sz)) 0 0 (va_A ([(o1, .inr (0, [.ref o2, .ref o4, .ref o6, .int v8, .int v9, .int v10, .int v11, .int v12])), (o2, .inl (cI, 4096, .inl fw3)), (o4, .inl (cI, 12, .inl fw5)), (o6, .inl (cI, 12, .inl fw7))]) sz) := by
  refine Met.ofW (cc := cX0_seatsRest) (maxL := 5) (ret := (some .boolean)) (by decide) rfl ?_
  intro p e s m args below meth c s₁ B hml hv
  obtain ⟨rfl, hsz, hP, hK, hD0, hN⟩ := hv
  have hx := B.exec
  have hb := B.bytes
  have hr := B.returns
  have hts := atoms_spec (ws := wsX0_seatsRest) B.pre
  have hown : s.vm.findClass RX0 = some m.cls := findClass_of_methodNamed B.named
  have hlocks := B.notSynchronized
  subst hsz
  have hD := hD0.self (sz := s.heap.size)
  generalize hAe : va_A ([(o1, .inr (0, [.ref o2, .ref o4, .ref o6, .int v8, .int v9, .int v10, .int v11, .int v12])), (o2, .inl (cI, 4096, .inl fw3)), (o4, .inl (cI, 12, .inl fw5)), (o6, .inl (cI, 12, .inl fw7))]) s.heap.size = A at hD ⊢
  have hA : ∀ q : Nat, s.heap.size ≤ q → A q := fun q h => by rw [← hAe]; exact Or.inr h
  have hS : va_S A s.heap s.heap [] := va_S.rf
  have hP : va_P (dC, dI) vwCl ([(o1, .inr (0, [.ref o2, .ref o4, .ref o6, .int v8, .int v9, .int v10, .int v11, .int v12])), (o2, .inl (cI, 4096, .inl fw3)), (o4, .inl (cI, 12, .inl fw5)), (o6, .inl (cI, 12, .inl fw7))]) s.heap := hP
  have hl := lv_entry ([.ref o1, .int a1, .int 9]) (n := 5) (Nat.le_of_ble_eq_true rfl)
  rw [lg_entry_eq]
  generalize (lg_sl ([.ref o1, .int a1, .int 9]) ++ List.replicate (5 - (lg_sl ([.ref o1, .int a1, .int 9])).length) Slot.unset).toArray = ls at hl ⊢
  have hl : lv_has ls 5 [(0, .ref o1), (1, .int a1), (2, .int 9)] := hl
  refine gen_Q (fun Q hQ => ?_)
  refine lv_iload_n hx hb dX0_seatsRest_0 rfl (lv_at hl 2 rfl) ?_
  refine lv_aload_n hx hb dX0_seatsRest_1 rfl (lv_at hl 0 rfl) ?_
  refine va_get (D := (dC, dI)) (ci := 0) (v := .int v9) (C := RX0) (T := TX0) (N := 8) hx hb hts iw_X0_seatsRest_X0 hown hK hP 0 rfl rfl 4 (by decide) (hts (.fieldLink RX0 25 "HolelessHouse$Benches" "width" "I") hm_X0_seatsRest_1) (fun _ h9 => h9) rfl dX0_seatsRest_2 ?_
  refine lv_icmp_lt (tgt := 10) hx hb dX0_seatsRest_5 (by decide) (fun h1 => ?_) (fun h1 => ?_)
  ·
    have qh1 := lt_i h1
    have j2 : Iv 10 12 v9 := r_ltr qh1 ik_9 v9_h (by decide)
    refine lv_aload_n hx hb dX0_seatsRest_10 rfl (lv_at hl 0 rfl) ?_
    refine va_get (D := (dC, dI)) (ci := 0) (v := .ref o2) (C := RX0) (T := TX0) (N := 8) hx hb hts iw_X0_seatsRest_X0 hown hK hP 0 rfl rfl 0 (by decide) (hts (.fieldLink RX0 38 "HolelessHouse$Benches" "notes" "[I") hm_X0_seatsRest_2) (fun _ h9 => h9) rfl dX0_seatsRest_11 ?_
    refine lv_iload_n hx hb dX0_seatsRest_14 rfl (lv_at hl 1 rfl) ?_
    refine va_iald hx hb hK hP 1 0 rfl rfl (vin_iv a1_h (by decide)) dX0_seatsRest_15 (lv_topi (fun x3 x3_e => ?_))
    refine lv_iconst (v := 1) hx hb dX0_seatsRest_16 (by decide) ?_
    refine lv_icmp_ne (tgt := 22) hx hb dX0_seatsRest_17 (by decide) (fun h4 => ?_) (fun h4 => ?_)
    ·
      refine lv_aload_n hx hb dX0_seatsRest_22 rfl (lv_at hl 0 rfl) ?_
      refine lv_iload_n hx hb dX0_seatsRest_23 rfl (lv_at hl 1 rfl) ?_
      refine kc_i (D := (dC, dI)) (S := Unit) (wc := [(o1, .inr (0, [.ref o2, .ref o4, .ref o6, .int v8, .int v9, .int v10, .int v11, .int v12])), (o4, .inl (cI, 12, .inl fw5))]) (wr := [(o2, .inl (cI, 4096, .inl fw3)), (o6, .inl (cI, 12, .inl fw7))]) (w1 := fun _ => [(o1, .inr (0, [.ref o2, .ref o4, .ref o6, .int v8, .int v9, .int v10, .int v11, .int v12])), (o4, .inl (cI, 12, .inl fw5))]) (wn := fun _ => [(o1, .inr (0, [.ref o2, .ref o4, .ref o6, .int v8, .int v9, .int v10, .int v11, .int v12])), (o2, .inl (cI, 4096, .inl fw3)), (o4, .inl (cI, 12, .inl fw5)), (o6, .inl (cI, 12, .inl fw7))]) (fun hPc hDc => va_runV (As := [.int a1]) (rest := []) ⟨hx, hb, hml, hown, hts⟩ (kX0_mayCome_1 l dC dI cI c2 cZ o1 o2 o4 o6 fw5 v8 v9 v10 v11 v12 a1 s.heap.size v8_h (iv_w j2 (by decide)) v11_h a1_h) (cwV 1 hts gX0_seatsRest_X0_mayCome rfl rfl rfl (by decide +kernel) ⟨Nat.le_of_ble_eq_true rfl, Nat.le_of_ble_eq_true rfl⟩) (pre_V hPc hK hDc hN (ci := 0) (q0 := 0) rfl rfl) rfl rfl hl.1 rfl (lv_room (Nat.le_of_ble_eq_true rfl)) dX0_seatsRest_24 ⟨Nat.le_of_ble_eq_true rfl, Nat.le_of_ble_eq_true rfl⟩) hP hD hS hA [0, 2] [1, 3] [2, 0, 3, 1] rfl rfl (by decide +kernel) (by decide +kernel) (by decide +kernel) (by decide +kernel) (fun _ => rfl) (fun x5 _ H locs hq hP hD hS => ?_)
      have x5_h := hq
      have hP : va_P (dC, dI) vwCl ([(o1, .inr (0, [.ref o2, .ref o4, .ref o6, .int v8, .int v9, .int v10, .int v11, .int v12])), (o2, .inl (cI, 4096, .inl fw3)), (o4, .inl (cI, 12, .inl fw5)), (o6, .inl (cI, 12, .inl fw7))]) H := hP
      have hD : va_D A ([(o1, .inr (0, [.ref o2, .ref o4, .ref o6, .int v8, .int v9, .int v10, .int v11, .int v12])), (o2, .inl (cI, 4096, .inl fw3)), (o4, .inl (cI, 12, .inl fw5)), (o6, .inl (cI, 12, .inl fw7))]) := hD
      refine lv_istore_n (lv' := [(3, .int x5), (0, .ref o1), (1, .int a1), (2, .int 9)]) hx hb dX0_seatsRest_27 rfl hl (by decide) rfl (fun ls hl => ?_)
      refine lv_iconst (v := 0) hx hb dX0_seatsRest_28 (by decide) ?_
      refine lv_istore (lv' := [(4, .int 0), (3, .int x5), (0, .ref o1), (1, .int a1), (2, .int 9)]) hx hb dX0_seatsRest_29 hl (by decide) rfl (fun ls hl => ?_)
      have L1 : ∀ (N : Nat) (x150 : Int32) (f151 : Nat → Int32) (f152 : Nat → Int32) (H : Heap) (locs : List Loc) (ls : Array Slot), (12 - x150.toInt).toNat < N → Iv 0 12 x150 → va_P (dC, dI) vwCl ([(o1, .inr (0, [.ref o2, .ref o4, .ref o6, .int v8, .int v9, .int v10, .int v11, .int v12])), (o2, .inl (cI, 4096, .inl f151)), (o4, .inl (cI, 12, .inl fw5)), (o6, .inl (cI, 12, .inl f152))]) H → va_D A ([(o1, .inr (0, [.ref o2, .ref o4, .ref o6, .int v8, .int v9, .int v10, .int v11, .int v12])), (o2, .inl (cI, 4096, .inl f151)), (o4, .inl (cI, 12, .inl fw5)), (o6, .inl (cI, 12, .inl f152))]) → va_S A s.heap H locs → lv_has ls 5 [(4, .int x150), (3, .int x5), (0, .ref o1), (1, .int a1), (2, .int 9)] → W p l e ({ frames := 3, cells := 0, slots := 0, locals := 72 }) s m ([.ref o1, .int a1, .int 9] : List Value).toArray below meth c H locs 0 0 Q (F0 m 31 ls []) := by
        intro N
        induction N with
        | zero =>
          intro x150 f151 f152 H locs ls hM
          exact absurd hM (Nat.not_lt_zero _)
        | succ N ih1 =>
          intro x150 f151 f152 H locs ls hM1 x150_h hP hD hS hl
          refine lv_iload hx hb dX0_seatsRest_31 (lv_at hl 0 rfl) ?_
          refine lv_aload_n hx hb dX0_seatsRest_33 rfl (lv_at hl 2 rfl) ?_
          refine va_get (D := (dC, dI)) (ci := 0) (v := .int v9) (C := RX0) (T := TX0) (N := 8) hx hb hts iw_X0_seatsRest_X0 hown hK hP 0 rfl rfl 4 (by decide) (hts (.fieldLink RX0 25 "HolelessHouse$Benches" "width" "I") hm_X0_seatsRest_1) (fun _ h9 => h9) rfl dX0_seatsRest_34 ?_
          refine lv_icmp_ge (tgt := 81) hx hb dX0_seatsRest_37 (by decide) (fun h153 => ?_) (fun h153 => ?_)
          ·
            have qh153 := le_i h153
            have j154 : Iv 10 12 x150 := r_ler qh153 j2 x150_h (by decide)
            refine lv_aload_n hx hb dX0_seatsRest_81 rfl (lv_at hl 2 rfl) ?_
            refine va_get (D := (dC, dI)) (ci := 0) (v := .ref o2) (C := RX0) (T := TX0) (N := 8) hx hb hts iw_X0_seatsRest_X0 hown hK hP 0 rfl rfl 0 (by decide) (hts (.fieldLink RX0 38 "HolelessHouse$Benches" "notes" "[I") hm_X0_seatsRest_2) (fun _ h9 => h9) rfl dX0_seatsRest_82 ?_
            refine lv_iload_n hx hb dX0_seatsRest_85 rfl (lv_at hl 3 rfl) ?_
            refine lv_iconst (v := 1) hx hb dX0_seatsRest_86 (by decide) ?_
            refine k_iast hx hb hK hP hD hS 1 0 rfl rfl (vin_iv a1_h (by decide)) dX0_seatsRest_87 (fun f155 H locs f155_e hP hD hS => ?_)
            have hP : va_P (dC, dI) vwCl ([(o1, .inr (0, [.ref o2, .ref o4, .ref o6, .int v8, .int v9, .int v10, .int v11, .int v12])), (o2, .inl (cI, 4096, .inl f155)), (o4, .inl (cI, 12, .inl fw5)), (o6, .inl (cI, 12, .inl f152))]) H := hP
            have hD : va_D A ([(o1, .inr (0, [.ref o2, .ref o4, .ref o6, .int v8, .int v9, .int v10, .int v11, .int v12])), (o2, .inl (cI, 4096, .inl f155)), (o4, .inl (cI, 12, .inl fw5)), (o6, .inl (cI, 12, .inl f152))]) := hD
            refine lv_iconst (v := 0) hx hb dX0_seatsRest_88 (by decide) ?_
            rw [hQ]
            exact W.zret (v := 0) (ty := .boolean) hx hb hr rfl (fun t ht hW => ⟨⟨0, (f155, f152), rfl, (iv_w ik_0 (by decide)), by rw [ht]; exact hP, va_K.moved hW.alike hK, hD⟩, hS.F ht⟩) hS.2.2 dX0_seatsRest_89
          ·
            have qh153 := nle_i h153
            have j156 : Iv 0 11 x150 := r_ltl qh153 x150_h j2 (by decide)
            refine lv_iload_n hx hb dX0_seatsRest_40 rfl (lv_at hl 1 rfl) ?_
            refine lv_iload hx hb dX0_seatsRest_41 (lv_at hl 0 rfl) ?_
            refine kc_i (D := (dC, dI)) (S := Unit) (wc := []) (wr := [(o1, .inr (0, [.ref o2, .ref o4, .ref o6, .int v8, .int v9, .int v10, .int v11, .int v12])), (o2, .inl (cI, 4096, .inl f151)), (o4, .inl (cI, 12, .inl fw5)), (o6, .inl (cI, 12, .inl f152))]) (w1 := fun _ => []) (wn := fun _ => [(o1, .inr (0, [.ref o2, .ref o4, .ref o6, .int v8, .int v9, .int v10, .int v11, .int v12])), (o2, .inl (cI, 4096, .inl f151)), (o4, .inl (cI, 12, .inl fw5)), (o6, .inl (cI, 12, .inl f152))]) (fun hPc hDc => va_runSN (As := [.int x5, .int x150]) (rest := []) ⟨hx, hb, hml, hown, hts⟩ (kX11_in_1 l dC dI cI c2 cZ x5 x150 H.size) ⟨va_cnB 2 hts gX0_seatsRest_X11_in_n62 rfl rfl rfl (hN.1 _ ns_125) (hts (.initialized RX11) hm_X0_seatsRest_12) (by decide +kernel) ⟨Nat.le_of_ble_eq_true rfl, Nat.le_of_ble_eq_true rfl⟩, (hts (.static yX11_in) hm_X0_seatsRest_11), trivial⟩ (pre_S hPc hK hDc hN) rfl rfl hl.1 rfl (lv_room (Nat.le_of_ble_eq_true rfl)) dX0_seatsRest_43 ⟨Nat.le_of_ble_eq_true rfl, Nat.le_of_ble_eq_true rfl⟩) hP hD hS hA [] [0, 1, 2, 3] [0, 1, 2, 3] rfl rfl (by decide +kernel) (by decide +kernel) (by decide +kernel) (by decide +kernel) (fun _ => rfl) (fun x157 _ H locs hq hP hD hS => ?_)
            have x157_h := hq
            have hP : va_P (dC, dI) vwCl ([(o1, .inr (0, [.ref o2, .ref o4, .ref o6, .int v8, .int v9, .int v10, .int v11, .int v12])), (o2, .inl (cI, 4096, .inl f151)), (o4, .inl (cI, 12, .inl fw5)), (o6, .inl (cI, 12, .inl f152))]) H := hP
            have hD : va_D A ([(o1, .inr (0, [.ref o2, .ref o4, .ref o6, .int v8, .int v9, .int v10, .int v11, .int v12])), (o2, .inl (cI, 4096, .inl f151)), (o4, .inl (cI, 12, .inl fw5)), (o6, .inl (cI, 12, .inl f152))]) := hD
            refine lv_if_eq (tgt := 75) hx hb dX0_seatsRest_46 (by decide) (fun h158 => ?_) (fun h158 => ?_)
            ·
              have j159 : Iv 0 0 x157 := r_eq h158 ik_0
              obtain ⟨x160, x160_e⟩ : ∃ z : Int32, z = x150 + 1 := ⟨_, rfl⟩
              have x160_h : Iv 1 12 x160 := iv_e x160_e (iv_add j156 ik_1 (by decide))
              refine lv_iinc (v := x160) (lv' := [(4, .int x160), (3, .int x5), (0, .ref o1), (1, .int a1), (2, .int 9)]) hx hb dX0_seatsRest_75 hl (k := 0) rfl (incN (by decide +kernel) x160_e) (by decide) rfl (fun ls hl => ?_)
              refine lv_goto (tgt := 31) hx hb dX0_seatsRest_78 (by decide) ?_
              exact ih1 x160 f151 f152 _ _ _ (ms_up x160_e j156 (by decide) hM1) (iv_w x160_h (by decide)) hP hD hS hl
            ·
              have j161 : Iv 1 1 x157 := r_nelo h158 x157_h ik_0 (by decide)
              refine lv_aload_n hx hb dX0_seatsRest_49 rfl (lv_at hl 2 rfl) ?_
              refine va_get (D := (dC, dI)) (ci := 0) (v := .ref o6) (C := RX0) (T := TX0) (N := 8) hx hb hts iw_X0_seatsRest_X0 hown hK hP 0 rfl rfl 2 (by decide) (hts (.fieldLink RX0 41 "HolelessHouse$Benches" "places" "[I") hm_X0_seatsRest_3) (fun _ h9 => h9) rfl dX0_seatsRest_50 ?_
              refine lv_iload_n hx hb dX0_seatsRest_53 rfl (lv_at hl 4 rfl) ?_
              refine lv_iload hx hb dX0_seatsRest_54 (lv_at hl 0 rfl) ?_
              refine k_iast hx hb hK hP hD hS 3 0 rfl rfl (vin_iv ik_9 (by decide)) dX0_seatsRest_56 (fun f162 H locs f162_e hP hD hS => ?_)
              have hP : va_P (dC, dI) vwCl ([(o1, .inr (0, [.ref o2, .ref o4, .ref o6, .int v8, .int v9, .int v10, .int v11, .int v12])), (o2, .inl (cI, 4096, .inl f151)), (o4, .inl (cI, 12, .inl fw5)), (o6, .inl (cI, 12, .inl f162))]) H := hP
              have hD : va_D A ([(o1, .inr (0, [.ref o2, .ref o4, .ref o6, .int v8, .int v9, .int v10, .int v11, .int v12])), (o2, .inl (cI, 4096, .inl f151)), (o4, .inl (cI, 12, .inl fw5)), (o6, .inl (cI, 12, .inl f162))]) := hD
              refine lv_aload_n hx hb dX0_seatsRest_57 rfl (lv_at hl 2 rfl) ?_
              refine lv_iload_n hx hb dX0_seatsRest_58 rfl (lv_at hl 3 rfl) ?_
              refine lv_iconst (v := 1) hx hb dX0_seatsRest_59 (by decide) ?_
              refine lv_iload hx hb dX0_seatsRest_60 (lv_at hl 0 rfl) ?_
              refine lv_ishl hx hb dX0_seatsRest_62 (lv_topi (fun x163 x163_e => ?_))
              have x163_h : Iv 1 2048 x163 := iv_e x163_e (iv_shl1 j156 (by decide))
              refine lv_ior hx hb dX0_seatsRest_63 (lv_topi (fun x164 x164_e => ?_))
              have x164_h : Iv 0 4095 x164 := iv_e x164_e (iv_or 12 a1_h x163_h (by decide))
              refine lv_iload_n hx hb dX0_seatsRest_64 rfl (lv_at hl 4 rfl) ?_
              refine lv_iconst (v := 1) hx hb dX0_seatsRest_65 (by decide) ?_
              refine lv_iadd hx hb dX0_seatsRest_66 (tk_i (v := 10) (by decide +kernel) ?_)
              refine kc_i (D := (dC, dI)) (S := (Nat → Int32) × (Nat → Int32)) (wc := [(o1, .inr (0, [.ref o2, .ref o4, .ref o6, .int v8, .int v9, .int v10, .int v11, .int v12])), (o2, .inl (cI, 4096, .inl f151)), (o4, .inl (cI, 12, .inl fw5)), (o6, .inl (cI, 12, .inl f162))]) (wr := []) (w1 := fun u => [(o1, .inr (0, [.ref o2, .ref o4, .ref o6, .int v8, .int v9, .int v10, .int v11, .int v12])), (o2, .inl (cI, 4096, .inl u.1)), (o4, .inl (cI, 12, .inl fw5)), (o6, .inl (cI, 12, .inl u.2))]) (wn := fun u => [(o1, .inr (0, [.ref o2, .ref o4, .ref o6, .int v8, .int v9, .int v10, .int v11, .int v12])), (o2, .inl (cI, 4096, .inl u.1)), (o4, .inl (cI, 12, .inl fw5)), (o6, .inl (cI, 12, .inl u.2))]) (fun hPc hDc => va_runS (As := [.ref o1, .int x164, .int 10]) (rest := []) ⟨hx, hb, hml, hown, hts⟩ (kX0_seatsRest_3 l dC dI cI c2 cZ o1 o2 o4 o6 f151 fw5 f162 v8 v9 v10 v11 v12 x164 H.size v8_h (iv_w j2 (by decide)) v11_h x164_h) (va_cwS 3 hts gX0_seatsRest_X0_seatsRest rfl rfl rfl (by decide +kernel) ⟨Nat.le_of_ble_eq_true rfl, Nat.le_of_ble_eq_true rfl⟩) (pre_S hPc hK hDc hN) rfl rfl hl.1 rfl (lv_room (Nat.le_of_ble_eq_true rfl)) dX0_seatsRest_67 ⟨Nat.le_of_ble_eq_true rfl, Nat.le_of_ble_eq_true rfl⟩) hP hD hS hA [0, 1, 2, 3] [] [0, 1, 2, 3] rfl rfl (by decide +kernel) (by decide +kernel) (by decide +kernel) (by decide +kernel) (fun _ => rfl) (fun x167 u H locs hq hP hD hS => ?_)
              obtain ⟨f165, f166⟩ := u
              have x167_h := hq
              have hP : va_P (dC, dI) vwCl ([(o1, .inr (0, [.ref o2, .ref o4, .ref o6, .int v8, .int v9, .int v10, .int v11, .int v12])), (o2, .inl (cI, 4096, .inl f165)), (o4, .inl (cI, 12, .inl fw5)), (o6, .inl (cI, 12, .inl f166))]) H := hP
              have hD : va_D A ([(o1, .inr (0, [.ref o2, .ref o4, .ref o6, .int v8, .int v9, .int v10, .int v11, .int v12])), (o2, .inl (cI, 4096, .inl f165)), (o4, .inl (cI, 12, .inl fw5)), (o6, .inl (cI, 12, .inl f166))]) := hD
              refine lv_if_eq (tgt := 75) hx hb dX0_seatsRest_70 (by decide) (fun h168 => ?_) (fun h168 => ?_)
              ·
                have j169 : Iv 0 0 x167 := r_eq h168 ik_0
                obtain ⟨x170, x170_e⟩ : ∃ z : Int32, z = x150 + 1 := ⟨_, rfl⟩
                have x170_h : Iv 1 12 x170 := iv_e x170_e (iv_add j156 ik_1 (by decide))
                refine lv_iinc (v := x170) (lv' := [(4, .int x170), (3, .int x5), (0, .ref o1), (1, .int a1), (2, .int 9)]) hx hb dX0_seatsRest_75 hl (k := 0) rfl (incN (by decide +kernel) x170_e) (by decide) rfl (fun ls hl => ?_)
                refine lv_goto (tgt := 31) hx hb dX0_seatsRest_78 (by decide) ?_
                exact ih1 x170 f165 f166 _ _ _ (ms_up x170_e j156 (by decide) hM1) (iv_w x170_h (by decide)) hP hD hS hl
              ·
                have j171 : Iv 1 1 x167 := r_nelo h168 x167_h ik_0 (by decide)
                refine lv_iconst (v := 1) hx hb dX0_seatsRest_73 (by decide) ?_
                rw [hQ]
                exact W.zret (v := 1) (ty := .boolean) hx hb hr rfl (fun t ht hW => ⟨⟨1, (f165, f166), rfl, (iv_w ik_1 (by decide)), by rw [ht]; exact hP, va_K.moved hW.alike hK, hD⟩, hS.F ht⟩) hS.2.2 dX0_seatsRest_74
      exact L1 _ 0 fw3 fw7 _ _ _ (Nat.lt_succ_self _) (iv_w ik_0 (by decide)) hP hD hS hl
    ·
      have j172 : Iv 1 1 x3 := r_eq h4 ik_1
      refine lv_iconst (v := 0) hx hb dX0_seatsRest_20 (by decide) ?_
      rw [hQ]
      exact W.zret (v := 0) (ty := .boolean) hx hb hr rfl (fun t ht hW => ⟨⟨0, (fw3, fw7), rfl, (iv_w ik_0 (by decide)), by rw [ht]; exact hP, va_K.moved hW.alike hK, hD⟩, hS.F ht⟩) hS.2.2 dX0_seatsRest_21
  ·
    have qh1 := nlt_i h1
    have j173 : Iv 0 9 v9 := r_lel qh1 v9_h ik_9 (by decide)
    refine lv_iconst (v := 1) hx hb dX0_seatsRest_8 (by decide) ?_
    rw [hQ]
    exact W.zret (v := 1) (ty := .boolean) hx hb hr rfl (fun t ht hW => ⟨⟨1, (fw3, fw7), rfl, (iv_w ik_1 (by decide)), by rw [ht]; exact hP, va_K.moved hW.alike hK, hD⟩, hS.F ht⟩) hS.2.2 dX0_seatsRest_9
set_option maxHeartbeats 4000000 in
set_option maxRecDepth 100000 in
theorem kX0_seatsRest_5 (l : Launch) (dC : Nat → ClassId) (dI : Nat → Nat → Nat) (cI c2 cZ : ClassId) (o1 : Nat) (o2 : Nat) (o4 : Nat) (o6 : Nat) (fw3 : Nat → Int32) (fw5 : Nat → Int32) (fw7 : Nat → Int32) (v8 : Int32) (v9 : Int32) (v10 : Int32) (v11 : Int32) (v12 : Int32) (a1 : Int32) (sz : Nat) (v8_h : Iv 0 12 v8) (v9_h : Iv 0 12 v9) (v11_h : Iv 0 1 v11) (a1_h : Iv 0 4095 a1) : Met l yX0_seatsRest wsX0_seatsRest ({ frames := 4, cells := 0, slots := 0, locals := 96 }) (va_Pc [.ref o1, .int a1, .int 8] (wPre (dC, dI) [(cI, .int), (c2, .array .int), (cZ, .boolean)] ([(o1, .inr (0, [.ref o2, .ref o4, .ref o6, .int v8, .int v9, .int v10, .int v11, .int v12])), (o2, .inl (cI, 4096, .inl fw3)), (o4, .inl (cI, 12, .inl fw5)), (o6, .inl (cI, 12, .inl fw7))]) sz)) (va_Qi (fun (r : Int32) (u : (Nat → Int32) × (Nat → Int32)) => Iv 0 1 r) (fun u t => wPost (dC, dI) [(cI, .int), (c2, .array .int), (cZ, .boolean)] (va_A ([(o1, .inr (0, [.ref o2, .ref o4, .ref o6, .int v8, .int v9, .int v10, .int v11, .int v12])), (o2, .inl (cI, 4096, .inl fw3)), (o4, .inl (cI, 12, .inl fw5)), (o6, .inl (cI, 12, .inl fw7))]) sz) ([(o1, .inr (0, [.ref o2, .ref o4, .ref o6, .int v8, .int v9, .int v10, .int v11, .int v12])), (o2, .inl (cI, 4096, .inl u.1)), (o4, .inl (cI, 12, .inl fw5)), (o6, .inl (cI, 12, .inl u.2))]) t) (va_A ([(o1, .inr (0, [.ref o2, .ref o4, .ref o6, .int v8, .int v9, .int v10, .int v11, .int v12])), (o2, .inl (cI, 4096, .inl fw3)), (o4, .inl (cI, 12, .inl fw5)), (o6, .inl (cI, 12, .inl fw7))]) sz)) 0 0 (va_A ([(o1, .inr (0, [.ref o2, .ref o4, .ref o6, .int v8, .int v9, .int v10, .int v11, .int v12])), (o2, .inl (cI, 4096, .inl fw3)), (o4, .inl (cI, 12, .inl fw5)), (o6, .inl (cI, 12, .inl fw7))]) sz) := by
  refine Met.ofW (cc := cX0_seatsRest) (maxL := 5) (ret := (some .boolean)) (by decide) rfl ?_
  intro p e s m args below meth c s₁ B hml hv
  obtain ⟨rfl, hsz, hP, hK, hD0, hN⟩ := hv
  have hx := B.exec
  have hb := B.bytes
  have hr := B.returns
  have hts := atoms_spec (ws := wsX0_seatsRest) B.pre
  have hown : s.vm.findClass RX0 = some m.cls := findClass_of_methodNamed B.named
  have hlocks := B.notSynchronized
  subst hsz
  have hD := hD0.self (sz := s.heap.size)
  generalize hAe : va_A ([(o1, .inr (0, [.ref o2, .ref o4, .ref o6, .int v8, .int v9, .int v10, .int v11, .int v12])), (o2, .inl (cI, 4096, .inl fw3)), (o4, .inl (cI, 12, .inl fw5)), (o6, .inl (cI, 12, .inl fw7))]) s.heap.size = A at hD ⊢
  have hA : ∀ q : Nat, s.heap.size ≤ q → A q := fun q h => by rw [← hAe]; exact Or.inr h
  have hS : va_S A s.heap s.heap [] := va_S.rf
  have hP : va_P (dC, dI) vwCl ([(o1, .inr (0, [.ref o2, .ref o4, .ref o6, .int v8, .int v9, .int v10, .int v11, .int v12])), (o2, .inl (cI, 4096, .inl fw3)), (o4, .inl (cI, 12, .inl fw5)), (o6, .inl (cI, 12, .inl fw7))]) s.heap := hP
  have hl := lv_entry ([.ref o1, .int a1, .int 8]) (n := 5) (Nat.le_of_ble_eq_true rfl)
  rw [lg_entry_eq]
  generalize (lg_sl ([.ref o1, .int a1, .int 8]) ++ List.replicate (5 - (lg_sl ([.ref o1, .int a1, .int 8])).length) Slot.unset).toArray = ls at hl ⊢
  have hl : lv_has ls 5 [(0, .ref o1), (1, .int a1), (2, .int 8)] := hl
  refine gen_Q (fun Q hQ => ?_)
  refine lv_iload_n hx hb dX0_seatsRest_0 rfl (lv_at hl 2 rfl) ?_
  refine lv_aload_n hx hb dX0_seatsRest_1 rfl (lv_at hl 0 rfl) ?_
  refine va_get (D := (dC, dI)) (ci := 0) (v := .int v9) (C := RX0) (T := TX0) (N := 8) hx hb hts iw_X0_seatsRest_X0 hown hK hP 0 rfl rfl 4 (by decide) (hts (.fieldLink RX0 25 "HolelessHouse$Benches" "width" "I") hm_X0_seatsRest_1) (fun _ h9 => h9) rfl dX0_seatsRest_2 ?_
  refine lv_icmp_lt (tgt := 10) hx hb dX0_seatsRest_5 (by decide) (fun h1 => ?_) (fun h1 => ?_)
  ·
    have qh1 := lt_i h1
    have j2 : Iv 9 12 v9 := r_ltr qh1 ik_8 v9_h (by decide)
    refine lv_aload_n hx hb dX0_seatsRest_10 rfl (lv_at hl 0 rfl) ?_
    refine va_get (D := (dC, dI)) (ci := 0) (v := .ref o2) (C := RX0) (T := TX0) (N := 8) hx hb hts iw_X0_seatsRest_X0 hown hK hP 0 rfl rfl 0 (by decide) (hts (.fieldLink RX0 38 "HolelessHouse$Benches" "notes" "[I") hm_X0_seatsRest_2) (fun _ h9 => h9) rfl dX0_seatsRest_11 ?_
    refine lv_iload_n hx hb dX0_seatsRest_14 rfl (lv_at hl 1 rfl) ?_
    refine va_iald hx hb hK hP 1 0 rfl rfl (vin_iv a1_h (by decide)) dX0_seatsRest_15 (lv_topi (fun x3 x3_e => ?_))
    refine lv_iconst (v := 1) hx hb dX0_seatsRest_16 (by decide) ?_
    refine lv_icmp_ne (tgt := 22) hx hb dX0_seatsRest_17 (by decide) (fun h4 => ?_) (fun h4 => ?_)
    ·
      refine lv_aload_n hx hb dX0_seatsRest_22 rfl (lv_at hl 0 rfl) ?_
      refine lv_iload_n hx hb dX0_seatsRest_23 rfl (lv_at hl 1 rfl) ?_
      refine kc_i (D := (dC, dI)) (S := Unit) (wc := [(o1, .inr (0, [.ref o2, .ref o4, .ref o6, .int v8, .int v9, .int v10, .int v11, .int v12])), (o4, .inl (cI, 12, .inl fw5))]) (wr := [(o2, .inl (cI, 4096, .inl fw3)), (o6, .inl (cI, 12, .inl fw7))]) (w1 := fun _ => [(o1, .inr (0, [.ref o2, .ref o4, .ref o6, .int v8, .int v9, .int v10, .int v11, .int v12])), (o4, .inl (cI, 12, .inl fw5))]) (wn := fun _ => [(o1, .inr (0, [.ref o2, .ref o4, .ref o6, .int v8, .int v9, .int v10, .int v11, .int v12])), (o2, .inl (cI, 4096, .inl fw3)), (o4, .inl (cI, 12, .inl fw5)), (o6, .inl (cI, 12, .inl fw7))]) (fun hPc hDc => va_runV (As := [.int a1]) (rest := []) ⟨hx, hb, hml, hown, hts⟩ (kX0_mayCome_1 l dC dI cI c2 cZ o1 o2 o4 o6 fw5 v8 v9 v10 v11 v12 a1 s.heap.size v8_h (iv_w j2 (by decide)) v11_h a1_h) (cwV 1 hts gX0_seatsRest_X0_mayCome rfl rfl rfl (by decide +kernel) ⟨Nat.le_of_ble_eq_true rfl, Nat.le_of_ble_eq_true rfl⟩) (pre_V hPc hK hDc hN (ci := 0) (q0 := 0) rfl rfl) rfl rfl hl.1 rfl (lv_room (Nat.le_of_ble_eq_true rfl)) dX0_seatsRest_24 ⟨Nat.le_of_ble_eq_true rfl, Nat.le_of_ble_eq_true rfl⟩) hP hD hS hA [0, 2] [1, 3] [2, 0, 3, 1] rfl rfl (by decide +kernel) (by decide +kernel) (by decide +kernel) (by decide +kernel) (fun _ => rfl) (fun x5 _ H locs hq hP hD hS => ?_)
      have x5_h := hq
      have hP : va_P (dC, dI) vwCl ([(o1, .inr (0, [.ref o2, .ref o4, .ref o6, .int v8, .int v9, .int v10, .int v11, .int v12])), (o2, .inl (cI, 4096, .inl fw3)), (o4, .inl (cI, 12, .inl fw5)), (o6, .inl (cI, 12, .inl fw7))]) H := hP
      have hD : va_D A ([(o1, .inr (0, [.ref o2, .ref o4, .ref o6, .int v8, .int v9, .int v10, .int v11, .int v12])), (o2, .inl (cI, 4096, .inl fw3)), (o4, .inl (cI, 12, .inl fw5)), (o6, .inl (cI, 12, .inl fw7))]) := hD
      refine lv_istore_n (lv' := [(3, .int x5), (0, .ref o1), (1, .int a1), (2, .int 8)]) hx hb dX0_seatsRest_27 rfl hl (by decide) rfl (fun ls hl => ?_)
      refine lv_iconst (v := 0) hx hb dX0_seatsRest_28 (by decide) ?_
      refine lv_istore (lv' := [(4, .int 0), (3, .int x5), (0, .ref o1), (1, .int a1), (2, .int 8)]) hx hb dX0_seatsRest_29 hl (by decide) rfl (fun ls hl => ?_)
      have L1 : ∀ (N : Nat) (x150 : Int32) (f151 : Nat → Int32) (f152 : Nat → Int32) (H : Heap) (locs : List Loc) (ls : Array Slot), (12 - x150.toInt).toNat < N → Iv 0 12 x150 → va_P (dC, dI) vwCl ([(o1, .inr (0, [.ref o2, .ref o4, .ref o6, .int v8, .int v9, .int v10, .int v11, .int v12])), (o2, .inl (cI, 4096, .inl f151)), (o4, .inl (cI, 12, .inl fw5)), (o6, .inl (cI, 12, .inl f152))]) H → va_D A ([(o1, .inr (0, [.ref o2, .ref o4, .ref o6, .int v8, .int v9, .int v10, .int v11, .int v12])), (o2, .inl (cI, 4096, .inl f151)), (o4, .inl (cI, 12, .inl fw5)), (o6, .inl (cI, 12, .inl f152))]) → va_S A s.heap H locs → lv_has ls 5 [(4, .int x150), (3, .int x5), (0, .ref o1), (1, .int a1), (2, .int 8)] → W p l e ({ frames := 4, cells := 0, slots := 0, locals := 96 }) s m ([.ref o1, .int a1, .int 8] : List Value).toArray below meth c H locs 0 0 Q (F0 m 31 ls []) := by
        intro N
        induction N with
        | zero =>
          intro x150 f151 f152 H locs ls hM
          exact absurd hM (Nat.not_lt_zero _)
        | succ N ih1 =>
          intro x150 f151 f152 H locs ls hM1 x150_h hP hD hS hl
          refine lv_iload hx hb dX0_seatsRest_31 (lv_at hl 0 rfl) ?_
          refine lv_aload_n hx hb dX0_seatsRest_33 rfl (lv_at hl 2 rfl) ?_
          refine va_get (D := (dC, dI)) (ci := 0) (v := .int v9) (C := RX0) (T := TX0) (N := 8) hx hb hts iw_X0_seatsRest_X0 hown hK hP 0 rfl rfl 4 (by decide) (hts (.fieldLink RX0 25 "HolelessHouse$Benches" "width" "I") hm_X0_seatsRest_1) (fun _ h9 => h9) rfl dX0_seatsRest_34 ?_
          refine lv_icmp_ge (tgt := 81) hx hb dX0_seatsRest_37 (by decide) (fun h153 => ?_) (fun h153 => ?_)
          ·
            have qh153 := le_i h153
            have j154 : Iv 9 12 x150 := r_ler qh153 j2 x150_h (by decide)
            refine lv_aload_n hx hb dX0_seatsRest_81 rfl (lv_at hl 2 rfl) ?_
            refine va_get (D := (dC, dI)) (ci := 0) (v := .ref o2) (C := RX0) (T := TX0) (N := 8) hx hb hts iw_X0_seatsRest_X0 hown hK hP 0 rfl rfl 0 (by decide) (hts (.fieldLink RX0 38 "HolelessHouse$Benches" "notes" "[I") hm_X0_seatsRest_2) (fun _ h9 => h9) rfl dX0_seatsRest_82 ?_
            refine lv_iload_n hx hb dX0_seatsRest_85 rfl (lv_at hl 3 rfl) ?_
            refine lv_iconst (v := 1) hx hb dX0_seatsRest_86 (by decide) ?_
            refine k_iast hx hb hK hP hD hS 1 0 rfl rfl (vin_iv a1_h (by decide)) dX0_seatsRest_87 (fun f155 H locs f155_e hP hD hS => ?_)
            have hP : va_P (dC, dI) vwCl ([(o1, .inr (0, [.ref o2, .ref o4, .ref o6, .int v8, .int v9, .int v10, .int v11, .int v12])), (o2, .inl (cI, 4096, .inl f155)), (o4, .inl (cI, 12, .inl fw5)), (o6, .inl (cI, 12, .inl f152))]) H := hP
            have hD : va_D A ([(o1, .inr (0, [.ref o2, .ref o4, .ref o6, .int v8, .int v9, .int v10, .int v11, .int v12])), (o2, .inl (cI, 4096, .inl f155)), (o4, .inl (cI, 12, .inl fw5)), (o6, .inl (cI, 12, .inl f152))]) := hD
            refine lv_iconst (v := 0) hx hb dX0_seatsRest_88 (by decide) ?_
            rw [hQ]
            exact W.zret (v := 0) (ty := .boolean) hx hb hr rfl (fun t ht hW => ⟨⟨0, (f155, f152), rfl, (iv_w ik_0 (by decide)), by rw [ht]; exact hP, va_K.moved hW.alike hK, hD⟩, hS.F ht⟩) hS.2.2 dX0_seatsRest_89
          ·
            have qh153 := nle_i h153
            have j156 : Iv 0 11 x150 := r_ltl qh153 x150_h j2 (by decide)
            refine lv_iload_n hx hb dX0_seatsRest_40 rfl (lv_at hl 1 rfl) ?_
            refine lv_iload hx hb dX0_seatsRest_41 (lv_at hl 0 rfl) ?_
            refine kc_i (D := (dC, dI)) (S := Unit) (wc := []) (wr := [(o1, .inr (0, [.ref o2, .ref o4, .ref o6, .int v8, .int v9, .int v10, .int v11, .int v12])), (o2, .inl (cI, 4096, .inl f151)), (o4, .inl (cI, 12, .inl fw5)), (o6, .inl (cI, 12, .inl f152))]) (w1 := fun _ => []) (wn := fun _ => [(o1, .inr (0, [.ref o2, .ref o4, .ref o6, .int v8, .int v9, .int v10, .int v11, .int v12])), (o2, .inl (cI, 4096, .inl f151)), (o4, .inl (cI, 12, .inl fw5)), (o6, .inl (cI, 12, .inl f152))]) (fun hPc hDc => va_runSN (As := [.int x5, .int x150]) (rest := []) ⟨hx, hb, hml, hown, hts⟩ (kX11_in_1 l dC dI cI c2 cZ x5 x150 H.size) ⟨va_cnB 2 hts gX0_seatsRest_X11_in_n62 rfl rfl rfl (hN.1 _ ns_125) (hts (.initialized RX11) hm_X0_seatsRest_12) (by decide +kernel) ⟨Nat.le_of_ble_eq_true rfl, Nat.le_of_ble_eq_true rfl⟩, (hts (.static yX11_in) hm_X0_seatsRest_11), trivial⟩ (pre_S hPc hK hDc hN) rfl rfl hl.1 rfl (lv_room (Nat.le_of_ble_eq_true rfl)) dX0_seatsRest_43 ⟨Nat.le_of_ble_eq_true rfl, Nat.le_of_ble_eq_true rfl⟩) hP hD hS hA [] [0, 1, 2, 3] [0, 1, 2, 3] rfl rfl (by decide +kernel) (by decide +kernel) (by decide +kernel) (by decide +kernel) (fun _ => rfl) (fun x157 _ H locs hq hP hD hS => ?_)
            have x157_h := hq
            have hP : va_P (dC, dI) vwCl ([(o1, .inr (0, [.ref o2, .ref o4, .ref o6, .int v8, .int v9, .int v10, .int v11, .int v12])), (o2, .inl (cI, 4096, .inl f151)), (o4, .inl (cI, 12, .inl fw5)), (o6, .inl (cI, 12, .inl f152))]) H := hP
            have hD : va_D A ([(o1, .inr (0, [.ref o2, .ref o4, .ref o6, .int v8, .int v9, .int v10, .int v11, .int v12])), (o2, .inl (cI, 4096, .inl f151)), (o4, .inl (cI, 12, .inl fw5)), (o6, .inl (cI, 12, .inl f152))]) := hD
            refine lv_if_eq (tgt := 75) hx hb dX0_seatsRest_46 (by decide) (fun h158 => ?_) (fun h158 => ?_)
            ·
              have j159 : Iv 0 0 x157 := r_eq h158 ik_0
              obtain ⟨x160, x160_e⟩ : ∃ z : Int32, z = x150 + 1 := ⟨_, rfl⟩
              have x160_h : Iv 1 12 x160 := iv_e x160_e (iv_add j156 ik_1 (by decide))
              refine lv_iinc (v := x160) (lv' := [(4, .int x160), (3, .int x5), (0, .ref o1), (1, .int a1), (2, .int 8)]) hx hb dX0_seatsRest_75 hl (k := 0) rfl (incN (by decide +kernel) x160_e) (by decide) rfl (fun ls hl => ?_)
              refine lv_goto (tgt := 31) hx hb dX0_seatsRest_78 (by decide) ?_
              exact ih1 x160 f151 f152 _ _ _ (ms_up x160_e j156 (by decide) hM1) (iv_w x160_h (by decide)) hP hD hS hl
            ·
              have j161 : Iv 1 1 x157 := r_nelo h158 x157_h ik_0 (by decide)
              refine lv_aload_n hx hb dX0_seatsRest_49 rfl (lv_at hl 2 rfl) ?_
              refine va_get (D := (dC, dI)) (ci := 0) (v := .ref o6) (C := RX0) (T := TX0) (N := 8) hx hb hts iw_X0_seatsRest_X0 hown hK hP 0 rfl rfl 2 (by decide) (hts (.fieldLink RX0 41 "HolelessHouse$Benches" "places" "[I") hm_X0_seatsRest_3) (fun _ h9 => h9) rfl dX0_seatsRest_50 ?_
              refine lv_iload_n hx hb dX0_seatsRest_53 rfl (lv_at hl 4 rfl) ?_
              refine lv_iload hx hb dX0_seatsRest_54 (lv_at hl 0 rfl) ?_
              refine k_iast hx hb hK hP hD hS 3 0 rfl rfl (vin_iv ik_8 (by decide)) dX0_seatsRest_56 (fun f162 H locs f162_e hP hD hS => ?_)
              have hP : va_P (dC, dI) vwCl ([(o1, .inr (0, [.ref o2, .ref o4, .ref o6, .int v8, .int v9, .int v10, .int v11, .int v12])), (o2, .inl (cI, 4096, .inl f151)), (o4, .inl (cI, 12, .inl fw5)), (o6, .inl (cI, 12, .inl f162))]) H := hP
              have hD : va_D A ([(o1, .inr (0, [.ref o2, .ref o4, .ref o6, .int v8, .int v9, .int v10, .int v11, .int v12])), (o2, .inl (cI, 4096, .inl f151)), (o4, .inl (cI, 12, .inl fw5)), (o6, .inl (cI, 12, .inl f162))]) := hD
              refine lv_aload_n hx hb dX0_seatsRest_57 rfl (lv_at hl 2 rfl) ?_
              refine lv_iload_n hx hb dX0_seatsRest_58 rfl (lv_at hl 3 rfl) ?_
              refine lv_iconst (v := 1) hx hb dX0_seatsRest_59 (by decide) ?_
              refine lv_iload hx hb dX0_seatsRest_60 (lv_at hl 0 rfl) ?_
              refine lv_ishl hx hb dX0_seatsRest_62 (lv_topi (fun x163 x163_e => ?_))
              have x163_h : Iv 1 2048 x163 := iv_e x163_e (iv_shl1 j156 (by decide))
              refine lv_ior hx hb dX0_seatsRest_63 (lv_topi (fun x164 x164_e => ?_))
              have x164_h : Iv 0 4095 x164 := iv_e x164_e (iv_or 12 a1_h x163_h (by decide))
              refine lv_iload_n hx hb dX0_seatsRest_64 rfl (lv_at hl 4 rfl) ?_
              refine lv_iconst (v := 1) hx hb dX0_seatsRest_65 (by decide) ?_
              refine lv_iadd hx hb dX0_seatsRest_66 (tk_i (v := 9) (by decide +kernel) ?_)
              refine kc_i (D := (dC, dI)) (S := (Nat → Int32) × (Nat → Int32)) (wc := [(o1, .inr (0, [.ref o2, .ref o4, .ref o6, .int v8, .int v9, .int v10, .int v11, .int v12])), (o2, .inl (cI, 4096, .inl f151)), (o4, .inl (cI, 12, .inl fw5)), (o6, .inl (cI, 12, .inl f162))]) (wr := []) (w1 := fun u => [(o1, .inr (0, [.ref o2, .ref o4, .ref o6, .int v8, .int v9, .int v10, .int v11, .int v12])), (o2, .inl (cI, 4096, .inl u.1)), (o4, .inl (cI, 12, .inl fw5)), (o6, .inl (cI, 12, .inl u.2))]) (wn := fun u => [(o1, .inr (0, [.ref o2, .ref o4, .ref o6, .int v8, .int v9, .int v10, .int v11, .int v12])), (o2, .inl (cI, 4096, .inl u.1)), (o4, .inl (cI, 12, .inl fw5)), (o6, .inl (cI, 12, .inl u.2))]) (fun hPc hDc => va_runS (As := [.ref o1, .int x164, .int 9]) (rest := []) ⟨hx, hb, hml, hown, hts⟩ (kX0_seatsRest_4 l dC dI cI c2 cZ o1 o2 o4 o6 f151 fw5 f162 v8 v9 v10 v11 v12 x164 H.size v8_h (iv_w j2 (by decide)) v11_h x164_h) (va_cwS 3 hts gX0_seatsRest_X0_seatsRest rfl rfl rfl (by decide +kernel) ⟨Nat.le_of_ble_eq_true rfl, Nat.le_of_ble_eq_true rfl⟩) (pre_S hPc hK hDc hN) rfl rfl hl.1 rfl (lv_room (Nat.le_of_ble_eq_true rfl)) dX0_seatsRest_67 ⟨Nat.le_of_ble_eq_true rfl, Nat.le_of_ble_eq_true rfl⟩) hP hD hS hA [0, 1, 2, 3] [] [0, 1, 2, 3] rfl rfl (by decide +kernel) (by decide +kernel) (by decide +kernel) (by decide +kernel) (fun _ => rfl) (fun x167 u H locs hq hP hD hS => ?_)
              obtain ⟨f165, f166⟩ := u
              have x167_h := hq
              have hP : va_P (dC, dI) vwCl ([(o1, .inr (0, [.ref o2, .ref o4, .ref o6, .int v8, .int v9, .int v10, .int v11, .int v12])), (o2, .inl (cI, 4096, .inl f165)), (o4, .inl (cI, 12, .inl fw5)), (o6, .inl (cI, 12, .inl f166))]) H := hP
              have hD : va_D A ([(o1, .inr (0, [.ref o2, .ref o4, .ref o6, .int v8, .int v9, .int v10, .int v11, .int v12])), (o2, .inl (cI, 4096, .inl f165)), (o4, .inl (cI, 12, .inl fw5)), (o6, .inl (cI, 12, .inl f166))]) := hD
              refine lv_if_eq (tgt := 75) hx hb dX0_seatsRest_70 (by decide) (fun h168 => ?_) (fun h168 => ?_)
              ·
                have j169 : Iv 0 0 x167 := r_eq h168 ik_0
                obtain ⟨x170, x170_e⟩ : ∃ z : Int32, z = x150 + 1 := ⟨_, rfl⟩
                have x170_h : Iv 1 12 x170 := iv_e x170_e (iv_add j156 ik_1 (by decide))
                refine lv_iinc (v := x170) (lv' := [(4, .int x170), (3, .int x5), (0, .ref o1), (1, .int a1), (2, .int 8)]) hx hb dX0_seatsRest_75 hl (k := 0) rfl (incN (by decide +kernel) x170_e) (by decide) rfl (fun ls hl => ?_)
                refine lv_goto (tgt := 31) hx hb dX0_seatsRest_78 (by decide) ?_
                exact ih1 x170 f165 f166 _ _ _ (ms_up x170_e j156 (by decide) hM1) (iv_w x170_h (by decide)) hP hD hS hl
              ·
                have j171 : Iv 1 1 x167 := r_nelo h168 x167_h ik_0 (by decide)
                refine lv_iconst (v := 1) hx hb dX0_seatsRest_73 (by decide) ?_
                rw [hQ]
                exact W.zret (v := 1) (ty := .boolean) hx hb hr rfl (fun t ht hW => ⟨⟨1, (f165, f166), rfl, (iv_w ik_1 (by decide)), by rw [ht]; exact hP, va_K.moved hW.alike hK, hD⟩, hS.F ht⟩) hS.2.2 dX0_seatsRest_74
      exact L1 _ 0 fw3 fw7 _ _ _ (Nat.lt_succ_self _) (iv_w ik_0 (by decide)) hP hD hS hl
    ·
      have j172 : Iv 1 1 x3 := r_eq h4 ik_1
      refine lv_iconst (v := 0) hx hb dX0_seatsRest_20 (by decide) ?_
      rw [hQ]
      exact W.zret (v := 0) (ty := .boolean) hx hb hr rfl (fun t ht hW => ⟨⟨0, (fw3, fw7), rfl, (iv_w ik_0 (by decide)), by rw [ht]; exact hP, va_K.moved hW.alike hK, hD⟩, hS.F ht⟩) hS.2.2 dX0_seatsRest_21
  ·
    have qh1 := nlt_i h1
    have j173 : Iv 0 8 v9 := r_lel qh1 v9_h ik_8 (by decide)
    refine lv_iconst (v := 1) hx hb dX0_seatsRest_8 (by decide) ?_
    rw [hQ]
    exact W.zret (v := 1) (ty := .boolean) hx hb hr rfl (fun t ht hW => ⟨⟨1, (fw3, fw7), rfl, (iv_w ik_1 (by decide)), by rw [ht]; exact hP, va_K.moved hW.alike hK, hD⟩, hS.F ht⟩) hS.2.2 dX0_seatsRest_9
set_option maxHeartbeats 4000000 in
set_option maxRecDepth 100000 in
theorem kX0_seatsRest_6 (l : Launch) (dC : Nat → ClassId) (dI : Nat → Nat → Nat) (cI c2 cZ : ClassId) (o1 : Nat) (o2 : Nat) (o4 : Nat) (o6 : Nat) (fw3 : Nat → Int32) (fw5 : Nat → Int32) (fw7 : Nat → Int32) (v8 : Int32) (v9 : Int32) (v10 : Int32) (v11 : Int32) (v12 : Int32) (a1 : Int32) (sz : Nat) (v8_h : Iv 0 12 v8) (v9_h : Iv 0 12 v9) (v11_h : Iv 0 1 v11) (a1_h : Iv 0 4095 a1) : Met l yX0_seatsRest wsX0_seatsRest ({ frames := 5, cells := 0, slots := 0, locals := 120 }) (va_Pc [.ref o1, .int a1, .int 7] (wPre (dC, dI) [(cI, .int), (c2, .array .int), (cZ, .boolean)] ([(o1, .inr (0, [.ref o2, .ref o4, .ref o6, .int v8, .int v9, .int v10, .int v11, .int v12])), (o2, .inl (cI, 4096, .inl fw3)), (o4, .inl (cI, 12, .inl fw5)), (o6, .inl (cI, 12, .inl fw7))]) sz)) (va_Qi (fun (r : Int32) (u : (Nat → Int32) × (Nat → Int32)) => Iv 0 1 r) (fun u t => wPost (dC, dI) [(cI, .int), (c2, .array .int), (cZ, .boolean)] (va_A ([(o1, .inr (0, [.ref o2, .ref o4, .ref o6, .int v8, .int v9, .int v10, .int v11, .int v12])), (o2, .inl (cI, 4096, .inl fw3)), (o4, .inl (cI, 12, .inl fw5)), (o6, .inl (cI, 12, .inl fw7))]) sz) ([(o1, .inr (0, [.ref o2, .ref o4, .ref o6, .int v8, .int v9, .int v10, .int v11, .int v12])), (o2, .inl (cI, 4096, .inl u.1)), (o4, .inl (cI, 12, .inl fw5)), (o6, .inl (cI, 12, .inl u.2))]) t) (va_A ([(o1, .inr (0, [.ref o2, .ref o4, .ref o6, .int v8, .int v9, .int v10, .int v11, .int v12])), (o2, .inl (cI, 4096, .inl fw3)), (o4, .inl (cI, 12, .inl fw5)), (o6, .inl (cI, 12, .inl fw7))]) sz)) 0 0 (va_A ([(o1, .inr (0, [.ref o2, .ref o4, .ref o6, .int v8, .int v9, .int v10, .int v11, .int v12])), (o2, .inl (cI, 4096, .inl fw3)), (o4, .inl (cI, 12, .inl fw5)), (o6, .inl (cI, 12, .inl fw7))]) sz) := by
  refine Met.ofW (cc := cX0_seatsRest) (maxL := 5) (ret := (some .boolean)) (by decide) rfl ?_
  intro p e s m args below meth c s₁ B hml hv
  obtain ⟨rfl, hsz, hP, hK, hD0, hN⟩ := hv
  have hx := B.exec
  have hb := B.bytes
  have hr := B.returns
  have hts := atoms_spec (ws := wsX0_seatsRest) B.pre
  have hown : s.vm.findClass RX0 = some m.cls := findClass_of_methodNamed B.named
  have hlocks := B.notSynchronized
  subst hsz
  have hD := hD0.self (sz := s.heap.size)
  generalize hAe : va_A ([(o1, .inr (0, [.ref o2, .ref o4, .ref o6, .int v8, .int v9, .int v10, .int v11, .int v12])), (o2, .inl (cI, 4096, .inl fw3)), (o4, .inl (cI, 12, .inl fw5)), (o6, .inl (cI, 12, .inl fw7))]) s.heap.size = A at hD ⊢
  have hA : ∀ q : Nat, s.heap.size ≤ q → A q := fun q h => by rw [← hAe]; exact Or.inr h
  have hS : va_S A s.heap s.heap [] := va_S.rf
  have hP : va_P (dC, dI) vwCl ([(o1, .inr (0, [.ref o2, .ref o4, .ref o6, .int v8, .int v9, .int v10, .int v11, .int v12])), (o2, .inl (cI, 4096, .inl fw3)), (o4, .inl (cI, 12, .inl fw5)), (o6, .inl (cI, 12, .inl fw7))]) s.heap := hP
  have hl := lv_entry ([.ref o1, .int a1, .int 7]) (n := 5) (Nat.le_of_ble_eq_true rfl)
  rw [lg_entry_eq]
  generalize (lg_sl ([.ref o1, .int a1, .int 7]) ++ List.replicate (5 - (lg_sl ([.ref o1, .int a1, .int 7])).length) Slot.unset).toArray = ls at hl ⊢
  have hl : lv_has ls 5 [(0, .ref o1), (1, .int a1), (2, .int 7)] := hl
  refine gen_Q (fun Q hQ => ?_)
  refine lv_iload_n hx hb dX0_seatsRest_0 rfl (lv_at hl 2 rfl) ?_
  refine lv_aload_n hx hb dX0_seatsRest_1 rfl (lv_at hl 0 rfl) ?_
  refine va_get (D := (dC, dI)) (ci := 0) (v := .int v9) (C := RX0) (T := TX0) (N := 8) hx hb hts iw_X0_seatsRest_X0 hown hK hP 0 rfl rfl 4 (by decide) (hts (.fieldLink RX0 25 "HolelessHouse$Benches" "width" "I") hm_X0_seatsRest_1) (fun _ h9 => h9) rfl dX0_seatsRest_2 ?_
  refine lv_icmp_lt (tgt := 10) hx hb dX0_seatsRest_5 (by decide) (fun h1 => ?_) (fun h1 => ?_)
  ·
    have qh1 := lt_i h1
    have j2 : Iv 8 12 v9 := r_ltr qh1 ik_7 v9_h (by decide)
    refine lv_aload_n hx hb dX0_seatsRest_10 rfl (lv_at hl 0 rfl) ?_
    refine va_get (D := (dC, dI)) (ci := 0) (v := .ref o2) (C := RX0) (T := TX0) (N := 8) hx hb hts iw_X0_seatsRest_X0 hown hK hP 0 rfl rfl 0 (by decide) (hts (.fieldLink RX0 38 "HolelessHouse$Benches" "notes" "[I") hm_X0_seatsRest_2) (fun _ h9 => h9) rfl dX0_seatsRest_11 ?_
    refine lv_iload_n hx hb dX0_seatsRest_14 rfl (lv_at hl 1 rfl) ?_
    refine va_iald hx hb hK hP 1 0 rfl rfl (vin_iv a1_h (by decide)) dX0_seatsRest_15 (lv_topi (fun x3 x3_e => ?_))
    refine lv_iconst (v := 1) hx hb dX0_seatsRest_16 (by decide) ?_
    refine lv_icmp_ne (tgt := 22) hx hb dX0_seatsRest_17 (by decide) (fun h4 => ?_) (fun h4 => ?_)
    ·
      refine lv_aload_n hx hb dX0_seatsRest_22 rfl (lv_at hl 0 rfl) ?_
      refine lv_iload_n hx hb dX0_seatsRest_23 rfl (lv_at hl 1 rfl) ?_
      refine kc_i (D := (dC, dI)) (S := Unit) (wc := [(o1, .inr (0, [.ref o2, .ref o4, .ref o6, .int v8, .int v9, .int v10, .int v11, .int v12])), (o4, .inl (cI, 12, .inl fw5))]) (wr := [(o2, .inl (cI, 4096, .inl fw3)), (o6, .inl (cI, 12, .inl fw7))]) (w1 := fun _ => [(o1, .inr (0, [.ref o2, .ref o4, .ref o6, .int v8, .int v9, .int v10, .int v11, .int v12])), (o4, .inl (cI, 12, .inl fw5))]) (wn := fun _ => [(o1, .inr (0, [.ref o2, .ref o4, .ref o6, .int v8, .int v9, .int v10, .int v11, .int v12])), (o2, .inl (cI, 4096, .inl fw3)), (o4, .inl (cI, 12, .inl fw5)), (o6, .inl (cI, 12, .inl fw7))]) (fun hPc hDc => va_runV (As := [.int a1]) (rest := []) ⟨hx, hb, hml, hown, hts⟩ (kX0_mayCome_1 l dC dI cI c2 cZ o1 o2 o4 o6 fw5 v8 v9 v10 v11 v12 a1 s.heap.size v8_h (iv_w j2 (by decide)) v11_h a1_h) (cwV 1 hts gX0_seatsRest_X0_mayCome rfl rfl rfl (by decide +kernel) ⟨Nat.le_of_ble_eq_true rfl, Nat.le_of_ble_eq_true rfl⟩) (pre_V hPc hK hDc hN (ci := 0) (q0 := 0) rfl rfl) rfl rfl hl.1 rfl (lv_room (Nat.le_of_ble_eq_true rfl)) dX0_seatsRest_24 ⟨Nat.le_of_ble_eq_true rfl, Nat.le_of_ble_eq_true rfl⟩) hP hD hS hA [0, 2] [1, 3] [2, 0, 3, 1] rfl rfl (by decide +kernel) (by decide +kernel) (by decide +kernel) (by decide +kernel) (fun _ => rfl) (fun x5 _ H locs hq hP hD hS => ?_)
      have x5_h := hq
      have hP : va_P (dC, dI) vwCl ([(o1, .inr (0, [.ref o2, .ref o4, .ref o6, .int v8, .int v9, .int v10, .int v11, .int v12])), (o2, .inl (cI, 4096, .inl fw3)), (o4, .inl (cI, 12, .inl fw5)), (o6, .inl (cI, 12, .inl fw7))]) H := hP
      have hD : va_D A ([(o1, .inr (0, [.ref o2, .ref o4, .ref o6, .int v8, .int v9, .int v10, .int v11, .int v12])), (o2, .inl (cI, 4096, .inl fw3)), (o4, .inl (cI, 12, .inl fw5)), (o6, .inl (cI, 12, .inl fw7))]) := hD
      refine lv_istore_n (lv' := [(3, .int x5), (0, .ref o1), (1, .int a1), (2, .int 7)]) hx hb dX0_seatsRest_27 rfl hl (by decide) rfl (fun ls hl => ?_)
      refine lv_iconst (v := 0) hx hb dX0_seatsRest_28 (by decide) ?_
      refine lv_istore (lv' := [(4, .int 0), (3, .int x5), (0, .ref o1), (1, .int a1), (2, .int 7)]) hx hb dX0_seatsRest_29 hl (by decide) rfl (fun ls hl => ?_)
      have L1 : ∀ (N : Nat) (x153 : Int32) (f154 : Nat → Int32) (f155 : Nat → Int32) (H : Heap) (locs : List Loc) (ls : Array Slot), (12 - x153.toInt).toNat < N → Iv 0 12 x153 → va_P (dC, dI) vwCl ([(o1, .inr (0, [.ref o2, .ref o4, .ref o6, .int v8, .int v9, .int v10, .int v11, .int v12])), (o2, .inl (cI, 4096, .inl f154)), (o4, .inl (cI, 12, .inl fw5)), (o6, .inl (cI, 12, .inl f155))]) H → va_D A ([(o1, .inr (0, [.ref o2, .ref o4, .ref o6, .int v8, .int v9, .int v10, .int v11, .int v12])), (o2, .inl (cI, 4096, .inl f154)), (o4, .inl (cI, 12, .inl fw5)), (o6, .inl (cI, 12, .inl f155))]) → va_S A s.heap H locs → lv_has ls 5 [(4, .int x153), (3, .int x5), (0, .ref o1), (1, .int a1), (2, .int 7)] → W p l e ({ frames := 5, cells := 0, slots := 0, locals := 120 }) s m ([.ref o1, .int a1, .int 7] : List Value).toArray below meth c H locs 0 0 Q (F0 m 31 ls []) := by
        intro N
        induction N with
        | zero =>
          intro x153 f154 f155 H locs ls hM
          exact absurd hM (Nat.not_lt_zero _)
        | succ N ih1 =>
          intro x153 f154 f155 H locs ls hM1 x153_h hP hD hS hl
          refine lv_iload hx hb dX0_seatsRest_31 (lv_at hl 0 rfl) ?_
          refine lv_aload_n hx hb dX0_seatsRest_33 rfl (lv_at hl 2 rfl) ?_
          refine va_get (D := (dC, dI)) (ci := 0) (v := .int v9) (C := RX0) (T := TX0) (N := 8) hx hb hts iw_X0_seatsRest_X0 hown hK hP 0 rfl rfl 4 (by decide) (hts (.fieldLink RX0 25 "HolelessHouse$Benches" "width" "I") hm_X0_seatsRest_1) (fun _ h9 => h9) rfl dX0_seatsRest_34 ?_
          refine lv_icmp_ge (tgt := 81) hx hb dX0_seatsRest_37 (by decide) (fun h156 => ?_) (fun h156 => ?_)
          ·
            have qh156 := le_i h156
            have j157 : Iv 8 12 x153 := r_ler qh156 j2 x153_h (by decide)
            refine lv_aload_n hx hb dX0_seatsRest_81 rfl (lv_at hl 2 rfl) ?_
            refine va_get (D := (dC, dI)) (ci := 0) (v := .ref o2) (C := RX0) (T := TX0) (N := 8) hx hb hts iw_X0_seatsRest_X0 hown hK hP 0 rfl rfl 0 (by decide) (hts (.fieldLink RX0 38 "HolelessHouse$Benches" "notes" "[I") hm_X0_seatsRest_2) (fun _ h9 => h9) rfl dX0_seatsRest_82 ?_
            refine lv_iload_n hx hb dX0_seatsRest_85 rfl (lv_at hl 3 rfl) ?_
            refine lv_iconst (v := 1) hx hb dX0_seatsRest_86 (by decide) ?_
            refine k_iast hx hb hK hP hD hS 1 0 rfl rfl (vin_iv a1_h (by decide)) dX0_seatsRest_87 (fun f158 H locs f158_e hP hD hS => ?_)
            have hP : va_P (dC, dI) vwCl ([(o1, .inr (0, [.ref o2, .ref o4, .ref o6, .int v8, .int v9, .int v10, .int v11, .int v12])), (o2, .inl (cI, 4096, .inl f158)), (o4, .inl (cI, 12, .inl fw5)), (o6, .inl (cI, 12, .inl f155))]) H := hP
            have hD : va_D A ([(o1, .inr (0, [.ref o2, .ref o4, .ref o6, .int v8, .int v9, .int v10, .int v11, .int v12])), (o2, .inl (cI, 4096, .inl f158)), (o4, .inl (cI, 12, .inl fw5)), (o6, .inl (cI, 12, .inl f155))]) := hD
            refine lv_iconst (v := 0) hx hb dX0_seatsRest_88 (by decide) ?_
            rw [hQ]
            exact W.zret (v := 0) (ty := .boolean) hx hb hr rfl (fun t ht hW => ⟨⟨0, (f158, f155), rfl, (iv_w ik_0 (by decide)), by rw [ht]; exact hP, va_K.moved hW.alike hK, hD⟩, hS.F ht⟩) hS.2.2 dX0_seatsRest_89
          ·
            have qh156 := nle_i h156
            have j159 : Iv 0 11 x153 := r_ltl qh156 x153_h j2 (by decide)
            refine lv_iload_n hx hb dX0_seatsRest_40 rfl (lv_at hl 1 rfl) ?_
            refine lv_iload hx hb dX0_seatsRest_41 (lv_at hl 0 rfl) ?_
            refine kc_i (D := (dC, dI)) (S := Unit) (wc := []) (wr := [(o1, .inr (0, [.ref o2, .ref o4, .ref o6, .int v8, .int v9, .int v10, .int v11, .int v12])), (o2, .inl (cI, 4096, .inl f154)), (o4, .inl (cI, 12, .inl fw5)), (o6, .inl (cI, 12, .inl f155))]) (w1 := fun _ => []) (wn := fun _ => [(o1, .inr (0, [.ref o2, .ref o4, .ref o6, .int v8, .int v9, .int v10, .int v11, .int v12])), (o2, .inl (cI, 4096, .inl f154)), (o4, .inl (cI, 12, .inl fw5)), (o6, .inl (cI, 12, .inl f155))]) (fun hPc hDc => va_runSN (As := [.int x5, .int x153]) (rest := []) ⟨hx, hb, hml, hown, hts⟩ (kX11_in_1 l dC dI cI c2 cZ x5 x153 H.size) ⟨va_cnB 2 hts gX0_seatsRest_X11_in_n62 rfl rfl rfl (hN.1 _ ns_125) (hts (.initialized RX11) hm_X0_seatsRest_12) (by decide +kernel) ⟨Nat.le_of_ble_eq_true rfl, Nat.le_of_ble_eq_true rfl⟩, (hts (.static yX11_in) hm_X0_seatsRest_11), trivial⟩ (pre_S hPc hK hDc hN) rfl rfl hl.1 rfl (lv_room (Nat.le_of_ble_eq_true rfl)) dX0_seatsRest_43 ⟨Nat.le_of_ble_eq_true rfl, Nat.le_of_ble_eq_true rfl⟩) hP hD hS hA [] [0, 1, 2, 3] [0, 1, 2, 3] rfl rfl (by decide +kernel) (by decide +kernel) (by decide +kernel) (by decide +kernel) (fun _ => rfl) (fun x160 _ H locs hq hP hD hS => ?_)
            have x160_h := hq
            have hP : va_P (dC, dI) vwCl ([(o1, .inr (0, [.ref o2, .ref o4, .ref o6, .int v8, .int v9, .int v10, .int v11, .int v12])), (o2, .inl (cI, 4096, .inl f154)), (o4, .inl (cI, 12, .inl fw5)), (o6, .inl (cI, 12, .inl f155))]) H := hP
            have hD : va_D A ([(o1, .inr (0, [.ref o2, .ref o4, .ref o6, .int v8, .int v9, .int v10, .int v11, .int v12])), (o2, .inl (cI, 4096, .inl f154)), (o4, .inl (cI, 12, .inl fw5)), (o6, .inl (cI, 12, .inl f155))]) := hD
            refine lv_if_eq (tgt := 75) hx hb dX0_seatsRest_46 (by decide) (fun h161 => ?_) (fun h161 => ?_)
            ·
              have j162 : Iv 0 0 x160 := r_eq h161 ik_0
              obtain ⟨x163, x163_e⟩ : ∃ z : Int32, z = x153 + 1 := ⟨_, rfl⟩
              have x163_h : Iv 1 12 x163 := iv_e x163_e (iv_add j159 ik_1 (by decide))
              refine lv_iinc (v := x163) (lv' := [(4, .int x163), (3, .int x5), (0, .ref o1), (1, .int a1), (2, .int 7)]) hx hb dX0_seatsRest_75 hl (k := 0) rfl (incN (by decide +kernel) x163_e) (by decide) rfl (fun ls hl => ?_)
              refine lv_goto (tgt := 31) hx hb dX0_seatsRest_78 (by decide) ?_
              exact ih1 x163 f154 f155 _ _ _ (ms_up x163_e j159 (by decide) hM1) (iv_w x163_h (by decide)) hP hD hS hl
            ·
              have j164 : Iv 1 1 x160 := r_nelo h161 x160_h ik_0 (by decide)
              refine lv_aload_n hx hb dX0_seatsRest_49 rfl (lv_at hl 2 rfl) ?_
              refine va_get (D := (dC, dI)) (ci := 0) (v := .ref o6) (C := RX0) (T := TX0) (N := 8) hx hb hts iw_X0_seatsRest_X0 hown hK hP 0 rfl rfl 2 (by decide) (hts (.fieldLink RX0 41 "HolelessHouse$Benches" "places" "[I") hm_X0_seatsRest_3) (fun _ h9 => h9) rfl dX0_seatsRest_50 ?_
              refine lv_iload_n hx hb dX0_seatsRest_53 rfl (lv_at hl 4 rfl) ?_
              refine lv_iload hx hb dX0_seatsRest_54 (lv_at hl 0 rfl) ?_
              refine k_iast hx hb hK hP hD hS 3 0 rfl rfl (vin_iv ik_7 (by decide)) dX0_seatsRest_56 (fun f165 H locs f165_e hP hD hS => ?_)
              have hP : va_P (dC, dI) vwCl ([(o1, .inr (0, [.ref o2, .ref o4, .ref o6, .int v8, .int v9, .int v10, .int v11, .int v12])), (o2, .inl (cI, 4096, .inl f154)), (o4, .inl (cI, 12, .inl fw5)), (o6, .inl (cI, 12, .inl f165))]) H := hP
              have hD : va_D A ([(o1, .inr (0, [.ref o2, .ref o4, .ref o6, .int v8, .int v9, .int v10, .int v11, .int v12])), (o2, .inl (cI, 4096, .inl f154)), (o4, .inl (cI, 12, .inl fw5)), (o6, .inl (cI, 12, .inl f165))]) := hD
              refine lv_aload_n hx hb dX0_seatsRest_57 rfl (lv_at hl 2 rfl) ?_
              refine lv_iload_n hx hb dX0_seatsRest_58 rfl (lv_at hl 3 rfl) ?_
              refine lv_iconst (v := 1) hx hb dX0_seatsRest_59 (by decide) ?_
              refine lv_iload hx hb dX0_seatsRest_60 (lv_at hl 0 rfl) ?_
              refine lv_ishl hx hb dX0_seatsRest_62 (lv_topi (fun x166 x166_e => ?_))
              have x166_h : Iv 1 2048 x166 := iv_e x166_e (iv_shl1 j159 (by decide))
              refine lv_ior hx hb dX0_seatsRest_63 (lv_topi (fun x167 x167_e => ?_))
              have x167_h : Iv 0 4095 x167 := iv_e x167_e (iv_or 12 a1_h x166_h (by decide))
              refine lv_iload_n hx hb dX0_seatsRest_64 rfl (lv_at hl 4 rfl) ?_
              refine lv_iconst (v := 1) hx hb dX0_seatsRest_65 (by decide) ?_
              refine lv_iadd hx hb dX0_seatsRest_66 (tk_i (v := 8) (by decide +kernel) ?_)
              refine kc_i (D := (dC, dI)) (S := (Nat → Int32) × (Nat → Int32)) (wc := [(o1, .inr (0, [.ref o2, .ref o4, .ref o6, .int v8, .int v9, .int v10, .int v11, .int v12])), (o2, .inl (cI, 4096, .inl f154)), (o4, .inl (cI, 12, .inl fw5)), (o6, .inl (cI, 12, .inl f165))]) (wr := []) (w1 := fun u => [(o1, .inr (0, [.ref o2, .ref o4, .ref o6, .int v8, .int v9, .int v10, .int v11, .int v12])), (o2, .inl (cI, 4096, .inl u.1)), (o4, .inl (cI, 12, .inl fw5)), (o6, .inl (cI, 12, .inl u.2))]) (wn := fun u => [(o1, .inr (0, [.ref o2, .ref o4, .ref o6, .int v8, .int v9, .int v10, .int v11, .int v12])), (o2, .inl (cI, 4096, .inl u.1)), (o4, .inl (cI, 12, .inl fw5)), (o6, .inl (cI, 12, .inl u.2))]) (fun hPc hDc => va_runS (As := [.ref o1, .int x167, .int 8]) (rest := []) ⟨hx, hb, hml, hown, hts⟩ (kX0_seatsRest_5 l dC dI cI c2 cZ o1 o2 o4 o6 f154 fw5 f165 v8 v9 v10 v11 v12 x167 H.size v8_h (iv_w j2 (by decide)) v11_h x167_h) (va_cwS 3 hts gX0_seatsRest_X0_seatsRest rfl rfl rfl (by decide +kernel) ⟨Nat.le_of_ble_eq_true rfl, Nat.le_of_ble_eq_true rfl⟩) (pre_S hPc hK hDc hN) rfl rfl hl.1 rfl (lv_room (Nat.le_of_ble_eq_true rfl)) dX0_seatsRest_67 ⟨Nat.le_of_ble_eq_true rfl, Nat.le_of_ble_eq_true rfl⟩) hP hD hS hA [0, 1, 2, 3] [] [0, 1, 2, 3] rfl rfl (by decide +kernel) (by decide +kernel) (by decide +kernel) (by decide +kernel) (fun _ => rfl) (fun x170 u H locs hq hP hD hS => ?_)
              obtain ⟨f168, f169⟩ := u
              have x170_h := hq
              have hP : va_P (dC, dI) vwCl ([(o1, .inr (0, [.ref o2, .ref o4, .ref o6, .int v8, .int v9, .int v10, .int v11, .int v12])), (o2, .inl (cI, 4096, .inl f168)), (o4, .inl (cI, 12, .inl fw5)), (o6, .inl (cI, 12, .inl f169))]) H := hP
              have hD : va_D A ([(o1, .inr (0, [.ref o2, .ref o4, .ref o6, .int v8, .int v9, .int v10, .int v11, .int v12])), (o2, .inl (cI, 4096, .inl f168)), (o4, .inl (cI, 12, .inl fw5)), (o6, .inl (cI, 12, .inl f169))]) := hD
              refine lv_if_eq (tgt := 75) hx hb dX0_seatsRest_70 (by decide) (fun h171 => ?_) (fun h171 => ?_)
              ·
                have j172 : Iv 0 0 x170 := r_eq h171 ik_0
                obtain ⟨x173, x173_e⟩ : ∃ z : Int32, z = x153 + 1 := ⟨_, rfl⟩
                have x173_h : Iv 1 12 x173 := iv_e x173_e (iv_add j159 ik_1 (by decide))
                refine lv_iinc (v := x173) (lv' := [(4, .int x173), (3, .int x5), (0, .ref o1), (1, .int a1), (2, .int 7)]) hx hb dX0_seatsRest_75 hl (k := 0) rfl (incN (by decide +kernel) x173_e) (by decide) rfl (fun ls hl => ?_)
                refine lv_goto (tgt := 31) hx hb dX0_seatsRest_78 (by decide) ?_
                exact ih1 x173 f168 f169 _ _ _ (ms_up x173_e j159 (by decide) hM1) (iv_w x173_h (by decide)) hP hD hS hl
              ·
                have j174 : Iv 1 1 x170 := r_nelo h171 x170_h ik_0 (by decide)
                refine lv_iconst (v := 1) hx hb dX0_seatsRest_73 (by decide) ?_
                rw [hQ]
                exact W.zret (v := 1) (ty := .boolean) hx hb hr rfl (fun t ht hW => ⟨⟨1, (f168, f169), rfl, (iv_w ik_1 (by decide)), by rw [ht]; exact hP, va_K.moved hW.alike hK, hD⟩, hS.F ht⟩) hS.2.2 dX0_seatsRest_74
      exact L1 _ 0 fw3 fw7 _ _ _ (Nat.lt_succ_self _) (iv_w ik_0 (by decide)) hP hD hS hl
    ·
      have j175 : Iv 1 1 x3 := r_eq h4 ik_1
      refine lv_iconst (v := 0) hx hb dX0_seatsRest_20 (by decide) ?_
      rw [hQ]
      exact W.zret (v := 0) (ty := .boolean) hx hb hr rfl (fun t ht hW => ⟨⟨0, (fw3, fw7), rfl, (iv_w ik_0 (by decide)), by rw [ht]; exact hP, va_K.moved hW.alike hK, hD⟩, hS.F ht⟩) hS.2.2 dX0_seatsRest_21
  ·
    have qh1 := nlt_i h1
    have j176 : Iv 0 7 v9 := r_lel qh1 v9_h ik_7 (by decide)
    refine lv_iconst (v := 1) hx hb dX0_seatsRest_8 (by decide) ?_
    rw [hQ]
    exact W.zret (v := 1) (ty := .boolean) hx hb hr rfl (fun t ht hW => ⟨⟨1, (fw3, fw7), rfl, (iv_w ik_1 (by decide)), by rw [ht]; exact hP, va_K.moved hW.alike hK, hD⟩, hS.F ht⟩) hS.2.2 dX0_seatsRest_9
set_option maxHeartbeats 4000000 in
set_option maxRecDepth 100000 in
theorem kX0_seatsRest_7 (l : Launch) (dC : Nat → ClassId) (dI : Nat → Nat → Nat) (cI c2 cZ : ClassId) (o1 : Nat) (o2 : Nat) (o4 : Nat) (o6 : Nat) (fw3 : Nat → Int32) (fw5 : Nat → Int32) (fw7 : Nat → Int32) (v8 : Int32) (v9 : Int32) (v10 : Int32) (v11 : Int32) (v12 : Int32) (a1 : Int32) (sz : Nat) (v8_h : Iv 0 12 v8) (v9_h : Iv 0 12 v9) (v11_h : Iv 0 1 v11) (a1_h : Iv 0 4095 a1) : Met l yX0_seatsRest wsX0_seatsRest ({ frames := 6, cells := 0, slots := 0, locals := 144 }) (va_Pc [.ref o1, .int a1, .int 6] (wPre (dC, dI) [(cI, .int), (c2, .array .int), (cZ, .boolean)] ([(o1, .inr (0, [.ref o2, .ref o4, .ref o6, .int v8, .int v9, .int v10, .int v11, .int v12])), (o2, .inl (cI, 4096, .inl fw3)), (o4, .inl (cI, 12, .inl fw5)), (o6, .inl (cI, 12, .inl fw7))]) sz)) (va_Qi (fun (r : Int32) (u : (Nat → Int32) × (Nat → Int32)) => Iv 0 1 r) (fun u t => wPost (dC, dI) [(cI, .int), (c2, .array .int), (cZ, .boolean)] (va_A ([(o1, .inr (0, [.ref o2, .ref o4, .ref o6, .int v8, .int v9, .int v10, .int v11, .int v12])), (o2, .inl (cI, 4096, .inl fw3)), (o4, .inl (cI, 12, .inl fw5)), (o6, .inl (cI, 12, .inl fw7))]) sz) ([(o1, .inr (0, [.ref o2, .ref o4, .ref o6, .int v8, .int v9, .int v10, .int v11, .int v12])), (o2, .inl (cI, 4096, .inl u.1)), (o4, .inl (cI, 12, .inl fw5)), (o6, .inl (cI, 12, .inl u.2))]) t) (va_A ([(o1, .inr (0, [.ref o2, .ref o4, .ref o6, .int v8, .int v9, .int v10, .int v11, .int v12])), (o2, .inl (cI, 4096, .inl fw3)), (o4, .inl (cI, 12, .inl fw5)), (o6, .inl (cI, 12, .inl fw7))]) sz)) 0 0 (va_A ([(o1, .inr (0, [.ref o2, .ref o4, .ref o6, .int v8, .int v9, .int v10, .int v11, .int v12])), (o2, .inl (cI, 4096, .inl fw3)), (o4, .inl (cI, 12, .inl fw5)), (o6, .inl (cI, 12, .inl fw7))]) sz) := by
  refine Met.ofW (cc := cX0_seatsRest) (maxL := 5) (ret := (some .boolean)) (by decide) rfl ?_
  intro p e s m args below meth c s₁ B hml hv
  obtain ⟨rfl, hsz, hP, hK, hD0, hN⟩ := hv
  have hx := B.exec
  have hb := B.bytes
  have hr := B.returns
  have hts := atoms_spec (ws := wsX0_seatsRest) B.pre
  have hown : s.vm.findClass RX0 = some m.cls := findClass_of_methodNamed B.named
  have hlocks := B.notSynchronized
  subst hsz
  have hD := hD0.self (sz := s.heap.size)
  generalize hAe : va_A ([(o1, .inr (0, [.ref o2, .ref o4, .ref o6, .int v8, .int v9, .int v10, .int v11, .int v12])), (o2, .inl (cI, 4096, .inl fw3)), (o4, .inl (cI, 12, .inl fw5)), (o6, .inl (cI, 12, .inl fw7))]) s.heap.size = A at hD ⊢
  have hA : ∀ q : Nat, s.heap.size ≤ q → A q := fun q h => by rw [← hAe]; exact Or.inr h
  have hS : va_S A s.heap s.heap [] := va_S.rf
  have hP : va_P (dC, dI) vwCl ([(o1, .inr (0, [.ref o2, .ref o4, .ref o6, .int v8, .int v9, .int v10, .int v11, .int v12])), (o2, .inl (cI, 4096, .inl fw3)), (o4, .inl (cI, 12, .inl fw5)), (o6, .inl (cI, 12, .inl fw7))]) s.heap := hP
  have hl := lv_entry ([.ref o1, .int a1, .int 6]) (n := 5) (Nat.le_of_ble_eq_true rfl)
  rw [lg_entry_eq]
  generalize (lg_sl ([.ref o1, .int a1, .int 6]) ++ List.replicate (5 - (lg_sl ([.ref o1, .int a1, .int 6])).length) Slot.unset).toArray = ls at hl ⊢
  have hl : lv_has ls 5 [(0, .ref o1), (1, .int a1), (2, .int 6)] := hl
  refine gen_Q (fun Q hQ => ?_)
  refine lv_iload_n hx hb dX0_seatsRest_0 rfl (lv_at hl 2 rfl) ?_
  refine lv_aload_n hx hb dX0_seatsRest_1 rfl (lv_at hl 0 rfl) ?_
  refine va_get (D := (dC, dI)) (ci := 0) (v := .int v9) (C := RX0) (T := TX0) (N := 8) hx hb hts iw_X0_seatsRest_X0 hown hK hP 0 rfl rfl 4 (by decide) (hts (.fieldLink RX0 25 "HolelessHouse$Benches" "width" "I") hm_X0_seatsRest_1) (fun _ h9 => h9) rfl dX0_seatsRest_2 ?_
  refine lv_icmp_lt (tgt := 10) hx hb dX0_seatsRest_5 (by decide) (fun h1 => ?_) (fun h1 => ?_)
  ·
    have qh1 := lt_i h1
    have j2 : Iv 7 12 v9 := r_ltr qh1 ik_6 v9_h (by decide)
    refine lv_aload_n hx hb dX0_seatsRest_10 rfl (lv_at hl 0 rfl) ?_
    refine va_get (D := (dC, dI)) (ci := 0) (v := .ref o2) (C := RX0) (T := TX0) (N := 8) hx hb hts iw_X0_seatsRest_X0 hown hK hP 0 rfl rfl 0 (by decide) (hts (.fieldLink RX0 38 "HolelessHouse$Benches" "notes" "[I") hm_X0_seatsRest_2) (fun _ h9 => h9) rfl dX0_seatsRest_11 ?_
    refine lv_iload_n hx hb dX0_seatsRest_14 rfl (lv_at hl 1 rfl) ?_
    refine va_iald hx hb hK hP 1 0 rfl rfl (vin_iv a1_h (by decide)) dX0_seatsRest_15 (lv_topi (fun x3 x3_e => ?_))
    refine lv_iconst (v := 1) hx hb dX0_seatsRest_16 (by decide) ?_
    refine lv_icmp_ne (tgt := 22) hx hb dX0_seatsRest_17 (by decide) (fun h4 => ?_) (fun h4 => ?_)
    ·
      refine lv_aload_n hx hb dX0_seatsRest_22 rfl (lv_at hl 0 rfl) ?_
      refine lv_iload_n hx hb dX0_seatsRest_23 rfl (lv_at hl 1 rfl) ?_
      refine kc_i (D := (dC, dI)) (S := Unit) (wc := [(o1, .inr (0, [.ref o2, .ref o4, .ref o6, .int v8, .int v9, .int v10, .int v11, .int v12])), (o4, .inl (cI, 12, .inl fw5))]) (wr := [(o2, .inl (cI, 4096, .inl fw3)), (o6, .inl (cI, 12, .inl fw7))]) (w1 := fun _ => [(o1, .inr (0, [.ref o2, .ref o4, .ref o6, .int v8, .int v9, .int v10, .int v11, .int v12])), (o4, .inl (cI, 12, .inl fw5))]) (wn := fun _ => [(o1, .inr (0, [.ref o2, .ref o4, .ref o6, .int v8, .int v9, .int v10, .int v11, .int v12])), (o2, .inl (cI, 4096, .inl fw3)), (o4, .inl (cI, 12, .inl fw5)), (o6, .inl (cI, 12, .inl fw7))]) (fun hPc hDc => va_runV (As := [.int a1]) (rest := []) ⟨hx, hb, hml, hown, hts⟩ (kX0_mayCome_1 l dC dI cI c2 cZ o1 o2 o4 o6 fw5 v8 v9 v10 v11 v12 a1 s.heap.size v8_h (iv_w j2 (by decide)) v11_h a1_h) (cwV 1 hts gX0_seatsRest_X0_mayCome rfl rfl rfl (by decide +kernel) ⟨Nat.le_of_ble_eq_true rfl, Nat.le_of_ble_eq_true rfl⟩) (pre_V hPc hK hDc hN (ci := 0) (q0 := 0) rfl rfl) rfl rfl hl.1 rfl (lv_room (Nat.le_of_ble_eq_true rfl)) dX0_seatsRest_24 ⟨Nat.le_of_ble_eq_true rfl, Nat.le_of_ble_eq_true rfl⟩) hP hD hS hA [0, 2] [1, 3] [2, 0, 3, 1] rfl rfl (by decide +kernel) (by decide +kernel) (by decide +kernel) (by decide +kernel) (fun _ => rfl) (fun x5 _ H locs hq hP hD hS => ?_)
      have x5_h := hq
      have hP : va_P (dC, dI) vwCl ([(o1, .inr (0, [.ref o2, .ref o4, .ref o6, .int v8, .int v9, .int v10, .int v11, .int v12])), (o2, .inl (cI, 4096, .inl fw3)), (o4, .inl (cI, 12, .inl fw5)), (o6, .inl (cI, 12, .inl fw7))]) H := hP
      have hD : va_D A ([(o1, .inr (0, [.ref o2, .ref o4, .ref o6, .int v8, .int v9, .int v10, .int v11, .int v12])), (o2, .inl (cI, 4096, .inl fw3)), (o4, .inl (cI, 12, .inl fw5)), (o6, .inl (cI, 12, .inl fw7))]) := hD
      refine lv_istore_n (lv' := [(3, .int x5), (0, .ref o1), (1, .int a1), (2, .int 6)]) hx hb dX0_seatsRest_27 rfl hl (by decide) rfl (fun ls hl => ?_)
      refine lv_iconst (v := 0) hx hb dX0_seatsRest_28 (by decide) ?_
      refine lv_istore (lv' := [(4, .int 0), (3, .int x5), (0, .ref o1), (1, .int a1), (2, .int 6)]) hx hb dX0_seatsRest_29 hl (by decide) rfl (fun ls hl => ?_)
      have L1 : ∀ (N : Nat) (x153 : Int32) (f154 : Nat → Int32) (f155 : Nat → Int32) (H : Heap) (locs : List Loc) (ls : Array Slot), (12 - x153.toInt).toNat < N → Iv 0 12 x153 → va_P (dC, dI) vwCl ([(o1, .inr (0, [.ref o2, .ref o4, .ref o6, .int v8, .int v9, .int v10, .int v11, .int v12])), (o2, .inl (cI, 4096, .inl f154)), (o4, .inl (cI, 12, .inl fw5)), (o6, .inl (cI, 12, .inl f155))]) H → va_D A ([(o1, .inr (0, [.ref o2, .ref o4, .ref o6, .int v8, .int v9, .int v10, .int v11, .int v12])), (o2, .inl (cI, 4096, .inl f154)), (o4, .inl (cI, 12, .inl fw5)), (o6, .inl (cI, 12, .inl f155))]) → va_S A s.heap H locs → lv_has ls 5 [(4, .int x153), (3, .int x5), (0, .ref o1), (1, .int a1), (2, .int 6)] → W p l e ({ frames := 6, cells := 0, slots := 0, locals := 144 }) s m ([.ref o1, .int a1, .int 6] : List Value).toArray below meth c H locs 0 0 Q (F0 m 31 ls []) := by
        intro N
        induction N with
        | zero =>
          intro x153 f154 f155 H locs ls hM
          exact absurd hM (Nat.not_lt_zero _)
        | succ N ih1 =>
          intro x153 f154 f155 H locs ls hM1 x153_h hP hD hS hl
          refine lv_iload hx hb dX0_seatsRest_31 (lv_at hl 0 rfl) ?_
          refine lv_aload_n hx hb dX0_seatsRest_33 rfl (lv_at hl 2 rfl) ?_
          refine va_get (D := (dC, dI)) (ci := 0) (v := .int v9) (C := RX0) (T := TX0) (N := 8) hx hb hts iw_X0_seatsRest_X0 hown hK hP 0 rfl rfl 4 (by decide) (hts (.fieldLink RX0 25 "HolelessHouse$Benches" "width" "I") hm_X0_seatsRest_1) (fun _ h9 => h9) rfl dX0_seatsRest_34 ?_
          refine lv_icmp_ge (tgt := 81) hx hb dX0_seatsRest_37 (by decide) (fun h156 => ?_) (fun h156 => ?_)
          ·
            have qh156 := le_i h156
            have j157 : Iv 7 12 x153 := r_ler qh156 j2 x153_h (by decide)
            refine lv_aload_n hx hb dX0_seatsRest_81 rfl (lv_at hl 2 rfl) ?_
            refine va_get (D := (dC, dI)) (ci := 0) (v := .ref o2) (C := RX0) (T := TX0) (N := 8) hx hb hts iw_X0_seatsRest_X0 hown hK hP 0 rfl rfl 0 (by decide) (hts (.fieldLink RX0 38 "HolelessHouse$Benches" "notes" "[I") hm_X0_seatsRest_2) (fun _ h9 => h9) rfl dX0_seatsRest_82 ?_
            refine lv_iload_n hx hb dX0_seatsRest_85 rfl (lv_at hl 3 rfl) ?_
            refine lv_iconst (v := 1) hx hb dX0_seatsRest_86 (by decide) ?_
            refine k_iast hx hb hK hP hD hS 1 0 rfl rfl (vin_iv a1_h (by decide)) dX0_seatsRest_87 (fun f158 H locs f158_e hP hD hS => ?_)
            have hP : va_P (dC, dI) vwCl ([(o1, .inr (0, [.ref o2, .ref o4, .ref o6, .int v8, .int v9, .int v10, .int v11, .int v12])), (o2, .inl (cI, 4096, .inl f158)), (o4, .inl (cI, 12, .inl fw5)), (o6, .inl (cI, 12, .inl f155))]) H := hP
            have hD : va_D A ([(o1, .inr (0, [.ref o2, .ref o4, .ref o6, .int v8, .int v9, .int v10, .int v11, .int v12])), (o2, .inl (cI, 4096, .inl f158)), (o4, .inl (cI, 12, .inl fw5)), (o6, .inl (cI, 12, .inl f155))]) := hD
            refine lv_iconst (v := 0) hx hb dX0_seatsRest_88 (by decide) ?_
            rw [hQ]
            exact W.zret (v := 0) (ty := .boolean) hx hb hr rfl (fun t ht hW => ⟨⟨0, (f158, f155), rfl, (iv_w ik_0 (by decide)), by rw [ht]; exact hP, va_K.moved hW.alike hK, hD⟩, hS.F ht⟩) hS.2.2 dX0_seatsRest_89
          ·
            have qh156 := nle_i h156
            have j159 : Iv 0 11 x153 := r_ltl qh156 x153_h j2 (by decide)
            refine lv_iload_n hx hb dX0_seatsRest_40 rfl (lv_at hl 1 rfl) ?_
            refine lv_iload hx hb dX0_seatsRest_41 (lv_at hl 0 rfl) ?_
            refine kc_i (D := (dC, dI)) (S := Unit) (wc := []) (wr := [(o1, .inr (0, [.ref o2, .ref o4, .ref o6, .int v8, .int v9, .int v10, .int v11, .int v12])), (o2, .inl (cI, 4096, .inl f154)), (o4, .inl (cI, 12, .inl fw5)), (o6, .inl (cI, 12, .inl f155))]) (w1 := fun _ => []) (wn := fun _ => [(o1, .inr (0, [.ref o2, .ref o4, .ref o6, .int v8, .int v9, .int v10, .int v11, .int v12])), (o2, .inl (cI, 4096, .inl f154)), (o4, .inl (cI, 12, .inl fw5)), (o6, .inl (cI, 12, .inl f155))]) (fun hPc hDc => va_runSN (As := [.int x5, .int x153]) (rest := []) ⟨hx, hb, hml, hown, hts⟩ (kX11_in_1 l dC dI cI c2 cZ x5 x153 H.size) ⟨va_cnB 2 hts gX0_seatsRest_X11_in_n62 rfl rfl rfl (hN.1 _ ns_125) (hts (.initialized RX11) hm_X0_seatsRest_12) (by decide +kernel) ⟨Nat.le_of_ble_eq_true rfl, Nat.le_of_ble_eq_true rfl⟩, (hts (.static yX11_in) hm_X0_seatsRest_11), trivial⟩ (pre_S hPc hK hDc hN) rfl rfl hl.1 rfl (lv_room (Nat.le_of_ble_eq_true rfl)) dX0_seatsRest_43 ⟨Nat.le_of_ble_eq_true rfl, Nat.le_of_ble_eq_true rfl⟩) hP hD hS hA [] [0, 1, 2, 3] [0, 1, 2, 3] rfl rfl (by decide +kernel) (by decide +kernel) (by decide +kernel) (by decide +kernel) (fun _ => rfl) (fun x160 _ H locs hq hP hD hS => ?_)
            have x160_h := hq
            have hP : va_P (dC, dI) vwCl ([(o1, .inr (0, [.ref o2, .ref o4, .ref o6, .int v8, .int v9, .int v10, .int v11, .int v12])), (o2, .inl (cI, 4096, .inl f154)), (o4, .inl (cI, 12, .inl fw5)), (o6, .inl (cI, 12, .inl f155))]) H := hP
            have hD : va_D A ([(o1, .inr (0, [.ref o2, .ref o4, .ref o6, .int v8, .int v9, .int v10, .int v11, .int v12])), (o2, .inl (cI, 4096, .inl f154)), (o4, .inl (cI, 12, .inl fw5)), (o6, .inl (cI, 12, .inl f155))]) := hD
            refine lv_if_eq (tgt := 75) hx hb dX0_seatsRest_46 (by decide) (fun h161 => ?_) (fun h161 => ?_)
            ·
              have j162 : Iv 0 0 x160 := r_eq h161 ik_0
              obtain ⟨x163, x163_e⟩ : ∃ z : Int32, z = x153 + 1 := ⟨_, rfl⟩
              have x163_h : Iv 1 12 x163 := iv_e x163_e (iv_add j159 ik_1 (by decide))
              refine lv_iinc (v := x163) (lv' := [(4, .int x163), (3, .int x5), (0, .ref o1), (1, .int a1), (2, .int 6)]) hx hb dX0_seatsRest_75 hl (k := 0) rfl (incN (by decide +kernel) x163_e) (by decide) rfl (fun ls hl => ?_)
              refine lv_goto (tgt := 31) hx hb dX0_seatsRest_78 (by decide) ?_
              exact ih1 x163 f154 f155 _ _ _ (ms_up x163_e j159 (by decide) hM1) (iv_w x163_h (by decide)) hP hD hS hl
            ·
              have j164 : Iv 1 1 x160 := r_nelo h161 x160_h ik_0 (by decide)
              refine lv_aload_n hx hb dX0_seatsRest_49 rfl (lv_at hl 2 rfl) ?_
              refine va_get (D := (dC, dI)) (ci := 0) (v := .ref o6) (C := RX0) (T := TX0) (N := 8) hx hb hts iw_X0_seatsRest_X0 hown hK hP 0 rfl rfl 2 (by decide) (hts (.fieldLink RX0 41 "HolelessHouse$Benches" "places" "[I") hm_X0_seatsRest_3) (fun _ h9 => h9) rfl dX0_seatsRest_50 ?_
              refine lv_iload_n hx hb dX0_seatsRest_53 rfl (lv_at hl 4 rfl) ?_
              refine lv_iload hx hb dX0_seatsRest_54 (lv_at hl 0 rfl) ?_
              refine k_iast hx hb hK hP hD hS 3 0 rfl rfl (vin_iv ik_6 (by decide)) dX0_seatsRest_56 (fun f165 H locs f165_e hP hD hS => ?_)
              have hP : va_P (dC, dI) vwCl ([(o1, .inr (0, [.ref o2, .ref o4, .ref o6, .int v8, .int v9, .int v10, .int v11, .int v12])), (o2, .inl (cI, 4096, .inl f154)), (o4, .inl (cI, 12, .inl fw5)), (o6, .inl (cI, 12, .inl f165))]) H := hP
              have hD : va_D A ([(o1, .inr (0, [.ref o2, .ref o4, .ref o6, .int v8, .int v9, .int v10, .int v11, .int v12])), (o2, .inl (cI, 4096, .inl f154)), (o4, .inl (cI, 12, .inl fw5)), (o6, .inl (cI, 12, .inl f165))]) := hD
              refine lv_aload_n hx hb dX0_seatsRest_57 rfl (lv_at hl 2 rfl) ?_
              refine lv_iload_n hx hb dX0_seatsRest_58 rfl (lv_at hl 3 rfl) ?_
              refine lv_iconst (v := 1) hx hb dX0_seatsRest_59 (by decide) ?_
              refine lv_iload hx hb dX0_seatsRest_60 (lv_at hl 0 rfl) ?_
              refine lv_ishl hx hb dX0_seatsRest_62 (lv_topi (fun x166 x166_e => ?_))
              have x166_h : Iv 1 2048 x166 := iv_e x166_e (iv_shl1 j159 (by decide))
              refine lv_ior hx hb dX0_seatsRest_63 (lv_topi (fun x167 x167_e => ?_))
              have x167_h : Iv 0 4095 x167 := iv_e x167_e (iv_or 12 a1_h x166_h (by decide))
              refine lv_iload_n hx hb dX0_seatsRest_64 rfl (lv_at hl 4 rfl) ?_
              refine lv_iconst (v := 1) hx hb dX0_seatsRest_65 (by decide) ?_
              refine lv_iadd hx hb dX0_seatsRest_66 (tk_i (v := 7) (by decide +kernel) ?_)
              refine kc_i (D := (dC, dI)) (S := (Nat → Int32) × (Nat → Int32)) (wc := [(o1, .inr (0, [.ref o2, .ref o4, .ref o6, .int v8, .int v9, .int v10, .int v11, .int v12])), (o2, .inl (cI, 4096, .inl f154)), (o4, .inl (cI, 12, .inl fw5)), (o6, .inl (cI, 12, .inl f165))]) (wr := []) (w1 := fun u => [(o1, .inr (0, [.ref o2, .ref o4, .ref o6, .int v8, .int v9, .int v10, .int v11, .int v12])), (o2, .inl (cI, 4096, .inl u.1)), (o4, .inl (cI, 12, .inl fw5)), (o6, .inl (cI, 12, .inl u.2))]) (wn := fun u => [(o1, .inr (0, [.ref o2, .ref o4, .ref o6, .int v8, .int v9, .int v10, .int v11, .int v12])), (o2, .inl (cI, 4096, .inl u.1)), (o4, .inl (cI, 12, .inl fw5)), (o6, .inl (cI, 12, .inl u.2))]) (fun hPc hDc => va_runS (As := [.ref o1, .int x167, .int 7]) (rest := []) ⟨hx, hb, hml, hown, hts⟩ (kX0_seatsRest_6 l dC dI cI c2 cZ o1 o2 o4 o6 f154 fw5 f165 v8 v9 v10 v11 v12 x167 H.size v8_h (iv_w j2 (by decide)) v11_h x167_h) (va_cwS 3 hts gX0_seatsRest_X0_seatsRest rfl rfl rfl (by decide +kernel) ⟨Nat.le_of_ble_eq_true rfl, Nat.le_of_ble_eq_true rfl⟩) (pre_S hPc hK hDc hN) rfl rfl hl.1 rfl (lv_room (Nat.le_of_ble_eq_true rfl)) dX0_seatsRest_67 ⟨Nat.le_of_ble_eq_true rfl, Nat.le_of_ble_eq_true rfl⟩) hP hD hS hA [0, 1, 2, 3] [] [0, 1, 2, 3] rfl rfl (by decide +kernel) (by decide +kernel) (by decide +kernel) (by decide +kernel) (fun _ => rfl) (fun x170 u H locs hq hP hD hS => ?_)
              obtain ⟨f168, f169⟩ := u
              have x170_h := hq
              have hP : va_P (dC, dI) vwCl ([(o1, .inr (0, [.ref o2, .ref o4, .ref o6, .int v8, .int v9, .int v10, .int v11, .int v12])), (o2, .inl (cI, 4096, .inl f168)), (o4, .inl (cI, 12, .inl fw5)), (o6, .inl (cI, 12, .inl f169))]) H := hP
              have hD : va_D A ([(o1, .inr (0, [.ref o2, .ref o4, .ref o6, .int v8, .int v9, .int v10, .int v11, .int v12])), (o2, .inl (cI, 4096, .inl f168)), (o4, .inl (cI, 12, .inl fw5)), (o6, .inl (cI, 12, .inl f169))]) := hD
              refine lv_if_eq (tgt := 75) hx hb dX0_seatsRest_70 (by decide) (fun h171 => ?_) (fun h171 => ?_)
              ·
                have j172 : Iv 0 0 x170 := r_eq h171 ik_0
                obtain ⟨x173, x173_e⟩ : ∃ z : Int32, z = x153 + 1 := ⟨_, rfl⟩
                have x173_h : Iv 1 12 x173 := iv_e x173_e (iv_add j159 ik_1 (by decide))
                refine lv_iinc (v := x173) (lv' := [(4, .int x173), (3, .int x5), (0, .ref o1), (1, .int a1), (2, .int 6)]) hx hb dX0_seatsRest_75 hl (k := 0) rfl (incN (by decide +kernel) x173_e) (by decide) rfl (fun ls hl => ?_)
                refine lv_goto (tgt := 31) hx hb dX0_seatsRest_78 (by decide) ?_
                exact ih1 x173 f168 f169 _ _ _ (ms_up x173_e j159 (by decide) hM1) (iv_w x173_h (by decide)) hP hD hS hl
              ·
                have j174 : Iv 1 1 x170 := r_nelo h171 x170_h ik_0 (by decide)
                refine lv_iconst (v := 1) hx hb dX0_seatsRest_73 (by decide) ?_
                rw [hQ]
                exact W.zret (v := 1) (ty := .boolean) hx hb hr rfl (fun t ht hW => ⟨⟨1, (f168, f169), rfl, (iv_w ik_1 (by decide)), by rw [ht]; exact hP, va_K.moved hW.alike hK, hD⟩, hS.F ht⟩) hS.2.2 dX0_seatsRest_74
      exact L1 _ 0 fw3 fw7 _ _ _ (Nat.lt_succ_self _) (iv_w ik_0 (by decide)) hP hD hS hl
    ·
      have j175 : Iv 1 1 x3 := r_eq h4 ik_1
      refine lv_iconst (v := 0) hx hb dX0_seatsRest_20 (by decide) ?_
      rw [hQ]
      exact W.zret (v := 0) (ty := .boolean) hx hb hr rfl (fun t ht hW => ⟨⟨0, (fw3, fw7), rfl, (iv_w ik_0 (by decide)), by rw [ht]; exact hP, va_K.moved hW.alike hK, hD⟩, hS.F ht⟩) hS.2.2 dX0_seatsRest_21
  ·
    have qh1 := nlt_i h1
    have j176 : Iv 0 6 v9 := r_lel qh1 v9_h ik_6 (by decide)
    refine lv_iconst (v := 1) hx hb dX0_seatsRest_8 (by decide) ?_
    rw [hQ]
    exact W.zret (v := 1) (ty := .boolean) hx hb hr rfl (fun t ht hW => ⟨⟨1, (fw3, fw7), rfl, (iv_w ik_1 (by decide)), by rw [ht]; exact hP, va_K.moved hW.alike hK, hD⟩, hS.F ht⟩) hS.2.2 dX0_seatsRest_9
set_option maxHeartbeats 4000000 in
set_option maxRecDepth 100000 in
theorem kX0_seatsRest_8 (l : Launch) (dC : Nat → ClassId) (dI : Nat → Nat → Nat) (cI c2 cZ : ClassId) (o1 : Nat) (o2 : Nat) (o4 : Nat) (o6 : Nat) (fw3 : Nat → Int32) (fw5 : Nat → Int32) (fw7 : Nat → Int32) (v8 : Int32) (v9 : Int32) (v10 : Int32) (v11 : Int32) (v12 : Int32) (a1 : Int32) (sz : Nat) (v8_h : Iv 0 12 v8) (v9_h : Iv 0 12 v9) (v11_h : Iv 0 1 v11) (a1_h : Iv 0 4095 a1) : Met l yX0_seatsRest wsX0_seatsRest ({ frames := 7, cells := 0, slots := 0, locals := 168 }) (va_Pc [.ref o1, .int a1, .int 5] (wPre (dC, dI) [(cI, .int), (c2, .array .int), (cZ, .boolean)] ([(o1, .inr (0, [.ref o2, .ref o4, .ref o6, .int v8, .int v9, .int v10, .int v11, .int v12])), (o2, .inl (cI, 4096, .inl fw3)), (o4, .inl (cI, 12, .inl fw5)), (o6, .inl (cI, 12, .inl fw7))]) sz)) (va_Qi (fun (r : Int32) (u : (Nat → Int32) × (Nat → Int32)) => Iv 0 1 r) (fun u t => wPost (dC, dI) [(cI, .int), (c2, .array .int), (cZ, .boolean)] (va_A ([(o1, .inr (0, [.ref o2, .ref o4, .ref o6, .int v8, .int v9, .int v10, .int v11, .int v12])), (o2, .inl (cI, 4096, .inl fw3)), (o4, .inl (cI, 12, .inl fw5)), (o6, .inl (cI, 12, .inl fw7))]) sz) ([(o1, .inr (0, [.ref o2, .ref o4, .ref o6, .int v8, .int v9, .int v10, .int v11, .int v12])), (o2, .inl (cI, 4096, .inl u.1)), (o4, .inl (cI, 12, .inl fw5)), (o6, .inl (cI, 12, .inl u.2))]) t) (va_A ([(o1, .inr (0, [.ref o2, .ref o4, .ref o6, .int v8, .int v9, .int v10, .int v11, .int v12])), (o2, .inl (cI, 4096, .inl fw3)), (o4, .inl (cI, 12, .inl fw5)), (o6, .inl (cI, 12, .inl fw7))]) sz)) 0 0 (va_A ([(o1, .inr (0, [.ref o2, .ref o4, .ref o6, .int v8, .int v9, .int v10, .int v11, .int v12])), (o2, .inl (cI, 4096, .inl fw3)), (o4, .inl (cI, 12, .inl fw5)), (o6, .inl (cI, 12, .inl fw7))]) sz) := by
  refine Met.ofW (cc := cX0_seatsRest) (maxL := 5) (ret := (some .boolean)) (by decide) rfl ?_
  intro p e s m args below meth c s₁ B hml hv
  obtain ⟨rfl, hsz, hP, hK, hD0, hN⟩ := hv
  have hx := B.exec
  have hb := B.bytes
  have hr := B.returns
  have hts := atoms_spec (ws := wsX0_seatsRest) B.pre
  have hown : s.vm.findClass RX0 = some m.cls := findClass_of_methodNamed B.named
  have hlocks := B.notSynchronized
  subst hsz
  have hD := hD0.self (sz := s.heap.size)
  generalize hAe : va_A ([(o1, .inr (0, [.ref o2, .ref o4, .ref o6, .int v8, .int v9, .int v10, .int v11, .int v12])), (o2, .inl (cI, 4096, .inl fw3)), (o4, .inl (cI, 12, .inl fw5)), (o6, .inl (cI, 12, .inl fw7))]) s.heap.size = A at hD ⊢
  have hA : ∀ q : Nat, s.heap.size ≤ q → A q := fun q h => by rw [← hAe]; exact Or.inr h
  have hS : va_S A s.heap s.heap [] := va_S.rf
  have hP : va_P (dC, dI) vwCl ([(o1, .inr (0, [.ref o2, .ref o4, .ref o6, .int v8, .int v9, .int v10, .int v11, .int v12])), (o2, .inl (cI, 4096, .inl fw3)), (o4, .inl (cI, 12, .inl fw5)), (o6, .inl (cI, 12, .inl fw7))]) s.heap := hP
  have hl := lv_entry ([.ref o1, .int a1, .int 5]) (n := 5) (Nat.le_of_ble_eq_true rfl)
  rw [lg_entry_eq]
  generalize (lg_sl ([.ref o1, .int a1, .int 5]) ++ List.replicate (5 - (lg_sl ([.ref o1, .int a1, .int 5])).length) Slot.unset).toArray = ls at hl ⊢
  have hl : lv_has ls 5 [(0, .ref o1), (1, .int a1), (2, .int 5)] := hl
  refine gen_Q (fun Q hQ => ?_)
  refine lv_iload_n hx hb dX0_seatsRest_0 rfl (lv_at hl 2 rfl) ?_
  refine lv_aload_n hx hb dX0_seatsRest_1 rfl (lv_at hl 0 rfl) ?_
  refine va_get (D := (dC, dI)) (ci := 0) (v := .int v9) (C := RX0) (T := TX0) (N := 8) hx hb hts iw_X0_seatsRest_X0 hown hK hP 0 rfl rfl 4 (by decide) (hts (.fieldLink RX0 25 "HolelessHouse$Benches" "width" "I") hm_X0_seatsRest_1) (fun _ h9 => h9) rfl dX0_seatsRest_2 ?_
  refine lv_icmp_lt (tgt := 10) hx hb dX0_seatsRest_5 (by decide) (fun h1 => ?_) (fun h1 => ?_)
  ·
    have qh1 := lt_i h1
    have j2 : Iv 6 12 v9 := r_ltr qh1 ik_5 v9_h (by decide)
    refine lv_aload_n hx hb dX0_seatsRest_10 rfl (lv_at hl 0 rfl) ?_
    refine va_get (D := (dC, dI)) (ci := 0) (v := .ref o2) (C := RX0) (T := TX0) (N := 8) hx hb hts iw_X0_seatsRest_X0 hown hK hP 0 rfl rfl 0 (by decide) (hts (.fieldLink RX0 38 "HolelessHouse$Benches" "notes" "[I") hm_X0_seatsRest_2) (fun _ h9 => h9) rfl dX0_seatsRest_11 ?_
    refine lv_iload_n hx hb dX0_seatsRest_14 rfl (lv_at hl 1 rfl) ?_
    refine va_iald hx hb hK hP 1 0 rfl rfl (vin_iv a1_h (by decide)) dX0_seatsRest_15 (lv_topi (fun x3 x3_e => ?_))
    refine lv_iconst (v := 1) hx hb dX0_seatsRest_16 (by decide) ?_
    refine lv_icmp_ne (tgt := 22) hx hb dX0_seatsRest_17 (by decide) (fun h4 => ?_) (fun h4 => ?_)
    ·
      refine lv_aload_n hx hb dX0_seatsRest_22 rfl (lv_at hl 0 rfl) ?_
      refine lv_iload_n hx hb dX0_seatsRest_23 rfl (lv_at hl 1 rfl) ?_
      refine kc_i (D := (dC, dI)) (S := Unit) (wc := [(o1, .inr (0, [.ref o2, .ref o4, .ref o6, .int v8, .int v9, .int v10, .int v11, .int v12])), (o4, .inl (cI, 12, .inl fw5))]) (wr := [(o2, .inl (cI, 4096, .inl fw3)), (o6, .inl (cI, 12, .inl fw7))]) (w1 := fun _ => [(o1, .inr (0, [.ref o2, .ref o4, .ref o6, .int v8, .int v9, .int v10, .int v11, .int v12])), (o4, .inl (cI, 12, .inl fw5))]) (wn := fun _ => [(o1, .inr (0, [.ref o2, .ref o4, .ref o6, .int v8, .int v9, .int v10, .int v11, .int v12])), (o2, .inl (cI, 4096, .inl fw3)), (o4, .inl (cI, 12, .inl fw5)), (o6, .inl (cI, 12, .inl fw7))]) (fun hPc hDc => va_runV (As := [.int a1]) (rest := []) ⟨hx, hb, hml, hown, hts⟩ (kX0_mayCome_1 l dC dI cI c2 cZ o1 o2 o4 o6 fw5 v8 v9 v10 v11 v12 a1 s.heap.size v8_h (iv_w j2 (by decide)) v11_h a1_h) (cwV 1 hts gX0_seatsRest_X0_mayCome rfl rfl rfl (by decide +kernel) ⟨Nat.le_of_ble_eq_true rfl, Nat.le_of_ble_eq_true rfl⟩) (pre_V hPc hK hDc hN (ci := 0) (q0 := 0) rfl rfl) rfl rfl hl.1 rfl (lv_room (Nat.le_of_ble_eq_true rfl)) dX0_seatsRest_24 ⟨Nat.le_of_ble_eq_true rfl, Nat.le_of_ble_eq_true rfl⟩) hP hD hS hA [0, 2] [1, 3] [2, 0, 3, 1] rfl rfl (by decide +kernel) (by decide +kernel) (by decide +kernel) (by decide +kernel) (fun _ => rfl) (fun x5 _ H locs hq hP hD hS => ?_)
      have x5_h := hq
      have hP : va_P (dC, dI) vwCl ([(o1, .inr (0, [.ref o2, .ref o4, .ref o6, .int v8, .int v9, .int v10, .int v11, .int v12])), (o2, .inl (cI, 4096, .inl fw3)), (o4, .inl (cI, 12, .inl fw5)), (o6, .inl (cI, 12, .inl fw7))]) H := hP
      have hD : va_D A ([(o1, .inr (0, [.ref o2, .ref o4, .ref o6, .int v8, .int v9, .int v10, .int v11, .int v12])), (o2, .inl (cI, 4096, .inl fw3)), (o4, .inl (cI, 12, .inl fw5)), (o6, .inl (cI, 12, .inl fw7))]) := hD
      refine lv_istore_n (lv' := [(3, .int x5), (0, .ref o1), (1, .int a1), (2, .int 5)]) hx hb dX0_seatsRest_27 rfl hl (by decide) rfl (fun ls hl => ?_)
      refine lv_iconst (v := 0) hx hb dX0_seatsRest_28 (by decide) ?_
      refine lv_istore (lv' := [(4, .int 0), (3, .int x5), (0, .ref o1), (1, .int a1), (2, .int 5)]) hx hb dX0_seatsRest_29 hl (by decide) rfl (fun ls hl => ?_)
      have L1 : ∀ (N : Nat) (x153 : Int32) (f154 : Nat → Int32) (f155 : Nat → Int32) (H : Heap) (locs : List Loc) (ls : Array Slot), (12 - x153.toInt).toNat < N → Iv 0 12 x153 → va_P (dC, dI) vwCl ([(o1, .inr (0, [.ref o2, .ref o4, .ref o6, .int v8, .int v9, .int v10, .int v11, .int v12])), (o2, .inl (cI, 4096, .inl f154)), (o4, .inl (cI, 12, .inl fw5)), (o6, .inl (cI, 12, .inl f155))]) H → va_D A ([(o1, .inr (0, [.ref o2, .ref o4, .ref o6, .int v8, .int v9, .int v10, .int v11, .int v12])), (o2, .inl (cI, 4096, .inl f154)), (o4, .inl (cI, 12, .inl fw5)), (o6, .inl (cI, 12, .inl f155))]) → va_S A s.heap H locs → lv_has ls 5 [(4, .int x153), (3, .int x5), (0, .ref o1), (1, .int a1), (2, .int 5)] → W p l e ({ frames := 7, cells := 0, slots := 0, locals := 168 }) s m ([.ref o1, .int a1, .int 5] : List Value).toArray below meth c H locs 0 0 Q (F0 m 31 ls []) := by
        intro N
        induction N with
        | zero =>
          intro x153 f154 f155 H locs ls hM
          exact absurd hM (Nat.not_lt_zero _)
        | succ N ih1 =>
          intro x153 f154 f155 H locs ls hM1 x153_h hP hD hS hl
          refine lv_iload hx hb dX0_seatsRest_31 (lv_at hl 0 rfl) ?_
          refine lv_aload_n hx hb dX0_seatsRest_33 rfl (lv_at hl 2 rfl) ?_
          refine va_get (D := (dC, dI)) (ci := 0) (v := .int v9) (C := RX0) (T := TX0) (N := 8) hx hb hts iw_X0_seatsRest_X0 hown hK hP 0 rfl rfl 4 (by decide) (hts (.fieldLink RX0 25 "HolelessHouse$Benches" "width" "I") hm_X0_seatsRest_1) (fun _ h9 => h9) rfl dX0_seatsRest_34 ?_
          refine lv_icmp_ge (tgt := 81) hx hb dX0_seatsRest_37 (by decide) (fun h156 => ?_) (fun h156 => ?_)
          ·
            have qh156 := le_i h156
            have j157 : Iv 6 12 x153 := r_ler qh156 j2 x153_h (by decide)
            refine lv_aload_n hx hb dX0_seatsRest_81 rfl (lv_at hl 2 rfl) ?_
            refine va_get (D := (dC, dI)) (ci := 0) (v := .ref o2) (C := RX0) (T := TX0) (N := 8) hx hb hts iw_X0_seatsRest_X0 hown hK hP 0 rfl rfl 0 (by decide) (hts (.fieldLink RX0 38 "HolelessHouse$Benches" "notes" "[I") hm_X0_seatsRest_2) (fun _ h9 => h9) rfl dX0_seatsRest_82 ?_
            refine lv_iload_n hx hb dX0_seatsRest_85 rfl (lv_at hl 3 rfl) ?_
            refine lv_iconst (v := 1) hx hb dX0_seatsRest_86 (by decide) ?_
            refine k_iast hx hb hK hP hD hS 1 0 rfl rfl (vin_iv a1_h (by decide)) dX0_seatsRest_87 (fun f158 H locs f158_e hP hD hS => ?_)
            have hP : va_P (dC, dI) vwCl ([(o1, .inr (0, [.ref o2, .ref o4, .ref o6, .int v8, .int v9, .int v10, .int v11, .int v12])), (o2, .inl (cI, 4096, .inl f158)), (o4, .inl (cI, 12, .inl fw5)), (o6, .inl (cI, 12, .inl f155))]) H := hP
            have hD : va_D A ([(o1, .inr (0, [.ref o2, .ref o4, .ref o6, .int v8, .int v9, .int v10, .int v11, .int v12])), (o2, .inl (cI, 4096, .inl f158)), (o4, .inl (cI, 12, .inl fw5)), (o6, .inl (cI, 12, .inl f155))]) := hD
            refine lv_iconst (v := 0) hx hb dX0_seatsRest_88 (by decide) ?_
            rw [hQ]
            exact W.zret (v := 0) (ty := .boolean) hx hb hr rfl (fun t ht hW => ⟨⟨0, (f158, f155), rfl, (iv_w ik_0 (by decide)), by rw [ht]; exact hP, va_K.moved hW.alike hK, hD⟩, hS.F ht⟩) hS.2.2 dX0_seatsRest_89
          ·
            have qh156 := nle_i h156
            have j159 : Iv 0 11 x153 := r_ltl qh156 x153_h j2 (by decide)
            refine lv_iload_n hx hb dX0_seatsRest_40 rfl (lv_at hl 1 rfl) ?_
            refine lv_iload hx hb dX0_seatsRest_41 (lv_at hl 0 rfl) ?_
            refine kc_i (D := (dC, dI)) (S := Unit) (wc := []) (wr := [(o1, .inr (0, [.ref o2, .ref o4, .ref o6, .int v8, .int v9, .int v10, .int v11, .int v12])), (o2, .inl (cI, 4096, .inl f154)), (o4, .inl (cI, 12, .inl fw5)), (o6, .inl (cI, 12, .inl f155))]) (w1 := fun _ => []) (wn := fun _ => [(o1, .inr (0, [.ref o2, .ref o4, .ref o6, .int v8, .int v9, .int v10, .int v11, .int v12])), (o2, .inl (cI, 4096, .inl f154)), (o4, .inl (cI, 12, .inl fw5)), (o6, .inl (cI, 12, .inl f155))]) (fun hPc hDc => va_runSN (As := [.int x5, .int x153]) (rest := []) ⟨hx, hb, hml, hown, hts⟩ (kX11_in_1 l dC dI cI c2 cZ x5 x153 H.size) ⟨va_cnB 2 hts gX0_seatsRest_X11_in_n62 rfl rfl rfl (hN.1 _ ns_125) (hts (.initialized RX11) hm_X0_seatsRest_12) (by decide +kernel) ⟨Nat.le_of_ble_eq_true rfl, Nat.le_of_ble_eq_true rfl⟩, (hts (.static yX11_in) hm_X0_seatsRest_11), trivial⟩ (pre_S hPc hK hDc hN) rfl rfl hl.1 rfl (lv_room (Nat.le_of_ble_eq_true rfl)) dX0_seatsRest_43 ⟨Nat.le_of_ble_eq_true rfl, Nat.le_of_ble_eq_true rfl⟩) hP hD hS hA [] [0, 1, 2, 3] [0, 1, 2, 3] rfl rfl (by decide +kernel) (by decide +kernel) (by decide +kernel) (by decide +kernel) (fun _ => rfl) (fun x160 _ H locs hq hP hD hS => ?_)
            have x160_h := hq
            have hP : va_P (dC, dI) vwCl ([(o1, .inr (0, [.ref o2, .ref o4, .ref o6, .int v8, .int v9, .int v10, .int v11, .int v12])), (o2, .inl (cI, 4096, .inl f154)), (o4, .inl (cI, 12, .inl fw5)), (o6, .inl (cI, 12, .inl f155))]) H := hP
            have hD : va_D A ([(o1, .inr (0, [.ref o2, .ref o4, .ref o6, .int v8, .int v9, .int v10, .int v11, .int v12])), (o2, .inl (cI, 4096, .inl f154)), (o4, .inl (cI, 12, .inl fw5)), (o6, .inl (cI, 12, .inl f155))]) := hD
            refine lv_if_eq (tgt := 75) hx hb dX0_seatsRest_46 (by decide) (fun h161 => ?_) (fun h161 => ?_)
            ·
              have j162 : Iv 0 0 x160 := r_eq h161 ik_0
              obtain ⟨x163, x163_e⟩ : ∃ z : Int32, z = x153 + 1 := ⟨_, rfl⟩
              have x163_h : Iv 1 12 x163 := iv_e x163_e (iv_add j159 ik_1 (by decide))
              refine lv_iinc (v := x163) (lv' := [(4, .int x163), (3, .int x5), (0, .ref o1), (1, .int a1), (2, .int 5)]) hx hb dX0_seatsRest_75 hl (k := 0) rfl (incN (by decide +kernel) x163_e) (by decide) rfl (fun ls hl => ?_)
              refine lv_goto (tgt := 31) hx hb dX0_seatsRest_78 (by decide) ?_
              exact ih1 x163 f154 f155 _ _ _ (ms_up x163_e j159 (by decide) hM1) (iv_w x163_h (by decide)) hP hD hS hl
            ·
              have j164 : Iv 1 1 x160 := r_nelo h161 x160_h ik_0 (by decide)
              refine lv_aload_n hx hb dX0_seatsRest_49 rfl (lv_at hl 2 rfl) ?_
              refine va_get (D := (dC, dI)) (ci := 0) (v := .ref o6) (C := RX0) (T := TX0) (N := 8) hx hb hts iw_X0_seatsRest_X0 hown hK hP 0 rfl rfl 2 (by decide) (hts (.fieldLink RX0 41 "HolelessHouse$Benches" "places" "[I") hm_X0_seatsRest_3) (fun _ h9 => h9) rfl dX0_seatsRest_50 ?_
              refine lv_iload_n hx hb dX0_seatsRest_53 rfl (lv_at hl 4 rfl) ?_
              refine lv_iload hx hb dX0_seatsRest_54 (lv_at hl 0 rfl) ?_
              refine k_iast hx hb hK hP hD hS 3 0 rfl rfl (vin_iv ik_5 (by decide)) dX0_seatsRest_56 (fun f165 H locs f165_e hP hD hS => ?_)
              have hP : va_P (dC, dI) vwCl ([(o1, .inr (0, [.ref o2, .ref o4, .ref o6, .int v8, .int v9, .int v10, .int v11, .int v12])), (o2, .inl (cI, 4096, .inl f154)), (o4, .inl (cI, 12, .inl fw5)), (o6, .inl (cI, 12, .inl f165))]) H := hP
              have hD : va_D A ([(o1, .inr (0, [.ref o2, .ref o4, .ref o6, .int v8, .int v9, .int v10, .int v11, .int v12])), (o2, .inl (cI, 4096, .inl f154)), (o4, .inl (cI, 12, .inl fw5)), (o6, .inl (cI, 12, .inl f165))]) := hD
              refine lv_aload_n hx hb dX0_seatsRest_57 rfl (lv_at hl 2 rfl) ?_
              refine lv_iload_n hx hb dX0_seatsRest_58 rfl (lv_at hl 3 rfl) ?_
              refine lv_iconst (v := 1) hx hb dX0_seatsRest_59 (by decide) ?_
              refine lv_iload hx hb dX0_seatsRest_60 (lv_at hl 0 rfl) ?_
              refine lv_ishl hx hb dX0_seatsRest_62 (lv_topi (fun x166 x166_e => ?_))
              have x166_h : Iv 1 2048 x166 := iv_e x166_e (iv_shl1 j159 (by decide))
              refine lv_ior hx hb dX0_seatsRest_63 (lv_topi (fun x167 x167_e => ?_))
              have x167_h : Iv 0 4095 x167 := iv_e x167_e (iv_or 12 a1_h x166_h (by decide))
              refine lv_iload_n hx hb dX0_seatsRest_64 rfl (lv_at hl 4 rfl) ?_
              refine lv_iconst (v := 1) hx hb dX0_seatsRest_65 (by decide) ?_
              refine lv_iadd hx hb dX0_seatsRest_66 (tk_i (v := 6) (by decide +kernel) ?_)
              refine kc_i (D := (dC, dI)) (S := (Nat → Int32) × (Nat → Int32)) (wc := [(o1, .inr (0, [.ref o2, .ref o4, .ref o6, .int v8, .int v9, .int v10, .int v11, .int v12])), (o2, .inl (cI, 4096, .inl f154)), (o4, .inl (cI, 12, .inl fw5)), (o6, .inl (cI, 12, .inl f165))]) (wr := []) (w1 := fun u => [(o1, .inr (0, [.ref o2, .ref o4, .ref o6, .int v8, .int v9, .int v10, .int v11, .int v12])), (o2, .inl (cI, 4096, .inl u.1)), (o4, .inl (cI, 12, .inl fw5)), (o6, .inl (cI, 12, .inl u.2))]) (wn := fun u => [(o1, .inr (0, [.ref o2, .ref o4, .ref o6, .int v8, .int v9, .int v10, .int v11, .int v12])), (o2, .inl (cI, 4096, .inl u.1)), (o4, .inl (cI, 12, .inl fw5)), (o6, .inl (cI, 12, .inl u.2))]) (fun hPc hDc => va_runS (As := [.ref o1, .int x167, .int 6]) (rest := []) ⟨hx, hb, hml, hown, hts⟩ (kX0_seatsRest_7 l dC dI cI c2 cZ o1 o2 o4 o6 f154 fw5 f165 v8 v9 v10 v11 v12 x167 H.size v8_h (iv_w j2 (by decide)) v11_h x167_h) (va_cwS 3 hts gX0_seatsRest_X0_seatsRest rfl rfl rfl (by decide +kernel) ⟨Nat.le_of_ble_eq_true rfl, Nat.le_of_ble_eq_true rfl⟩) (pre_S hPc hK hDc hN) rfl rfl hl.1 rfl (lv_room (Nat.le_of_ble_eq_true rfl)) dX0_seatsRest_67 ⟨Nat.le_of_ble_eq_true rfl, Nat.le_of_ble_eq_true rfl⟩) hP hD hS hA [0, 1, 2, 3] [] [0, 1, 2, 3] rfl rfl (by decide +kernel) (by decide +kernel) (by decide +kernel) (by decide +kernel) (fun _ => rfl) (fun x170 u H locs hq hP hD hS => ?_)
              obtain ⟨f168, f169⟩ := u
              have x170_h := hq
              have hP : va_P (dC, dI) vwCl ([(o1, .inr (0, [.ref o2, .ref o4, .ref o6, .int v8, .int v9, .int v10, .int v11, .int v12])), (o2, .inl (cI, 4096, .inl f168)), (o4, .inl (cI, 12, .inl fw5)), (o6, .inl (cI, 12, .inl f169))]) H := hP
              have hD : va_D A ([(o1, .inr (0, [.ref o2, .ref o4, .ref o6, .int v8, .int v9, .int v10, .int v11, .int v12])), (o2, .inl (cI, 4096, .inl f168)), (o4, .inl (cI, 12, .inl fw5)), (o6, .inl (cI, 12, .inl f169))]) := hD
              refine lv_if_eq (tgt := 75) hx hb dX0_seatsRest_70 (by decide) (fun h171 => ?_) (fun h171 => ?_)
              ·
                have j172 : Iv 0 0 x170 := r_eq h171 ik_0
                obtain ⟨x173, x173_e⟩ : ∃ z : Int32, z = x153 + 1 := ⟨_, rfl⟩
                have x173_h : Iv 1 12 x173 := iv_e x173_e (iv_add j159 ik_1 (by decide))
                refine lv_iinc (v := x173) (lv' := [(4, .int x173), (3, .int x5), (0, .ref o1), (1, .int a1), (2, .int 5)]) hx hb dX0_seatsRest_75 hl (k := 0) rfl (incN (by decide +kernel) x173_e) (by decide) rfl (fun ls hl => ?_)
                refine lv_goto (tgt := 31) hx hb dX0_seatsRest_78 (by decide) ?_
                exact ih1 x173 f168 f169 _ _ _ (ms_up x173_e j159 (by decide) hM1) (iv_w x173_h (by decide)) hP hD hS hl
              ·
                have j174 : Iv 1 1 x170 := r_nelo h171 x170_h ik_0 (by decide)
                refine lv_iconst (v := 1) hx hb dX0_seatsRest_73 (by decide) ?_
                rw [hQ]
                exact W.zret (v := 1) (ty := .boolean) hx hb hr rfl (fun t ht hW => ⟨⟨1, (f168, f169), rfl, (iv_w ik_1 (by decide)), by rw [ht]; exact hP, va_K.moved hW.alike hK, hD⟩, hS.F ht⟩) hS.2.2 dX0_seatsRest_74
      exact L1 _ 0 fw3 fw7 _ _ _ (Nat.lt_succ_self _) (iv_w ik_0 (by decide)) hP hD hS hl
    ·
      have j175 : Iv 1 1 x3 := r_eq h4 ik_1
      refine lv_iconst (v := 0) hx hb dX0_seatsRest_20 (by decide) ?_
      rw [hQ]
      exact W.zret (v := 0) (ty := .boolean) hx hb hr rfl (fun t ht hW => ⟨⟨0, (fw3, fw7), rfl, (iv_w ik_0 (by decide)), by rw [ht]; exact hP, va_K.moved hW.alike hK, hD⟩, hS.F ht⟩) hS.2.2 dX0_seatsRest_21
  ·
    have qh1 := nlt_i h1
    have j176 : Iv 0 5 v9 := r_lel qh1 v9_h ik_5 (by decide)
    refine lv_iconst (v := 1) hx hb dX0_seatsRest_8 (by decide) ?_
    rw [hQ]
    exact W.zret (v := 1) (ty := .boolean) hx hb hr rfl (fun t ht hW => ⟨⟨1, (fw3, fw7), rfl, (iv_w ik_1 (by decide)), by rw [ht]; exact hP, va_K.moved hW.alike hK, hD⟩, hS.F ht⟩) hS.2.2 dX0_seatsRest_9
set_option maxHeartbeats 4000000 in
set_option maxRecDepth 100000 in
theorem kX0_seatsRest_9 (l : Launch) (dC : Nat → ClassId) (dI : Nat → Nat → Nat) (cI c2 cZ : ClassId) (o1 : Nat) (o2 : Nat) (o4 : Nat) (o6 : Nat) (fw3 : Nat → Int32) (fw5 : Nat → Int32) (fw7 : Nat → Int32) (v8 : Int32) (v9 : Int32) (v10 : Int32) (v11 : Int32) (v12 : Int32) (a1 : Int32) (sz : Nat) (v8_h : Iv 0 12 v8) (v9_h : Iv 0 12 v9) (v11_h : Iv 0 1 v11) (a1_h : Iv 0 4095 a1) : Met l yX0_seatsRest wsX0_seatsRest ({ frames := 8, cells := 0, slots := 0, locals := 192 }) (va_Pc [.ref o1, .int a1, .int 4] (wPre (dC, dI) [(cI, .int), (c2, .array .int), (cZ, .boolean)] ([(o1, .inr (0, [.ref o2, .ref o4, .ref o6, .int v8, .int v9, .int v10, .int v11, .int v12])), (o2, .inl (cI, 4096, .inl fw3)), (o4, .inl (cI, 12, .inl fw5)), (o6, .inl (cI, 12, .inl fw7))]) sz)) (va_Qi (fun (r : Int32) (u : (Nat → Int32) × (Nat → Int32)) => Iv 0 1 r) (fun u t => wPost (dC, dI) [(cI, .int), (c2, .array .int), (cZ, .boolean)] (va_A ([(o1, .inr (0, [.ref o2, .ref o4, .ref o6, .int v8, .int v9, .int v10, .int v11, .int v12])), (o2, .inl (cI, 4096, .inl fw3)), (o4, .inl (cI, 12, .inl fw5)), (o6, .inl (cI, 12, .inl fw7))]) sz) ([(o1, .inr (0, [.ref o2, .ref o4, .ref o6, .int v8, .int v9, .int v10, .int v11, .int v12])), (o2, .inl (cI, 4096, .inl u.1)), (o4, .inl (cI, 12, .inl fw5)), (o6, .inl (cI, 12, .inl u.2))]) t) (va_A ([(o1, .inr (0, [.ref o2, .ref o4, .ref o6, .int v8, .int v9, .int v10, .int v11, .int v12])), (o2, .inl (cI, 4096, .inl fw3)), (o4, .inl (cI, 12, .inl fw5)), (o6, .inl (cI, 12, .inl fw7))]) sz)) 0 0 (va_A ([(o1, .inr (0, [.ref o2, .ref o4, .ref o6, .int v8, .int v9, .int v10, .int v11, .int v12])), (o2, .inl (cI, 4096, .inl fw3)), (o4, .inl (cI, 12, .inl fw5)), (o6, .inl (cI, 12, .inl fw7))]) sz) := by
  refine Met.ofW (cc := cX0_seatsRest) (maxL := 5) (ret := (some .boolean)) (by decide) rfl ?_
  intro p e s m args below meth c s₁ B hml hv
  obtain ⟨rfl, hsz, hP, hK, hD0, hN⟩ := hv
  have hx := B.exec
  have hb := B.bytes
  have hr := B.returns
  have hts := atoms_spec (ws := wsX0_seatsRest) B.pre
  have hown : s.vm.findClass RX0 = some m.cls := findClass_of_methodNamed B.named
  have hlocks := B.notSynchronized
  subst hsz
  have hD := hD0.self (sz := s.heap.size)
  generalize hAe : va_A ([(o1, .inr (0, [.ref o2, .ref o4, .ref o6, .int v8, .int v9, .int v10, .int v11, .int v12])), (o2, .inl (cI, 4096, .inl fw3)), (o4, .inl (cI, 12, .inl fw5)), (o6, .inl (cI, 12, .inl fw7))]) s.heap.size = A at hD ⊢
  have hA : ∀ q : Nat, s.heap.size ≤ q → A q := fun q h => by rw [← hAe]; exact Or.inr h
  have hS : va_S A s.heap s.heap [] := va_S.rf
  have hP : va_P (dC, dI) vwCl ([(o1, .inr (0, [.ref o2, .ref o4, .ref o6, .int v8, .int v9, .int v10, .int v11, .int v12])), (o2, .inl (cI, 4096, .inl fw3)), (o4, .inl (cI, 12, .inl fw5)), (o6, .inl (cI, 12, .inl fw7))]) s.heap := hP
  have hl := lv_entry ([.ref o1, .int a1, .int 4]) (n := 5) (Nat.le_of_ble_eq_true rfl)
  rw [lg_entry_eq]
  generalize (lg_sl ([.ref o1, .int a1, .int 4]) ++ List.replicate (5 - (lg_sl ([.ref o1, .int a1, .int 4])).length) Slot.unset).toArray = ls at hl ⊢
  have hl : lv_has ls 5 [(0, .ref o1), (1, .int a1), (2, .int 4)] := hl
  refine gen_Q (fun Q hQ => ?_)
  refine lv_iload_n hx hb dX0_seatsRest_0 rfl (lv_at hl 2 rfl) ?_
  refine lv_aload_n hx hb dX0_seatsRest_1 rfl (lv_at hl 0 rfl) ?_
  refine va_get (D := (dC, dI)) (ci := 0) (v := .int v9) (C := RX0) (T := TX0) (N := 8) hx hb hts iw_X0_seatsRest_X0 hown hK hP 0 rfl rfl 4 (by decide) (hts (.fieldLink RX0 25 "HolelessHouse$Benches" "width" "I") hm_X0_seatsRest_1) (fun _ h9 => h9) rfl dX0_seatsRest_2 ?_
  refine lv_icmp_lt (tgt := 10) hx hb dX0_seatsRest_5 (by decide) (fun h1 => ?_) (fun h1 => ?_)
  ·
    have qh1 := lt_i h1
    have j2 : Iv 5 12 v9 := r_ltr qh1 ik_4 v9_h (by decide)
    refine lv_aload_n hx hb dX0_seatsRest_10 rfl (lv_at hl 0 rfl) ?_
    refine va_get (D := (dC, dI)) (ci := 0) (v := .ref o2) (C := RX0) (T := TX0) (N := 8) hx hb hts iw_X0_seatsRest_X0 hown hK hP 0 rfl rfl 0 (by decide) (hts (.fieldLink RX0 38 "HolelessHouse$Benches" "notes" "[I") hm_X0_seatsRest_2) (fun _ h9 => h9) rfl dX0_seatsRest_11 ?_
    refine lv_iload_n hx hb dX0_seatsRest_14 rfl (lv_at hl 1 rfl) ?_
    refine va_iald hx hb hK hP 1 0 rfl rfl (vin_iv a1_h (by decide)) dX0_seatsRest_15 (lv_topi (fun x3 x3_e => ?_))
    refine lv_iconst (v := 1) hx hb dX0_seatsRest_16 (by decide) ?_
    refine lv_icmp_ne (tgt := 22) hx hb dX0_seatsRest_17 (by decide) (fun h4 => ?_) (fun h4 => ?_)
    ·
      refine lv_aload_n hx hb dX0_seatsRest_22 rfl (lv_at hl 0 rfl) ?_
      refine lv_iload_n hx hb dX0_seatsRest_23 rfl (lv_at hl 1 rfl) ?_
      refine kc_i (D := (dC, dI)) (S := Unit) (wc := [(o1, .inr (0, [.ref o2, .ref o4, .ref o6, .int v8, .int v9, .int v10, .int v11, .int v12])), (o4, .inl (cI, 12, .inl fw5))]) (wr := [(o2, .inl (cI, 4096, .inl fw3)), (o6, .inl (cI, 12, .inl fw7))]) (w1 := fun _ => [(o1, .inr (0, [.ref o2, .ref o4, .ref o6, .int v8, .int v9, .int v10, .int v11, .int v12])), (o4, .inl (cI, 12, .inl fw5))]) (wn := fun _ => [(o1, .inr (0, [.ref o2, .ref o4, .ref o6, .int v8, .int v9, .int v10, .int v11, .int v12])), (o2, .inl (cI, 4096, .inl fw3)), (o4, .inl (cI, 12, .inl fw5)), (o6, .inl (cI, 12, .inl fw7))]) (fun hPc hDc => va_runV (As := [.int a1]) (rest := []) ⟨hx, hb, hml, hown, hts⟩ (kX0_mayCome_1 l dC dI cI c2 cZ o1 o2 o4 o6 fw5 v8 v9 v10 v11 v12 a1 s.heap.size v8_h (iv_w j2 (by decide)) v11_h a1_h) (cwV 1 hts gX0_seatsRest_X0_mayCome rfl rfl rfl (by decide +kernel) ⟨Nat.le_of_ble_eq_true rfl, Nat.le_of_ble_eq_true rfl⟩) (pre_V hPc hK hDc hN (ci := 0) (q0 := 0) rfl rfl) rfl rfl hl.1 rfl (lv_room (Nat.le_of_ble_eq_true rfl)) dX0_seatsRest_24 ⟨Nat.le_of_ble_eq_true rfl, Nat.le_of_ble_eq_true rfl⟩) hP hD hS hA [0, 2] [1, 3] [2, 0, 3, 1] rfl rfl (by decide +kernel) (by decide +kernel) (by decide +kernel) (by decide +kernel) (fun _ => rfl) (fun x5 _ H locs hq hP hD hS => ?_)
      have x5_h := hq
      have hP : va_P (dC, dI) vwCl ([(o1, .inr (0, [.ref o2, .ref o4, .ref o6, .int v8, .int v9, .int v10, .int v11, .int v12])), (o2, .inl (cI, 4096, .inl fw3)), (o4, .inl (cI, 12, .inl fw5)), (o6, .inl (cI, 12, .inl fw7))]) H := hP
      have hD : va_D A ([(o1, .inr (0, [.ref o2, .ref o4, .ref o6, .int v8, .int v9, .int v10, .int v11, .int v12])), (o2, .inl (cI, 4096, .inl fw3)), (o4, .inl (cI, 12, .inl fw5)), (o6, .inl (cI, 12, .inl fw7))]) := hD
      refine lv_istore_n (lv' := [(3, .int x5), (0, .ref o1), (1, .int a1), (2, .int 4)]) hx hb dX0_seatsRest_27 rfl hl (by decide) rfl (fun ls hl => ?_)
      refine lv_iconst (v := 0) hx hb dX0_seatsRest_28 (by decide) ?_
      refine lv_istore (lv' := [(4, .int 0), (3, .int x5), (0, .ref o1), (1, .int a1), (2, .int 4)]) hx hb dX0_seatsRest_29 hl (by decide) rfl (fun ls hl => ?_)
      have L1 : ∀ (N : Nat) (x153 : Int32) (f154 : Nat → Int32) (f155 : Nat → Int32) (H : Heap) (locs : List Loc) (ls : Array Slot), (12 - x153.toInt).toNat < N → Iv 0 12 x153 → va_P (dC, dI) vwCl ([(o1, .inr (0, [.ref o2, .ref o4, .ref o6, .int v8, .int v9, .int v10, .int v11, .int v12])), (o2, .inl (cI, 4096, .inl f154)), (o4, .inl (cI, 12, .inl fw5)), (o6, .inl (cI, 12, .inl f155))]) H → va_D A ([(o1, .inr (0, [.ref o2, .ref o4, .ref o6, .int v8, .int v9, .int v10, .int v11, .int v12])), (o2, .inl (cI, 4096, .inl f154)), (o4, .inl (cI, 12, .inl fw5)), (o6, .inl (cI, 12, .inl f155))]) → va_S A s.heap H locs → lv_has ls 5 [(4, .int x153), (3, .int x5), (0, .ref o1), (1, .int a1), (2, .int 4)] → W p l e ({ frames := 8, cells := 0, slots := 0, locals := 192 }) s m ([.ref o1, .int a1, .int 4] : List Value).toArray below meth c H locs 0 0 Q (F0 m 31 ls []) := by
        intro N
        induction N with
        | zero =>
          intro x153 f154 f155 H locs ls hM
          exact absurd hM (Nat.not_lt_zero _)
        | succ N ih1 =>
          intro x153 f154 f155 H locs ls hM1 x153_h hP hD hS hl
          refine lv_iload hx hb dX0_seatsRest_31 (lv_at hl 0 rfl) ?_
          refine lv_aload_n hx hb dX0_seatsRest_33 rfl (lv_at hl 2 rfl) ?_
          refine va_get (D := (dC, dI)) (ci := 0) (v := .int v9) (C := RX0) (T := TX0) (N := 8) hx hb hts iw_X0_seatsRest_X0 hown hK hP 0 rfl rfl 4 (by decide) (hts (.fieldLink RX0 25 "HolelessHouse$Benches" "width" "I") hm_X0_seatsRest_1) (fun _ h9 => h9) rfl dX0_seatsRest_34 ?_
          refine lv_icmp_ge (tgt := 81) hx hb dX0_seatsRest_37 (by decide) (fun h156 => ?_) (fun h156 => ?_)
          ·
            have qh156 := le_i h156
            have j157 : Iv 5 12 x153 := r_ler qh156 j2 x153_h (by decide)
            refine lv_aload_n hx hb dX0_seatsRest_81 rfl (lv_at hl 2 rfl) ?_
            refine va_get (D := (dC, dI)) (ci := 0) (v := .ref o2) (C := RX0) (T := TX0) (N := 8) hx hb hts iw_X0_seatsRest_X0 hown hK hP 0 rfl rfl 0 (by decide) (hts (.fieldLink RX0 38 "HolelessHouse$Benches" "notes" "[I") hm_X0_seatsRest_2) (fun _ h9 => h9) rfl dX0_seatsRest_82 ?_
            refine lv_iload_n hx hb dX0_seatsRest_85 rfl (lv_at hl 3 rfl) ?_
            refine lv_iconst (v := 1) hx hb dX0_seatsRest_86 (by decide) ?_
            refine k_iast hx hb hK hP hD hS 1 0 rfl rfl (vin_iv a1_h (by decide)) dX0_seatsRest_87 (fun f158 H locs f158_e hP hD hS => ?_)
            have hP : va_P (dC, dI) vwCl ([(o1, .inr (0, [.ref o2, .ref o4, .ref o6, .int v8, .int v9, .int v10, .int v11, .int v12])), (o2, .inl (cI, 4096, .inl f158)), (o4, .inl (cI, 12, .inl fw5)), (o6, .inl (cI, 12, .inl f155))]) H := hP
            have hD : va_D A ([(o1, .inr (0, [.ref o2, .ref o4, .ref o6, .int v8, .int v9, .int v10, .int v11, .int v12])), (o2, .inl (cI, 4096, .inl f158)), (o4, .inl (cI, 12, .inl fw5)), (o6, .inl (cI, 12, .inl f155))]) := hD
            refine lv_iconst (v := 0) hx hb dX0_seatsRest_88 (by decide) ?_
            rw [hQ]
            exact W.zret (v := 0) (ty := .boolean) hx hb hr rfl (fun t ht hW => ⟨⟨0, (f158, f155), rfl, (iv_w ik_0 (by decide)), by rw [ht]; exact hP, va_K.moved hW.alike hK, hD⟩, hS.F ht⟩) hS.2.2 dX0_seatsRest_89
          ·
            have qh156 := nle_i h156
            have j159 : Iv 0 11 x153 := r_ltl qh156 x153_h j2 (by decide)
            refine lv_iload_n hx hb dX0_seatsRest_40 rfl (lv_at hl 1 rfl) ?_
            refine lv_iload hx hb dX0_seatsRest_41 (lv_at hl 0 rfl) ?_
            refine kc_i (D := (dC, dI)) (S := Unit) (wc := []) (wr := [(o1, .inr (0, [.ref o2, .ref o4, .ref o6, .int v8, .int v9, .int v10, .int v11, .int v12])), (o2, .inl (cI, 4096, .inl f154)), (o4, .inl (cI, 12, .inl fw5)), (o6, .inl (cI, 12, .inl f155))]) (w1 := fun _ => []) (wn := fun _ => [(o1, .inr (0, [.ref o2, .ref o4, .ref o6, .int v8, .int v9, .int v10, .int v11, .int v12])), (o2, .inl (cI, 4096, .inl f154)), (o4, .inl (cI, 12, .inl fw5)), (o6, .inl (cI, 12, .inl f155))]) (fun hPc hDc => va_runSN (As := [.int x5, .int x153]) (rest := []) ⟨hx, hb, hml, hown, hts⟩ (kX11_in_1 l dC dI cI c2 cZ x5 x153 H.size) ⟨va_cnB 2 hts gX0_seatsRest_X11_in_n62 rfl rfl rfl (hN.1 _ ns_125) (hts (.initialized RX11) hm_X0_seatsRest_12) (by decide +kernel) ⟨Nat.le_of_ble_eq_true rfl, Nat.le_of_ble_eq_true rfl⟩, (hts (.static yX11_in) hm_X0_seatsRest_11), trivial⟩ (pre_S hPc hK hDc hN) rfl rfl hl.1 rfl (lv_room (Nat.le_of_ble_eq_true rfl)) dX0_seatsRest_43 ⟨Nat.le_of_ble_eq_true rfl, Nat.le_of_ble_eq_true rfl⟩) hP hD hS hA [] [0, 1, 2, 3] [0, 1, 2, 3] rfl rfl (by decide +kernel) (by decide +kernel) (by decide +kernel) (by decide +kernel) (fun _ => rfl) (fun x160 _ H locs hq hP hD hS => ?_)
            have x160_h := hq
            have hP : va_P (dC, dI) vwCl ([(o1, .inr (0, [.ref o2, .ref o4, .ref o6, .int v8, .int v9, .int v10, .int v11, .int v12])), (o2, .inl (cI, 4096, .inl f154)), (o4, .inl (cI, 12, .inl fw5)), (o6, .inl (cI, 12, .inl f155))]) H := hP
            have hD : va_D A ([(o1, .inr (0, [.ref o2, .ref o4, .ref o6, .int v8, .int v9, .int v10, .int v11, .int v12])), (o2, .inl (cI, 4096, .inl f154)), (o4, .inl (cI, 12, .inl fw5)), (o6, .inl (cI, 12, .inl f155))]) := hD
            refine lv_if_eq (tgt := 75) hx hb dX0_seatsRest_46 (by decide) (fun h161 => ?_) (fun h161 => ?_)
            ·
              have j162 : Iv 0 0 x160 := r_eq h161 ik_0
              obtain ⟨x163, x163_e⟩ : ∃ z : Int32, z = x153 + 1 := ⟨_, rfl⟩
              have x163_h : Iv 1 12 x163 := iv_e x163_e (iv_add j159 ik_1 (by decide))
              refine lv_iinc (v := x163) (lv' := [(4, .int x163), (3, .int x5), (0, .ref o1), (1, .int a1), (2, .int 4)]) hx hb dX0_seatsRest_75 hl (k := 0) rfl (incN (by decide +kernel) x163_e) (by decide) rfl (fun ls hl => ?_)
              refine lv_goto (tgt := 31) hx hb dX0_seatsRest_78 (by decide) ?_
              exact ih1 x163 f154 f155 _ _ _ (ms_up x163_e j159 (by decide) hM1) (iv_w x163_h (by decide)) hP hD hS hl
            ·
              have j164 : Iv 1 1 x160 := r_nelo h161 x160_h ik_0 (by decide)
              refine lv_aload_n hx hb dX0_seatsRest_49 rfl (lv_at hl 2 rfl) ?_
              refine va_get (D := (dC, dI)) (ci := 0) (v := .ref o6) (C := RX0) (T := TX0) (N := 8) hx hb hts iw_X0_seatsRest_X0 hown hK hP 0 rfl rfl 2 (by decide) (hts (.fieldLink RX0 41 "HolelessHouse$Benches" "places" "[I") hm_X0_seatsRest_3) (fun _ h9 => h9) rfl dX0_seatsRest_50 ?_
              refine lv_iload_n hx hb dX0_seatsRest_53 rfl (lv_at hl 4 rfl) ?_
              refine lv_iload hx hb dX0_seatsRest_54 (lv_at hl 0 rfl) ?_
              refine k_iast hx hb hK hP hD hS 3 0 rfl rfl (vin_iv ik_4 (by decide)) dX0_seatsRest_56 (fun f165 H locs f165_e hP hD hS => ?_)
              have hP : va_P (dC, dI) vwCl ([(o1, .inr (0, [.ref o2, .ref o4, .ref o6, .int v8, .int v9, .int v10, .int v11, .int v12])), (o2, .inl (cI, 4096, .inl f154)), (o4, .inl (cI, 12, .inl fw5)), (o6, .inl (cI, 12, .inl f165))]) H := hP
              have hD : va_D A ([(o1, .inr (0, [.ref o2, .ref o4, .ref o6, .int v8, .int v9, .int v10, .int v11, .int v12])), (o2, .inl (cI, 4096, .inl f154)), (o4, .inl (cI, 12, .inl fw5)), (o6, .inl (cI, 12, .inl f165))]) := hD
              refine lv_aload_n hx hb dX0_seatsRest_57 rfl (lv_at hl 2 rfl) ?_
              refine lv_iload_n hx hb dX0_seatsRest_58 rfl (lv_at hl 3 rfl) ?_
              refine lv_iconst (v := 1) hx hb dX0_seatsRest_59 (by decide) ?_
              refine lv_iload hx hb dX0_seatsRest_60 (lv_at hl 0 rfl) ?_
              refine lv_ishl hx hb dX0_seatsRest_62 (lv_topi (fun x166 x166_e => ?_))
              have x166_h : Iv 1 2048 x166 := iv_e x166_e (iv_shl1 j159 (by decide))
              refine lv_ior hx hb dX0_seatsRest_63 (lv_topi (fun x167 x167_e => ?_))
              have x167_h : Iv 0 4095 x167 := iv_e x167_e (iv_or 12 a1_h x166_h (by decide))
              refine lv_iload_n hx hb dX0_seatsRest_64 rfl (lv_at hl 4 rfl) ?_
              refine lv_iconst (v := 1) hx hb dX0_seatsRest_65 (by decide) ?_
              refine lv_iadd hx hb dX0_seatsRest_66 (tk_i (v := 5) (by decide +kernel) ?_)
              refine kc_i (D := (dC, dI)) (S := (Nat → Int32) × (Nat → Int32)) (wc := [(o1, .inr (0, [.ref o2, .ref o4, .ref o6, .int v8, .int v9, .int v10, .int v11, .int v12])), (o2, .inl (cI, 4096, .inl f154)), (o4, .inl (cI, 12, .inl fw5)), (o6, .inl (cI, 12, .inl f165))]) (wr := []) (w1 := fun u => [(o1, .inr (0, [.ref o2, .ref o4, .ref o6, .int v8, .int v9, .int v10, .int v11, .int v12])), (o2, .inl (cI, 4096, .inl u.1)), (o4, .inl (cI, 12, .inl fw5)), (o6, .inl (cI, 12, .inl u.2))]) (wn := fun u => [(o1, .inr (0, [.ref o2, .ref o4, .ref o6, .int v8, .int v9, .int v10, .int v11, .int v12])), (o2, .inl (cI, 4096, .inl u.1)), (o4, .inl (cI, 12, .inl fw5)), (o6, .inl (cI, 12, .inl u.2))]) (fun hPc hDc => va_runS (As := [.ref o1, .int x167, .int 5]) (rest := []) ⟨hx, hb, hml, hown, hts⟩ (kX0_seatsRest_8 l dC dI cI c2 cZ o1 o2 o4 o6 f154 fw5 f165 v8 v9 v10 v11 v12 x167 H.size v8_h (iv_w j2 (by decide)) v11_h x167_h) (va_cwS 3 hts gX0_seatsRest_X0_seatsRest rfl rfl rfl (by decide +kernel) ⟨Nat.le_of_ble_eq_true rfl, Nat.le_of_ble_eq_true rfl⟩) (pre_S hPc hK hDc hN) rfl rfl hl.1 rfl (lv_room (Nat.le_of_ble_eq_true rfl)) dX0_seatsRest_67 ⟨Nat.le_of_ble_eq_true rfl, Nat.le_of_ble_eq_true rfl⟩) hP hD hS hA [0, 1, 2, 3] [] [0, 1, 2, 3] rfl rfl (by decide +kernel) (by decide +kernel) (by decide +kernel) (by decide +kernel) (fun _ => rfl) (fun x170 u H locs hq hP hD hS => ?_)
              obtain ⟨f168, f169⟩ := u
              have x170_h := hq
              have hP : va_P (dC, dI) vwCl ([(o1, .inr (0, [.ref o2, .ref o4, .ref o6, .int v8, .int v9, .int v10, .int v11, .int v12])), (o2, .inl (cI, 4096, .inl f168)), (o4, .inl (cI, 12, .inl fw5)), (o6, .inl (cI, 12, .inl f169))]) H := hP
              have hD : va_D A ([(o1, .inr (0, [.ref o2, .ref o4, .ref o6, .int v8, .int v9, .int v10, .int v11, .int v12])), (o2, .inl (cI, 4096, .inl f168)), (o4, .inl (cI, 12, .inl fw5)), (o6, .inl (cI, 12, .inl f169))]) := hD
              refine lv_if_eq (tgt := 75) hx hb dX0_seatsRest_70 (by decide) (fun h171 => ?_) (fun h171 => ?_)
              ·
                have j172 : Iv 0 0 x170 := r_eq h171 ik_0
                obtain ⟨x173, x173_e⟩ : ∃ z : Int32, z = x153 + 1 := ⟨_, rfl⟩
                have x173_h : Iv 1 12 x173 := iv_e x173_e (iv_add j159 ik_1 (by decide))
                refine lv_iinc (v := x173) (lv' := [(4, .int x173), (3, .int x5), (0, .ref o1), (1, .int a1), (2, .int 4)]) hx hb dX0_seatsRest_75 hl (k := 0) rfl (incN (by decide +kernel) x173_e) (by decide) rfl (fun ls hl => ?_)
                refine lv_goto (tgt := 31) hx hb dX0_seatsRest_78 (by decide) ?_
                exact ih1 x173 f168 f169 _ _ _ (ms_up x173_e j159 (by decide) hM1) (iv_w x173_h (by decide)) hP hD hS hl
              ·
                have j174 : Iv 1 1 x170 := r_nelo h171 x170_h ik_0 (by decide)
                refine lv_iconst (v := 1) hx hb dX0_seatsRest_73 (by decide) ?_
                rw [hQ]
                exact W.zret (v := 1) (ty := .boolean) hx hb hr rfl (fun t ht hW => ⟨⟨1, (f168, f169), rfl, (iv_w ik_1 (by decide)), by rw [ht]; exact hP, va_K.moved hW.alike hK, hD⟩, hS.F ht⟩) hS.2.2 dX0_seatsRest_74
      exact L1 _ 0 fw3 fw7 _ _ _ (Nat.lt_succ_self _) (iv_w ik_0 (by decide)) hP hD hS hl
    ·
      have j175 : Iv 1 1 x3 := r_eq h4 ik_1
      refine lv_iconst (v := 0) hx hb dX0_seatsRest_20 (by decide) ?_
      rw [hQ]
      exact W.zret (v := 0) (ty := .boolean) hx hb hr rfl (fun t ht hW => ⟨⟨0, (fw3, fw7), rfl, (iv_w ik_0 (by decide)), by rw [ht]; exact hP, va_K.moved hW.alike hK, hD⟩, hS.F ht⟩) hS.2.2 dX0_seatsRest_21
  ·
    have qh1 := nlt_i h1
    have j176 : Iv 0 4 v9 := r_lel qh1 v9_h ik_4 (by decide)
    refine lv_iconst (v := 1) hx hb dX0_seatsRest_8 (by decide) ?_
    rw [hQ]
    exact W.zret (v := 1) (ty := .boolean) hx hb hr rfl (fun t ht hW => ⟨⟨1, (fw3, fw7), rfl, (iv_w ik_1 (by decide)), by rw [ht]; exact hP, va_K.moved hW.alike hK, hD⟩, hS.F ht⟩) hS.2.2 dX0_seatsRest_9
