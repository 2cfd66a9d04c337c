theorem hm_X0_countWays_1 : (.fieldLink RX0 25 "HolelessHouse$Benches" "width" "I" : Cond) ∈ wsX0_countWays := List.mem_of_getElem? (i := 1) rfl
theorem hm_X0_countWays_2 : (.fieldLink RX0 38 "HolelessHouse$Benches" "notes" "[I" : Cond) ∈ wsX0_countWays := List.mem_of_getElem? (i := 2) rfl
theorem hm_X0_countWays_3 : (.fieldLink RX0 28 "HolelessHouse$Benches" "ways" "I" : Cond) ∈ wsX0_countWays := List.mem_of_getElem? (i := 3) rfl
theorem hm_X0_countWays_19 : (.initialized RX11 : Cond) ∈ wsX0_countWays := List.mem_of_getElem? (i := 19) rfl
theorem hm_X0_countWays_18 : (.static yX11_in : Cond) ∈ wsX0_countWays := List.mem_of_getElem? (i := 18) rfl
set_option maxHeartbeats 4000000 in
set_option maxRecDepth 100000 in
theorem kX0_seatsRest_17 (l : Launch) (dC : Nat → ClassId) (dI : Nat → Nat → Nat) (cI c2 cZ : ClassId) (o1 : Nat) (o2 : Nat) (o4 : Nat) (o6 : Nat) (fw3 : Nat → Int32) (fw5 : Nat → Int32) (fw7 : Nat → Int32) (v8 : Int32) (v9 : Int32) (v10 : Int32) (v11 : Int32) (v12 : Int32) (a1 : Int32) (sz : Nat) (v8_h : Iv 0 12 v8) (v9_h : Iv 0 8 v9) (v11_h : Iv 0 1 v11) (a1_h : Iv 0 255 a1) : Met l yX0_seatsRest wsX0_seatsRest ({ frames := 3, cells := 0, slots := 0, locals := 72 }) (va_Pc [.ref o1, .int a1, .int 5] (wPre (dC, dI) [(cI, .int), (c2, .array .int), (cZ, .boolean)] ([(o1, .inr (0, [.ref o2, .ref o4, .ref o6, .int v8, .int v9, .int v10, .int v11, .int v12])), (o2, .inl (cI, 256, .inl fw3)), (o4, .inl (cI, 12, .inl fw5)), (o6, .inl (cI, 8, .inl fw7))]) sz)) (va_Qi (fun (r : Int32) (u : (Nat → Int32) × (Nat → Int32)) => Iv 0 1 r) (fun u t => wPost (dC, dI) [(cI, .int), (c2, .array .int), (cZ, .boolean)] (va_A ([(o1, .inr (0, [.ref o2, .ref o4, .ref o6, .int v8, .int v9, .int v10, .int v11, .int v12])), (o2, .inl (cI, 256, .inl fw3)), (o4, .inl (cI, 12, .inl fw5)), (o6, .inl (cI, 8, .inl fw7))]) sz) ([(o1, .inr (0, [.ref o2, .ref o4, .ref o6, .int v8, .int v9, .int v10, .int v11, .int v12])), (o2, .inl (cI, 256, .inl u.1)), (o4, .inl (cI, 12, .inl fw5)), (o6, .inl (cI, 8, .inl u.2))]) t) (va_A ([(o1, .inr (0, [.ref o2, .ref o4, .ref o6, .int v8, .int v9, .int v10, .int v11, .int v12])), (o2, .inl (cI, 256, .inl fw3)), (o4, .inl (cI, 12, .inl fw5)), (o6, .inl (cI, 8, .inl fw7))]) sz)) 0 0 (va_A ([(o1, .inr (0, [.ref o2, .ref o4, .ref o6, .int v8, .int v9, .int v10, .int v11, .int v12])), (o2, .inl (cI, 256, .inl fw3)), (o4, .inl (cI, 12, .inl fw5)), (o6, .inl (cI, 8, .inl fw7))]) sz) := by
  refine Met.ofW (cc := cX0_seatsRest) (maxL := 5) (ret := (some .boolean)) (by decide) rfl ?_
  intro p e s m args below meth c s₁ B hml hv
  obtain ⟨rfl, hsz, hP, hK, hD0, hN⟩ := hv
  have hx := B.exec
  have hb := B.bytes
  have hr := B.returns
  have hts := atoms_spec (ws := wsX0_seatsRest) B.pre
  have hown : s.vm.findClass RX0 = some m.cls := findClass_of_methodNamed B.named
  have hlocks := B.notSynchronized
  subst hsz
  have hD := hD0.self (sz := s.heap.size)
  generalize hAe : va_A ([(o1, .inr (0, [.ref o2, .ref o4, .ref o6, .int v8, .int v9, .int v10, .int v11, .int v12])), (o2, .inl (cI, 256, .inl fw3)), (o4, .inl (cI, 12, .inl fw5)), (o6, .inl (cI, 8, .inl fw7))]) s.heap.size = A at hD ⊢
  have hA : ∀ q : Nat, s.heap.size ≤ q → A q := fun q h => by rw [← hAe]; exact Or.inr h
  have hS : va_S A s.heap s.heap [] := va_S.rf
  have hP : va_P (dC, dI) vwCl ([(o1, .inr (0, [.ref o2, .ref o4, .ref o6, .int v8, .int v9, .int v10, .int v11, .int v12])), (o2, .inl (cI, 256, .inl fw3)), (o4, .inl (cI, 12, .inl fw5)), (o6, .inl (cI, 8, .inl fw7))]) s.heap := hP
  have hl := lv_entry ([.ref o1, .int a1, .int 5]) (n := 5) (Nat.le_of_ble_eq_true rfl)
  rw [lg_entry_eq]
  generalize (lg_sl ([.ref o1, .int a1, .int 5]) ++ List.replicate (5 - (lg_sl ([.ref o1, .int a1, .int 5])).length) Slot.unset).toArray = ls at hl ⊢
  have hl : lv_has ls 5 [(0, .ref o1), (1, .int a1), (2, .int 5)] := hl
  refine gen_Q (fun Q hQ => ?_)
  refine lv_iload_n hx hb dX0_seatsRest_0 rfl (lv_at hl 2 rfl) ?_
  refine lv_aload_n hx hb dX0_seatsRest_1 rfl (lv_at hl 0 rfl) ?_
  refine va_get (D := (dC, dI)) (ci := 0) (v := .int v9) (C := RX0) (T := TX0) (N := 8) hx hb hts iw_X0_seatsRest_X0 hown hK hP 0 rfl rfl 4 (by decide) (hts (.fieldLink RX0 25 "HolelessHouse$Benches" "width" "I") hm_X0_seatsRest_1) (fun _ h9 => h9) rfl dX0_seatsRest_2 ?_
  refine lv_icmp_lt (tgt := 10) hx hb dX0_seatsRest_5 (by decide) (fun h1 => ?_) (fun h1 => ?_)
  ·
    have qh1 := lt_i h1
    have j2 : Iv 6 8 v9 := r_ltr qh1 ik_5 v9_h (by decide)
    refine lv_aload_n hx hb dX0_seatsRest_10 rfl (lv_at hl 0 rfl) ?_
    refine va_get (D := (dC, dI)) (ci := 0) (v := .ref o2) (C := RX0) (T := TX0) (N := 8) hx hb hts iw_X0_seatsRest_X0 hown hK hP 0 rfl rfl 0 (by decide) (hts (.fieldLink RX0 38 "HolelessHouse$Benches" "notes" "[I") hm_X0_seatsRest_2) (fun _ h9 => h9) rfl dX0_seatsRest_11 ?_
    refine lv_iload_n hx hb dX0_seatsRest_14 rfl (lv_at hl 1 rfl) ?_
    refine va_iald hx hb hK hP 1 0 rfl rfl (vin_iv a1_h (by decide)) dX0_seatsRest_15 (lv_topi (fun x3 x3_e => ?_))
    refine lv_iconst (v := 1) hx hb dX0_seatsRest_16 (by decide) ?_
    refine lv_icmp_ne (tgt := 22) hx hb dX0_seatsRest_17 (by decide) (fun h4 => ?_) (fun h4 => ?_)
    ·
      refine lv_aload_n hx hb dX0_seatsRest_22 rfl (lv_at hl 0 rfl) ?_
      refine lv_iload_n hx hb dX0_seatsRest_23 rfl (lv_at hl 1 rfl) ?_
      refine kc_i (D := (dC, dI)) (S := Unit) (wc := [(o1, .inr (0, [.ref o2, .ref o4, .ref o6, .int v8, .int v9, .int v10, .int v11, .int v12])), (o4, .inl (cI, 12, .inl fw5))]) (wr := [(o2, .inl (cI, 256, .inl fw3)), (o6, .inl (cI, 8, .inl fw7))]) (w1 := fun _ => [(o1, .inr (0, [.ref o2, .ref o4, .ref o6, .int v8, .int v9, .int v10, .int v11, .int v12])), (o4, .inl (cI, 12, .inl fw5))]) (wn := fun _ => [(o1, .inr (0, [.ref o2, .ref o4, .ref o6, .int v8, .int v9, .int v10, .int v11, .int v12])), (o2, .inl (cI, 256, .inl fw3)), (o4, .inl (cI, 12, .inl fw5)), (o6, .inl (cI, 8, .inl fw7))]) (fun hPc hDc => va_runV (As := [.int a1]) (rest := []) ⟨hx, hb, hml, hown, hts⟩ (kX0_mayCome_2 l dC dI cI c2 cZ o1 o2 o4 o6 fw5 v8 v9 v10 v11 v12 a1 s.heap.size v8_h (iv_w j2 (by decide)) v11_h a1_h) (cwV 1 hts gX0_seatsRest_X0_mayCome rfl rfl rfl (by decide +kernel) ⟨Nat.le_of_ble_eq_true rfl, Nat.le_of_ble_eq_true rfl⟩) (pre_V hPc hK hDc hN (ci := 0) (q0 := 0) rfl rfl) rfl rfl hl.1 rfl (lv_room (Nat.le_of_ble_eq_true rfl)) dX0_seatsRest_24 ⟨Nat.le_of_ble_eq_true rfl, Nat.le_of_ble_eq_true rfl⟩) hP hD hS hA [0, 2] [1, 3] [2, 0, 3, 1] rfl rfl (by decide +kernel) (by decide +kernel) (by decide +kernel) (by decide +kernel) (fun _ => rfl) (fun x5 _ H locs hq hP hD hS => ?_)
      have x5_h := hq
      have hP : va_P (dC, dI) vwCl ([(o1, .inr (0, [.ref o2, .ref o4, .ref o6, .int v8, .int v9, .int v10, .int v11, .int v12])), (o2, .inl (cI, 256, .inl fw3)), (o4, .inl (cI, 12, .inl fw5)), (o6, .inl (cI, 8, .inl fw7))]) H := hP
      have hD : va_D A ([(o1, .inr (0, [.ref o2, .ref o4, .ref o6, .int v8, .int v9, .int v10, .int v11, .int v12])), (o2, .inl (cI, 256, .inl fw3)), (o4, .inl (cI, 12, .inl fw5)), (o6, .inl (cI, 8, .inl fw7))]) := hD
      refine lv_istore_n (lv' := [(3, .int x5), (0, .ref o1), (1, .int a1), (2, .int 5)]) hx hb dX0_seatsRest_27 rfl hl (by decide) rfl (fun ls hl => ?_)
      refine lv_iconst (v := 0) hx hb dX0_seatsRest_28 (by decide) ?_
      refine lv_istore (lv' := [(4, .int 0), (3, .int x5), (0, .ref o1), (1, .int a1), (2, .int 5)]) hx hb dX0_seatsRest_29 hl (by decide) rfl (fun ls hl => ?_)
      have L1 : ∀ (N : Nat) (x111 : Int32) (f112 : Nat → Int32) (f113 : Nat → Int32) (H : Heap) (locs : List Loc) (ls : Array Slot), (8 - x111.toInt).toNat < N → Iv 0 8 x111 → va_P (dC, dI) vwCl ([(o1, .inr (0, [.ref o2, .ref o4, .ref o6, .int v8, .int v9, .int v10, .int v11, .int v12])), (o2, .inl (cI, 256, .inl f112)), (o4, .inl (cI, 12, .inl fw5)), (o6, .inl (cI, 8, .inl f113))]) H → va_D A ([(o1, .inr (0, [.ref o2, .ref o4, .ref o6, .int v8, .int v9, .int v10, .int v11, .int v12])), (o2, .inl (cI, 256, .inl f112)), (o4, .inl (cI, 12, .inl fw5)), (o6, .inl (cI, 8, .inl f113))]) → va_S A s.heap H locs → lv_has ls 5 [(4, .int x111), (3, .int x5), (0, .ref o1), (1, .int a1), (2, .int 5)] → W p l e ({ frames := 3, cells := 0, slots := 0, locals := 72 }) s m ([.ref o1, .int a1, .int 5] : List Value).toArray below meth c H locs 0 0 Q (F0 m 31 ls []) := by
        intro N
        induction N with
        | zero =>
          intro x111 f112 f113 H locs ls hM
          exact absurd hM (Nat.not_lt_zero _)
        | succ N ih1 =>
          intro x111 f112 f113 H locs ls hM1 x111_h hP hD hS hl
          refine lv_iload hx hb dX0_seatsRest_31 (lv_at hl 0 rfl) ?_
          refine lv_aload_n hx hb dX0_seatsRest_33 rfl (lv_at hl 2 rfl) ?_
          refine va_get (D := (dC, dI)) (ci := 0) (v := .int v9) (C := RX0) (T := TX0) (N := 8) hx hb hts iw_X0_seatsRest_X0 hown hK hP 0 rfl rfl 4 (by decide) (hts (.fieldLink RX0 25 "HolelessHouse$Benches" "width" "I") hm_X0_seatsRest_1) (fun _ h9 => h9) rfl dX0_seatsRest_34 ?_
          refine lv_icmp_ge (tgt := 81) hx hb dX0_seatsRest_37 (by decide) (fun h114 => ?_) (fun h114 => ?_)
          ·
            have qh114 := le_i h114
            have j115 : Iv 6 8 x111 := r_ler qh114 j2 x111_h (by decide)
            refine lv_aload_n hx hb dX0_seatsRest_81 rfl (lv_at hl 2 rfl) ?_
            refine va_get (D := (dC, dI)) (ci := 0) (v := .ref o2) (C := RX0) (T := TX0) (N := 8) hx hb hts iw_X0_seatsRest_X0 hown hK hP 0 rfl rfl 0 (by decide) (hts (.fieldLink RX0 38 "HolelessHouse$Benches" "notes" "[I") hm_X0_seatsRest_2) (fun _ h9 => h9) rfl dX0_seatsRest_82 ?_
            refine lv_iload_n hx hb dX0_seatsRest_85 rfl (lv_at hl 3 rfl) ?_
            refine lv_iconst (v := 1) hx hb dX0_seatsRest_86 (by decide) ?_
            refine k_iast hx hb hK hP hD hS 1 0 rfl rfl (vin_iv a1_h (by decide)) dX0_seatsRest_87 (fun f116 H locs f116_e hP hD hS => ?_)
            have hP : va_P (dC, dI) vwCl ([(o1, .inr (0, [.ref o2, .ref o4, .ref o6, .int v8, .int v9, .int v10, .int v11, .int v12])), (o2, .inl (cI, 256, .inl f116)), (o4, .inl (cI, 12, .inl fw5)), (o6, .inl (cI, 8, .inl f113))]) H := hP
            have hD : va_D A ([(o1, .inr (0, [.ref o2, .ref o4, .ref o6, .int v8, .int v9, .int v10, .int v11, .int v12])), (o2, .inl (cI, 256, .inl f116)), (o4, .inl (cI, 12, .inl fw5)), (o6, .inl (cI, 8, .inl f113))]) := hD
            refine lv_iconst (v := 0) hx hb dX0_seatsRest_88 (by decide) ?_
            rw [hQ]
            exact W.zret (v := 0) (ty := .boolean) hx hb hr rfl (fun t ht hW => ⟨⟨0, (f116, f113), rfl, (iv_w ik_0 (by decide)), by rw [ht]; exact hP, va_K.moved hW.alike hK, hD⟩, hS.F ht⟩) hS.2.2 dX0_seatsRest_89
          ·
            have qh114 := nle_i h114
            have j117 : Iv 0 7 x111 := r_ltl qh114 x111_h j2 (by decide)
            refine lv_iload_n hx hb dX0_seatsRest_40 rfl (lv_at hl 1 rfl) ?_
            refine lv_iload hx hb dX0_seatsRest_41 (lv_at hl 0 rfl) ?_
            refine kc_i (D := (dC, dI)) (S := Unit) (wc := []) (wr := [(o1, .inr (0, [.ref o2, .ref o4, .ref o6, .int v8, .int v9, .int v10, .int v11, .int v12])), (o2, .inl (cI, 256, .inl f112)), (o4, .inl (cI, 12, .inl fw5)), (o6, .inl (cI, 8, .inl f113))]) (w1 := fun _ => []) (wn := fun _ => [(o1, .inr (0, [.ref o2, .ref o4, .ref o6, .int v8, .int v9, .int v10, .int v11, .int v12])), (o2, .inl (cI, 256, .inl f112)), (o4, .inl (cI, 12, .inl fw5)), (o6, .inl (cI, 8, .inl f113))]) (fun hPc hDc => va_runSN (As := [.int x5, .int x111]) (rest := []) ⟨hx, hb, hml, hown, hts⟩ (kX11_in_1 l dC dI cI c2 cZ x5 x111 H.size) ⟨va_cnB 2 hts gX0_seatsRest_X11_in_n62 rfl rfl rfl (hN.1 _ ns_125) (hts (.initialized RX11) hm_X0_seatsRest_12) (by decide +kernel) ⟨Nat.le_of_ble_eq_true rfl, Nat.le_of_ble_eq_true rfl⟩, (hts (.static yX11_in) hm_X0_seatsRest_11), trivial⟩ (pre_S hPc hK hDc hN) rfl rfl hl.1 rfl (lv_room (Nat.le_of_ble_eq_true rfl)) dX0_seatsRest_43 ⟨Nat.le_of_ble_eq_true rfl, Nat.le_of_ble_eq_true rfl⟩) hP hD hS hA [] [0, 1, 2, 3] [0, 1, 2, 3] rfl rfl (by decide +kernel) (by decide +kernel) (by decide +kernel) (by decide +kernel) (fun _ => rfl) (fun x118 _ H locs hq hP hD hS => ?_)
            have x118_h := hq
            have hP : va_P (dC, dI) vwCl ([(o1, .inr (0, [.ref o2, .ref o4, .ref o6, .int v8, .int v9, .int v10, .int v11, .int v12])), (o2, .inl (cI, 256, .inl f112)), (o4, .inl (cI, 12, .inl fw5)), (o6, .inl (cI, 8, .inl f113))]) H := hP
            have hD : va_D A ([(o1, .inr (0, [.ref o2, .ref o4, .ref o6, .int v8, .int v9, .int v10, .int v11, .int v12])), (o2, .inl (cI, 256, .inl f112)), (o4, .inl (cI, 12, .inl fw5)), (o6, .inl (cI, 8, .inl f113))]) := hD
            refine lv_if_eq (tgt := 75) hx hb dX0_seatsRest_46 (by decide) (fun h119 => ?_) (fun h119 => ?_)
            ·
              have j120 : Iv 0 0 x118 := r_eq h119 ik_0
              obtain ⟨x121, x121_e⟩ : ∃ z : Int32, z = x111 + 1 := ⟨_, rfl⟩
              have x121_h : Iv 1 8 x121 := iv_e x121_e (iv_add j117 ik_1 (by decide))
              refine lv_iinc (v := x121) (lv' := [(4, .int x121), (3, .int x5), (0, .ref o1), (1, .int a1), (2, .int 5)]) hx hb dX0_seatsRest_75 hl (k := 0) rfl (incN (by decide +kernel) x121_e) (by decide) rfl (fun ls hl => ?_)
              refine lv_goto (tgt := 31) hx hb dX0_seatsRest_78 (by decide) ?_
              exact ih1 x121 f112 f113 _ _ _ (ms_up x121_e j117 (by decide) hM1) (iv_w x121_h (by decide)) hP hD hS hl
            ·
              have j122 : Iv 1 1 x118 := r_nelo h119 x118_h ik_0 (by decide)
              refine lv_aload_n hx hb dX0_seatsRest_49 rfl (lv_at hl 2 rfl) ?_
              refine va_get (D := (dC, dI)) (ci := 0) (v := .ref o6) (C := RX0) (T := TX0) (N := 8) hx hb hts iw_X0_seatsRest_X0 hown hK hP 0 rfl rfl 2 (by decide) (hts (.fieldLink RX0 41 "HolelessHouse$Benches" "places" "[I") hm_X0_seatsRest_3) (fun _ h9 => h9) rfl dX0_seatsRest_50 ?_
              refine lv_iload_n hx hb dX0_seatsRest_53 rfl (lv_at hl 4 rfl) ?_
              refine lv_iload hx hb dX0_seatsRest_54 (lv_at hl 0 rfl) ?_
              refine k_iast hx hb hK hP hD hS 3 0 rfl rfl (vin_iv ik_5 (by decide)) dX0_seatsRest_56 (fun f123 H locs f123_e hP hD hS => ?_)
              have hP : va_P (dC, dI) vwCl ([(o1, .inr (0, [.ref o2, .ref o4, .ref o6, .int v8, .int v9, .int v10, .int v11, .int v12])), (o2, .inl (cI, 256, .inl f112)), (o4, .inl (cI, 12, .inl fw5)), (o6, .inl (cI, 8, .inl f123))]) H := hP
              have hD : va_D A ([(o1, .inr (0, [.ref o2, .ref o4, .ref o6, .int v8, .int v9, .int v10, .int v11, .int v12])), (o2, .inl (cI, 256, .inl f112)), (o4, .inl (cI, 12, .inl fw5)), (o6, .inl (cI, 8, .inl f123))]) := hD
              refine lv_aload_n hx hb dX0_seatsRest_57 rfl (lv_at hl 2 rfl) ?_
              refine lv_iload_n hx hb dX0_seatsRest_58 rfl (lv_at hl 3 rfl) ?_
              refine lv_iconst (v := 1) hx hb dX0_seatsRest_59 (by decide) ?_
              refine lv_iload hx hb dX0_seatsRest_60 (lv_at hl 0 rfl) ?_
              refine lv_ishl hx hb dX0_seatsRest_62 (lv_topi (fun x124 x124_e => ?_))
              have x124_h : Iv 1 128 x124 := iv_e x124_e (iv_shl1 j117 (by decide))
              refine lv_ior hx hb dX0_seatsRest_63 (lv_topi (fun x125 x125_e => ?_))
              have x125_h : Iv 0 255 x125 := iv_e x125_e (iv_or 8 a1_h x124_h (by decide))
              refine lv_iload_n hx hb dX0_seatsRest_64 rfl (lv_at hl 4 rfl) ?_
              refine lv_iconst (v := 1) hx hb dX0_seatsRest_65 (by decide) ?_
              refine lv_iadd hx hb dX0_seatsRest_66 (tk_i (v := 6) (by decide +kernel) ?_)
              refine kc_i (D := (dC, dI)) (S := (Nat → Int32) × (Nat → Int32)) (wc := [(o1, .inr (0, [.ref o2, .ref o4, .ref o6, .int v8, .int v9, .int v10, .int v11, .int v12])), (o2, .inl (cI, 256, .inl f112)), (o4, .inl (cI, 12, .inl fw5)), (o6, .inl (cI, 8, .inl f123))]) (wr := []) (w1 := fun u => [(o1, .inr (0, [.ref o2, .ref o4, .ref o6, .int v8, .int v9, .int v10, .int v11, .int v12])), (o2, .inl (cI, 256, .inl u.1)), (o4, .inl (cI, 12, .inl fw5)), (o6, .inl (cI, 8, .inl u.2))]) (wn := fun u => [(o1, .inr (0, [.ref o2, .ref o4, .ref o6, .int v8, .int v9, .int v10, .int v11, .int v12])), (o2, .inl (cI, 256, .inl u.1)), (o4, .inl (cI, 12, .inl fw5)), (o6, .inl (cI, 8, .inl u.2))]) (fun hPc hDc => va_runS (As := [.ref o1, .int x125, .int 6]) (rest := []) ⟨hx, hb, hml, hown, hts⟩ (kX0_seatsRest_16 l dC dI cI c2 cZ o1 o2 o4 o6 f112 fw5 f123 v8 v9 v10 v11 v12 x125 H.size v8_h (iv_w j2 (by decide)) v11_h x125_h) (va_cwS 3 hts gX0_seatsRest_X0_seatsRest rfl rfl rfl (by decide +kernel) ⟨Nat.le_of_ble_eq_true rfl, Nat.le_of_ble_eq_true rfl⟩) (pre_S hPc hK hDc hN) rfl rfl hl.1 rfl (lv_room (Nat.le_of_ble_eq_true rfl)) dX0_seatsRest_67 ⟨Nat.le_of_ble_eq_true rfl, Nat.le_of_ble_eq_true rfl⟩) hP hD hS hA [0, 1, 2, 3] [] [0, 1, 2, 3] rfl rfl (by decide +kernel) (by decide +kernel) (by decide +kernel) (by decide +kernel) (fun _ => rfl) (fun x128 u H locs hq hP hD hS => ?_)
              obtain ⟨f126, f127⟩ := u
              have x128_h := hq
              have hP : va_P (dC, dI) vwCl ([(o1, .inr (0, [.ref o2, .ref o4, .ref o6, .int v8, .int v9, .int v10, .int v11, .int v12])), (o2, .inl (cI, 256, .inl f126)), (o4, .inl (cI, 12, .inl fw5)), (o6, .inl (cI, 8, .inl f127))]) H := hP
              have hD : va_D A ([(o1, .inr (0, [.ref o2, .ref o4, .ref o6, .int v8, .int v9, .int v10, .int v11, .int v12])), (o2, .inl (cI, 256, .inl f126)), (o4, .inl (cI, 12, .inl fw5)), (o6, .inl (cI, 8, .inl f127))]) := hD
              refine lv_if_eq (tgt := 75) hx hb dX0_seatsRest_70 (by decide) (fun h129 => ?_) (fun h129 => ?_)
              ·
                have j130 : Iv 0 0 x128 := r_eq h129 ik_0
                obtain ⟨x131, x131_e⟩ : ∃ z : Int32, z = x111 + 1 := ⟨_, rfl⟩
                have x131_h : Iv 1 8 x131 := iv_e x131_e (iv_add j117 ik_1 (by decide))
                refine lv_iinc (v := x131) (lv' := [(4, .int x131), (3, .int x5), (0, .ref o1), (1, .int a1), (2, .int 5)]) hx hb dX0_seatsRest_75 hl (k := 0) rfl (incN (by decide +kernel) x131_e) (by decide) rfl (fun ls hl => ?_)
                refine lv_goto (tgt := 31) hx hb dX0_seatsRest_78 (by decide) ?_
                exact ih1 x131 f126 f127 _ _ _ (ms_up x131_e j117 (by decide) hM1) (iv_w x131_h (by decide)) hP hD hS hl
              ·
                have j132 : Iv 1 1 x128 := r_nelo h129 x128_h ik_0 (by decide)
                refine lv_iconst (v := 1) hx hb dX0_seatsRest_73 (by decide) ?_
                rw [hQ]
                exact W.zret (v := 1) (ty := .boolean) hx hb hr rfl (fun t ht hW => ⟨⟨1, (f126, f127), rfl, (iv_w ik_1 (by decide)), by rw [ht]; exact hP, va_K.moved hW.alike hK, hD⟩, hS.F ht⟩) hS.2.2 dX0_seatsRest_74
      exact L1 _ 0 fw3 fw7 _ _ _ (Nat.lt_succ_self _) (iv_w ik_0 (by decide)) hP hD hS hl
    ·
      have j133 : Iv 1 1 x3 := r_eq h4 ik_1
      refine lv_iconst (v := 0) hx hb dX0_seatsRest_20 (by decide) ?_
      rw [hQ]
      exact W.zret (v := 0) (ty := .boolean) hx hb hr rfl (fun t ht hW => ⟨⟨0, (fw3, fw7), rfl, (iv_w ik_0 (by decide)), by rw [ht]; exact hP, va_K.moved hW.alike hK, hD⟩, hS.F ht⟩) hS.2.2 dX0_seatsRest_21
  ·
    have qh1 := nlt_i h1
    have j134 : Iv 0 5 v9 := r_lel qh1 v9_h ik_5 (by decide)
    refine lv_iconst (v := 1) hx hb dX0_seatsRest_8 (by decide) ?_
    rw [hQ]
    exact W.zret (v := 1) (ty := .boolean) hx hb hr rfl (fun t ht hW => ⟨⟨1, (fw3, fw7), rfl, (iv_w ik_1 (by decide)), by rw [ht]; exact hP, va_K.moved hW.alike hK, hD⟩, hS.F ht⟩) hS.2.2 dX0_seatsRest_9
set_option maxHeartbeats 4000000 in
set_option maxRecDepth 100000 in
theorem kX0_seatsRest_18 (l : Launch) (dC : Nat → ClassId) (dI : Nat → Nat → Nat) (cI c2 cZ : ClassId) (o1 : Nat) (o2 : Nat) (o4 : Nat) (o6 : Nat) (fw3 : Nat → Int32) (fw5 : Nat → Int32) (fw7 : Nat → Int32) (v8 : Int32) (v9 : Int32) (v10 : Int32) (v11 : Int32) (v12 : Int32) (a1 : Int32) (sz : Nat) (v8_h : Iv 0 12 v8) (v9_h : Iv 0 8 v9) (v11_h : Iv 0 1 v11) (a1_h : Iv 0 255 a1) : Met l yX0_seatsRest wsX0_seatsRest ({ frames := 4, cells := 0, slots := 0, locals := 96 }) (va_Pc [.ref o1, .int a1, .int 4] (wPre (dC, dI) [(cI, .int), (c2, .array .int), (cZ, .boolean)] ([(o1, .inr (0, [.ref o2, .ref o4, .ref o6, .int v8, .int v9, .int v10, .int v11, .int v12])), (o2, .inl (cI, 256, .inl fw3)), (o4, .inl (cI, 12, .inl fw5)), (o6, .inl (cI, 8, .inl fw7))]) sz)) (va_Qi (fun (r : Int32) (u : (Nat → Int32) × (Nat → Int32)) => Iv 0 1 r) (fun u t => wPost (dC, dI) [(cI, .int), (c2, .array .int), (cZ, .boolean)] (va_A ([(o1, .inr (0, [.ref o2, .ref o4, .ref o6, .int v8, .int v9, .int v10, .int v11, .int v12])), (o2, .inl (cI, 256, .inl fw3)), (o4, .inl (cI, 12, .inl fw5)), (o6, .inl (cI, 8, .inl fw7))]) sz) ([(o1, .inr (0, [.ref o2, .ref o4, .ref o6, .int v8, .int v9, .int v10, .int v11, .int v12])), (o2, .inl (cI, 256, .inl u.1)), (o4, .inl (cI, 12, .inl fw5)), (o6, .inl (cI, 8, .inl u.2))]) t) (va_A ([(o1, .inr (0, [.ref o2, .ref o4, .ref o6, .int v8, .int v9, .int v10, .int v11, .int v12])), (o2, .inl (cI, 256, .inl fw3)), (o4, .inl (cI, 12, .inl fw5)), (o6, .inl (cI, 8, .inl fw7))]) sz)) 0 0 (va_A ([(o1, .inr (0, [.ref o2, .ref o4, .ref o6, .int v8, .int v9, .int v10, .int v11, .int v12])), (o2, .inl (cI, 256, .inl fw3)), (o4, .inl (cI, 12, .inl fw5)), (o6, .inl (cI, 8, .inl fw7))]) sz) := by
  refine Met.ofW (cc := cX0_seatsRest) (maxL := 5) (ret := (some .boolean)) (by decide) rfl ?_
  intro p e s m args below meth c s₁ B hml hv
  obtain ⟨rfl, hsz, hP, hK, hD0, hN⟩ := hv
  have hx := B.exec
  have hb := B.bytes
  have hr := B.returns
  have hts := atoms_spec (ws := wsX0_seatsRest) B.pre
  have hown : s.vm.findClass RX0 = some m.cls := findClass_of_methodNamed B.named
  have hlocks := B.notSynchronized
  subst hsz
  have hD := hD0.self (sz := s.heap.size)
  generalize hAe : va_A ([(o1, .inr (0, [.ref o2, .ref o4, .ref o6, .int v8, .int v9, .int v10, .int v11, .int v12])), (o2, .inl (cI, 256, .inl fw3)), (o4, .inl (cI, 12, .inl fw5)), (o6, .inl (cI, 8, .inl fw7))]) s.heap.size = A at hD ⊢
  have hA : ∀ q : Nat, s.heap.size ≤ q → A q := fun q h => by rw [← hAe]; exact Or.inr h
  have hS : va_S A s.heap s.heap [] := va_S.rf
  have hP : va_P (dC, dI) vwCl ([(o1, .inr (0, [.ref o2, .ref o4, .ref o6, .int v8, .int v9, .int v10, .int v11, .int v12])), (o2, .inl (cI, 256, .inl fw3)), (o4, .inl (cI, 12, .inl fw5)), (o6, .inl (cI, 8, .inl fw7))]) s.heap := hP
  have hl := lv_entry ([.ref o1, .int a1, .int 4]) (n := 5) (Nat.le_of_ble_eq_true rfl)
  rw [lg_entry_eq]
  generalize (lg_sl ([.ref o1, .int a1, .int 4]) ++ List.replicate (5 - (lg_sl ([.ref o1, .int a1, .int 4])).length) Slot.unset).toArray = ls at hl ⊢
  have hl : lv_has ls 5 [(0, .ref o1), (1, .int a1), (2, .int 4)] := hl
  refine gen_Q (fun Q hQ => ?_)
  refine lv_iload_n hx hb dX0_seatsRest_0 rfl (lv_at hl 2 rfl) ?_
  refine lv_aload_n hx hb dX0_seatsRest_1 rfl (lv_at hl 0 rfl) ?_
  refine va_get (D := (dC, dI)) (ci := 0) (v := .int v9) (C := RX0) (T := TX0) (N := 8) hx hb hts iw_X0_seatsRest_X0 hown hK hP 0 rfl rfl 4 (by decide) (hts (.fieldLink RX0 25 "HolelessHouse$Benches" "width" "I") hm_X0_seatsRest_1) (fun _ h9 => h9) rfl dX0_seatsRest_2 ?_
  refine lv_icmp_lt (tgt := 10) hx hb dX0_seatsRest_5 (by decide) (fun h1 => ?_) (fun h1 => ?_)
  ·
    have qh1 := lt_i h1
    have j2 : Iv 5 8 v9 := r_ltr qh1 ik_4 v9_h (by decide)
    refine lv_aload_n hx hb dX0_seatsRest_10 rfl (lv_at hl 0 rfl) ?_
    refine va_get (D := (dC, dI)) (ci := 0) (v := .ref o2) (C := RX0) (T := TX0) (N := 8) hx hb hts iw_X0_seatsRest_X0 hown hK hP 0 rfl rfl 0 (by decide) (hts (.fieldLink RX0 38 "HolelessHouse$Benches" "notes" "[I") hm_X0_seatsRest_2) (fun _ h9 => h9) rfl dX0_seatsRest_11 ?_
    refine lv_iload_n hx hb dX0_seatsRest_14 rfl (lv_at hl 1 rfl) ?_
    refine va_iald hx hb hK hP 1 0 rfl rfl (vin_iv a1_h (by decide)) dX0_seatsRest_15 (lv_topi (fun x3 x3_e => ?_))
    refine lv_iconst (v := 1) hx hb dX0_seatsRest_16 (by decide) ?_
    refine lv_icmp_ne (tgt := 22) hx hb dX0_seatsRest_17 (by decide) (fun h4 => ?_) (fun h4 => ?_)
    ·
      refine lv_aload_n hx hb dX0_seatsRest_22 rfl (lv_at hl 0 rfl) ?_
      refine lv_iload_n hx hb dX0_seatsRest_23 rfl (lv_at hl 1 rfl) ?_
      refine kc_i (D := (dC, dI)) (S := Unit) (wc := [(o1, .inr (0, [.ref o2, .ref o4, .ref o6, .int v8, .int v9, .int v10, .int v11, .int v12])), (o4, .inl (cI, 12, .inl fw5))]) (wr := [(o2, .inl (cI, 256, .inl fw3)), (o6, .inl (cI, 8, .inl fw7))]) (w1 := fun _ => [(o1, .inr (0, [.ref o2, .ref o4, .ref o6, .int v8, .int v9, .int v10, .int v11, .int v12])), (o4, .inl (cI, 12, .inl fw5))]) (wn := fun _ => [(o1, .inr (0, [.ref o2, .ref o4, .ref o6, .int v8, .int v9, .int v10, .int v11, .int v12])), (o2, .inl (cI, 256, .inl fw3)), (o4, .inl (cI, 12, .inl fw5)), (o6, .inl (cI, 8, .inl fw7))]) (fun hPc hDc => va_runV (As := [.int a1]) (rest := []) ⟨hx, hb, hml, hown, hts⟩ (kX0_mayCome_2 l dC dI cI c2 cZ o1 o2 o4 o6 fw5 v8 v9 v10 v11 v12 a1 s.heap.size v8_h (iv_w j2 (by decide)) v11_h a1_h) (cwV 1 hts gX0_seatsRest_X0_mayCome rfl rfl rfl (by decide +kernel) ⟨Nat.le_of_ble_eq_true rfl, Nat.le_of_ble_eq_true rfl⟩) (pre_V hPc hK hDc hN (ci := 0) (q0 := 0) rfl rfl) rfl rfl hl.1 rfl (lv_room (Nat.le_of_ble_eq_true rfl)) dX0_seatsRest_24 ⟨Nat.le_of_ble_eq_true rfl, Nat.le_of_ble_eq_true rfl⟩) hP hD hS hA [0, 2] [1, 3] [2, 0, 3, 1] rfl rfl (by decide +kernel) (by decide +kernel) (by decide +kernel) (by decide +kernel) (fun _ => rfl) (fun x5 _ H locs hq hP hD hS => ?_)
      have x5_h := hq
      have hP : va_P (dC, dI) vwCl ([(o1, .inr (0, [.ref o2, .ref o4, .ref o6, .int v8, .int v9, .int v10, .int v11, .int v12])), (o2, .inl (cI, 256, .inl fw3)), (o4, .inl (cI, 12, .inl fw5)), (o6, .inl (cI, 8, .inl fw7))]) H := hP
      have hD : va_D A ([(o1, .inr (0, [.ref o2, .ref o4, .ref o6, .int v8, .int v9, .int v10, .int v11, .int v12])), (o2, .inl (cI, 256, .inl fw3)), (o4, .inl (cI, 12, .inl fw5)), (o6, .inl (cI, 8, .inl fw7))]) := hD
      refine lv_istore_n (lv' := [(3, .int x5), (0, .ref o1), (1, .int a1), (2, .int 4)]) hx hb dX0_seatsRest_27 rfl hl (by decide) rfl (fun ls hl => ?_)
      refine lv_iconst (v := 0) hx hb dX0_seatsRest_28 (by decide) ?_
      refine lv_istore (lv' := [(4, .int 0), (3, .int x5), (0, .ref o1), (1, .int a1), (2, .int 4)]) hx hb dX0_seatsRest_29 hl (by decide) rfl (fun ls hl => ?_)
      have L1 : ∀ (N : Nat) (x111 : Int32) (f112 : Nat → Int32) (f113 : Nat → Int32) (H : Heap) (locs : List Loc) (ls : Array Slot), (8 - x111.toInt).toNat < N → Iv 0 8 x111 → va_P (dC, dI) vwCl ([(o1, .inr (0, [.ref o2, .ref o4, .ref o6, .int v8, .int v9, .int v10, .int v11, .int v12])), (o2, .inl (cI, 256, .inl f112)), (o4, .inl (cI, 12, .inl fw5)), (o6, .inl (cI, 8, .inl f113))]) H → va_D A ([(o1, .inr (0, [.ref o2, .ref o4, .ref o6, .int v8, .int v9, .int v10, .int v11, .int v12])), (o2, .inl (cI, 256, .inl f112)), (o4, .inl (cI, 12, .inl fw5)), (o6, .inl (cI, 8, .inl f113))]) → va_S A s.heap H locs → lv_has ls 5 [(4, .int x111), (3, .int x5), (0, .ref o1), (1, .int a1), (2, .int 4)] → W p l e ({ frames := 4, cells := 0, slots := 0, locals := 96 }) s m ([.ref o1, .int a1, .int 4] : List Value).toArray below meth c H locs 0 0 Q (F0 m 31 ls []) := by
        intro N
        induction N with
        | zero =>
          intro x111 f112 f113 H locs ls hM
          exact absurd hM (Nat.not_lt_zero _)
        | succ N ih1 =>
          intro x111 f112 f113 H locs ls hM1 x111_h hP hD hS hl
          refine lv_iload hx hb dX0_seatsRest_31 (lv_at hl 0 rfl) ?_
          refine lv_aload_n hx hb dX0_seatsRest_33 rfl (lv_at hl 2 rfl) ?_
          refine va_get (D := (dC, dI)) (ci := 0) (v := .int v9) (C := RX0) (T := TX0) (N := 8) hx hb hts iw_X0_seatsRest_X0 hown hK hP 0 rfl rfl 4 (by decide) (hts (.fieldLink RX0 25 "HolelessHouse$Benches" "width" "I") hm_X0_seatsRest_1) (fun _ h9 => h9) rfl dX0_seatsRest_34 ?_
          refine lv_icmp_ge (tgt := 81) hx hb dX0_seatsRest_37 (by decide) (fun h114 => ?_) (fun h114 => ?_)
          ·
            have qh114 := le_i h114
            have j115 : Iv 5 8 x111 := r_ler qh114 j2 x111_h (by decide)
            refine lv_aload_n hx hb dX0_seatsRest_81 rfl (lv_at hl 2 rfl) ?_
            refine va_get (D := (dC, dI)) (ci := 0) (v := .ref o2) (C := RX0) (T := TX0) (N := 8) hx hb hts iw_X0_seatsRest_X0 hown hK hP 0 rfl rfl 0 (by decide) (hts (.fieldLink RX0 38 "HolelessHouse$Benches" "notes" "[I") hm_X0_seatsRest_2) (fun _ h9 => h9) rfl dX0_seatsRest_82 ?_
            refine lv_iload_n hx hb dX0_seatsRest_85 rfl (lv_at hl 3 rfl) ?_
            refine lv_iconst (v := 1) hx hb dX0_seatsRest_86 (by decide) ?_
            refine k_iast hx hb hK hP hD hS 1 0 rfl rfl (vin_iv a1_h (by decide)) dX0_seatsRest_87 (fun f116 H locs f116_e hP hD hS => ?_)
            have hP : va_P (dC, dI) vwCl ([(o1, .inr (0, [.ref o2, .ref o4, .ref o6, .int v8, .int v9, .int v10, .int v11, .int v12])), (o2, .inl (cI, 256, .inl f116)), (o4, .inl (cI, 12, .inl fw5)), (o6, .inl (cI, 8, .inl f113))]) H := hP
            have hD : va_D A ([(o1, .inr (0, [.ref o2, .ref o4, .ref o6, .int v8, .int v9, .int v10, .int v11, .int v12])), (o2, .inl (cI, 256, .inl f116)), (o4, .inl (cI, 12, .inl fw5)), (o6, .inl (cI, 8, .inl f113))]) := hD
            refine lv_iconst (v := 0) hx hb dX0_seatsRest_88 (by decide) ?_
            rw [hQ]
            exact W.zret (v := 0) (ty := .boolean) hx hb hr rfl (fun t ht hW => ⟨⟨0, (f116, f113), rfl, (iv_w ik_0 (by decide)), by rw [ht]; exact hP, va_K.moved hW.alike hK, hD⟩, hS.F ht⟩) hS.2.2 dX0_seatsRest_89
          ·
            have qh114 := nle_i h114
            have j117 : Iv 0 7 x111 := r_ltl qh114 x111_h j2 (by decide)
            refine lv_iload_n hx hb dX0_seatsRest_40 rfl (lv_at hl 1 rfl) ?_
            refine lv_iload hx hb dX0_seatsRest_41 (lv_at hl 0 rfl) ?_
            refine kc_i (D := (dC, dI)) (S := Unit) (wc := []) (wr := [(o1, .inr (0, [.ref o2, .ref o4, .ref o6, .int v8, .int v9, .int v10, .int v11, .int v12])), (o2, .inl (cI, 256, .inl f112)), (o4, .inl (cI, 12, .inl fw5)), (o6, .inl (cI, 8, .inl f113))]) (w1 := fun _ => []) (wn := fun _ => [(o1, .inr (0, [.ref o2, .ref o4, .ref o6, .int v8, .int v9, .int v10, .int v11, .int v12])), (o2, .inl (cI, 256, .inl f112)), (o4, .inl (cI, 12, .inl fw5)), (o6, .inl (cI, 8, .inl f113))]) (fun hPc hDc => va_runSN (As := [.int x5, .int x111]) (rest := []) ⟨hx, hb, hml, hown, hts⟩ (kX11_in_1 l dC dI cI c2 cZ x5 x111 H.size) ⟨va_cnB 2 hts gX0_seatsRest_X11_in_n62 rfl rfl rfl (hN.1 _ ns_125) (hts (.initialized RX11) hm_X0_seatsRest_12) (by decide +kernel) ⟨Nat.le_of_ble_eq_true rfl, Nat.le_of_ble_eq_true rfl⟩, (hts (.static yX11_in) hm_X0_seatsRest_11), trivial⟩ (pre_S hPc hK hDc hN) rfl rfl hl.1 rfl (lv_room (Nat.le_of_ble_eq_true rfl)) dX0_seatsRest_43 ⟨Nat.le_of_ble_eq_true rfl, Nat.le_of_ble_eq_true rfl⟩) hP hD hS hA [] [0, 1, 2, 3] [0, 1, 2, 3] rfl rfl (by decide +kernel) (by decide +kernel) (by decide +kernel) (by decide +kernel) (fun _ => rfl) (fun x118 _ H locs hq hP hD hS => ?_)
            have x118_h := hq
            have hP : va_P (dC, dI) vwCl ([(o1, .inr (0, [.ref o2, .ref o4, .ref o6, .int v8, .int v9, .int v10, .int v11, .int v12])), (o2, .inl (cI, 256, .inl f112)), (o4, .inl (cI, 12, .inl fw5)), (o6, .inl (cI, 8, .inl f113))]) H := hP
            have hD : va_D A ([(o1, .inr (0, [.ref o2, .ref o4, .ref o6, .int v8, .int v9, .int v10, .int v11, .int v12])), (o2, .inl (cI, 256, .inl f112)), (o4, .inl (cI, 12, .inl fw5)), (o6, .inl (cI, 8, .inl f113))]) := hD
            refine lv_if_eq (tgt := 75) hx hb dX0_seatsRest_46 (by decide) (fun h119 => ?_) (fun h119 => ?_)
            ·
              have j120 : Iv 0 0 x118 := r_eq h119 ik_0
              obtain ⟨x121, x121_e⟩ : ∃ z : Int32, z = x111 + 1 := ⟨_, rfl⟩
              have x121_h : Iv 1 8 x121 := iv_e x121_e (iv_add j117 ik_1 (by decide))
              refine lv_iinc (v := x121) (lv' := [(4, .int x121), (3, .int x5), (0, .ref o1), (1, .int a1), (2, .int 4)]) hx hb dX0_seatsRest_75 hl (k := 0) rfl (incN (by decide +kernel) x121_e) (by decide) rfl (fun ls hl => ?_)
              refine lv_goto (tgt := 31) hx hb dX0_seatsRest_78 (by decide) ?_
              exact ih1 x121 f112 f113 _ _ _ (ms_up x121_e j117 (by decide) hM1) (iv_w x121_h (by decide)) hP hD hS hl
            ·
              have j122 : Iv 1 1 x118 := r_nelo h119 x118_h ik_0 (by decide)
              refine lv_aload_n hx hb dX0_seatsRest_49 rfl (lv_at hl 2 rfl) ?_
              refine va_get (D := (dC, dI)) (ci := 0) (v := .ref o6) (C := RX0) (T := TX0) (N := 8) hx hb hts iw_X0_seatsRest_X0 hown hK hP 0 rfl rfl 2 (by decide) (hts (.fieldLink RX0 41 "HolelessHouse$Benches" "places" "[I") hm_X0_seatsRest_3) (fun _ h9 => h9) rfl dX0_seatsRest_50 ?_
              refine lv_iload_n hx hb dX0_seatsRest_53 rfl (lv_at hl 4 rfl) ?_
              refine lv_iload hx hb dX0_seatsRest_54 (lv_at hl 0 rfl) ?_
              refine k_iast hx hb hK hP hD hS 3 0 rfl rfl (vin_iv ik_4 (by decide)) dX0_seatsRest_56 (fun f123 H locs f123_e hP hD hS => ?_)
              have hP : va_P (dC, dI) vwCl ([(o1, .inr (0, [.ref o2, .ref o4, .ref o6, .int v8, .int v9, .int v10, .int v11, .int v12])), (o2, .inl (cI, 256, .inl f112)), (o4, .inl (cI, 12, .inl fw5)), (o6, .inl (cI, 8, .inl f123))]) H := hP
              have hD : va_D A ([(o1, .inr (0, [.ref o2, .ref o4, .ref o6, .int v8, .int v9, .int v10, .int v11, .int v12])), (o2, .inl (cI, 256, .inl f112)), (o4, .inl (cI, 12, .inl fw5)), (o6, .inl (cI, 8, .inl f123))]) := hD
              refine lv_aload_n hx hb dX0_seatsRest_57 rfl (lv_at hl 2 rfl) ?_
              refine lv_iload_n hx hb dX0_seatsRest_58 rfl (lv_at hl 3 rfl) ?_
              refine lv_iconst (v := 1) hx hb dX0_seatsRest_59 (by decide) ?_
              refine lv_iload hx hb dX0_seatsRest_60 (lv_at hl 0 rfl) ?_
              refine lv_ishl hx hb dX0_seatsRest_62 (lv_topi (fun x124 x124_e => ?_))
              have x124_h : Iv 1 128 x124 := iv_e x124_e (iv_shl1 j117 (by decide))
              refine lv_ior hx hb dX0_seatsRest_63 (lv_topi (fun x125 x125_e => ?_))
              have x125_h : Iv 0 255 x125 := iv_e x125_e (iv_or 8 a1_h x124_h (by decide))
              refine lv_iload_n hx hb dX0_seatsRest_64 rfl (lv_at hl 4 rfl) ?_
              refine lv_iconst (v := 1) hx hb dX0_seatsRest_65 (by decide) ?_
              refine lv_iadd hx hb dX0_seatsRest_66 (tk_i (v := 5) (by decide +kernel) ?_)
              refine kc_i (D := (dC, dI)) (S := (Nat → Int32) × (Nat → Int32)) (wc := [(o1, .inr (0, [.ref o2, .ref o4, .ref o6, .int v8, .int v9, .int v10, .int v11, .int v12])), (o2, .inl (cI, 256, .inl f112)), (o4, .inl (cI, 12, .inl fw5)), (o6, .inl (cI, 8, .inl f123))]) (wr := []) (w1 := fun u => [(o1, .inr (0, [.ref o2, .ref o4, .ref o6, .int v8, .int v9, .int v10, .int v11, .int v12])), (o2, .inl (cI, 256, .inl u.1)), (o4, .inl (cI, 12, .inl fw5)), (o6, .inl (cI, 8, .inl u.2))]) (wn := fun u => [(o1, .inr (0, [.ref o2, .ref o4, .ref o6, .int v8, .int v9, .int v10, .int v11, .int v12])), (o2, .inl (cI, 256, .inl u.1)), (o4, .inl (cI, 12, .inl fw5)), (o6, .inl (cI, 8, .inl u.2))]) (fun hPc hDc => va_runS (As := [.ref o1, .int x125, .int 5]) (rest := []) ⟨hx, hb, hml, hown, hts⟩ (kX0_seatsRest_17 l dC dI cI c2 cZ o1 o2 o4 o6 f112 fw5 f123 v8 v9 v10 v11 v12 x125 H.size v8_h (iv_w j2 (by decide)) v11_h x125_h) (va_cwS 3 hts gX0_seatsRest_X0_seatsRest rfl rfl rfl (by decide +kernel) ⟨Nat.le_of_ble_eq_true rfl, Nat.le_of_ble_eq_true rfl⟩) (pre_S hPc hK hDc hN) rfl rfl hl.1 rfl (lv_room (Nat.le_of_ble_eq_true rfl)) dX0_seatsRest_67 ⟨Nat.le_of_ble_eq_true rfl, Nat.le_of_ble_eq_true rfl⟩) hP hD hS hA [0, 1, 2, 3] [] [0, 1, 2, 3] rfl rfl (by decide +kernel) (by decide +kernel) (by decide +kernel) (by decide +kernel) (fun _ => rfl) (fun x128 u H locs hq hP hD hS => ?_)
              obtain ⟨f126, f127⟩ := u
              have x128_h := hq
              have hP : va_P (dC, dI) vwCl ([(o1, .inr (0, [.ref o2, .ref o4, .ref o6, .int v8, .int v9, .int v10, .int v11, .int v12])), (o2, .inl (cI, 256, .inl f126)), (o4, .inl (cI, 12, .inl fw5)), (o6, .inl (cI, 8, .inl f127))]) H := hP
              have hD : va_D A ([(o1, .inr (0, [.ref o2, .ref o4, .ref o6, .int v8, .int v9, .int v10, .int v11, .int v12])), (o2, .inl (cI, 256, .inl f126)), (o4, .inl (cI, 12, .inl fw5)), (o6, .inl (cI, 8, .inl f127))]) := hD
              refine lv_if_eq (tgt := 75) hx hb dX0_seatsRest_70 (by decide) (fun h129 => ?_) (fun h129 => ?_)
              ·
                have j130 : Iv 0 0 x128 := r_eq h129 ik_0
                obtain ⟨x131, x131_e⟩ : ∃ z : Int32, z = x111 + 1 := ⟨_, rfl⟩
                have x131_h : Iv 1 8 x131 := iv_e x131_e (iv_add j117 ik_1 (by decide))
                refine lv_iinc (v := x131) (lv' := [(4, .int x131), (3, .int x5), (0, .ref o1), (1, .int a1), (2, .int 4)]) hx hb dX0_seatsRest_75 hl (k := 0) rfl (incN (by decide +kernel) x131_e) (by decide) rfl (fun ls hl => ?_)
                refine lv_goto (tgt := 31) hx hb dX0_seatsRest_78 (by decide) ?_
                exact ih1 x131 f126 f127 _ _ _ (ms_up x131_e j117 (by decide) hM1) (iv_w x131_h (by decide)) hP hD hS hl
              ·
                have j132 : Iv 1 1 x128 := r_nelo h129 x128_h ik_0 (by decide)
                refine lv_iconst (v := 1) hx hb dX0_seatsRest_73 (by decide) ?_
                rw [hQ]
                exact W.zret (v := 1) (ty := .boolean) hx hb hr rfl (fun t ht hW => ⟨⟨1, (f126, f127), rfl, (iv_w ik_1 (by decide)), by rw [ht]; exact hP, va_K.moved hW.alike hK, hD⟩, hS.F ht⟩) hS.2.2 dX0_seatsRest_74
      exact L1 _ 0 fw3 fw7 _ _ _ (Nat.lt_succ_self _) (iv_w ik_0 (by decide)) hP hD hS hl
    ·
      have j133 : Iv 1 1 x3 := r_eq h4 ik_1
      refine lv_iconst (v := 0) hx hb dX0_seatsRest_20 (by decide) ?_
      rw [hQ]
      exact W.zret (v := 0) (ty := .boolean) hx hb hr rfl (fun t ht hW => ⟨⟨0, (fw3, fw7), rfl, (iv_w ik_0 (by decide)), by rw [ht]; exact hP, va_K.moved hW.alike hK, hD⟩, hS.F ht⟩) hS.2.2 dX0_seatsRest_21
  ·
    have qh1 := nlt_i h1
    have j134 : Iv 0 4 v9 := r_lel qh1 v9_h ik_4 (by decide)
    refine lv_iconst (v := 1) hx hb dX0_seatsRest_8 (by decide) ?_
    rw [hQ]
    exact W.zret (v := 1) (ty := .boolean) hx hb hr rfl (fun t ht hW => ⟨⟨1, (fw3, fw7), rfl, (iv_w ik_1 (by decide)), by rw [ht]; exact hP, va_K.moved hW.alike hK, hD⟩, hS.F ht⟩) hS.2.2 dX0_seatsRest_9
set_option maxHeartbeats 4000000 in
set_option maxRecDepth 100000 in
theorem kX0_seatsRest_19 (l : Launch) (dC : Nat → ClassId) (dI : Nat → Nat → Nat) (cI c2 cZ : ClassId) (o1 : Nat) (o2 : Nat) (o4 : Nat) (o6 : Nat) (fw3 : Nat → Int32) (fw5 : Nat → Int32) (fw7 : Nat → Int32) (v8 : Int32) (v9 : Int32) (v10 : Int32) (v11 : Int32) (v12 : Int32) (a1 : Int32) (sz : Nat) (v8_h : Iv 0 12 v8) (v9_h : Iv 0 8 v9) (v11_h : Iv 0 1 v11) (a1_h : Iv 0 255 a1) : Met l yX0_seatsRest wsX0_seatsRest ({ frames := 5, cells := 0, slots := 0, locals := 120 }) (va_Pc [.ref o1, .int a1, .int 3] (wPre (dC, dI) [(cI, .int), (c2, .array .int), (cZ, .boolean)] ([(o1, .inr (0, [.ref o2, .ref o4, .ref o6, .int v8, .int v9, .int v10, .int v11, .int v12])), (o2, .inl (cI, 256, .inl fw3)), (o4, .inl (cI, 12, .inl fw5)), (o6, .inl (cI, 8, .inl fw7))]) sz)) (va_Qi (fun (r : Int32) (u : (Nat → Int32) × (Nat → Int32)) => Iv 0 1 r) (fun u t => wPost (dC, dI) [(cI, .int), (c2, .array .int), (cZ, .boolean)] (va_A ([(o1, .inr (0, [.ref o2, .ref o4, .ref o6, .int v8, .int v9, .int v10, .int v11, .int v12])), (o2, .inl (cI, 256, .inl fw3)), (o4, .inl (cI, 12, .inl fw5)), (o6, .inl (cI, 8, .inl fw7))]) sz) ([(o1, .inr (0, [.ref o2, .ref o4, .ref o6, .int v8, .int v9, .int v10, .int v11, .int v12])), (o2, .inl (cI, 256, .inl u.1)), (o4, .inl (cI, 12, .inl fw5)), (o6, .inl (cI, 8, .inl u.2))]) t) (va_A ([(o1, .inr (0, [.ref o2, .ref o4, .ref o6, .int v8, .int v9, .int v10, .int v11, .int v12])), (o2, .inl (cI, 256, .inl fw3)), (o4, .inl (cI, 12, .inl fw5)), (o6, .inl (cI, 8, .inl fw7))]) sz)) 0 0 (va_A ([(o1, .inr (0, [.ref o2, .ref o4, .ref o6, .int v8, .int v9, .int v10, .int v11, .int v12])), (o2, .inl (cI, 256, .inl fw3)), (o4, .inl (cI, 12, .inl fw5)), (o6, .inl (cI, 8, .inl fw7))]) sz) := by
  refine Met.ofW (cc := cX0_seatsRest) (maxL := 5) (ret := (some .boolean)) (by decide) rfl ?_
  intro p e s m args below meth c s₁ B hml hv
  obtain ⟨rfl, hsz, hP, hK, hD0, hN⟩ := hv
  have hx := B.exec
  have hb := B.bytes
  have hr := B.returns
  have hts := atoms_spec (ws := wsX0_seatsRest) B.pre
  have hown : s.vm.findClass RX0 = some m.cls := findClass_of_methodNamed B.named
  have hlocks := B.notSynchronized
  subst hsz
  have hD := hD0.self (sz := s.heap.size)
  generalize hAe : va_A ([(o1, .inr (0, [.ref o2, .ref o4, .ref o6, .int v8, .int v9, .int v10, .int v11, .int v12])), (o2, .inl (cI, 256, .inl fw3)), (o4, .inl (cI, 12, .inl fw5)), (o6, .inl (cI, 8, .inl fw7))]) s.heap.size = A at hD ⊢
  have hA : ∀ q : Nat, s.heap.size ≤ q → A q := fun q h => by rw [← hAe]; exact Or.inr h
  have hS : va_S A s.heap s.heap [] := va_S.rf
  have hP : va_P (dC, dI) vwCl ([(o1, .inr (0, [.ref o2, .ref o4, .ref o6, .int v8, .int v9, .int v10, .int v11, .int v12])), (o2, .inl (cI, 256, .inl fw3)), (o4, .inl (cI, 12, .inl fw5)), (o6, .inl (cI, 8, .inl fw7))]) s.heap := hP
  have hl := lv_entry ([.ref o1, .int a1, .int 3]) (n := 5) (Nat.le_of_ble_eq_true rfl)
  rw [lg_entry_eq]
  generalize (lg_sl ([.ref o1, .int a1, .int 3]) ++ List.replicate (5 - (lg_sl ([.ref o1, .int a1, .int 3])).length) Slot.unset).toArray = ls at hl ⊢
  have hl : lv_has ls 5 [(0, .ref o1), (1, .int a1), (2, .int 3)] := hl
  refine gen_Q (fun Q hQ => ?_)
  refine lv_iload_n hx hb dX0_seatsRest_0 rfl (lv_at hl 2 rfl) ?_
  refine lv_aload_n hx hb dX0_seatsRest_1 rfl (lv_at hl 0 rfl) ?_
  refine va_get (D := (dC, dI)) (ci := 0) (v := .int v9) (C := RX0) (T := TX0) (N := 8) hx hb hts iw_X0_seatsRest_X0 hown hK hP 0 rfl rfl 4 (by decide) (hts (.fieldLink RX0 25 "HolelessHouse$Benches" "width" "I") hm_X0_seatsRest_1) (fun _ h9 => h9) rfl dX0_seatsRest_2 ?_
  refine lv_icmp_lt (tgt := 10) hx hb dX0_seatsRest_5 (by decide) (fun h1 => ?_) (fun h1 => ?_)
  ·
    have qh1 := lt_i h1
    have j2 : Iv 4 8 v9 := r_ltr qh1 ik_3 v9_h (by decide)
    refine lv_aload_n hx hb dX0_seatsRest_10 rfl (lv_at hl 0 rfl) ?_
    refine va_get (D := (dC, dI)) (ci := 0) (v := .ref o2) (C := RX0) (T := TX0) (N := 8) hx hb hts iw_X0_seatsRest_X0 hown hK hP 0 rfl rfl 0 (by decide) (hts (.fieldLink RX0 38 "HolelessHouse$Benches" "notes" "[I") hm_X0_seatsRest_2) (fun _ h9 => h9) rfl dX0_seatsRest_11 ?_
    refine lv_iload_n hx hb dX0_seatsRest_14 rfl (lv_at hl 1 rfl) ?_
    refine va_iald hx hb hK hP 1 0 rfl rfl (vin_iv a1_h (by decide)) dX0_seatsRest_15 (lv_topi (fun x3 x3_e => ?_))
    refine lv_iconst (v := 1) hx hb dX0_seatsRest_16 (by decide) ?_
    refine lv_icmp_ne (tgt := 22) hx hb dX0_seatsRest_17 (by decide) (fun h4 => ?_) (fun h4 => ?_)
    ·
      refine lv_aload_n hx hb dX0_seatsRest_22 rfl (lv_at hl 0 rfl) ?_
      refine lv_iload_n hx hb dX0_seatsRest_23 rfl (lv_at hl 1 rfl) ?_
      refine kc_i (D := (dC, dI)) (S := Unit) (wc := [(o1, .inr (0, [.ref o2, .ref o4, .ref o6, .int v8, .int v9, .int v10, .int v11, .int v12])), (o4, .inl (cI, 12, .inl fw5))]) (wr := [(o2, .inl (cI, 256, .inl fw3)), (o6, .inl (cI, 8, .inl fw7))]) (w1 := fun _ => [(o1, .inr (0, [.ref o2, .ref o4, .ref o6, .int v8, .int v9, .int v10, .int v11, .int v12])), (o4, .inl (cI, 12, .inl fw5))]) (wn := fun _ => [(o1, .inr (0, [.ref o2, .ref o4, .ref o6, .int v8, .int v9, .int v10, .int v11, .int v12])), (o2, .inl (cI, 256, .inl fw3)), (o4, .inl (cI, 12, .inl fw5)), (o6, .inl (cI, 8, .inl fw7))]) (fun hPc hDc => va_runV (As := [.int a1]) (rest := []) ⟨hx, hb, hml, hown, hts⟩ (kX0_mayCome_2 l dC dI cI c2 cZ o1 o2 o4 o6 fw5 v8 v9 v10 v11 v12 a1 s.heap.size v8_h (iv_w j2 (by decide)) v11_h a1_h) (cwV 1 hts gX0_seatsRest_X0_mayCome rfl rfl rfl (by decide +kernel) ⟨Nat.le_of_ble_eq_true rfl, Nat.le_of_ble_eq_true rfl⟩) (pre_V hPc hK hDc hN (ci := 0) (q0 := 0) rfl rfl) rfl rfl hl.1 rfl (lv_room (Nat.le_of_ble_eq_true rfl)) dX0_seatsRest_24 ⟨Nat.le_of_ble_eq_true rfl, Nat.le_of_ble_eq_true rfl⟩) hP hD hS hA [0, 2] [1, 3] [2, 0, 3, 1] rfl rfl (by decide +kernel) (by decide +kernel) (by decide +kernel) (by decide +kernel) (fun _ => rfl) (fun x5 _ H locs hq hP hD hS => ?_)
      have x5_h := hq
      have hP : va_P (dC, dI) vwCl ([(o1, .inr (0, [.ref o2, .ref o4, .ref o6, .int v8, .int v9, .int v10, .int v11, .int v12])), (o2, .inl (cI, 256, .inl fw3)), (o4, .inl (cI, 12, .inl fw5)), (o6, .inl (cI, 8, .inl fw7))]) H := hP
      have hD : va_D A ([(o1, .inr (0, [.ref o2, .ref o4, .ref o6, .int v8, .int v9, .int v10, .int v11, .int v12])), (o2, .inl (cI, 256, .inl fw3)), (o4, .inl (cI, 12, .inl fw5)), (o6, .inl (cI, 8, .inl fw7))]) := hD
      refine lv_istore_n (lv' := [(3, .int x5), (0, .ref o1), (1, .int a1), (2, .int 3)]) hx hb dX0_seatsRest_27 rfl hl (by decide) rfl (fun ls hl => ?_)
      refine lv_iconst (v := 0) hx hb dX0_seatsRest_28 (by decide) ?_
      refine lv_istore (lv' := [(4, .int 0), (3, .int x5), (0, .ref o1), (1, .int a1), (2, .int 3)]) hx hb dX0_seatsRest_29 hl (by decide) rfl (fun ls hl => ?_)
      have L1 : ∀ (N : Nat) (x114 : Int32) (f115 : Nat → Int32) (f116 : Nat → Int32) (H : Heap) (locs : List Loc) (ls : Array Slot), (8 - x114.toInt).toNat < N → Iv 0 8 x114 → va_P (dC, dI) vwCl ([(o1, .inr (0, [.ref o2, .ref o4, .ref o6, .int v8, .int v9, .int v10, .int v11, .int v12])), (o2, .inl (cI, 256, .inl f115)), (o4, .inl (cI, 12, .inl fw5)), (o6, .inl (cI, 8, .inl f116))]) H → va_D A ([(o1, .inr (0, [.ref o2, .ref o4, .ref o6, .int v8, .int v9, .int v10, .int v11, .int v12])), (o2, .inl (cI, 256, .inl f115)), (o4, .inl (cI, 12, .inl fw5)), (o6, .inl (cI, 8, .inl f116))]) → va_S A s.heap H locs → lv_has ls 5 [(4, .int x114), (3, .int x5), (0, .ref o1), (1, .int a1), (2, .int 3)] → W p l e ({ frames := 5, cells := 0, slots := 0, locals := 120 }) s m ([.ref o1, .int a1, .int 3] : List Value).toArray below meth c H locs 0 0 Q (F0 m 31 ls []) := by
        intro N
        induction N with
        | zero =>
          intro x114 f115 f116 H locs ls hM
          exact absurd hM (Nat.not_lt_zero _)
        | succ N ih1 =>
          intro x114 f115 f116 H locs ls hM1 x114_h hP hD hS hl
          refine lv_iload hx hb dX0_seatsRest_31 (lv_at hl 0 rfl) ?_
          refine lv_aload_n hx hb dX0_seatsRest_33 rfl (lv_at hl 2 rfl) ?_
          refine va_get (D := (dC, dI)) (ci := 0) (v := .int v9) (C := RX0) (T := TX0) (N := 8) hx hb hts iw_X0_seatsRest_X0 hown hK hP 0 rfl rfl 4 (by decide) (hts (.fieldLink RX0 25 "HolelessHouse$Benches" "width" "I") hm_X0_seatsRest_1) (fun _ h9 => h9) rfl dX0_seatsRest_34 ?_
          refine lv_icmp_ge (tgt := 81) hx hb dX0_seatsRest_37 (by decide) (fun h117 => ?_) (fun h117 => ?_)
          ·
            have qh117 := le_i h117
            have j118 : Iv 4 8 x114 := r_ler qh117 j2 x114_h (by decide)
            refine lv_aload_n hx hb dX0_seatsRest_81 rfl (lv_at hl 2 rfl) ?_
            refine va_get (D := (dC, dI)) (ci := 0) (v := .ref o2) (C := RX0) (T := TX0) (N := 8) hx hb hts iw_X0_seatsRest_X0 hown hK hP 0 rfl rfl 0 (by decide) (hts (.fieldLink RX0 38 "HolelessHouse$Benches" "notes" "[I") hm_X0_seatsRest_2) (fun _ h9 => h9) rfl dX0_seatsRest_82 ?_
            refine lv_iload_n hx hb dX0_seatsRest_85 rfl (lv_at hl 3 rfl) ?_
            refine lv_iconst (v := 1) hx hb dX0_seatsRest_86 (by decide) ?_
            refine k_iast hx hb hK hP hD hS 1 0 rfl rfl (vin_iv a1_h (by decide)) dX0_seatsRest_87 (fun f119 H locs f119_e hP hD hS => ?_)
            have hP : va_P (dC, dI) vwCl ([(o1, .inr (0, [.ref o2, .ref o4, .ref o6, .int v8, .int v9, .int v10, .int v11, .int v12])), (o2, .inl (cI, 256, .inl f119)), (o4, .inl (cI, 12, .inl fw5)), (o6, .inl (cI, 8, .inl f116))]) H := hP
            have hD : va_D A ([(o1, .inr (0, [.ref o2, .ref o4, .ref o6, .int v8, .int v9, .int v10, .int v11, .int v12])), (o2, .inl (cI, 256, .inl f119)), (o4, .inl (cI, 12, .inl fw5)), (o6, .inl (cI, 8, .inl f116))]) := hD
            refine lv_iconst (v := 0) hx hb dX0_seatsRest_88 (by decide) ?_
            rw [hQ]
            exact W.zret (v := 0) (ty := .boolean) hx hb hr rfl (fun t ht hW => ⟨⟨0, (f119, f116), rfl, (iv_w ik_0 (by decide)), by rw [ht]; exact hP, va_K.moved hW.alike hK, hD⟩, hS.F ht⟩) hS.2.2 dX0_seatsRest_89
          ·
            have qh117 := nle_i h117
            have j120 : Iv 0 7 x114 := r_ltl qh117 x114_h j2 (by decide)
            refine lv_iload_n hx hb dX0_seatsRest_40 rfl (lv_at hl 1 rfl) ?_
            refine lv_iload hx hb dX0_seatsRest_41 (lv_at hl 0 rfl) ?_
            refine kc_i (D := (dC, dI)) (S := Unit) (wc := []) (wr := [(o1, .inr (0, [.ref o2, .ref o4, .ref o6, .int v8, .int v9, .int v10, .int v11, .int v12])), (o2, .inl (cI, 256, .inl f115)), (o4, .inl (cI, 12, .inl fw5)), (o6, .inl (cI, 8, .inl f116))]) (w1 := fun _ => []) (wn := fun _ => [(o1, .inr (0, [.ref o2, .ref o4, .ref o6, .int v8, .int v9, .int v10, .int v11, .int v12])), (o2, .inl (cI, 256, .inl f115)), (o4, .inl (cI, 12, .inl fw5)), (o6, .inl (cI, 8, .inl f116))]) (fun hPc hDc => va_runSN (As := [.int x5, .int x114]) (rest := []) ⟨hx, hb, hml, hown, hts⟩ (kX11_in_1 l dC dI cI c2 cZ x5 x114 H.size) ⟨va_cnB 2 hts gX0_seatsRest_X11_in_n62 rfl rfl rfl (hN.1 _ ns_125) (hts (.initialized RX11) hm_X0_seatsRest_12) (by decide +kernel) ⟨Nat.le_of_ble_eq_true rfl, Nat.le_of_ble_eq_true rfl⟩, (hts (.static yX11_in) hm_X0_seatsRest_11), trivial⟩ (pre_S hPc hK hDc hN) rfl rfl hl.1 rfl (lv_room (Nat.le_of_ble_eq_true rfl)) dX0_seatsRest_43 ⟨Nat.le_of_ble_eq_true rfl, Nat.le_of_ble_eq_true rfl⟩) hP hD hS hA [] [0, 1, 2, 3] [0, 1, 2, 3] rfl rfl (by decide +kernel) (by decide +kernel) (by decide +kernel) (by decide +kernel) (fun _ => rfl) (fun x121 _ H locs hq hP hD hS => ?_)
            have x121_h := hq
            have hP : va_P (dC, dI) vwCl ([(o1, .inr (0, [.ref o2, .ref o4, .ref o6, .int v8, .int v9, .int v10, .int v11, .int v12])), (o2, .inl (cI, 256, .inl f115)), (o4, .inl (cI, 12, .inl fw5)), (o6, .inl (cI, 8, .inl f116))]) H := hP
            have hD : va_D A ([(o1, .inr (0, [.ref o2, .ref o4, .ref o6, .int v8, .int v9, .int v10, .int v11, .int v12])), (o2, .inl (cI, 256, .inl f115)), (o4, .inl (cI, 12, .inl fw5)), (o6, .inl (cI, 8, .inl f116))]) := hD
            refine lv_if_eq (tgt := 75) hx hb dX0_seatsRest_46 (by decide) (fun h122 => ?_) (fun h122 => ?_)
            ·
              have j123 : Iv 0 0 x121 := r_eq h122 ik_0
              obtain ⟨x124, x124_e⟩ : ∃ z : Int32, z = x114 + 1 := ⟨_, rfl⟩
              have x124_h : Iv 1 8 x124 := iv_e x124_e (iv_add j120 ik_1 (by decide))
              refine lv_iinc (v := x124) (lv' := [(4, .int x124), (3, .int x5), (0, .ref o1), (1, .int a1), (2, .int 3)]) hx hb dX0_seatsRest_75 hl (k := 0) rfl (incN (by decide +kernel) x124_e) (by decide) rfl (fun ls hl => ?_)
              refine lv_goto (tgt := 31) hx hb dX0_seatsRest_78 (by decide) ?_
              exact ih1 x124 f115 f116 _ _ _ (ms_up x124_e j120 (by decide) hM1) (iv_w x124_h (by decide)) hP hD hS hl
            ·
              have j125 : Iv 1 1 x121 := r_nelo h122 x121_h ik_0 (by decide)
              refine lv_aload_n hx hb dX0_seatsRest_49 rfl (lv_at hl 2 rfl) ?_
              refine va_get (D := (dC, dI)) (ci := 0) (v := .ref o6) (C := RX0) (T := TX0) (N := 8) hx hb hts iw_X0_seatsRest_X0 hown hK hP 0 rfl rfl 2 (by decide) (hts (.fieldLink RX0 41 "HolelessHouse$Benches" "places" "[I") hm_X0_seatsRest_3) (fun _ h9 => h9) rfl dX0_seatsRest_50 ?_
              refine lv_iload_n hx hb dX0_seatsRest_53 rfl (lv_at hl 4 rfl) ?_
              refine lv_iload hx hb dX0_seatsRest_54 (lv_at hl 0 rfl) ?_
              refine k_iast hx hb hK hP hD hS 3 0 rfl rfl (vin_iv ik_3 (by decide)) dX0_seatsRest_56 (fun f126 H locs f126_e hP hD hS => ?_)
              have hP : va_P (dC, dI) vwCl ([(o1, .inr (0, [.ref o2, .ref o4, .ref o6, .int v8, .int v9, .int v10, .int v11, .int v12])), (o2, .inl (cI, 256, .inl f115)), (o4, .inl (cI, 12, .inl fw5)), (o6, .inl (cI, 8, .inl f126))]) H := hP
              have hD : va_D A ([(o1, .inr (0, [.ref o2, .ref o4, .ref o6, .int v8, .int v9, .int v10, .int v11, .int v12])), (o2, .inl (cI, 256, .inl f115)), (o4, .inl (cI, 12, .inl fw5)), (o6, .inl (cI, 8, .inl f126))]) := hD
              refine lv_aload_n hx hb dX0_seatsRest_57 rfl (lv_at hl 2 rfl) ?_
              refine lv_iload_n hx hb dX0_seatsRest_58 rfl (lv_at hl 3 rfl) ?_
              refine lv_iconst (v := 1) hx hb dX0_seatsRest_59 (by decide) ?_
              refine lv_iload hx hb dX0_seatsRest_60 (lv_at hl 0 rfl) ?_
              refine lv_ishl hx hb dX0_seatsRest_62 (lv_topi (fun x127 x127_e => ?_))
              have x127_h : Iv 1 128 x127 := iv_e x127_e (iv_shl1 j120 (by decide))
              refine lv_ior hx hb dX0_seatsRest_63 (lv_topi (fun x128 x128_e => ?_))
              have x128_h : Iv 0 255 x128 := iv_e x128_e (iv_or 8 a1_h x127_h (by decide))
              refine lv_iload_n hx hb dX0_seatsRest_64 rfl (lv_at hl 4 rfl) ?_
              refine lv_iconst (v := 1) hx hb dX0_seatsRest_65 (by decide) ?_
              refine lv_iadd hx hb dX0_seatsRest_66 (tk_i (v := 4) (by decide +kernel) ?_)
              refine kc_i (D := (dC, dI)) (S := (Nat → Int32) × (Nat → Int32)) (wc := [(o1, .inr (0, [.ref o2, .ref o4, .ref o6, .int v8, .int v9, .int v10, .int v11, .int v12])), (o2, .inl (cI, 256, .inl f115)), (o4, .inl (cI, 12, .inl fw5)), (o6, .inl (cI, 8, .inl f126))]) (wr := []) (w1 := fun u => [(o1, .inr (0, [.ref o2, .ref o4, .ref o6, .int v8, .int v9, .int v10, .int v11, .int v12])), (o2, .inl (cI, 256, .inl u.1)), (o4, .inl (cI, 12, .inl fw5)), (o6, .inl (cI, 8, .inl u.2))]) (wn := fun u => [(o1, .inr (0, [.ref o2, .ref o4, .ref o6, .int v8, .int v9, .int v10, .int v11, .int v12])), (o2, .inl (cI, 256, .inl u.1)), (o4, .inl (cI, 12, .inl fw5)), (o6, .inl (cI, 8, .inl u.2))]) (fun hPc hDc => va_runS (As := [.ref o1, .int x128, .int 4]) (rest := []) ⟨hx, hb, hml, hown, hts⟩ (kX0_seatsRest_18 l dC dI cI c2 cZ o1 o2 o4 o6 f115 fw5 f126 v8 v9 v10 v11 v12 x128 H.size v8_h (iv_w j2 (by decide)) v11_h x128_h) (va_cwS 3 hts gX0_seatsRest_X0_seatsRest rfl rfl rfl (by decide +kernel) ⟨Nat.le_of_ble_eq_true rfl, Nat.le_of_ble_eq_true rfl⟩) (pre_S hPc hK hDc hN) rfl rfl hl.1 rfl (lv_room (Nat.le_of_ble_eq_true rfl)) dX0_seatsRest_67 ⟨Nat.le_of_ble_eq_true rfl, Nat.le_of_ble_eq_true rfl⟩) hP hD hS hA [0, 1, 2, 3] [] [0, 1, 2, 3] rfl rfl (by decide +kernel) (by decide +kernel) (by decide +kernel) (by decide +kernel) (fun _ => rfl) (fun x131 u H locs hq hP hD hS => ?_)
              obtain ⟨f129, f130⟩ := u
              have x131_h := hq
              have hP : va_P (dC, dI) vwCl ([(o1, .inr (0, [.ref o2, .ref o4, .ref o6, .int v8, .int v9, .int v10, .int v11, .int v12])), (o2, .inl (cI, 256, .inl f129)), (o4, .inl (cI, 12, .inl fw5)), (o6, .inl (cI, 8, .inl f130))]) H := hP
              have hD : va_D A ([(o1, .inr (0, [.ref o2, .ref o4, .ref o6, .int v8, .int v9, .int v10, .int v11, .int v12])), (o2, .inl (cI, 256, .inl f129)), (o4, .inl (cI, 12, .inl fw5)), (o6, .inl (cI, 8, .inl f130))]) := hD
              refine lv_if_eq (tgt := 75) hx hb dX0_seatsRest_70 (by decide) (fun h132 => ?_) (fun h132 => ?_)
              ·
                have j133 : Iv 0 0 x131 := r_eq h132 ik_0
                obtain ⟨x134, x134_e⟩ : ∃ z : Int32, z = x114 + 1 := ⟨_, rfl⟩
                have x134_h : Iv 1 8 x134 := iv_e x134_e (iv_add j120 ik_1 (by decide))
                refine lv_iinc (v := x134) (lv' := [(4, .int x134), (3, .int x5), (0, .ref o1), (1, .int a1), (2, .int 3)]) hx hb dX0_seatsRest_75 hl (k := 0) rfl (incN (by decide +kernel) x134_e) (by decide) rfl (fun ls hl => ?_)
                refine lv_goto (tgt := 31) hx hb dX0_seatsRest_78 (by decide) ?_
                exact ih1 x134 f129 f130 _ _ _ (ms_up x134_e j120 (by decide) hM1) (iv_w x134_h (by decide)) hP hD hS hl
              ·
                have j135 : Iv 1 1 x131 := r_nelo h132 x131_h ik_0 (by decide)
                refine lv_iconst (v := 1) hx hb dX0_seatsRest_73 (by decide) ?_
                rw [hQ]
                exact W.zret (v := 1) (ty := .boolean) hx hb hr rfl (fun t ht hW => ⟨⟨1, (f129, f130), rfl, (iv_w ik_1 (by decide)), by rw [ht]; exact hP, va_K.moved hW.alike hK, hD⟩, hS.F ht⟩) hS.2.2 dX0_seatsRest_74
      exact L1 _ 0 fw3 fw7 _ _ _ (Nat.lt_succ_self _) (iv_w ik_0 (by decide)) hP hD hS hl
    ·
      have j136 : Iv 1 1 x3 := r_eq h4 ik_1
      refine lv_iconst (v := 0) hx hb dX0_seatsRest_20 (by decide) ?_
      rw [hQ]
      exact W.zret (v := 0) (ty := .boolean) hx hb hr rfl (fun t ht hW => ⟨⟨0, (fw3, fw7), rfl, (iv_w ik_0 (by decide)), by rw [ht]; exact hP, va_K.moved hW.alike hK, hD⟩, hS.F ht⟩) hS.2.2 dX0_seatsRest_21
  ·
    have qh1 := nlt_i h1
    have j137 : Iv 0 3 v9 := r_lel qh1 v9_h ik_3 (by decide)
    refine lv_iconst (v := 1) hx hb dX0_seatsRest_8 (by decide) ?_
    rw [hQ]
    exact W.zret (v := 1) (ty := .boolean) hx hb hr rfl (fun t ht hW => ⟨⟨1, (fw3, fw7), rfl, (iv_w ik_1 (by decide)), by rw [ht]; exact hP, va_K.moved hW.alike hK, hD⟩, hS.F ht⟩) hS.2.2 dX0_seatsRest_9
set_option maxHeartbeats 4000000 in
set_option maxRecDepth 100000 in
theorem kX0_seatsRest_20 (l : Launch) (dC : Nat → ClassId) (dI : Nat → Nat → Nat) (cI c2 cZ : ClassId) (o1 : Nat) (o2 : Nat) (o4 : Nat) (o6 : Nat) (fw3 : Nat → Int32) (fw5 : Nat → Int32) (fw7 : Nat → Int32) (v8 : Int32) (v9 : Int32) (v10 : Int32) (v11 : Int32) (v12 : Int32) (a1 : Int32) (sz : Nat) (v8_h : Iv 0 12 v8) (v9_h : Iv 0 8 v9) (v11_h : Iv 0 1 v11) (a1_h : Iv 0 255 a1) : Met l yX0_seatsRest wsX0_seatsRest ({ frames := 6, cells := 0, slots := 0, locals := 144 }) (va_Pc [.ref o1, .int a1, .int 2] (wPre (dC, dI) [(cI, .int), (c2, .array .int), (cZ, .boolean)] ([(o1, .inr (0, [.ref o2, .ref o4, .ref o6, .int v8, .int v9, .int v10, .int v11, .int v12])), (o2, .inl (cI, 256, .inl fw3)), (o4, .inl (cI, 12, .inl fw5)), (o6, .inl (cI, 8, .inl fw7))]) sz)) (va_Qi (fun (r : Int32) (u : (Nat → Int32) × (Nat → Int32)) => Iv 0 1 r) (fun u t => wPost (dC, dI) [(cI, .int), (c2, .array .int), (cZ, .boolean)] (va_A ([(o1, .inr (0, [.ref o2, .ref o4, .ref o6, .int v8, .int v9, .int v10, .int v11, .int v12])), (o2, .inl (cI, 256, .inl fw3)), (o4, .inl (cI, 12, .inl fw5)), (o6, .inl (cI, 8, .inl fw7))]) sz) ([(o1, .inr (0, [.ref o2, .ref o4, .ref o6, .int v8, .int v9, .int v10, .int v11, .int v12])), (o2, .inl (cI, 256, .inl u.1)), (o4, .inl (cI, 12, .inl fw5)), (o6, .inl (cI, 8, .inl u.2))]) t) (va_A ([(o1, .inr (0, [.ref o2, .ref o4, .ref o6, .int v8, .int v9, .int v10, .int v11, .int v12])), (o2, .inl (cI, 256, .inl fw3)), (o4, .inl (cI, 12, .inl fw5)), (o6, .inl (cI, 8, .inl fw7))]) sz)) 0 0 (va_A ([(o1, .inr (0, [.ref o2, .ref o4, .ref o6, .int v8, .int v9, .int v10, .int v11, .int v12])), (o2, .inl (cI, 256, .inl fw3)), (o4, .inl (cI, 12, .inl fw5)), (o6, .inl (cI, 8, .inl fw7))]) sz) := by
  refine Met.ofW (cc := cX0_seatsRest) (maxL := 5) (ret := (some .boolean)) (by decide) rfl ?_
  intro p e s m args below meth c s₁ B hml hv
  obtain ⟨rfl, hsz, hP, hK, hD0, hN⟩ := hv
  have hx := B.exec
  have hb := B.bytes
  have hr := B.returns
  have hts := atoms_spec (ws := wsX0_seatsRest) B.pre
  have hown : s.vm.findClass RX0 = some m.cls := findClass_of_methodNamed B.named
  have hlocks := B.notSynchronized
  subst hsz
  have hD := hD0.self (sz := s.heap.size)
  generalize hAe : va_A ([(o1, .inr (0, [.ref o2, .ref o4, .ref o6, .int v8, .int v9, .int v10, .int v11, .int v12])), (o2, .inl (cI, 256, .inl fw3)), (o4, .inl (cI, 12, .inl fw5)), (o6, .inl (cI, 8, .inl fw7))]) s.heap.size = A at hD ⊢
  have hA : ∀ q : Nat, s.heap.size ≤ q → A q := fun q h => by rw [← hAe]; exact Or.inr h
  have hS : va_S A s.heap s.heap [] := va_S.rf
  have hP : va_P (dC, dI) vwCl ([(o1, .inr (0, [.ref o2, .ref o4, .ref o6, .int v8, .int v9, .int v10, .int v11, .int v12])), (o2, .inl (cI, 256, .inl fw3)), (o4, .inl (cI, 12, .inl fw5)), (o6, .inl (cI, 8, .inl fw7))]) s.heap := hP
  have hl := lv_entry ([.ref o1, .int a1, .int 2]) (n := 5) (Nat.le_of_ble_eq_true rfl)
  rw [lg_entry_eq]
  generalize (lg_sl ([.ref o1, .int a1, .int 2]) ++ List.replicate (5 - (lg_sl ([.ref o1, .int a1, .int 2])).length) Slot.unset).toArray = ls at hl ⊢
  have hl : lv_has ls 5 [(0, .ref o1), (1, .int a1), (2, .int 2)] := hl
  refine gen_Q (fun Q hQ => ?_)
  refine lv_iload_n hx hb dX0_seatsRest_0 rfl (lv_at hl 2 rfl) ?_
  refine lv_aload_n hx hb dX0_seatsRest_1 rfl (lv_at hl 0 rfl) ?_
  refine va_get (D := (dC, dI)) (ci := 0) (v := .int v9) (C := RX0) (T := TX0) (N := 8) hx hb hts iw_X0_seatsRest_X0 hown hK hP 0 rfl rfl 4 (by decide) (hts (.fieldLink RX0 25 "HolelessHouse$Benches" "width" "I") hm_X0_seatsRest_1) (fun _ h9 => h9) rfl dX0_seatsRest_2 ?_
  refine lv_icmp_lt (tgt := 10) hx hb dX0_seatsRest_5 (by decide) (fun h1 => ?_) (fun h1 => ?_)
  ·
    have qh1 := lt_i h1
    have j2 : Iv 3 8 v9 := r_ltr qh1 ik_2 v9_h (by decide)
    refine lv_aload_n hx hb dX0_seatsRest_10 rfl (lv_at hl 0 rfl) ?_
    refine va_get (D := (dC, dI)) (ci := 0) (v := .ref o2) (C := RX0) (T := TX0) (N := 8) hx hb hts iw_X0_seatsRest_X0 hown hK hP 0 rfl rfl 0 (by decide) (hts (.fieldLink RX0 38 "HolelessHouse$Benches" "notes" "[I") hm_X0_seatsRest_2) (fun _ h9 => h9) rfl dX0_seatsRest_11 ?_
    refine lv_iload_n hx hb dX0_seatsRest_14 rfl (lv_at hl 1 rfl) ?_
    refine va_iald hx hb hK hP 1 0 rfl rfl (vin_iv a1_h (by decide)) dX0_seatsRest_15 (lv_topi (fun x3 x3_e => ?_))
    refine lv_iconst (v := 1) hx hb dX0_seatsRest_16 (by decide) ?_
    refine lv_icmp_ne (tgt := 22) hx hb dX0_seatsRest_17 (by decide) (fun h4 => ?_) (fun h4 => ?_)
    ·
      refine lv_aload_n hx hb dX0_seatsRest_22 rfl (lv_at hl 0 rfl) ?_
      refine lv_iload_n hx hb dX0_seatsRest_23 rfl (lv_at hl 1 rfl) ?_
      refine kc_i (D := (dC, dI)) (S := Unit) (wc := [(o1, .inr (0, [.ref o2, .ref o4, .ref o6, .int v8, .int v9, .int v10, .int v11, .int v12])), (o4, .inl (cI, 12, .inl fw5))]) (wr := [(o2, .inl (cI, 256, .inl fw3)), (o6, .inl (cI, 8, .inl fw7))]) (w1 := fun _ => [(o1, .inr (0, [.ref o2, .ref o4, .ref o6, .int v8, .int v9, .int v10, .int v11, .int v12])), (o4, .inl (cI, 12, .inl fw5))]) (wn := fun _ => [(o1, .inr (0, [.ref o2, .ref o4, .ref o6, .int v8, .int v9, .int v10, .int v11, .int v12])), (o2, .inl (cI, 256, .inl fw3)), (o4, .inl (cI, 12, .inl fw5)), (o6, .inl (cI, 8, .inl fw7))]) (fun hPc hDc => va_runV (As := [.int a1]) (rest := []) ⟨hx, hb, hml, hown, hts⟩ (kX0_mayCome_2 l dC dI cI c2 cZ o1 o2 o4 o6 fw5 v8 v9 v10 v11 v12 a1 s.heap.size v8_h (iv_w j2 (by decide)) v11_h a1_h) (cwV 1 hts gX0_seatsRest_X0_mayCome rfl rfl rfl (by decide +kernel) ⟨Nat.le_of_ble_eq_true rfl, Nat.le_of_ble_eq_true rfl⟩) (pre_V hPc hK hDc hN (ci := 0) (q0 := 0) rfl rfl) rfl rfl hl.1 rfl (lv_room (Nat.le_of_ble_eq_true rfl)) dX0_seatsRest_24 ⟨Nat.le_of_ble_eq_true rfl, Nat.le_of_ble_eq_true rfl⟩) hP hD hS hA [0, 2] [1, 3] [2, 0, 3, 1] rfl rfl (by decide +kernel) (by decide +kernel) (by decide +kernel) (by decide +kernel) (fun _ => rfl) (fun x5 _ H locs hq hP hD hS => ?_)
      have x5_h := hq
      have hP : va_P (dC, dI) vwCl ([(o1, .inr (0, [.ref o2, .ref o4, .ref o6, .int v8, .int v9, .int v10, .int v11, .int v12])), (o2, .inl (cI, 256, .inl fw3)), (o4, .inl (cI, 12, .inl fw5)), (o6, .inl (cI, 8, .inl fw7))]) H := hP
      have hD : va_D A ([(o1, .inr (0, [.ref o2, .ref o4, .ref o6, .int v8, .int v9, .int v10, .int v11, .int v12])), (o2, .inl (cI, 256, .inl fw3)), (o4, .inl (cI, 12, .inl fw5)), (o6, .inl (cI, 8, .inl fw7))]) := hD
      refine lv_istore_n (lv' := [(3, .int x5), (0, .ref o1), (1, .int a1), (2, .int 2)]) hx hb dX0_seatsRest_27 rfl hl (by decide) rfl (fun ls hl => ?_)
      refine lv_iconst (v := 0) hx hb dX0_seatsRest_28 (by decide) ?_
      refine lv_istore (lv' := [(4, .int 0), (3, .int x5), (0, .ref o1), (1, .int a1), (2, .int 2)]) hx hb dX0_seatsRest_29 hl (by decide) rfl (fun ls hl => ?_)
      have L1 : ∀ (N : Nat) (x117 : Int32) (f118 : Nat → Int32) (f119 : Nat → Int32) (H : Heap) (locs : List Loc) (ls : Array Slot), (8 - x117.toInt).toNat < N → Iv 0 8 x117 → va_P (dC, dI) vwCl ([(o1, .inr (0, [.ref o2, .ref o4, .ref o6, .int v8, .int v9, .int v10, .int v11, .int v12])), (o2, .inl (cI, 256, .inl f118)), (o4, .inl (cI, 12, .inl fw5)), (o6, .inl (cI, 8, .inl f119))]) H → va_D A ([(o1, .inr (0, [.ref o2, .ref o4, .ref o6, .int v8, .int v9, .int v10, .int v11, .int v12])), (o2, .inl (cI, 256, .inl f118)), (o4, .inl (cI, 12, .inl fw5)), (o6, .inl (cI, 8, .inl f119))]) → va_S A s.heap H locs → lv_has ls 5 [(4, .int x117), (3, .int x5), (0, .ref o1), (1, .int a1), (2, .int 2)] → W p l e ({ frames := 6, cells := 0, slots := 0, locals := 144 }) s m ([.ref o1, .int a1, .int 2] : List Value).toArray below meth c H locs 0 0 Q (F0 m 31 ls []) := by
        intro N
        induction N with
        | zero =>
          intro x117 f118 f119 H locs ls hM
          exact absurd hM (Nat.not_lt_zero _)
        | succ N ih1 =>
          intro x117 f118 f119 H locs ls hM1 x117_h hP hD hS hl
          refine lv_iload hx hb dX0_seatsRest_31 (lv_at hl 0 rfl) ?_
          refine lv_aload_n hx hb dX0_seatsRest_33 rfl (lv_at hl 2 rfl) ?_
          refine va_get (D := (dC, dI)) (ci := 0) (v := .int v9) (C := RX0) (T := TX0) (N := 8) hx hb hts iw_X0_seatsRest_X0 hown hK hP 0 rfl rfl 4 (by decide) (hts (.fieldLink RX0 25 "HolelessHouse$Benches" "width" "I") hm_X0_seatsRest_1) (fun _ h9 => h9) rfl dX0_seatsRest_34 ?_
          refine lv_icmp_ge (tgt := 81) hx hb dX0_seatsRest_37 (by decide) (fun h120 => ?_) (fun h120 => ?_)
          ·
            have qh120 := le_i h120
            have j121 : Iv 3 8 x117 := r_ler qh120 j2 x117_h (by decide)
            refine lv_aload_n hx hb dX0_seatsRest_81 rfl (lv_at hl 2 rfl) ?_
            refine va_get (D := (dC, dI)) (ci := 0) (v := .ref o2) (C := RX0) (T := TX0) (N := 8) hx hb hts iw_X0_seatsRest_X0 hown hK hP 0 rfl rfl 0 (by decide) (hts (.fieldLink RX0 38 "HolelessHouse$Benches" "notes" "[I") hm_X0_seatsRest_2) (fun _ h9 => h9) rfl dX0_seatsRest_82 ?_
            refine lv_iload_n hx hb dX0_seatsRest_85 rfl (lv_at hl 3 rfl) ?_
            refine lv_iconst (v := 1) hx hb dX0_seatsRest_86 (by decide) ?_
            refine k_iast hx hb hK hP hD hS 1 0 rfl rfl (vin_iv a1_h (by decide)) dX0_seatsRest_87 (fun f122 H locs f122_e hP hD hS => ?_)
            have hP : va_P (dC, dI) vwCl ([(o1, .inr (0, [.ref o2, .ref o4, .ref o6, .int v8, .int v9, .int v10, .int v11, .int v12])), (o2, .inl (cI, 256, .inl f122)), (o4, .inl (cI, 12, .inl fw5)), (o6, .inl (cI, 8, .inl f119))]) H := hP
            have hD : va_D A ([(o1, .inr (0, [.ref o2, .ref o4, .ref o6, .int v8, .int v9, .int v10, .int v11, .int v12])), (o2, .inl (cI, 256, .inl f122)), (o4, .inl (cI, 12, .inl fw5)), (o6, .inl (cI, 8, .inl f119))]) := hD
            refine lv_iconst (v := 0) hx hb dX0_seatsRest_88 (by decide) ?_
            rw [hQ]
            exact W.zret (v := 0) (ty := .boolean) hx hb hr rfl (fun t ht hW => ⟨⟨0, (f122, f119), rfl, (iv_w ik_0 (by decide)), by rw [ht]; exact hP, va_K.moved hW.alike hK, hD⟩, hS.F ht⟩) hS.2.2 dX0_seatsRest_89
          ·
            have qh120 := nle_i h120
            have j123 : Iv 0 7 x117 := r_ltl qh120 x117_h j2 (by decide)
            refine lv_iload_n hx hb dX0_seatsRest_40 rfl (lv_at hl 1 rfl) ?_
            refine lv_iload hx hb dX0_seatsRest_41 (lv_at hl 0 rfl) ?_
            refine kc_i (D := (dC, dI)) (S := Unit) (wc := []) (wr := [(o1, .inr (0, [.ref o2, .ref o4, .ref o6, .int v8, .int v9, .int v10, .int v11, .int v12])), (o2, .inl (cI, 256, .inl f118)), (o4, .inl (cI, 12, .inl fw5)), (o6, .inl (cI, 8, .inl f119))]) (w1 := fun _ => []) (wn := fun _ => [(o1, .inr (0, [.ref o2, .ref o4, .ref o6, .int v8, .int v9, .int v10, .int v11, .int v12])), (o2, .inl (cI, 256, .inl f118)), (o4, .inl (cI, 12, .inl fw5)), (o6, .inl (cI, 8, .inl f119))]) (fun hPc hDc => va_runSN (As := [.int x5, .int x117]) (rest := []) ⟨hx, hb, hml, hown, hts⟩ (kX11_in_1 l dC dI cI c2 cZ x5 x117 H.size) ⟨va_cnB 2 hts gX0_seatsRest_X11_in_n62 rfl rfl rfl (hN.1 _ ns_125) (hts (.initialized RX11) hm_X0_seatsRest_12) (by decide +kernel) ⟨Nat.le_of_ble_eq_true rfl, Nat.le_of_ble_eq_true rfl⟩, (hts (.static yX11_in) hm_X0_seatsRest_11), trivial⟩ (pre_S hPc hK hDc hN) rfl rfl hl.1 rfl (lv_room (Nat.le_of_ble_eq_true rfl)) dX0_seatsRest_43 ⟨Nat.le_of_ble_eq_true rfl, Nat.le_of_ble_eq_true rfl⟩) hP hD hS hA [] [0, 1, 2, 3] [0, 1, 2, 3] rfl rfl (by decide +kernel) (by decide +kernel) (by decide +kernel) (by decide +kernel) (fun _ => rfl) (fun x124 _ H locs hq hP hD hS => ?_)
            have x124_h := hq
            have hP : va_P (dC, dI) vwCl ([(o1, .inr (0, [.ref o2, .ref o4, .ref o6, .int v8, .int v9, .int v10, .int v11, .int v12])), (o2, .inl (cI, 256, .inl f118)), (o4, .inl (cI, 12, .inl fw5)), (o6, .inl (cI, 8, .inl f119))]) H := hP
            have hD : va_D A ([(o1, .inr (0, [.ref o2, .ref o4, .ref o6, .int v8, .int v9, .int v10, .int v11, .int v12])), (o2, .inl (cI, 256, .inl f118)), (o4, .inl (cI, 12, .inl fw5)), (o6, .inl (cI, 8, .inl f119))]) := hD
            refine lv_if_eq (tgt := 75) hx hb dX0_seatsRest_46 (by decide) (fun h125 => ?_) (fun h125 => ?_)
            ·
              have j126 : Iv 0 0 x124 := r_eq h125 ik_0
              obtain ⟨x127, x127_e⟩ : ∃ z : Int32, z = x117 + 1 := ⟨_, rfl⟩
              have x127_h : Iv 1 8 x127 := iv_e x127_e (iv_add j123 ik_1 (by decide))
              refine lv_iinc (v := x127) (lv' := [(4, .int x127), (3, .int x5), (0, .ref o1), (1, .int a1), (2, .int 2)]) hx hb dX0_seatsRest_75 hl (k := 0) rfl (incN (by decide +kernel) x127_e) (by decide) rfl (fun ls hl => ?_)
              refine lv_goto (tgt := 31) hx hb dX0_seatsRest_78 (by decide) ?_
              exact ih1 x127 f118 f119 _ _ _ (ms_up x127_e j123 (by decide) hM1) (iv_w x127_h (by decide)) hP hD hS hl
            ·
              have j128 : Iv 1 1 x124 := r_nelo h125 x124_h ik_0 (by decide)
              refine lv_aload_n hx hb dX0_seatsRest_49 rfl (lv_at hl 2 rfl) ?_
              refine va_get (D := (dC, dI)) (ci := 0) (v := .ref o6) (C := RX0) (T := TX0) (N := 8) hx hb hts iw_X0_seatsRest_X0 hown hK hP 0 rfl rfl 2 (by decide) (hts (.fieldLink RX0 41 "HolelessHouse$Benches" "places" "[I") hm_X0_seatsRest_3) (fun _ h9 => h9) rfl dX0_seatsRest_50 ?_
              refine lv_iload_n hx hb dX0_seatsRest_53 rfl (lv_at hl 4 rfl) ?_
              refine lv_iload hx hb dX0_seatsRest_54 (lv_at hl 0 rfl) ?_
              refine k_iast hx hb hK hP hD hS 3 0 rfl rfl (vin_iv ik_2 (by decide)) dX0_seatsRest_56 (fun f129 H locs f129_e hP hD hS => ?_)
              have hP : va_P (dC, dI) vwCl ([(o1, .inr (0, [.ref o2, .ref o4, .ref o6, .int v8, .int v9, .int v10, .int v11, .int v12])), (o2, .inl (cI, 256, .inl f118)), (o4, .inl (cI, 12, .inl fw5)), (o6, .inl (cI, 8, .inl f129))]) H := hP
              have hD : va_D A ([(o1, .inr (0, [.ref o2, .ref o4, .ref o6, .int v8, .int v9, .int v10, .int v11, .int v12])), (o2, .inl (cI, 256, .inl f118)), (o4, .inl (cI, 12, .inl fw5)), (o6, .inl (cI, 8, .inl f129))]) := hD
              refine lv_aload_n hx hb dX0_seatsRest_57 rfl (lv_at hl 2 rfl) ?_
              refine lv_iload_n hx hb dX0_seatsRest_58 rfl (lv_at hl 3 rfl) ?_
              refine lv_iconst (v := 1) hx hb dX0_seatsRest_59 (by decide) ?_
              refine lv_iload hx hb dX0_seatsRest_60 (lv_at hl 0 rfl) ?_
              refine lv_ishl hx hb dX0_seatsRest_62 (lv_topi (fun x130 x130_e => ?_))
              have x130_h : Iv 1 128 x130 := iv_e x130_e (iv_shl1 j123 (by decide))
              refine lv_ior hx hb dX0_seatsRest_63 (lv_topi (fun x131 x131_e => ?_))
              have x131_h : Iv 0 255 x131 := iv_e x131_e (iv_or 8 a1_h x130_h (by decide))
              refine lv_iload_n hx hb dX0_seatsRest_64 rfl (lv_at hl 4 rfl) ?_
              refine lv_iconst (v := 1) hx hb dX0_seatsRest_65 (by decide) ?_
              refine lv_iadd hx hb dX0_seatsRest_66 (tk_i (v := 3) (by decide +kernel) ?_)
              refine kc_i (D := (dC, dI)) (S := (Nat → Int32) × (Nat → Int32)) (wc := [(o1, .inr (0, [.ref o2, .ref o4, .ref o6, .int v8, .int v9, .int v10, .int v11, .int v12])), (o2, .inl (cI, 256, .inl f118)), (o4, .inl (cI, 12, .inl fw5)), (o6, .inl (cI, 8, .inl f129))]) (wr := []) (w1 := fun u => [(o1, .inr (0, [.ref o2, .ref o4, .ref o6, .int v8, .int v9, .int v10, .int v11, .int v12])), (o2, .inl (cI, 256, .inl u.1)), (o4, .inl (cI, 12, .inl fw5)), (o6, .inl (cI, 8, .inl u.2))]) (wn := fun u => [(o1, .inr (0, [.ref o2, .ref o4, .ref o6, .int v8, .int v9, .int v10, .int v11, .int v12])), (o2, .inl (cI, 256, .inl u.1)), (o4, .inl (cI, 12, .inl fw5)), (o6, .inl (cI, 8, .inl u.2))]) (fun hPc hDc => va_runS (As := [.ref o1, .int x131, .int 3]) (rest := []) ⟨hx, hb, hml, hown, hts⟩ (kX0_seatsRest_19 l dC dI cI c2 cZ o1 o2 o4 o6 f118 fw5 f129 v8 v9 v10 v11 v12 x131 H.size v8_h (iv_w j2 (by decide)) v11_h x131_h) (va_cwS 3 hts gX0_seatsRest_X0_seatsRest rfl rfl rfl (by decide +kernel) ⟨Nat.le_of_ble_eq_true rfl, Nat.le_of_ble_eq_true rfl⟩) (pre_S hPc hK hDc hN) rfl rfl hl.1 rfl (lv_room (Nat.le_of_ble_eq_true rfl)) dX0_seatsRest_67 ⟨Nat.le_of_ble_eq_true rfl, Nat.le_of_ble_eq_true rfl⟩) hP hD hS hA [0, 1, 2, 3] [] [0, 1, 2, 3] rfl rfl (by decide +kernel) (by decide +kernel) (by decide +kernel) (by decide +kernel) (fun _ => rfl) (fun x134 u H locs hq hP hD hS => ?_)
              obtain ⟨f132, f133⟩ := u
              have x134_h := hq
              have hP : va_P (dC, dI) vwCl ([(o1, .inr (0, [.ref o2, .ref o4, .ref o6, .int v8, .int v9, .int v10, .int v11, .int v12])), (o2, .inl (cI, 256, .inl f132)), (o4, .inl (cI, 12, .inl fw5)), (o6, .inl (cI, 8, .inl f133))]) H := hP
              have hD : va_D A ([(o1, .inr (0, [.ref o2, .ref o4, .ref o6, .int v8, .int v9, .int v10, .int v11, .int v12])), (o2, .inl (cI, 256, .inl f132)), (o4, .inl (cI, 12, .inl fw5)), (o6, .inl (cI, 8, .inl f133))]) := hD
              refine lv_if_eq (tgt := 75) hx hb dX0_seatsRest_70 (by decide) (fun h135 => ?_) (fun h135 => ?_)
              ·
                have j136 : Iv 0 0 x134 := r_eq h135 ik_0
                obtain ⟨x137, x137_e⟩ : ∃ z : Int32, z = x117 + 1 := ⟨_, rfl⟩
                have x137_h : Iv 1 8 x137 := iv_e x137_e (iv_add j123 ik_1 (by decide))
                refine lv_iinc (v := x137) (lv' := [(4, .int x137), (3, .int x5), (0, .ref o1), (1, .int a1), (2, .int 2)]) hx hb dX0_seatsRest_75 hl (k := 0) rfl (incN (by decide +kernel) x137_e) (by decide) rfl (fun ls hl => ?_)
                refine lv_goto (tgt := 31) hx hb dX0_seatsRest_78 (by decide) ?_
                exact ih1 x137 f132 f133 _ _ _ (ms_up x137_e j123 (by decide) hM1) (iv_w x137_h (by decide)) hP hD hS hl
              ·
                have j138 : Iv 1 1 x134 := r_nelo h135 x134_h ik_0 (by decide)
                refine lv_iconst (v := 1) hx hb dX0_seatsRest_73 (by decide) ?_
                rw [hQ]
                exact W.zret (v := 1) (ty := .boolean) hx hb hr rfl (fun t ht hW => ⟨⟨1, (f132, f133), rfl, (iv_w ik_1 (by decide)), by rw [ht]; exact hP, va_K.moved hW.alike hK, hD⟩, hS.F ht⟩) hS.2.2 dX0_seatsRest_74
      exact L1 _ 0 fw3 fw7 _ _ _ (Nat.lt_succ_self _) (iv_w ik_0 (by decide)) hP hD hS hl
    ·
      have j139 : Iv 1 1 x3 := r_eq h4 ik_1
      refine lv_iconst (v := 0) hx hb dX0_seatsRest_20 (by decide) ?_
      rw [hQ]
      exact W.zret (v := 0) (ty := .boolean) hx hb hr rfl (fun t ht hW => ⟨⟨0, (fw3, fw7), rfl, (iv_w ik_0 (by decide)), by rw [ht]; exact hP, va_K.moved hW.alike hK, hD⟩, hS.F ht⟩) hS.2.2 dX0_seatsRest_21
  ·
    have qh1 := nlt_i h1
    have j140 : Iv 0 2 v9 := r_lel qh1 v9_h ik_2 (by decide)
    refine lv_iconst (v := 1) hx hb dX0_seatsRest_8 (by decide) ?_
    rw [hQ]
    exact W.zret (v := 1) (ty := .boolean) hx hb hr rfl (fun t ht hW => ⟨⟨1, (fw3, fw7), rfl, (iv_w ik_1 (by decide)), by rw [ht]; exact hP, va_K.moved hW.alike hK, hD⟩, hS.F ht⟩) hS.2.2 dX0_seatsRest_9
set_option maxHeartbeats 4000000 in
set_option maxRecDepth 100000 in
theorem kX0_seatsRest_21 (l : Launch) (dC : Nat → ClassId) (dI : Nat → Nat → Nat) (cI c2 cZ : ClassId) (o1 : Nat) (o2 : Nat) (o4 : Nat) (o6 : Nat) (fw3 : Nat → Int32) (fw5 : Nat → Int32) (fw7 : Nat → Int32) (v8 : Int32) (v9 : Int32) (v10 : Int32) (v11 : Int32) (v12 : Int32) (a1 : Int32) (sz : Nat) (v8_h : Iv 0 12 v8) (v9_h : Iv 0 8 v9) (v11_h : Iv 0 1 v11) (a1_h : Iv 0 255 a1) : Met l yX0_seatsRest wsX0_seatsRest ({ frames := 7, cells := 0, slots := 0, locals := 168 }) (va_Pc [.ref o1, .int a1, .int 1] (wPre (dC, dI) [(cI, .int), (c2, .array .int), (cZ, .boolean)] ([(o1, .inr (0, [.ref o2, .ref o4, .ref o6, .int v8, .int v9, .int v10, .int v11, .int v12])), (o2, .inl (cI, 256, .inl fw3)), (o4, .inl (cI, 12, .inl fw5)), (o6, .inl (cI, 8, .inl fw7))]) sz)) (va_Qi (fun (r : Int32) (u : (Nat → Int32) × (Nat → Int32)) => Iv 0 1 r) (fun u t => wPost (dC, dI) [(cI, .int), (c2, .array .int), (cZ, .boolean)] (va_A ([(o1, .inr (0, [.ref o2, .ref o4, .ref o6, .int v8, .int v9, .int v10, .int v11, .int v12])), (o2, .inl (cI, 256, .inl fw3)), (o4, .inl (cI, 12, .inl fw5)), (o6, .inl (cI, 8, .inl fw7))]) sz) ([(o1, .inr (0, [.ref o2, .ref o4, .ref o6, .int v8, .int v9, .int v10, .int v11, .int v12])), (o2, .inl (cI, 256, .inl u.1)), (o4, .inl (cI, 12, .inl fw5)), (o6, .inl (cI, 8, .inl u.2))]) t) (va_A ([(o1, .inr (0, [.ref o2, .ref o4, .ref o6, .int v8, .int v9, .int v10, .int v11, .int v12])), (o2, .inl (cI, 256, .inl fw3)), (o4, .inl (cI, 12, .inl fw5)), (o6, .inl (cI, 8, .inl fw7))]) sz)) 0 0 (va_A ([(o1, .inr (0, [.ref o2, .ref o4, .ref o6, .int v8, .int v9, .int v10, .int v11, .int v12])), (o2, .inl (cI, 256, .inl fw3)), (o4, .inl (cI, 12, .inl fw5)), (o6, .inl (cI, 8, .inl fw7))]) sz) := by
  refine Met.ofW (cc := cX0_seatsRest) (maxL := 5) (ret := (some .boolean)) (by decide) rfl ?_
  intro p e s m args below meth c s₁ B hml hv
  obtain ⟨rfl, hsz, hP, hK, hD0, hN⟩ := hv
  have hx := B.exec
  have hb := B.bytes
  have hr := B.returns
  have hts := atoms_spec (ws := wsX0_seatsRest) B.pre
  have hown : s.vm.findClass RX0 = some m.cls := findClass_of_methodNamed B.named
  have hlocks := B.notSynchronized
  subst hsz
  have hD := hD0.self (sz := s.heap.size)
  generalize hAe : va_A ([(o1, .inr (0, [.ref o2, .ref o4, .ref o6, .int v8, .int v9, .int v10, .int v11, .int v12])), (o2, .inl (cI, 256, .inl fw3)), (o4, .inl (cI, 12, .inl fw5)), (o6, .inl (cI, 8, .inl fw7))]) s.heap.size = A at hD ⊢
  have hA : ∀ q : Nat, s.heap.size ≤ q → A q := fun q h => by rw [← hAe]; exact Or.inr h
  have hS : va_S A s.heap s.heap [] := va_S.rf
  have hP : va_P (dC, dI) vwCl ([(o1, .inr (0, [.ref o2, .ref o4, .ref o6, .int v8, .int v9, .int v10, .int v11, .int v12])), (o2, .inl (cI, 256, .inl fw3)), (o4, .inl (cI, 12, .inl fw5)), (o6, .inl (cI, 8, .inl fw7))]) s.heap := hP
  have hl := lv_entry ([.ref o1, .int a1, .int 1]) (n := 5) (Nat.le_of_ble_eq_true rfl)
  rw [lg_entry_eq]
  generalize (lg_sl ([.ref o1, .int a1, .int 1]) ++ List.replicate (5 - (lg_sl ([.ref o1, .int a1, .int 1])).length) Slot.unset).toArray = ls at hl ⊢
  have hl : lv_has ls 5 [(0, .ref o1), (1, .int a1), (2, .int 1)] := hl
  refine gen_Q (fun Q hQ => ?_)
  refine lv_iload_n hx hb dX0_seatsRest_0 rfl (lv_at hl 2 rfl) ?_
  refine lv_aload_n hx hb dX0_seatsRest_1 rfl (lv_at hl 0 rfl) ?_
  refine va_get (D := (dC, dI)) (ci := 0) (v := .int v9) (C := RX0) (T := TX0) (N := 8) hx hb hts iw_X0_seatsRest_X0 hown hK hP 0 rfl rfl 4 (by decide) (hts (.fieldLink RX0 25 "HolelessHouse$Benches" "width" "I") hm_X0_seatsRest_1) (fun _ h9 => h9) rfl dX0_seatsRest_2 ?_
  refine lv_icmp_lt (tgt := 10) hx hb dX0_seatsRest_5 (by decide) (fun h1 => ?_) (fun h1 => ?_)
  ·
    have qh1 := lt_i h1
    have j2 : Iv 2 8 v9 := r_ltr qh1 ik_1 v9_h (by decide)
    refine lv_aload_n hx hb dX0_seatsRest_10 rfl (lv_at hl 0 rfl) ?_
    refine va_get (D := (dC, dI)) (ci := 0) (v := .ref o2) (C := RX0) (T := TX0) (N := 8) hx hb hts iw_X0_seatsRest_X0 hown hK hP 0 rfl rfl 0 (by decide) (hts (.fieldLink RX0 38 "HolelessHouse$Benches" "notes" "[I") hm_X0_seatsRest_2) (fun _ h9 => h9) rfl dX0_seatsRest_11 ?_
    refine lv_iload_n hx hb dX0_seatsRest_14 rfl (lv_at hl 1 rfl) ?_
    refine va_iald hx hb hK hP 1 0 rfl rfl (vin_iv a1_h (by decide)) dX0_seatsRest_15 (lv_topi (fun x3 x3_e => ?_))
    refine lv_iconst (v := 1) hx hb dX0_seatsRest_16 (by decide) ?_
    refine lv_icmp_ne (tgt := 22) hx hb dX0_seatsRest_17 (by decide) (fun h4 => ?_) (fun h4 => ?_)
    ·
      refine lv_aload_n hx hb dX0_seatsRest_22 rfl (lv_at hl 0 rfl) ?_
      refine lv_iload_n hx hb dX0_seatsRest_23 rfl (lv_at hl 1 rfl) ?_
      refine kc_i (D := (dC, dI)) (S := Unit) (wc := [(o1, .inr (0, [.ref o2, .ref o4, .ref o6, .int v8, .int v9, .int v10, .int v11, .int v12])), (o4, .inl (cI, 12, .inl fw5))]) (wr := [(o2, .inl (cI, 256, .inl fw3)), (o6, .inl (cI, 8, .inl fw7))]) (w1 := fun _ => [(o1, .inr (0, [.ref o2, .ref o4, .ref o6, .int v8, .int v9, .int v10, .int v11, .int v12])), (o4, .inl (cI, 12, .inl fw5))]) (wn := fun _ => [(o1, .inr (0, [.ref o2, .ref o4, .ref o6, .int v8, .int v9, .int v10, .int v11, .int v12])), (o2, .inl (cI, 256, .inl fw3)), (o4, .inl (cI, 12, .inl fw5)), (o6, .inl (cI, 8, .inl fw7))]) (fun hPc hDc => va_runV (As := [.int a1]) (rest := []) ⟨hx, hb, hml, hown, hts⟩ (kX0_mayCome_2 l dC dI cI c2 cZ o1 o2 o4 o6 fw5 v8 v9 v10 v11 v12 a1 s.heap.size v8_h (iv_w j2 (by decide)) v11_h a1_h) (cwV 1 hts gX0_seatsRest_X0_mayCome rfl rfl rfl (by decide +kernel) ⟨Nat.le_of_ble_eq_true rfl, Nat.le_of_ble_eq_true rfl⟩) (pre_V hPc hK hDc hN (ci := 0) (q0 := 0) rfl rfl) rfl rfl hl.1 rfl (lv_room (Nat.le_of_ble_eq_true rfl)) dX0_seatsRest_24 ⟨Nat.le_of_ble_eq_true rfl, Nat.le_of_ble_eq_true rfl⟩) hP hD hS hA [0, 2] [1, 3] [2, 0, 3, 1] rfl rfl (by decide +kernel) (by decide +kernel) (by decide +kernel) (by decide +kernel) (fun _ => rfl) (fun x5 _ H locs hq hP hD hS => ?_)
      have x5_h := hq
      have hP : va_P (dC, dI) vwCl ([(o1, .inr (0, [.ref o2, .ref o4, .ref o6, .int v8, .int v9, .int v10, .int v11, .int v12])), (o2, .inl (cI, 256, .inl fw3)), (o4, .inl (cI, 12, .inl fw5)), (o6, .inl (cI, 8, .inl fw7))]) H := hP
      have hD : va_D A ([(o1, .inr (0, [.ref o2, .ref o4, .ref o6, .int v8, .int v9, .int v10, .int v11, .int v12])), (o2, .inl (cI, 256, .inl fw3)), (o4, .inl (cI, 12, .inl fw5)), (o6, .inl (cI, 8, .inl fw7))]) := hD
      refine lv_istore_n (lv' := [(3, .int x5), (0, .ref o1), (1, .int a1), (2, .int 1)]) hx hb dX0_seatsRest_27 rfl hl (by decide) rfl (fun ls hl => ?_)
      refine lv_iconst (v := 0) hx hb dX0_seatsRest_28 (by decide) ?_
      refine lv_istore (lv' := [(4, .int 0), (3, .int x5), (0, .ref o1), (1, .int a1), (2, .int 1)]) hx hb dX0_seatsRest_29 hl (by decide) rfl (fun ls hl => ?_)
      have L1 : ∀ (N : Nat) (x120 : Int32) (f121 : Nat → Int32) (f122 : Nat → Int32) (H : Heap) (locs : List Loc) (ls : Array Slot), (8 - x120.toInt).toNat < N → Iv 0 8 x120 → va_P (dC, dI) vwCl ([(o1, .inr (0, [.ref o2, .ref o4, .ref o6, .int v8, .int v9, .int v10, .int v11, .int v12])), (o2, .inl (cI, 256, .inl f121)), (o4, .inl (cI, 12, .inl fw5)), (o6, .inl (cI, 8, .inl f122))]) H → va_D A ([(o1, .inr (0, [.ref o2, .ref o4, .ref o6, .int v8, .int v9, .int v10, .int v11, .int v12])), (o2, .inl (cI, 256, .inl f121)), (o4, .inl (cI, 12, .inl fw5)), (o6, .inl (cI, 8, .inl f122))]) → va_S A s.heap H locs → lv_has ls 5 [(4, .int x120), (3, .int x5), (0, .ref o1), (1, .int a1), (2, .int 1)] → W p l e ({ frames := 7, cells := 0, slots := 0, locals := 168 }) s m ([.ref o1, .int a1, .int 1] : List Value).toArray below meth c H locs 0 0 Q (F0 m 31 ls []) := by
        intro N
        induction N with
        | zero =>
          intro x120 f121 f122 H locs ls hM
          exact absurd hM (Nat.not_lt_zero _)
        | succ N ih1 =>
          intro x120 f121 f122 H locs ls hM1 x120_h hP hD hS hl
          refine lv_iload hx hb dX0_seatsRest_31 (lv_at hl 0 rfl) ?_
          refine lv_aload_n hx hb dX0_seatsRest_33 rfl (lv_at hl 2 rfl) ?_
          refine va_get (D := (dC, dI)) (ci := 0) (v := .int v9) (C := RX0) (T := TX0) (N := 8) hx hb hts iw_X0_seatsRest_X0 hown hK hP 0 rfl rfl 4 (by decide) (hts (.fieldLink RX0 25 "HolelessHouse$Benches" "width" "I") hm_X0_seatsRest_1) (fun _ h9 => h9) rfl dX0_seatsRest_34 ?_
          refine lv_icmp_ge (tgt := 81) hx hb dX0_seatsRest_37 (by decide) (fun h123 => ?_) (fun h123 => ?_)
          ·
            have qh123 := le_i h123
            have j124 : Iv 2 8 x120 := r_ler qh123 j2 x120_h (by decide)
            refine lv_aload_n hx hb dX0_seatsRest_81 rfl (lv_at hl 2 rfl) ?_
            refine va_get (D := (dC, dI)) (ci := 0) (v := .ref o2) (C := RX0) (T := TX0) (N := 8) hx hb hts iw_X0_seatsRest_X0 hown hK hP 0 rfl rfl 0 (by decide) (hts (.fieldLink RX0 38 "HolelessHouse$Benches" "notes" "[I") hm_X0_seatsRest_2) (fun _ h9 => h9) rfl dX0_seatsRest_82 ?_
            refine lv_iload_n hx hb dX0_seatsRest_85 rfl (lv_at hl 3 rfl) ?_
            refine lv_iconst (v := 1) hx hb dX0_seatsRest_86 (by decide) ?_
            refine k_iast hx hb hK hP hD hS 1 0 rfl rfl (vin_iv a1_h (by decide)) dX0_seatsRest_87 (fun f125 H locs f125_e hP hD hS => ?_)
            have hP : va_P (dC, dI) vwCl ([(o1, .inr (0, [.ref o2, .ref o4, .ref o6, .int v8, .int v9, .int v10, .int v11, .int v12])), (o2, .inl (cI, 256, .inl f125)), (o4, .inl (cI, 12, .inl fw5)), (o6, .inl (cI, 8, .inl f122))]) H := hP
            have hD : va_D A ([(o1, .inr (0, [.ref o2, .ref o4, .ref o6, .int v8, .int v9, .int v10, .int v11, .int v12])), (o2, .inl (cI, 256, .inl f125)), (o4, .inl (cI, 12, .inl fw5)), (o6, .inl (cI, 8, .inl f122))]) := hD
            refine lv_iconst (v := 0) hx hb dX0_seatsRest_88 (by decide) ?_
            rw [hQ]
            exact W.zret (v := 0) (ty := .boolean) hx hb hr rfl (fun t ht hW => ⟨⟨0, (f125, f122), rfl, (iv_w ik_0 (by decide)), by rw [ht]; exact hP, va_K.moved hW.alike hK, hD⟩, hS.F ht⟩) hS.2.2 dX0_seatsRest_89
          ·
            have qh123 := nle_i h123
            have j126 : Iv 0 7 x120 := r_ltl qh123 x120_h j2 (by decide)
            refine lv_iload_n hx hb dX0_seatsRest_40 rfl (lv_at hl 1 rfl) ?_
            refine lv_iload hx hb dX0_seatsRest_41 (lv_at hl 0 rfl) ?_
            refine kc_i (D := (dC, dI)) (S := Unit) (wc := []) (wr := [(o1, .inr (0, [.ref o2, .ref o4, .ref o6, .int v8, .int v9, .int v10, .int v11, .int v12])), (o2, .inl (cI, 256, .inl f121)), (o4, .inl (cI, 12, .inl fw5)), (o6, .inl (cI, 8, .inl f122))]) (w1 := fun _ => []) (wn := fun _ => [(o1, .inr (0, [.ref o2, .ref o4, .ref o6, .int v8, .int v9, .int v10, .int v11, .int v12])), (o2, .inl (cI, 256, .inl f121)), (o4, .inl (cI, 12, .inl fw5)), (o6, .inl (cI, 8, .inl f122))]) (fun hPc hDc => va_runSN (As := [.int x5, .int x120]) (rest := []) ⟨hx, hb, hml, hown, hts⟩ (kX11_in_1 l dC dI cI c2 cZ x5 x120 H.size) ⟨va_cnB 2 hts gX0_seatsRest_X11_in_n62 rfl rfl rfl (hN.1 _ ns_125) (hts (.initialized RX11) hm_X0_seatsRest_12) (by decide +kernel) ⟨Nat.le_of_ble_eq_true rfl, Nat.le_of_ble_eq_true rfl⟩, (hts (.static yX11_in) hm_X0_seatsRest_11), trivial⟩ (pre_S hPc hK hDc hN) rfl rfl hl.1 rfl (lv_room (Nat.le_of_ble_eq_true rfl)) dX0_seatsRest_43 ⟨Nat.le_of_ble_eq_true rfl, Nat.le_of_ble_eq_true rfl⟩) hP hD hS hA [] [0, 1, 2, 3] [0, 1, 2, 3] rfl rfl (by decide +kernel) (by decide +kernel) (by decide +kernel) (by decide +kernel) (fun _ => rfl) (fun x127 _ H locs hq hP hD hS => ?_)
            have x127_h := hq
            have hP : va_P (dC, dI) vwCl ([(o1, .inr (0, [.ref o2, .ref o4, .ref o6, .int v8, .int v9, .int v10, .int v11, .int v12])), (o2, .inl (cI, 256, .inl f121)), (o4, .inl (cI, 12, .inl fw5)), (o6, .inl (cI, 8, .inl f122))]) H := hP
            have hD : va_D A ([(o1, .inr (0, [.ref o2, .ref o4, .ref o6, .int v8, .int v9, .int v10, .int v11, .int v12])), (o2, .inl (cI, 256, .inl f121)), (o4, .inl (cI, 12, .inl fw5)), (o6, .inl (cI, 8, .inl f122))]) := hD
            refine lv_if_eq (tgt := 75) hx hb dX0_seatsRest_46 (by decide) (fun h128 => ?_) (fun h128 => ?_)
            ·
              have j129 : Iv 0 0 x127 := r_eq h128 ik_0
              obtain ⟨x130, x130_e⟩ : ∃ z : Int32, z = x120 + 1 := ⟨_, rfl⟩
              have x130_h : Iv 1 8 x130 := iv_e x130_e (iv_add j126 ik_1 (by decide))
              refine lv_iinc (v := x130) (lv' := [(4, .int x130), (3, .int x5), (0, .ref o1), (1, .int a1), (2, .int 1)]) hx hb dX0_seatsRest_75 hl (k := 0) rfl (incN (by decide +kernel) x130_e) (by decide) rfl (fun ls hl => ?_)
              refine lv_goto (tgt := 31) hx hb dX0_seatsRest_78 (by decide) ?_
              exact ih1 x130 f121 f122 _ _ _ (ms_up x130_e j126 (by decide) hM1) (iv_w x130_h (by decide)) hP hD hS hl
            ·
              have j131 : Iv 1 1 x127 := r_nelo h128 x127_h ik_0 (by decide)
              refine lv_aload_n hx hb dX0_seatsRest_49 rfl (lv_at hl 2 rfl) ?_
              refine va_get (D := (dC, dI)) (ci := 0) (v := .ref o6) (C := RX0) (T := TX0) (N := 8) hx hb hts iw_X0_seatsRest_X0 hown hK hP 0 rfl rfl 2 (by decide) (hts (.fieldLink RX0 41 "HolelessHouse$Benches" "places" "[I") hm_X0_seatsRest_3) (fun _ h9 => h9) rfl dX0_seatsRest_50 ?_
              refine lv_iload_n hx hb dX0_seatsRest_53 rfl (lv_at hl 4 rfl) ?_
              refine lv_iload hx hb dX0_seatsRest_54 (lv_at hl 0 rfl) ?_
              refine k_iast hx hb hK hP hD hS 3 0 rfl rfl (vin_iv ik_1 (by decide)) dX0_seatsRest_56 (fun f132 H locs f132_e hP hD hS => ?_)
              have hP : va_P (dC, dI) vwCl ([(o1, .inr (0, [.ref o2, .ref o4, .ref o6, .int v8, .int v9, .int v10, .int v11, .int v12])), (o2, .inl (cI, 256, .inl f121)), (o4, .inl (cI, 12, .inl fw5)), (o6, .inl (cI, 8, .inl f132))]) H := hP
              have hD : va_D A ([(o1, .inr (0, [.ref o2, .ref o4, .ref o6, .int v8, .int v9, .int v10, .int v11, .int v12])), (o2, .inl (cI, 256, .inl f121)), (o4, .inl (cI, 12, .inl fw5)), (o6, .inl (cI, 8, .inl f132))]) := hD
              refine lv_aload_n hx hb dX0_seatsRest_57 rfl (lv_at hl 2 rfl) ?_
              refine lv_iload_n hx hb dX0_seatsRest_58 rfl (lv_at hl 3 rfl) ?_
              refine lv_iconst (v := 1) hx hb dX0_seatsRest_59 (by decide) ?_
              refine lv_iload hx hb dX0_seatsRest_60 (lv_at hl 0 rfl) ?_
              refine lv_ishl hx hb dX0_seatsRest_62 (lv_topi (fun x133 x133_e => ?_))
              have x133_h : Iv 1 128 x133 := iv_e x133_e (iv_shl1 j126 (by decide))
              refine lv_ior hx hb dX0_seatsRest_63 (lv_topi (fun x134 x134_e => ?_))
              have x134_h : Iv 0 255 x134 := iv_e x134_e (iv_or 8 a1_h x133_h (by decide))
              refine lv_iload_n hx hb dX0_seatsRest_64 rfl (lv_at hl 4 rfl) ?_
              refine lv_iconst (v := 1) hx hb dX0_seatsRest_65 (by decide) ?_
              refine lv_iadd hx hb dX0_seatsRest_66 (tk_i (v := 2) (by decide +kernel) ?_)
              refine kc_i (D := (dC, dI)) (S := (Nat → Int32) × (Nat → Int32)) (wc := [(o1, .inr (0, [.ref o2, .ref o4, .ref o6, .int v8, .int v9, .int v10, .int v11, .int v12])), (o2, .inl (cI, 256, .inl f121)), (o4, .inl (cI, 12, .inl fw5)), (o6, .inl (cI, 8, .inl f132))]) (wr := []) (w1 := fun u => [(o1, .inr (0, [.ref o2, .ref o4, .ref o6, .int v8, .int v9, .int v10, .int v11, .int v12])), (o2, .inl (cI, 256, .inl u.1)), (o4, .inl (cI, 12, .inl fw5)), (o6, .inl (cI, 8, .inl u.2))]) (wn := fun u => [(o1, .inr (0, [.ref o2, .ref o4, .ref o6, .int v8, .int v9, .int v10, .int v11, .int v12])), (o2, .inl (cI, 256, .inl u.1)), (o4, .inl (cI, 12, .inl fw5)), (o6, .inl (cI, 8, .inl u.2))]) (fun hPc hDc => va_runS (As := [.ref o1, .int x134, .int 2]) (rest := []) ⟨hx, hb, hml, hown, hts⟩ (kX0_seatsRest_20 l dC dI cI c2 cZ o1 o2 o4 o6 f121 fw5 f132 v8 v9 v10 v11 v12 x134 H.size v8_h (iv_w j2 (by decide)) v11_h x134_h) (va_cwS 3 hts gX0_seatsRest_X0_seatsRest rfl rfl rfl (by decide +kernel) ⟨Nat.le_of_ble_eq_true rfl, Nat.le_of_ble_eq_true rfl⟩) (pre_S hPc hK hDc hN) rfl rfl hl.1 rfl (lv_room (Nat.le_of_ble_eq_true rfl)) dX0_seatsRest_67 ⟨Nat.le_of_ble_eq_true rfl, Nat.le_of_ble_eq_true rfl⟩) hP hD hS hA [0, 1, 2, 3] [] [0, 1, 2, 3] rfl rfl (by decide +kernel) (by decide +kernel) (by decide +kernel) (by decide +kernel) (fun _ => rfl) (fun x137 u H locs hq hP hD hS => ?_)
              obtain ⟨f135, f136⟩ := u
              have x137_h := hq
              have hP : va_P (dC, dI) vwCl ([(o1, .inr (0, [.ref o2, .ref o4, .ref o6, .int v8, .int v9, .int v10, .int v11, .int v12])), (o2, .inl (cI, 256, .inl f135)), (o4, .inl (cI, 12, .inl fw5)), (o6, .inl (cI, 8, .inl f136))]) H := hP
              have hD : va_D A ([(o1, .inr (0, [.ref o2, .ref o4, .ref o6, .int v8, .int v9, .int v10, .int v11, .int v12])), (o2, .inl (cI, 256, .inl f135)), (o4, .inl (cI, 12, .inl fw5)), (o6, .inl (cI, 8, .inl f136))]) := hD
              refine lv_if_eq (tgt := 75) hx hb dX0_seatsRest_70 (by decide) (fun h138 => ?_) (fun h138 => ?_)
              ·
                have j139 : Iv 0 0 x137 := r_eq h138 ik_0
                obtain ⟨x140, x140_e⟩ : ∃ z : Int32, z = x120 + 1 := ⟨_, rfl⟩
                have x140_h : Iv 1 8 x140 := iv_e x140_e (iv_add j126 ik_1 (by decide))
                refine lv_iinc (v := x140) (lv' := [(4, .int x140), (3, .int x5), (0, .ref o1), (1, .int a1), (2, .int 1)]) hx hb dX0_seatsRest_75 hl (k := 0) rfl (incN (by decide +kernel) x140_e) (by decide) rfl (fun ls hl => ?_)
                refine lv_goto (tgt := 31) hx hb dX0_seatsRest_78 (by decide) ?_
                exact ih1 x140 f135 f136 _ _ _ (ms_up x140_e j126 (by decide) hM1) (iv_w x140_h (by decide)) hP hD hS hl
              ·
                have j141 : Iv 1 1 x137 := r_nelo h138 x137_h ik_0 (by decide)
                refine lv_iconst (v := 1) hx hb dX0_seatsRest_73 (by decide) ?_
                rw [hQ]
                exact W.zret (v := 1) (ty := .boolean) hx hb hr rfl (fun t ht hW => ⟨⟨1, (f135, f136), rfl, (iv_w ik_1 (by decide)), by rw [ht]; exact hP, va_K.moved hW.alike hK, hD⟩, hS.F ht⟩) hS.2.2 dX0_seatsRest_74
      exact L1 _ 0 fw3 fw7 _ _ _ (Nat.lt_succ_self _) (iv_w ik_0 (by decide)) hP hD hS hl
    ·
      have j142 : Iv 1 1 x3 := r_eq h4 ik_1
      refine lv_iconst (v := 0) hx hb dX0_seatsRest_20 (by decide) ?_
      rw [hQ]
      exact W.zret (v := 0) (ty := .boolean) hx hb hr rfl (fun t ht hW => ⟨⟨0, (fw3, fw7), rfl, (iv_w ik_0 (by decide)), by rw [ht]; exact hP, va_K.moved hW.alike hK, hD⟩, hS.F ht⟩) hS.2.2 dX0_seatsRest_21
  ·
    have qh1 := nlt_i h1
    have j143 : Iv 0 1 v9 := r_lel qh1 v9_h ik_1 (by decide)
    refine lv_iconst (v := 1) hx hb dX0_seatsRest_8 (by decide) ?_
    rw [hQ]
    exact W.zret (v := 1) (ty := .boolean) hx hb hr rfl (fun t ht hW => ⟨⟨1, (fw3, fw7), rfl, (iv_w ik_1 (by decide)), by rw [ht]; exact hP, va_K.moved hW.alike hK, hD⟩, hS.F ht⟩) hS.2.2 dX0_seatsRest_9
set_option maxHeartbeats 4000000 in
set_option maxRecDepth 100000 in
theorem kX0_seatsRest_22 (l : Launch) (dC : Nat → ClassId) (dI : Nat → Nat → Nat) (cI c2 cZ : ClassId) (o1 : Nat) (o2 : Nat) (o4 : Nat) (o6 : Nat) (fw3 : Nat → Int32) (fw5 : Nat → Int32) (fw7 : Nat → Int32) (v8 : Int32) (v9 : Int32) (v10 : Int32) (v11 : Int32) (v12 : Int32) (a1 : Int32) (sz : Nat) (v8_h : Iv 0 12 v8) (v9_h : Iv 0 8 v9) (v11_h : Iv 0 1 v11) (a1_h : Iv 0 255 a1) : Met l yX0_seatsRest wsX0_seatsRest ({ frames := 8, cells := 0, slots := 0, locals := 192 }) (va_Pc [.ref o1, .int a1, .int 0] (wPre (dC, dI) [(cI, .int), (c2, .array .int), (cZ, .boolean)] ([(o1, .inr (0, [.ref o2, .ref o4, .ref o6, .int v8, .int v9, .int v10, .int v11, .int v12])), (o2, .inl (cI, 256, .inl fw3)), (o4, .inl (cI, 12, .inl fw5)), (o6, .inl (cI, 8, .inl fw7))]) sz)) (va_Qi (fun (r : Int32) (u : (Nat → Int32) × (Nat → Int32)) => Iv 0 1 r) (fun u t => wPost (dC, dI) [(cI, .int), (c2, .array .int), (cZ, .boolean)] (va_A ([(o1, .inr (0, [.ref o2, .ref o4, .ref o6, .int v8, .int v9, .int v10, .int v11, .int v12])), (o2, .inl (cI, 256, .inl fw3)), (o4, .inl (cI, 12, .inl fw5)), (o6, .inl (cI, 8, .inl fw7))]) sz) ([(o1, .inr (0, [.ref o2, .ref o4, .ref o6, .int v8, .int v9, .int v10, .int v11, .int v12])), (o2, .inl (cI, 256, .inl u.1)), (o4, .inl (cI, 12, .inl fw5)), (o6, .inl (cI, 8, .inl u.2))]) t) (va_A ([(o1, .inr (0, [.ref o2, .ref o4, .ref o6, .int v8, .int v9, .int v10, .int v11, .int v12])), (o2, .inl (cI, 256, .inl fw3)), (o4, .inl (cI, 12, .inl fw5)), (o6, .inl (cI, 8, .inl fw7))]) sz)) 0 0 (va_A ([(o1, .inr (0, [.ref o2, .ref o4, .ref o6, .int v8, .int v9, .int v10, .int v11, .int v12])), (o2, .inl (cI, 256, .inl fw3)), (o4, .inl (cI, 12, .inl fw5)), (o6, .inl (cI, 8, .inl fw7))]) sz) := by
  refine Met.ofW (cc := cX0_seatsRest) (maxL := 5) (ret := (some .boolean)) (by decide) rfl ?_
  intro p e s m args below meth c s₁ B hml hv
  obtain ⟨rfl, hsz, hP, hK, hD0, hN⟩ := hv
  have hx := B.exec
  have hb := B.bytes
  have hr := B.returns
  have hts := atoms_spec (ws := wsX0_seatsRest) B.pre
  have hown : s.vm.findClass RX0 = some m.cls := findClass_of_methodNamed B.named
  have hlocks := B.notSynchronized
  subst hsz
  have hD := hD0.self (sz := s.heap.size)
  generalize hAe : va_A ([(o1, .inr (0, [.ref o2, .ref o4, .ref o6, .int v8, .int v9, .int v10, .int v11, .int v12])), (o2, .inl (cI, 256, .inl fw3)), (o4, .inl (cI, 12, .inl fw5)), (o6, .inl (cI, 8, .inl fw7))]) s.heap.size = A at hD ⊢
  have hA : ∀ q : Nat, s.heap.size ≤ q → A q := fun q h => by rw [← hAe]; exact Or.inr h
  have hS : va_S A s.heap s.heap [] := va_S.rf
  have hP : va_P (dC, dI) vwCl ([(o1, .inr (0, [.ref o2, .ref o4, .ref o6, .int v8, .int v9, .int v10, .int v11, .int v12])), (o2, .inl (cI, 256, .inl fw3)), (o4, .inl (cI, 12, .inl fw5)), (o6, .inl (cI, 8, .inl fw7))]) s.heap := hP
  have hl := lv_entry ([.ref o1, .int a1, .int 0]) (n := 5) (Nat.le_of_ble_eq_true rfl)
  rw [lg_entry_eq]
  generalize (lg_sl ([.ref o1, .int a1, .int 0]) ++ List.replicate (5 - (lg_sl ([.ref o1, .int a1, .int 0])).length) Slot.unset).toArray = ls at hl ⊢
  have hl : lv_has ls 5 [(0, .ref o1), (1, .int a1), (2, .int 0)] := hl
  refine gen_Q (fun Q hQ => ?_)
  refine lv_iload_n hx hb dX0_seatsRest_0 rfl (lv_at hl 2 rfl) ?_
  refine lv_aload_n hx hb dX0_seatsRest_1 rfl (lv_at hl 0 rfl) ?_
  refine va_get (D := (dC, dI)) (ci := 0) (v := .int v9) (C := RX0) (T := TX0) (N := 8) hx hb hts iw_X0_seatsRest_X0 hown hK hP 0 rfl rfl 4 (by decide) (hts (.fieldLink RX0 25 "HolelessHouse$Benches" "width" "I") hm_X0_seatsRest_1) (fun _ h9 => h9) rfl dX0_seatsRest_2 ?_
  refine lv_icmp_lt (tgt := 10) hx hb dX0_seatsRest_5 (by decide) (fun h1 => ?_) (fun h1 => ?_)
  ·
    have qh1 := lt_i h1
    have j2 : Iv 1 8 v9 := r_ltr qh1 ik_0 v9_h (by decide)
    refine lv_aload_n hx hb dX0_seatsRest_10 rfl (lv_at hl 0 rfl) ?_
    refine va_get (D := (dC, dI)) (ci := 0) (v := .ref o2) (C := RX0) (T := TX0) (N := 8) hx hb hts iw_X0_seatsRest_X0 hown hK hP 0 rfl rfl 0 (by decide) (hts (.fieldLink RX0 38 "HolelessHouse$Benches" "notes" "[I") hm_X0_seatsRest_2) (fun _ h9 => h9) rfl dX0_seatsRest_11 ?_
    refine lv_iload_n hx hb dX0_seatsRest_14 rfl (lv_at hl 1 rfl) ?_
    refine va_iald hx hb hK hP 1 0 rfl rfl (vin_iv a1_h (by decide)) dX0_seatsRest_15 (lv_topi (fun x3 x3_e => ?_))
    refine lv_iconst (v := 1) hx hb dX0_seatsRest_16 (by decide) ?_
    refine lv_icmp_ne (tgt := 22) hx hb dX0_seatsRest_17 (by decide) (fun h4 => ?_) (fun h4 => ?_)
    ·
      refine lv_aload_n hx hb dX0_seatsRest_22 rfl (lv_at hl 0 rfl) ?_
      refine lv_iload_n hx hb dX0_seatsRest_23 rfl (lv_at hl 1 rfl) ?_
      refine kc_i (D := (dC, dI)) (S := Unit) (wc := [(o1, .inr (0, [.ref o2, .ref o4, .ref o6, .int v8, .int v9, .int v10, .int v11, .int v12])), (o4, .inl (cI, 12, .inl fw5))]) (wr := [(o2, .inl (cI, 256, .inl fw3)), (o6, .inl (cI, 8, .inl fw7))]) (w1 := fun _ => [(o1, .inr (0, [.ref o2, .ref o4, .ref o6, .int v8, .int v9, .int v10, .int v11, .int v12])), (o4, .inl (cI, 12, .inl fw5))]) (wn := fun _ => [(o1, .inr (0, [.ref o2, .ref o4, .ref o6, .int v8, .int v9, .int v10, .int v11, .int v12])), (o2, .inl (cI, 256, .inl fw3)), (o4, .inl (cI, 12, .inl fw5)), (o6, .inl (cI, 8, .inl fw7))]) (fun hPc hDc => va_runV (As := [.int a1]) (rest := []) ⟨hx, hb, hml, hown, hts⟩ (kX0_mayCome_2 l dC dI cI c2 cZ o1 o2 o4 o6 fw5 v8 v9 v10 v11 v12 a1 s.heap.size v8_h (iv_w j2 (by decide)) v11_h a1_h) (cwV 1 hts gX0_seatsRest_X0_mayCome rfl rfl rfl (by decide +kernel) ⟨Nat.le_of_ble_eq_true rfl, Nat.le_of_ble_eq_true rfl⟩) (pre_V hPc hK hDc hN (ci := 0) (q0 := 0) rfl rfl) rfl rfl hl.1 rfl (lv_room (Nat.le_of_ble_eq_true rfl)) dX0_seatsRest_24 ⟨Nat.le_of_ble_eq_true rfl, Nat.le_of_ble_eq_true rfl⟩) hP hD hS hA [0, 2] [1, 3] [2, 0, 3, 1] rfl rfl (by decide +kernel) (by decide +kernel) (by decide +kernel) (by decide +kernel) (fun _ => rfl) (fun x5 _ H locs hq hP hD hS => ?_)
      have x5_h := hq
      have hP : va_P (dC, dI) vwCl ([(o1, .inr (0, [.ref o2, .ref o4, .ref o6, .int v8, .int v9, .int v10, .int v11, .int v12])), (o2, .inl (cI, 256, .inl fw3)), (o4, .inl (cI, 12, .inl fw5)), (o6, .inl (cI, 8, .inl fw7))]) H := hP
      have hD : va_D A ([(o1, .inr (0, [.ref o2, .ref o4, .ref o6, .int v8, .int v9, .int v10, .int v11, .int v12])), (o2, .inl (cI, 256, .inl fw3)), (o4, .inl (cI, 12, .inl fw5)), (o6, .inl (cI, 8, .inl fw7))]) := hD
      refine lv_istore_n (lv' := [(3, .int x5), (0, .ref o1), (1, .int a1), (2, .int 0)]) hx hb dX0_seatsRest_27 rfl hl (by decide) rfl (fun ls hl => ?_)
      refine lv_iconst (v := 0) hx hb dX0_seatsRest_28 (by decide) ?_
      refine lv_istore (lv' := [(4, .int 0), (3, .int x5), (0, .ref o1), (1, .int a1), (2, .int 0)]) hx hb dX0_seatsRest_29 hl (by decide) rfl (fun ls hl => ?_)
      have L1 : ∀ (N : Nat) (x123 : Int32) (f124 : Nat → Int32) (f125 : Nat → Int32) (H : Heap) (locs : List Loc) (ls : Array Slot), (8 - x123.toInt).toNat < N → Iv 0 8 x123 → va_P (dC, dI) vwCl ([(o1, .inr (0, [.ref o2, .ref o4, .ref o6, .int v8, .int v9, .int v10, .int v11, .int v12])), (o2, .inl (cI, 256, .inl f124)), (o4, .inl (cI, 12, .inl fw5)), (o6, .inl (cI, 8, .inl f125))]) H → va_D A ([(o1, .inr (0, [.ref o2, .ref o4, .ref o6, .int v8, .int v9, .int v10, .int v11, .int v12])), (o2, .inl (cI, 256, .inl f124)), (o4, .inl (cI, 12, .inl fw5)), (o6, .inl (cI, 8, .inl f125))]) → va_S A s.heap H locs → lv_has ls 5 [(4, .int x123), (3, .int x5), (0, .ref o1), (1, .int a1), (2, .int 0)] → W p l e ({ frames := 8, cells := 0, slots := 0, locals := 192 }) s m ([.ref o1, .int a1, .int 0] : List Value).toArray below meth c H locs 0 0 Q (F0 m 31 ls []) := by
        intro N
        induction N with
        | zero =>
          intro x123 f124 f125 H locs ls hM
          exact absurd hM (Nat.not_lt_zero _)
        | succ N ih1 =>
          intro x123 f124 f125 H locs ls hM1 x123_h hP hD hS hl
          refine lv_iload hx hb dX0_seatsRest_31 (lv_at hl 0 rfl) ?_
          refine lv_aload_n hx hb dX0_seatsRest_33 rfl (lv_at hl 2 rfl) ?_
          refine va_get (D := (dC, dI)) (ci := 0) (v := .int v9) (C := RX0) (T := TX0) (N := 8) hx hb hts iw_X0_seatsRest_X0 hown hK hP 0 rfl rfl 4 (by decide) (hts (.fieldLink RX0 25 "HolelessHouse$Benches" "width" "I") hm_X0_seatsRest_1) (fun _ h9 => h9) rfl dX0_seatsRest_34 ?_
          refine lv_icmp_ge (tgt := 81) hx hb dX0_seatsRest_37 (by decide) (fun h126 => ?_) (fun h126 => ?_)
          ·
            have qh126 := le_i h126
            have j127 : Iv 1 8 x123 := r_ler qh126 j2 x123_h (by decide)
            refine lv_aload_n hx hb dX0_seatsRest_81 rfl (lv_at hl 2 rfl) ?_
            refine va_get (D := (dC, dI)) (ci := 0) (v := .ref o2) (C := RX0) (T := TX0) (N := 8) hx hb hts iw_X0_seatsRest_X0 hown hK hP 0 rfl rfl 0 (by decide) (hts (.fieldLink RX0 38 "HolelessHouse$Benches" "notes" "[I") hm_X0_seatsRest_2) (fun _ h9 => h9) rfl dX0_seatsRest_82 ?_
            refine lv_iload_n hx hb dX0_seatsRest_85 rfl (lv_at hl 3 rfl) ?_
            refine lv_iconst (v := 1) hx hb dX0_seatsRest_86 (by decide) ?_
            refine k_iast hx hb hK hP hD hS 1 0 rfl rfl (vin_iv a1_h (by decide)) dX0_seatsRest_87 (fun f128 H locs f128_e hP hD hS => ?_)
            have hP : va_P (dC, dI) vwCl ([(o1, .inr (0, [.ref o2, .ref o4, .ref o6, .int v8, .int v9, .int v10, .int v11, .int v12])), (o2, .inl (cI, 256, .inl f128)), (o4, .inl (cI, 12, .inl fw5)), (o6, .inl (cI, 8, .inl f125))]) H := hP
            have hD : va_D A ([(o1, .inr (0, [.ref o2, .ref o4, .ref o6, .int v8, .int v9, .int v10, .int v11, .int v12])), (o2, .inl (cI, 256, .inl f128)), (o4, .inl (cI, 12, .inl fw5)), (o6, .inl (cI, 8, .inl f125))]) := hD
            refine lv_iconst (v := 0) hx hb dX0_seatsRest_88 (by decide) ?_
            rw [hQ]
            exact W.zret (v := 0) (ty := .boolean) hx hb hr rfl (fun t ht hW => ⟨⟨0, (f128, f125), rfl, (iv_w ik_0 (by decide)), by rw [ht]; exact hP, va_K.moved hW.alike hK, hD⟩, hS.F ht⟩) hS.2.2 dX0_seatsRest_89
          ·
            have qh126 := nle_i h126
            have j129 : Iv 0 7 x123 := r_ltl qh126 x123_h j2 (by decide)
            refine lv_iload_n hx hb dX0_seatsRest_40 rfl (lv_at hl 1 rfl) ?_
            refine lv_iload hx hb dX0_seatsRest_41 (lv_at hl 0 rfl) ?_
            refine kc_i (D := (dC, dI)) (S := Unit) (wc := []) (wr := [(o1, .inr (0, [.ref o2, .ref o4, .ref o6, .int v8, .int v9, .int v10, .int v11, .int v12])), (o2, .inl (cI, 256, .inl f124)), (o4, .inl (cI, 12, .inl fw5)), (o6, .inl (cI, 8, .inl f125))]) (w1 := fun _ => []) (wn := fun _ => [(o1, .inr (0, [.ref o2, .ref o4, .ref o6, .int v8, .int v9, .int v10, .int v11, .int v12])), (o2, .inl (cI, 256, .inl f124)), (o4, .inl (cI, 12, .inl fw5)), (o6, .inl (cI, 8, .inl f125))]) (fun hPc hDc => va_runSN (As := [.int x5, .int x123]) (rest := []) ⟨hx, hb, hml, hown, hts⟩ (kX11_in_1 l dC dI cI c2 cZ x5 x123 H.size) ⟨va_cnB 2 hts gX0_seatsRest_X11_in_n62 rfl rfl rfl (hN.1 _ ns_125) (hts (.initialized RX11) hm_X0_seatsRest_12) (by decide +kernel) ⟨Nat.le_of_ble_eq_true rfl, Nat.le_of_ble_eq_true rfl⟩, (hts (.static yX11_in) hm_X0_seatsRest_11), trivial⟩ (pre_S hPc hK hDc hN) rfl rfl hl.1 rfl (lv_room (Nat.le_of_ble_eq_true rfl)) dX0_seatsRest_43 ⟨Nat.le_of_ble_eq_true rfl, Nat.le_of_ble_eq_true rfl⟩) hP hD hS hA [] [0, 1, 2, 3] [0, 1, 2, 3] rfl rfl (by decide +kernel) (by decide +kernel) (by decide +kernel) (by decide +kernel) (fun _ => rfl) (fun x130 _ H locs hq hP hD hS => ?_)
            have x130_h := hq
            have hP : va_P (dC, dI) vwCl ([(o1, .inr (0, [.ref o2, .ref o4, .ref o6, .int v8, .int v9, .int v10, .int v11, .int v12])), (o2, .inl (cI, 256, .inl f124)), (o4, .inl (cI, 12, .inl fw5)), (o6, .inl (cI, 8, .inl f125))]) H := hP
            have hD : va_D A ([(o1, .inr (0, [.ref o2, .ref o4, .ref o6, .int v8, .int v9, .int v10, .int v11, .int v12])), (o2, .inl (cI, 256, .inl f124)), (o4, .inl (cI, 12, .inl fw5)), (o6, .inl (cI, 8, .inl f125))]) := hD
            refine lv_if_eq (tgt := 75) hx hb dX0_seatsRest_46 (by decide) (fun h131 => ?_) (fun h131 => ?_)
            ·
              have j132 : Iv 0 0 x130 := r_eq h131 ik_0
              obtain ⟨x133, x133_e⟩ : ∃ z : Int32, z = x123 + 1 := ⟨_, rfl⟩
              have x133_h : Iv 1 8 x133 := iv_e x133_e (iv_add j129 ik_1 (by decide))
              refine lv_iinc (v := x133) (lv' := [(4, .int x133), (3, .int x5), (0, .ref o1), (1, .int a1), (2, .int 0)]) hx hb dX0_seatsRest_75 hl (k := 0) rfl (incN (by decide +kernel) x133_e) (by decide) rfl (fun ls hl => ?_)
              refine lv_goto (tgt := 31) hx hb dX0_seatsRest_78 (by decide) ?_
              exact ih1 x133 f124 f125 _ _ _ (ms_up x133_e j129 (by decide) hM1) (iv_w x133_h (by decide)) hP hD hS hl
            ·
              have j134 : Iv 1 1 x130 := r_nelo h131 x130_h ik_0 (by decide)
              refine lv_aload_n hx hb dX0_seatsRest_49 rfl (lv_at hl 2 rfl) ?_
              refine va_get (D := (dC, dI)) (ci := 0) (v := .ref o6) (C := RX0) (T := TX0) (N := 8) hx hb hts iw_X0_seatsRest_X0 hown hK hP 0 rfl rfl 2 (by decide) (hts (.fieldLink RX0 41 "HolelessHouse$Benches" "places" "[I") hm_X0_seatsRest_3) (fun _ h9 => h9) rfl dX0_seatsRest_50 ?_
              refine lv_iload_n hx hb dX0_seatsRest_53 rfl (lv_at hl 4 rfl) ?_
              refine lv_iload hx hb dX0_seatsRest_54 (lv_at hl 0 rfl) ?_
              refine k_iast hx hb hK hP hD hS 3 0 rfl rfl (vin_iv ik_0 (by decide)) dX0_seatsRest_56 (fun f135 H locs f135_e hP hD hS => ?_)
              have hP : va_P (dC, dI) vwCl ([(o1, .inr (0, [.ref o2, .ref o4, .ref o6, .int v8, .int v9, .int v10, .int v11, .int v12])), (o2, .inl (cI, 256, .inl f124)), (o4, .inl (cI, 12, .inl fw5)), (o6, .inl (cI, 8, .inl f135))]) H := hP
              have hD : va_D A ([(o1, .inr (0, [.ref o2, .ref o4, .ref o6, .int v8, .int v9, .int v10, .int v11, .int v12])), (o2, .inl (cI, 256, .inl f124)), (o4, .inl (cI, 12, .inl fw5)), (o6, .inl (cI, 8, .inl f135))]) := hD
              refine lv_aload_n hx hb dX0_seatsRest_57 rfl (lv_at hl 2 rfl) ?_
              refine lv_iload_n hx hb dX0_seatsRest_58 rfl (lv_at hl 3 rfl) ?_
              refine lv_iconst (v := 1) hx hb dX0_seatsRest_59 (by decide) ?_
              refine lv_iload hx hb dX0_seatsRest_60 (lv_at hl 0 rfl) ?_
              refine lv_ishl hx hb dX0_seatsRest_62 (lv_topi (fun x136 x136_e => ?_))
              have x136_h : Iv 1 128 x136 := iv_e x136_e (iv_shl1 j129 (by decide))
              refine lv_ior hx hb dX0_seatsRest_63 (lv_topi (fun x137 x137_e => ?_))
              have x137_h : Iv 0 255 x137 := iv_e x137_e (iv_or 8 a1_h x136_h (by decide))
              refine lv_iload_n hx hb dX0_seatsRest_64 rfl (lv_at hl 4 rfl) ?_
              refine lv_iconst (v := 1) hx hb dX0_seatsRest_65 (by decide) ?_
              refine lv_iadd hx hb dX0_seatsRest_66 (tk_i (v := 1) (by decide +kernel) ?_)
              refine kc_i (D := (dC, dI)) (S := (Nat → Int32) × (Nat → Int32)) (wc := [(o1, .inr (0, [.ref o2, .ref o4, .ref o6, .int v8, .int v9, .int v10, .int v11, .int v12])), (o2, .inl (cI, 256, .inl f124)), (o4, .inl (cI, 12, .inl fw5)), (o6, .inl (cI, 8, .inl f135))]) (wr := []) (w1 := fun u => [(o1, .inr (0, [.ref o2, .ref o4, .ref o6, .int v8, .int v9, .int v10, .int v11, .int v12])), (o2, .inl (cI, 256, .inl u.1)), (o4, .inl (cI, 12, .inl fw5)), (o6, .inl (cI, 8, .inl u.2))]) (wn := fun u => [(o1, .inr (0, [.ref o2, .ref o4, .ref o6, .int v8, .int v9, .int v10, .int v11, .int v12])), (o2, .inl (cI, 256, .inl u.1)), (o4, .inl (cI, 12, .inl fw5)), (o6, .inl (cI, 8, .inl u.2))]) (fun hPc hDc => va_runS (As := [.ref o1, .int x137, .int 1]) (rest := []) ⟨hx, hb, hml, hown, hts⟩ (kX0_seatsRest_21 l dC dI cI c2 cZ o1 o2 o4 o6 f124 fw5 f135 v8 v9 v10 v11 v12 x137 H.size v8_h (iv_w j2 (by decide)) v11_h x137_h) (va_cwS 3 hts gX0_seatsRest_X0_seatsRest rfl rfl rfl (by decide +kernel) ⟨Nat.le_of_ble_eq_true rfl, Nat.le_of_ble_eq_true rfl⟩) (pre_S hPc hK hDc hN) rfl rfl hl.1 rfl (lv_room (Nat.le_of_ble_eq_true rfl)) dX0_seatsRest_67 ⟨Nat.le_of_ble_eq_true rfl, Nat.le_of_ble_eq_true rfl⟩) hP hD hS hA [0, 1, 2, 3] [] [0, 1, 2, 3] rfl rfl (by decide +kernel) (by decide +kernel) (by decide +kernel) (by decide +kernel) (fun _ => rfl) (fun x140 u H locs hq hP hD hS => ?_)
              obtain ⟨f138, f139⟩ := u
              have x140_h := hq
              have hP : va_P (dC, dI) vwCl ([(o1, .inr (0, [.ref o2, .ref o4, .ref o6, .int v8, .int v9, .int v10, .int v11, .int v12])), (o2, .inl (cI, 256, .inl f138)), (o4, .inl (cI, 12, .inl fw5)), (o6, .inl (cI, 8, .inl f139))]) H := hP
              have hD : va_D A ([(o1, .inr (0, [.ref o2, .ref o4, .ref o6, .int v8, .int v9, .int v10, .int v11, .int v12])), (o2, .inl (cI, 256, .inl f138)), (o4, .inl (cI, 12, .inl fw5)), (o6, .inl (cI, 8, .inl f139))]) := hD
              refine lv_if_eq (tgt := 75) hx hb dX0_seatsRest_70 (by decide) (fun h141 => ?_) (fun h141 => ?_)
              ·
                have j142 : Iv 0 0 x140 := r_eq h141 ik_0
                obtain ⟨x143, x143_e⟩ : ∃ z : Int32, z = x123 + 1 := ⟨_, rfl⟩
                have x143_h : Iv 1 8 x143 := iv_e x143_e (iv_add j129 ik_1 (by decide))
                refine lv_iinc (v := x143) (lv' := [(4, .int x143), (3, .int x5), (0, .ref o1), (1, .int a1), (2, .int 0)]) hx hb dX0_seatsRest_75 hl (k := 0) rfl (incN (by decide +kernel) x143_e) (by decide) rfl (fun ls hl => ?_)
                refine lv_goto (tgt := 31) hx hb dX0_seatsRest_78 (by decide) ?_
                exact ih1 x143 f138 f139 _ _ _ (ms_up x143_e j129 (by decide) hM1) (iv_w x143_h (by decide)) hP hD hS hl
              ·
                have j144 : Iv 1 1 x140 := r_nelo h141 x140_h ik_0 (by decide)
                refine lv_iconst (v := 1) hx hb dX0_seatsRest_73 (by decide) ?_
                rw [hQ]
                exact W.zret (v := 1) (ty := .boolean) hx hb hr rfl (fun t ht hW => ⟨⟨1, (f138, f139), rfl, (iv_w ik_1 (by decide)), by rw [ht]; exact hP, va_K.moved hW.alike hK, hD⟩, hS.F ht⟩) hS.2.2 dX0_seatsRest_74
      exact L1 _ 0 fw3 fw7 _ _ _ (Nat.lt_succ_self _) (iv_w ik_0 (by decide)) hP hD hS hl
    ·
      have j145 : Iv 1 1 x3 := r_eq h4 ik_1
      refine lv_iconst (v := 0) hx hb dX0_seatsRest_20 (by decide) ?_
      rw [hQ]
      exact W.zret (v := 0) (ty := .boolean) hx hb hr rfl (fun t ht hW => ⟨⟨0, (fw3, fw7), rfl, (iv_w ik_0 (by decide)), by rw [ht]; exact hP, va_K.moved hW.alike hK, hD⟩, hS.F ht⟩) hS.2.2 dX0_seatsRest_21
  ·
    have qh1 := nlt_i h1
    have j146 : Iv 0 0 v9 := r_lel qh1 v9_h ik_0 (by decide)
    refine lv_iconst (v := 1) hx hb dX0_seatsRest_8 (by decide) ?_
    rw [hQ]
    exact W.zret (v := 1) (ty := .boolean) hx hb hr rfl (fun t ht hW => ⟨⟨1, (fw3, fw7), rfl, (iv_w ik_1 (by decide)), by rw [ht]; exact hP, va_K.moved hW.alike hK, hD⟩, hS.F ht⟩) hS.2.2 dX0_seatsRest_9
set_option maxHeartbeats 4000000 in
set_option maxRecDepth 100000 in
theorem kX0_findFirst_2 (l : Launch) (dC : Nat → ClassId) (dI : Nat → Nat → Nat) (cI c2 cZ : ClassId) (o1 : Nat) (o2 : Nat) (o4 : Nat) (o6 : Nat) (fw3 : Nat → Int32) (fw5 : Nat → Int32) (fw7 : Nat → Int32) (v8 : Int32) (v9 : Int32) (v10 : Int32) (v11 : Int32) (v12 : Int32) (sz : Nat) (v8_h : Iv 0 12 v8) (v9_h : Iv 0 8 v9) (v11_h : Iv 0 1 v11) : Met l yX0_findFirst wsX0_findFirst ({ frames := 9, cells := 0, slots := 0, locals := 216 }) (va_Pc [.ref o1] (wPre (dC, dI) [(cI, .int), (c2, .array .int), (cZ, .boolean)] ([(o1, .inr (0, [.ref o2, .ref o4, .ref o6, .int v8, .int v9, .int v10, .int v11, .int v12])), (o2, .inl (cI, 256, .inl fw3)), (o4, .inl (cI, 12, .inl fw5)), (o6, .inl (cI, 8, .inl fw7))]) sz)) (va_Qv (fun (u : Int32 × (Nat → Int32) × (Nat → Int32)) => Iv 0 1 u.1) (fun u t => wPost (dC, dI) [(cI, .int), (c2, .array .int), (cZ, .boolean)] (va_A ([(o1, .inr (0, [.ref o2, .ref o4, .ref o6, .int v8, .int v9, .int v10, .int v11, .int v12])), (o2, .inl (cI, 256, .inl fw3)), (o4, .inl (cI, 12, .inl fw5)), (o6, .inl (cI, 8, .inl fw7))]) sz) ([(o1, .inr (0, [.ref o2, .ref o4, .ref o6, .int v8, .int v9, .int v10, .int u.1, .int v12])), (o2, .inl (cI, 256, .inl u.2.1)), (o4, .inl (cI, 12, .inl fw5)), (o6, .inl (cI, 8, .inl u.2.2))]) t) (va_A ([(o1, .inr (0, [.ref o2, .ref o4, .ref o6, .int v8, .int v9, .int v10, .int v11, .int v12])), (o2, .inl (cI, 256, .inl fw3)), (o4, .inl (cI, 12, .inl fw5)), (o6, .inl (cI, 8, .inl fw7))]) sz)) 0 0 (va_A ([(o1, .inr (0, [.ref o2, .ref o4, .ref o6, .int v8, .int v9, .int v10, .int v11, .int v12])), (o2, .inl (cI, 256, .inl fw3)), (o4, .inl (cI, 12, .inl fw5)), (o6, .inl (cI, 8, .inl fw7))]) sz) := by
  refine Met.ofW (cc := cX0_findFirst) (maxL := 1) (ret := none) (by decide) rfl ?_
  intro p e s m args below meth c s₁ B hml hv
  obtain ⟨rfl, hsz, hP, hK, hD0, hN⟩ := hv
  have hx := B.exec
  have hb := B.bytes
  have hr := B.returns
  have hts := atoms_spec (ws := wsX0_findFirst) B.pre
  have hown : s.vm.findClass RX0 = some m.cls := findClass_of_methodNamed B.named
  have hlocks := B.notSynchronized
  subst hsz
  have hD := hD0.self (sz := s.heap.size)
  generalize hAe : va_A ([(o1, .inr (0, [.ref o2, .ref o4, .ref o6, .int v8, .int v9, .int v10, .int v11, .int v12])), (o2, .inl (cI, 256, .inl fw3)), (o4, .inl (cI, 12, .inl fw5)), (o6, .inl (cI, 8, .inl fw7))]) s.heap.size = A at hD ⊢
  have hA : ∀ q : Nat, s.heap.size ≤ q → A q := fun q h => by rw [← hAe]; exact Or.inr h
  have hS : va_S A s.heap s.heap [] := va_S.rf
  have hP : va_P (dC, dI) vwCl ([(o1, .inr (0, [.ref o2, .ref o4, .ref o6, .int v8, .int v9, .int v10, .int v11, .int v12])), (o2, .inl (cI, 256, .inl fw3)), (o4, .inl (cI, 12, .inl fw5)), (o6, .inl (cI, 8, .inl fw7))]) s.heap := hP
  have hl := lv_entry ([.ref o1]) (n := 1) (Nat.le_of_ble_eq_true rfl)
  rw [lg_entry_eq]
  generalize (lg_sl ([.ref o1]) ++ List.replicate (1 - (lg_sl ([.ref o1])).length) Slot.unset).toArray = ls at hl ⊢
  have hl : lv_has ls 1 [(0, .ref o1)] := hl
  refine gen_Q (fun Q hQ => ?_)
  refine lv_aload_n hx hb dX0_findFirst_0 rfl (lv_at hl 0 rfl) ?_
  refine va_get (D := (dC, dI)) (ci := 0) (v := .ref o2) (C := RX0) (T := TX0) (N := 8) hx hb hts iw_X0_findFirst_X0 hown hK hP 0 rfl rfl 0 (by decide) (hts (.fieldLink RX0 38 "HolelessHouse$Benches" "notes" "[I") hm_X0_findFirst_1) (fun _ h9 => h9) rfl dX0_findFirst_1 ?_
  refine lv_iconst (v := 0) hx hb dX0_findFirst_4 (by decide) ?_
  refine lv_iconst (v := 1) hx hb dX0_findFirst_5 (by decide) ?_
  refine lv_aload_n hx hb dX0_findFirst_6 rfl (lv_at hl 0 rfl) ?_
  refine va_get (D := (dC, dI)) (ci := 0) (v := .int v9) (C := RX0) (T := TX0) (N := 8) hx hb hts iw_X0_findFirst_X0 hown hK hP 0 rfl rfl 4 (by decide) (hts (.fieldLink RX0 25 "HolelessHouse$Benches" "width" "I") hm_X0_findFirst_2) (fun _ h9 => h9) rfl dX0_findFirst_7 ?_
  refine lv_ishl hx hb dX0_findFirst_10 (lv_topi (fun x1 x1_e => ?_))
  have x1_h : Iv 1 256 x1 := iv_e x1_e (iv_shl1 v9_h (by decide))
  refine lv_iconst (v := 0) hx hb dX0_findFirst_11 (by decide) ?_
  refine kc_v (D := (dC, dI)) (S := (Nat → Int32)) (wc := [(o2, .inl (cI, 256, .inl fw3))]) (wr := [(o1, .inr (0, [.ref o2, .ref o4, .ref o6, .int v8, .int v9, .int v10, .int v11, .int v12])), (o4, .inl (cI, 12, .inl fw5)), (o6, .inl (cI, 8, .inl fw7))]) (w1 := fun u => [(o2, .inl (cI, 256, .inl u))]) (wn := fun u => [(o1, .inr (0, [.ref o2, .ref o4, .ref o6, .int v8, .int v9, .int v10, .int v11, .int v12])), (o2, .inl (cI, 256, .inl u)), (o4, .inl (cI, 12, .inl fw5)), (o6, .inl (cI, 8, .inl fw7))]) (fun hPc hDc => va_runS (As := [.ref o2, .int 0, .int x1, .int 0]) (rest := []) ⟨hx, hb, hml, hown, hts⟩ (kJ7_fill_fda19_3 l dC dI cI c2 cZ o2 fw3 0 x1 0 s.heap.size ik_0 x1_h ik_0) (va_cwS 4 hts gX0_findFirst_J7_fill_fda19 rfl rfl rfl (by decide +kernel) ⟨Nat.le_of_ble_eq_true rfl, Nat.le_of_ble_eq_true rfl⟩) (pre_S hPc hK hDc hN) rfl rfl hl.1 rfl (lv_room (Nat.le_of_ble_eq_true rfl)) dX0_findFirst_12 ⟨Nat.le_of_ble_eq_true rfl, Nat.le_of_ble_eq_true rfl⟩) hP hD hS hA [1] [0, 2, 3] [0, 3, 1, 2] rfl rfl (by decide +kernel) (by decide +kernel) (by decide +kernel) (by decide +kernel) (fun _ => rfl) (fun f2 H locs hq hP hD hS => ?_)
  have hP : va_P (dC, dI) vwCl ([(o1, .inr (0, [.ref o2, .ref o4, .ref o6, .int v8, .int v9, .int v10, .int v11, .int v12])), (o2, .inl (cI, 256, .inl f2)), (o4, .inl (cI, 12, .inl fw5)), (o6, .inl (cI, 8, .inl fw7))]) H := hP
  have hD : va_D A ([(o1, .inr (0, [.ref o2, .ref o4, .ref o6, .int v8, .int v9, .int v10, .int v11, .int v12])), (o2, .inl (cI, 256, .inl f2)), (o4, .inl (cI, 12, .inl fw5)), (o6, .inl (cI, 8, .inl fw7))]) := hD
  refine lv_aload_n hx hb dX0_findFirst_15 rfl (lv_at hl 0 rfl) ?_
  refine lv_aload_n hx hb dX0_findFirst_16 rfl (lv_at hl 0 rfl) ?_
  refine lv_iconst (v := 0) hx hb dX0_findFirst_17 (by decide) ?_
  refine lv_iconst (v := 0) hx hb dX0_findFirst_18 (by decide) ?_
  refine kc_i (D := (dC, dI)) (S := (Nat → Int32) × (Nat → Int32)) (wc := [(o1, .inr (0, [.ref o2, .ref o4, .ref o6, .int v8, .int v9, .int v10, .int v11, .int v12])), (o2, .inl (cI, 256, .inl f2)), (o4, .inl (cI, 12, .inl fw5)), (o6, .inl (cI, 8, .inl fw7))]) (wr := []) (w1 := fun u => [(o1, .inr (0, [.ref o2, .ref o4, .ref o6, .int v8, .int v9, .int v10, .int v11, .int v12])), (o2, .inl (cI, 256, .inl u.1)), (o4, .inl (cI, 12, .inl fw5)), (o6, .inl (cI, 8, .inl u.2))]) (wn := fun u => [(o1, .inr (0, [.ref o2, .ref o4, .ref o6, .int v8, .int v9, .int v10, .int v11, .int v12])), (o2, .inl (cI, 256, .inl u.1)), (o4, .inl (cI, 12, .inl fw5)), (o6, .inl (cI, 8, .inl u.2))]) (fun hPc hDc => va_runS (As := [.ref o1, .int 0, .int 0]) (rest := [.ref o1]) ⟨hx, hb, hml, hown, hts⟩ (kX0_seatsRest_22 l dC dI cI c2 cZ o1 o2 o4 o6 f2 fw5 fw7 v8 v9 v10 v11 v12 0 H.size v8_h v9_h v11_h (iv_w ik_0 (by decide))) (va_cwS 3 hts gX0_findFirst_X0_seatsRest rfl rfl rfl (by decide +kernel) ⟨Nat.le_of_ble_eq_true rfl, Nat.le_of_ble_eq_true rfl⟩) (pre_S hPc hK hDc hN) rfl rfl hl.1 rfl (lv_room (Nat.le_of_ble_eq_true rfl)) dX0_findFirst_19 ⟨Nat.le_of_ble_eq_true rfl, Nat.le_of_ble_eq_true rfl⟩) hP hD hS hA [0, 1, 2, 3] [] [0, 1, 2, 3] rfl rfl (by decide +kernel) (by decide +kernel) (by decide +kernel) (by decide +kernel) (fun _ => rfl) (fun x5 u H locs hq hP hD hS => ?_)
  obtain ⟨f3, f4⟩ := u
  have x5_h := hq
  have hP : va_P (dC, dI) vwCl ([(o1, .inr (0, [.ref o2, .ref o4, .ref o6, .int v8, .int v9, .int v10, .int v11, .int v12])), (o2, .inl (cI, 256, .inl f3)), (o4, .inl (cI, 12, .inl fw5)), (o6, .inl (cI, 8, .inl f4))]) H := hP
  have hD : va_D A ([(o1, .inr (0, [.ref o2, .ref o4, .ref o6, .int v8, .int v9, .int v10, .int v11, .int v12])), (o2, .inl (cI, 256, .inl f3)), (o4, .inl (cI, 12, .inl fw5)), (o6, .inl (cI, 8, .inl f4))]) := hD
  refine va_put (D := (dC, dI)) (ci := 0) (v := .int x5) (ty := .boolean) (C := RX0) (T := TX0) (N := 8) hx hb hts iw_X0_findFirst_X0 tyX0 tyX0_ok nmX0 hown hK hP hD hS 0 rfl rfl 6 (by decide) (hts (.fieldLink RX0 31 "HolelessHouse$Benches" "seated" "Z") hm_X0_findFirst_3) (fun _ h9 => h9) rfl (by decide +kernel) (nar_z x5_h) (fit_z x5_h) (Nat.le_of_ble_eq_true rfl) dX0_findFirst_22 (fun H locs hP hD hS => ?_)
  have hP : va_P (dC, dI) vwCl ([(o1, .inr (0, [.ref o2, .ref o4, .ref o6, .int v8, .int v9, .int v10, .int x5, .int v12])), (o2, .inl (cI, 256, .inl f3)), (o4, .inl (cI, 12, .inl fw5)), (o6, .inl (cI, 8, .inl f4))]) H := hP
  have hD : va_D A ([(o1, .inr (0, [.ref o2, .ref o4, .ref o6, .int v8, .int v9, .int v10, .int x5, .int v12])), (o2, .inl (cI, 256, .inl f3)), (o4, .inl (cI, 12, .inl fw5)), (o6, .inl (cI, 8, .inl f4))]) := hD
  rw [hQ]
  exact W.vret hx hb hr (fun t ht hW => ⟨⟨(x5, f3, f4), rfl, x5_h, by rw [ht]; exact hP, va_K.moved hW.alike hK, hD⟩, hS.F ht⟩) hS.2.2 dX0_findFirst_25
theorem iw_X0_countWays_X0 : ∀ w ∈ wsX00, w ∈ wsX0_countWays := fun _ h => List.mem_cons.mpr (Or.inr (List.mem_append.mpr (Or.inr h)))
set_option maxHeartbeats 4000000 in
set_option maxRecDepth 100000 in
theorem kX0_countWays_1 (l : Launch) (dC : Nat → ClassId) (dI : Nat → Nat → Nat) (cI c2 cZ : ClassId) (o1 : Nat) (o2 : Nat) (o4 : Nat) (o6 : Nat) (fw3 : Nat → Int32) (fw5 : Nat → Int32) (v8 : Int32) (v9 : Int32) (v10 : Int32) (v11 : Int32) (v12 : Int32) (sz : Nat) (v8_h : Iv 0 12 v8) (v9_h : Iv 0 8 v9) (v11_h : Iv 0 1 v11) : Met l yX0_countWays wsX0_countWays ({ frames := 2, cells := 0, slots := 0, locals := 46 }) (va_Pc [.ref o1] (wPre (dC, dI) [(cI, .int), (c2, .array .int), (cZ, .boolean)] ([(o1, .inr (0, [.ref o2, .ref o4, .ref o6, .int v8, .int v9, .int v10, .int v11, .int v12])), (o2, .inl (cI, 256, .inl fw3)), (o4, .inl (cI, 12, .inl fw5))]) sz)) (va_Qv (fun (u : Int32 × (Nat → Int32)) => True) (fun u t => wPost (dC, dI) [(cI, .int), (c2, .array .int), (cZ, .boolean)] (va_A ([(o1, .inr (0, [.ref o2, .ref o4, .ref o6, .int v8, .int v9, .int v10, .int v11, .int v12])), (o2, .inl (cI, 256, .inl fw3)), (o4, .inl (cI, 12, .inl fw5))]) sz) ([(o1, .inr (0, [.ref o2, .ref o4, .ref o6, .int v8, .int v9, .int u.1, .int v11, .int v12])), (o2, .inl (cI, 256, .inl u.2)), (o4, .inl (cI, 12, .inl fw5))]) t) (va_A ([(o1, .inr (0, [.ref o2, .ref o4, .ref o6, .int v8, .int v9, .int v10, .int v11, .int v12])), (o2, .inl (cI, 256, .inl fw3)), (o4, .inl (cI, 12, .inl fw5))]) sz)) 0 0 (va_A ([(o1, .inr (0, [.ref o2, .ref o4, .ref o6, .int v8, .int v9, .int v10, .int v11, .int v12])), (o2, .inl (cI, 256, .inl fw3)), (o4, .inl (cI, 12, .inl fw5))]) sz) := by
  refine Met.ofW (cc := cX0_countWays) (maxL := 5) (ret := none) (by decide) rfl ?_
  intro p e s m args below meth c s₁ B hml hv
  obtain ⟨rfl, hsz, hP, hK, hD0, hN⟩ := hv
  have hx := B.exec
  have hb := B.bytes
  have hr := B.returns
  have hts := atoms_spec (ws := wsX0_countWays) B.pre
  have hown : s.vm.findClass RX0 = some m.cls := findClass_of_methodNamed B.named
  have hlocks := B.notSynchronized
  subst hsz
  have hD := hD0.self (sz := s.heap.size)
  generalize hAe : va_A ([(o1, .inr (0, [.ref o2, .ref o4, .ref o6, .int v8, .int v9, .int v10, .int v11, .int v12])), (o2, .inl (cI, 256, .inl fw3)), (o4, .inl (cI, 12, .inl fw5))]) s.heap.size = A at hD ⊢
  have hA : ∀ q : Nat, s.heap.size ≤ q → A q := fun q h => by rw [← hAe]; exact Or.inr h
  have hS : va_S A s.heap s.heap [] := va_S.rf
  have hP : va_P (dC, dI) vwCl ([(o1, .inr (0, [.ref o2, .ref o4, .ref o6, .int v8, .int v9, .int v10, .int v11, .int v12])), (o2, .inl (cI, 256, .inl fw3)), (o4, .inl (cI, 12, .inl fw5))]) s.heap := hP
  have hl := lv_entry ([.ref o1]) (n := 5) (Nat.le_of_ble_eq_true rfl)
  rw [lg_entry_eq]
  generalize (lg_sl ([.ref o1]) ++ List.replicate (5 - (lg_sl ([.ref o1])).length) Slot.unset).toArray = ls at hl ⊢
  have hl : lv_has ls 5 [(0, .ref o1)] := hl
  refine gen_Q (fun Q hQ => ?_)
  refine lv_iconst (v := 1) hx hb dX0_countWays_0 (by decide) ?_
  refine lv_aload_n hx hb dX0_countWays_1 rfl (lv_at hl 0 rfl) ?_
  refine va_get (D := (dC, dI)) (ci := 0) (v := .int v9) (C := RX0) (T := TX0) (N := 8) hx hb hts iw_X0_countWays_X0 hown hK hP 0 rfl rfl 4 (by decide) (hts (.fieldLink RX0 25 "HolelessHouse$Benches" "width" "I") hm_X0_countWays_1) (fun _ h9 => h9) rfl dX0_countWays_2 ?_
  refine lv_ishl hx hb dX0_countWays_5 (lv_topi (fun x1 x1_e => ?_))
  have x1_h : Iv 1 256 x1 := iv_e x1_e (iv_shl1 v9_h (by decide))
  refine lv_iconst (v := 1) hx hb dX0_countWays_6 (by decide) ?_
  refine lv_isub hx hb dX0_countWays_7 (lv_topi (fun x2 x2_e => ?_))
  have x2_h : Iv 0 255 x2 := iv_e x2_e (iv_sub x1_h ik_1 (by decide))
  refine lv_istore_n (lv' := [(1, .int x2), (0, .ref o1)]) hx hb dX0_countWays_8 rfl hl (by decide) rfl (fun ls hl => ?_)
  refine lv_aload_n hx hb dX0_countWays_9 rfl (lv_at hl 1 rfl) ?_
  refine va_get (D := (dC, dI)) (ci := 0) (v := .ref o2) (C := RX0) (T := TX0) (N := 8) hx hb hts iw_X0_countWays_X0 hown hK hP 0 rfl rfl 0 (by decide) (hts (.fieldLink RX0 38 "HolelessHouse$Benches" "notes" "[I") hm_X0_countWays_2) (fun _ h9 => h9) rfl dX0_countWays_10 ?_
  refine lv_iconst (v := 0) hx hb dX0_countWays_13 (by decide) ?_
  refine lv_iload_n hx hb dX0_countWays_14 rfl (lv_at hl 0 rfl) ?_
  refine lv_iconst (v := 1) hx hb dX0_countWays_15 (by decide) ?_
  refine lv_iadd hx hb dX0_countWays_16 (lv_topi (fun x3 x3_e => ?_))
  have x3_h : Iv 1 256 x3 := iv_e x3_e (iv_add x2_h ik_1 (by decide))
  refine lv_iconst (v := 0) hx hb dX0_countWays_17 (by decide) ?_
  refine kc_v (D := (dC, dI)) (S := (Nat → Int32)) (wc := [(o2, .inl (cI, 256, .inl fw3))]) (wr := [(o1, .inr (0, [.ref o2, .ref o4, .ref o6, .int v8, .int v9, .int v10, .int v11, .int v12])), (o4, .inl (cI, 12, .inl fw5))]) (w1 := fun u => [(o2, .inl (cI, 256, .inl u))]) (wn := fun u => [(o1, .inr (0, [.ref o2, .ref o4, .ref o6, .int v8, .int v9, .int v10, .int v11, .int v12])), (o2, .inl (cI, 256, .inl u)), (o4, .inl (cI, 12, .inl fw5))]) (fun hPc hDc => va_runS (As := [.ref o2, .int 0, .int x3, .int 0]) (rest := []) ⟨hx, hb, hml, hown, hts⟩ (kJ7_fill_fda19_3 l dC dI cI c2 cZ o2 fw3 0 x3 0 s.heap.size ik_0 x3_h ik_0) (va_cwS 4 hts gX0_countWays_J7_fill_fda19 rfl rfl rfl (by decide +kernel) ⟨Nat.le_of_ble_eq_true rfl, Nat.le_of_ble_eq_true rfl⟩) (pre_S hPc hK hDc hN) rfl rfl hl.1 rfl (lv_room (Nat.le_of_ble_eq_true rfl)) dX0_countWays_18 ⟨Nat.le_of_ble_eq_true rfl, Nat.le_of_ble_eq_true rfl⟩) hP hD hS hA [1] [0, 2] [0, 2, 1] rfl rfl (by decide +kernel) (by decide +kernel) (by decide +kernel) (by decide +kernel) (fun _ => rfl) (fun f4 H locs hq hP hD hS => ?_)
  have hP : va_P (dC, dI) vwCl ([(o1, .inr (0, [.ref o2, .ref o4, .ref o6, .int v8, .int v9, .int v10, .int v11, .int v12])), (o2, .inl (cI, 256, .inl f4)), (o4, .inl (cI, 12, .inl fw5))]) H := hP
  have hD : va_D A ([(o1, .inr (0, [.ref o2, .ref o4, .ref o6, .int v8, .int v9, .int v10, .int v11, .int v12])), (o2, .inl (cI, 256, .inl f4)), (o4, .inl (cI, 12, .inl fw5))]) := hD
  refine lv_aload_n hx hb dX0_countWays_21 rfl (lv_at hl 1 rfl) ?_
  refine va_get (D := (dC, dI)) (ci := 0) (v := .ref o2) (C := RX0) (T := TX0) (N := 8) hx hb hts iw_X0_countWays_X0 hown hK hP 0 rfl rfl 0 (by decide) (hts (.fieldLink RX0 38 "HolelessHouse$Benches" "notes" "[I") hm_X0_countWays_2) (fun _ h9 => h9) rfl dX0_countWays_22 ?_
  refine lv_iconst (v := 0) hx hb dX0_countWays_25 (by decide) ?_
  refine lv_iconst (v := 1) hx hb dX0_countWays_26 (by decide) ?_
  refine k_iast hx hb hK hP hD hS 1 0 rfl rfl (vin_iv ik_0 (by decide)) dX0_countWays_27 (fun f5 H locs f5_e hP hD hS => ?_)
  have hP : va_P (dC, dI) vwCl ([(o1, .inr (0, [.ref o2, .ref o4, .ref o6, .int v8, .int v9, .int v10, .int v11, .int v12])), (o2, .inl (cI, 256, .inl f5)), (o4, .inl (cI, 12, .inl fw5))]) H := hP
  have hD : va_D A ([(o1, .inr (0, [.ref o2, .ref o4, .ref o6, .int v8, .int v9, .int v10, .int v11, .int v12])), (o2, .inl (cI, 256, .inl f5)), (o4, .inl (cI, 12, .inl fw5))]) := hD
  refine lv_iconst (v := 0) hx hb dX0_countWays_28 (by decide) ?_
  refine lv_istore_n (lv' := [(2, .int 0), (1, .int x2), (0, .ref o1)]) hx hb dX0_countWays_29 rfl hl (by decide) rfl (fun ls hl => ?_)
  have L39 : ∀ (N : Nat) (x4578 : Int32) (f4579 : Nat → Int32) (H : Heap) (locs : List Loc) (ls : Array Slot), (255 - x4578.toInt).toNat < N → Iv 0 255 x4578 → va_P (dC, dI) vwCl ([(o1, .inr (0, [.ref o2, .ref o4, .ref o6, .int v8, .int v9, .int v10, .int v11, .int v12])), (o2, .inl (cI, 256, .inl f4579)), (o4, .inl (cI, 12, .inl fw5))]) H → va_D A ([(o1, .inr (0, [.ref o2, .ref o4, .ref o6, .int v8, .int v9, .int v10, .int v11, .int v12])), (o2, .inl (cI, 256, .inl f4579)), (o4, .inl (cI, 12, .inl fw5))]) → va_S A s.heap H locs → lv_has ls 5 [(2, .int x4578), (1, .int x2), (0, .ref o1)] → W p l e ({ frames := 2, cells := 0, slots := 0, locals := 46 }) s m ([.ref o1] : List Value).toArray below meth c H locs 0 0 Q (F0 m 30 ls []) := by
    intro N
    induction N with
    | zero =>
      intro x4578 f4579 H locs ls hM
      exact absurd hM (Nat.not_lt_zero _)
    | succ N ih39 =>
      intro x4578 f4579 H locs ls hM39 x4578_h hP hD hS hl
      refine lv_iload_n hx hb dX0_countWays_30 rfl (lv_at hl 0 rfl) ?_
      refine lv_iload_n hx hb dX0_countWays_31 rfl (lv_at hl 1 rfl) ?_
      refine lv_icmp_ge (tgt := 107) hx hb dX0_countWays_32 (by decide) (fun h4580 => ?_) (fun h4580 => ?_)
      ·
        have qh4580 := le_i h4580
        refine lv_aload_n hx hb dX0_countWays_107 rfl (lv_at hl 2 rfl) ?_
        refine lv_aload_n hx hb dX0_countWays_108 rfl (lv_at hl 2 rfl) ?_
        refine va_get (D := (dC, dI)) (ci := 0) (v := .ref o2) (C := RX0) (T := TX0) (N := 8) hx hb hts iw_X0_countWays_X0 hown hK hP 0 rfl rfl 0 (by decide) (hts (.fieldLink RX0 38 "HolelessHouse$Benches" "notes" "[I") hm_X0_countWays_2) (fun _ h9 => h9) rfl dX0_countWays_109 ?_
        refine lv_iload_n hx hb dX0_countWays_112 rfl (lv_at hl 1 rfl) ?_
        refine va_iald hx hb hK hP 1 0 rfl rfl (vin_iv x2_h (by decide)) dX0_countWays_113 (lv_topi (fun x4581 x4581_e => ?_))
        refine va_put (D := (dC, dI)) (ci := 0) (v := .int x4581) (ty := .int) (C := RX0) (T := TX0) (N := 8) hx hb hts iw_X0_countWays_X0 tyX0 tyX0_ok nmX0 hown hK hP hD hS 0 rfl rfl 5 (by decide) (hts (.fieldLink RX0 28 "HolelessHouse$Benches" "ways" "I") hm_X0_countWays_3) (fun _ h9 => h9) rfl (by decide +kernel) rfl rfl (Nat.le_of_ble_eq_true rfl) dX0_countWays_114 (fun H locs hP hD hS => ?_)
        have hP : va_P (dC, dI) vwCl ([(o1, .inr (0, [.ref o2, .ref o4, .ref o6, .int v8, .int v9, .int x4581, .int v11, .int v12])), (o2, .inl (cI, 256, .inl f4579)), (o4, .inl (cI, 12, .inl fw5))]) H := hP
        have hD : va_D A ([(o1, .inr (0, [.ref o2, .ref o4, .ref o6, .int v8, .int v9, .int x4581, .int v11, .int v12])), (o2, .inl (cI, 256, .inl f4579)), (o4, .inl (cI, 12, .inl fw5))]) := hD
        rw [hQ]
        exact W.vret hx hb hr (fun t ht hW => ⟨⟨(x4581, f4579), rfl, trivial, by rw [ht]; exact hP, va_K.moved hW.alike hK, hD⟩, hS.F ht⟩) hS.2.2 dX0_countWays_117
      ·
        have qh4580 := nle_i h4580
        have j4582 : Iv 0 254 x4578 := r_ltl qh4580 x4578_h x2_h (by decide)
        have j4583 : Iv 1 255 x2 := r_ltr qh4580 x4578_h x2_h (by decide)
        have j4584 : Iv 2 256 x1 := ivb_sub x2_e x1_h ik_1 j4583 (by decide)
        refine lv_aload_n hx hb dX0_countWays_35 rfl (lv_at hl 2 rfl) ?_
        refine va_get (D := (dC, dI)) (ci := 0) (v := .ref o2) (C := RX0) (T := TX0) (N := 8) hx hb hts iw_X0_countWays_X0 hown hK hP 0 rfl rfl 0 (by decide) (hts (.fieldLink RX0 38 "HolelessHouse$Benches" "notes" "[I") hm_X0_countWays_2) (fun _ h9 => h9) rfl dX0_countWays_36 ?_
        refine lv_iload_n hx hb dX0_countWays_39 rfl (lv_at hl 0 rfl) ?_
        refine va_iald hx hb hK hP 1 0 rfl rfl (vin_iv j4582 (by decide)) dX0_countWays_40 (lv_topi (fun x4585 x4585_e => ?_))
        refine lv_if_ne (tgt := 48) hx hb dX0_countWays_41 (by decide) (fun h4586 => ?_) (fun h4586 => ?_)
        ·
          refine lv_aload_n hx hb dX0_countWays_48 rfl (lv_at hl 2 rfl) ?_
          refine lv_iload_n hx hb dX0_countWays_49 rfl (lv_at hl 0 rfl) ?_
          refine kc_i (D := (dC, dI)) (S := Unit) (wc := [(o1, .inr (0, [.ref o2, .ref o4, .ref o6, .int v8, .int v9, .int v10, .int v11, .int v12])), (o4, .inl (cI, 12, .inl fw5))]) (wr := [(o2, .inl (cI, 256, .inl f4579))]) (w1 := fun _ => [(o1, .inr (0, [.ref o2, .ref o4, .ref o6, .int v8, .int v9, .int v10, .int v11, .int v12])), (o4, .inl (cI, 12, .inl fw5))]) (wn := fun _ => [(o1, .inr (0, [.ref o2, .ref o4, .ref o6, .int v8, .int v9, .int v10, .int v11, .int v12])), (o2, .inl (cI, 256, .inl f4579)), (o4, .inl (cI, 12, .inl fw5))]) (fun hPc hDc => va_runV (As := [.int x4578]) (rest := []) ⟨hx, hb, hml, hown, hts⟩ (kX0_mayCome_2 l dC dI cI c2 cZ o1 o2 o4 o6 fw5 v8 v9 v10 v11 v12 x4578 H.size v8_h v9_h v11_h (iv_w j4582 (by decide))) (cwV 1 hts gX0_countWays_X0_mayCome rfl rfl rfl (by decide +kernel) ⟨Nat.le_of_ble_eq_true rfl, Nat.le_of_ble_eq_true rfl⟩) (pre_V hPc hK hDc hN (ci := 0) (q0 := 0) rfl rfl) rfl rfl hl.1 rfl (lv_room (Nat.le_of_ble_eq_true rfl)) dX0_countWays_50 ⟨Nat.le_of_ble_eq_true rfl, Nat.le_of_ble_eq_true rfl⟩) hP hD hS hA [0, 2] [1] [1, 0, 2] rfl rfl (by decide +kernel) (by decide +kernel) (by decide +kernel) (by decide +kernel) (fun _ => rfl) (fun x4587 _ H locs hq hP hD hS => ?_)
          have x4587_h := hq
          have hP : va_P (dC, dI) vwCl ([(o1, .inr (0, [.ref o2, .ref o4, .ref o6, .int v8, .int v9, .int v10, .int v11, .int v12])), (o2, .inl (cI, 256, .inl f4579)), (o4, .inl (cI, 12, .inl fw5))]) H := hP
          have hD : va_D A ([(o1, .inr (0, [.ref o2, .ref o4, .ref o6, .int v8, .int v9, .int v10, .int v11, .int v12])), (o2, .inl (cI, 256, .inl f4579)), (o4, .inl (cI, 12, .inl fw5))]) := hD
          refine lv_istore_n (lv' := [(3, .int x4587), (2, .int x4578), (1, .int x2), (0, .ref o1)]) hx hb dX0_countWays_53 rfl hl (by decide) rfl (fun ls hl => ?_)
          refine lv_iconst (v := 0) hx hb dX0_countWays_54 (by decide) ?_
          refine lv_istore (lv' := [(4, .int 0), (3, .int x4587), (2, .int x4578), (1, .int x2), (0, .ref o1)]) hx hb dX0_countWays_55 hl (by decide) rfl (fun ls hl => ?_)
          have L40 : ∀ (N : Nat) (x4685 : Int32) (f4686 : Nat → Int32) (H : Heap) (locs : List Loc) (ls : Array Slot), (8 - x4685.toInt).toNat < N → Iv 0 8 x4685 → va_P (dC, dI) vwCl ([(o1, .inr (0, [.ref o2, .ref o4, .ref o6, .int v8, .int v9, .int v10, .int v11, .int v12])), (o2, .inl (cI, 256, .inl f4686)), (o4, .inl (cI, 12, .inl fw5))]) H → va_D A ([(o1, .inr (0, [.ref o2, .ref o4, .ref o6, .int v8, .int v9, .int v10, .int v11, .int v12])), (o2, .inl (cI, 256, .inl f4686)), (o4, .inl (cI, 12, .inl fw5))]) → va_S A s.heap H locs → lv_has ls 5 [(4, .int x4685), (3, .int x4587), (2, .int x4578), (1, .int x2), (0, .ref o1)] → W p l e ({ frames := 2, cells := 0, slots := 0, locals := 46 }) s m ([.ref o1] : List Value).toArray below meth c H locs 0 0 Q (F0 m 57 ls []) := by
            intro N
            induction N with
            | zero =>
              intro x4685 f4686 H locs ls hM
              exact absurd hM (Nat.not_lt_zero _)
            | succ N ih40 =>
              intro x4685 f4686 H locs ls hM40 x4685_h hP hD hS hl
              refine lv_iload hx hb dX0_countWays_57 (lv_at hl 0 rfl) ?_
              refine lv_aload_n hx hb dX0_countWays_59 rfl (lv_at hl 4 rfl) ?_
              refine va_get (D := (dC, dI)) (ci := 0) (v := .int v9) (C := RX0) (T := TX0) (N := 8) hx hb hts iw_X0_countWays_X0 hown hK hP 0 rfl rfl 4 (by decide) (hts (.fieldLink RX0 25 "HolelessHouse$Benches" "width" "I") hm_X0_countWays_1) (fun _ h9 => h9) rfl dX0_countWays_60 ?_
              refine lv_icmp_ge (tgt := 101) hx hb dX0_countWays_63 (by decide) (fun h4687 => ?_) (fun h4687 => ?_)
              ·
                have qh4687 := le_i h4687
                obtain ⟨x4688, x4688_e⟩ : ∃ z : Int32, z = x4578 + 1 := ⟨_, rfl⟩
                have x4688_h : Iv 1 255 x4688 := iv_e x4688_e (iv_add j4582 ik_1 (by decide))
                refine lv_iinc (v := x4688) (lv' := [(2, .int x4688), (4, .int x4685), (3, .int x4587), (1, .int x2), (0, .ref o1)]) hx hb dX0_countWays_101 hl (k := 2) rfl (incN (by decide +kernel) x4688_e) (by decide) rfl (fun ls hl => ?_)
                refine lv_goto (tgt := 30) hx hb dX0_countWays_104 (by decide) ?_
                exact ih39 x4688 f4686 _ _ _ (ms_up x4688_e j4582 (by decide) hM39) (iv_w x4688_h (by decide)) hP hD hS (lv_sub hl [0, 3, 4] rfl)
              ·
                have qh4687 := nle_i h4687
                have j4689 : Iv 0 7 x4685 := r_ltl qh4687 x4685_h v9_h (by decide)
                have j4690 : Iv 1 8 v9 := r_ltr qh4687 x4685_h v9_h (by decide)
                refine lv_iload_n hx hb dX0_countWays_66 rfl (lv_at hl 1 rfl) ?_
                refine lv_iload hx hb dX0_countWays_67 (lv_at hl 0 rfl) ?_
                refine kc_i (D := (dC, dI)) (S := Unit) (wc := []) (wr := [(o1, .inr (0, [.ref o2, .ref o4, .ref o6, .int v8, .int v9, .int v10, .int v11, .int v12])), (o2, .inl (cI, 256, .inl f4686)), (o4, .inl (cI, 12, .inl fw5))]) (w1 := fun _ => []) (wn := fun _ => [(o1, .inr (0, [.ref o2, .ref o4, .ref o6, .int v8, .int v9, .int v10, .int v11, .int v12])), (o2, .inl (cI, 256, .inl f4686)), (o4, .inl (cI, 12, .inl fw5))]) (fun hPc hDc => va_runSN (As := [.int x4587, .int x4685]) (rest := []) ⟨hx, hb, hml, hown, hts⟩ (kX11_in_1 l dC dI cI c2 cZ x4587 x4685 H.size) ⟨va_cnB 2 hts gX0_countWays_X11_in_n62 rfl rfl rfl (hN.1 _ ns_125) (hts (.initialized RX11) hm_X0_countWays_19) (by decide +kernel) ⟨Nat.le_of_ble_eq_true rfl, Nat.le_of_ble_eq_true rfl⟩, (hts (.static yX11_in) hm_X0_countWays_18), trivial⟩ (pre_S hPc hK hDc hN) rfl rfl hl.1 rfl (lv_room (Nat.le_of_ble_eq_true rfl)) dX0_countWays_69 ⟨Nat.le_of_ble_eq_true rfl, Nat.le_of_ble_eq_true rfl⟩) hP hD hS hA [] [0, 1, 2] [0, 1, 2] rfl rfl (by decide +kernel) (by decide +kernel) (by decide +kernel) (by decide +kernel) (fun _ => rfl) (fun x4691 _ H locs hq hP hD hS => ?_)
                have x4691_h := hq
                have hP : va_P (dC, dI) vwCl ([(o1, .inr (0, [.ref o2, .ref o4, .ref o6, .int v8, .int v9, .int v10, .int v11, .int v12])), (o2, .inl (cI, 256, .inl f4686)), (o4, .inl (cI, 12, .inl fw5))]) H := hP
                have hD : va_D A ([(o1, .inr (0, [.ref o2, .ref o4, .ref o6, .int v8, .int v9, .int v10, .int v11, .int v12])), (o2, .inl (cI, 256, .inl f4686)), (o4, .inl (cI, 12, .inl fw5))]) := hD
                refine lv_if_eq (tgt := 95) hx hb dX0_countWays_72 (by decide) (fun h4692 => ?_) (fun h4692 => ?_)
                ·
                  have j4693 : Iv 0 0 x4691 := r_eq h4692 ik_0
                  obtain ⟨x4694, x4694_e⟩ : ∃ z : Int32, z = x4685 + 1 := ⟨_, rfl⟩
                  have x4694_h : Iv 1 8 x4694 := iv_e x4694_e (iv_add j4689 ik_1 (by decide))
                  refine lv_iinc (v := x4694) (lv' := [(4, .int x4694), (3, .int x4587), (2, .int x4578), (1, .int x2), (0, .ref o1)]) hx hb dX0_countWays_95 hl (k := 0) rfl (incN (by decide +kernel) x4694_e) (by decide) rfl (fun ls hl => ?_)
                  refine lv_goto (tgt := 57) hx hb dX0_countWays_98 (by decide) ?_
                  exact ih40 x4694 f4686 _ _ _ (ms_up x4694_e j4689 (by decide) hM40) (iv_w x4694_h (by decide)) hP hD hS hl
                ·
                  have j4695 : Iv 1 1 x4691 := r_nelo h4692 x4691_h ik_0 (by decide)
                  refine lv_aload_n hx hb dX0_countWays_75 rfl (lv_at hl 4 rfl) ?_
                  refine va_get (D := (dC, dI)) (ci := 0) (v := .ref o2) (C := RX0) (T := TX0) (N := 8) hx hb hts iw_X0_countWays_X0 hown hK hP 0 rfl rfl 0 (by decide) (hts (.fieldLink RX0 38 "HolelessHouse$Benches" "notes" "[I") hm_X0_countWays_2) (fun _ h9 => h9) rfl dX0_countWays_76 ?_
                  refine lv_iload_n hx hb dX0_countWays_79 rfl (lv_at hl 2 rfl) ?_
                  refine lv_iconst (v := 1) hx hb dX0_countWays_80 (by decide) ?_
                  refine lv_iload hx hb dX0_countWays_81 (lv_at hl 0 rfl) ?_
                  refine lv_ishl hx hb dX0_countWays_83 (lv_topi (fun x4696 x4696_e => ?_))
                  have x4696_h : Iv 1 128 x4696 := iv_e x4696_e (iv_shl1 j4689 (by decide))
                  refine lv_ior hx hb dX0_countWays_84 (lv_topi (fun x4697 x4697_e => ?_))
                  have x4697_h : Iv 0 255 x4697 := iv_e x4697_e (iv_or 8 j4582 x4696_h (by decide))
                  refine lv_dup2_11 hx hb dX0_countWays_85 rfl rfl ?_
                  refine va_iald hx hb hK hP 1 0 rfl rfl (vin_iv x4697_h (by decide)) dX0_countWays_86 (lv_topi (fun x4698 x4698_e => ?_))
                  refine lv_aload_n hx hb dX0_countWays_87 rfl (lv_at hl 4 rfl) ?_
                  refine va_get (D := (dC, dI)) (ci := 0) (v := .ref o2) (C := RX0) (T := TX0) (N := 8) hx hb hts iw_X0_countWays_X0 hown hK hP 0 rfl rfl 0 (by decide) (hts (.fieldLink RX0 38 "HolelessHouse$Benches" "notes" "[I") hm_X0_countWays_2) (fun _ h9 => h9) rfl dX0_countWays_88 ?_
                  refine lv_iload_n hx hb dX0_countWays_91 rfl (lv_at hl 2 rfl) ?_
                  refine va_iald hx hb hK hP 1 0 rfl rfl (vin_iv j4582 (by decide)) dX0_countWays_92 (lv_topi (fun x4699 x4699_e => ?_))
                  refine lv_iadd hx hb dX0_countWays_93 (lv_topi (fun x4700 x4700_e => ?_))
                  refine k_iast hx hb hK hP hD hS 1 0 rfl rfl (vin_iv x4697_h (by decide)) dX0_countWays_94 (fun f4701 H locs f4701_e hP hD hS => ?_)
                  have hP : va_P (dC, dI) vwCl ([(o1, .inr (0, [.ref o2, .ref o4, .ref o6, .int v8, .int v9, .int v10, .int v11, .int v12])), (o2, .inl (cI, 256, .inl f4701)), (o4, .inl (cI, 12, .inl fw5))]) H := hP
                  have hD : va_D A ([(o1, .inr (0, [.ref o2, .ref o4, .ref o6, .int v8, .int v9, .int v10, .int v11, .int v12])), (o2, .inl (cI, 256, .inl f4701)), (o4, .inl (cI, 12, .inl fw5))]) := hD
                  obtain ⟨x4702, x4702_e⟩ : ∃ z : Int32, z = x4685 + 1 := ⟨_, rfl⟩
                  have x4702_h : Iv 1 8 x4702 := iv_e x4702_e (iv_add j4689 ik_1 (by decide))
                  refine lv_iinc (v := x4702) (lv' := [(4, .int x4702), (3, .int x4587), (2, .int x4578), (1, .int x2), (0, .ref o1)]) hx hb dX0_countWays_95 hl (k := 0) rfl (incN (by decide +kernel) x4702_e) (by decide) rfl (fun ls hl => ?_)
                  refine lv_goto (tgt := 57) hx hb dX0_countWays_98 (by decide) ?_
                  exact ih40 x4702 f4701 _ _ _ (ms_up x4702_e j4689 (by decide) hM40) (iv_w x4702_h (by decide)) hP hD hS hl
          exact L40 _ 0 f4579 _ _ _ (Nat.lt_succ_self _) (iv_w ik_0 (by decide)) hP hD hS hl
        ·
          have j4703 : Iv 0 0 x4585 := r_eq h4586 ik_0
          refine lv_iconst (v := 0) hx hb dX0_countWays_44 (by decide) ?_
          refine lv_goto (tgt := 53) hx hb dX0_countWays_45 (by decide) ?_
          refine lv_istore_n (lv' := [(3, .int 0), (2, .int x4578), (1, .int x2), (0, .ref o1)]) hx hb dX0_countWays_53 rfl hl (by decide) rfl (fun ls hl => ?_)
          refine lv_iconst (v := 0) hx hb dX0_countWays_54 (by decide) ?_
          refine lv_istore (lv' := [(4, .int 0), (3, .int 0), (2, .int x4578), (1, .int x2), (0, .ref o1)]) hx hb dX0_countWays_55 hl (by decide) rfl (fun ls hl => ?_)
          have L41 : ∀ (N : Nat) (x4801 : Int32) (f4802 : Nat → Int32) (H : Heap) (locs : List Loc) (ls : Array Slot), (8 - x4801.toInt).toNat < N → Iv 0 8 x4801 → va_P (dC, dI) vwCl ([(o1, .inr (0, [.ref o2, .ref o4, .ref o6, .int v8, .int v9, .int v10, .int v11, .int v12])), (o2, .inl (cI, 256, .inl f4802)), (o4, .inl (cI, 12, .inl fw5))]) H → va_D A ([(o1, .inr (0, [.ref o2, .ref o4, .ref o6, .int v8, .int v9, .int v10, .int v11, .int v12])), (o2, .inl (cI, 256, .inl f4802)), (o4, .inl (cI, 12, .inl fw5))]) → va_S A s.heap H locs → lv_has ls 5 [(4, .int x4801), (3, .int 0), (2, .int x4578), (1, .int x2), (0, .ref o1)] → W p l e ({ frames := 2, cells := 0, slots := 0, locals := 46 }) s m ([.ref o1] : List Value).toArray below meth c H locs 0 0 Q (F0 m 57 ls []) := by
            intro N
            induction N with
            | zero =>
              intro x4801 f4802 H locs ls hM
              exact absurd hM (Nat.not_lt_zero _)
            | succ N ih41 =>
              intro x4801 f4802 H locs ls hM41 x4801_h hP hD hS hl
              refine lv_iload hx hb dX0_countWays_57 (lv_at hl 0 rfl) ?_
              refine lv_aload_n hx hb dX0_countWays_59 rfl (lv_at hl 4 rfl) ?_
              refine va_get (D := (dC, dI)) (ci := 0) (v := .int v9) (C := RX0) (T := TX0) (N := 8) hx hb hts iw_X0_countWays_X0 hown hK hP 0 rfl rfl 4 (by decide) (hts (.fieldLink RX0 25 "HolelessHouse$Benches" "width" "I") hm_X0_countWays_1) (fun _ h9 => h9) rfl dX0_countWays_60 ?_
              refine lv_icmp_ge (tgt := 101) hx hb dX0_countWays_63 (by decide) (fun h4803 => ?_) (fun h4803 => ?_)
              ·
                have qh4803 := le_i h4803
                obtain ⟨x4804, x4804_e⟩ : ∃ z : Int32, z = x4578 + 1 := ⟨_, rfl⟩
                have x4804_h : Iv 1 255 x4804 := iv_e x4804_e (iv_add j4582 ik_1 (by decide))
                refine lv_iinc (v := x4804) (lv' := [(2, .int x4804), (4, .int x4801), (3, .int 0), (1, .int x2), (0, .ref o1)]) hx hb dX0_countWays_101 hl (k := 2) rfl (incN (by decide +kernel) x4804_e) (by decide) rfl (fun ls hl => ?_)
                refine lv_goto (tgt := 30) hx hb dX0_countWays_104 (by decide) ?_
                exact ih39 x4804 f4802 _ _ _ (ms_up x4804_e j4582 (by decide) hM39) (iv_w x4804_h (by decide)) hP hD hS (lv_sub hl [0, 3, 4] rfl)
              ·
                have qh4803 := nle_i h4803
                have j4805 : Iv 0 7 x4801 := r_ltl qh4803 x4801_h v9_h (by decide)
                have j4806 : Iv 1 8 v9 := r_ltr qh4803 x4801_h v9_h (by decide)
                refine lv_iload_n hx hb dX0_countWays_66 rfl (lv_at hl 1 rfl) ?_
                refine lv_iload hx hb dX0_countWays_67 (lv_at hl 0 rfl) ?_
                refine kc_i (D := (dC, dI)) (S := Unit) (wc := []) (wr := [(o1, .inr (0, [.ref o2, .ref o4, .ref o6, .int v8, .int v9, .int v10, .int v11, .int v12])), (o2, .inl (cI, 256, .inl f4802)), (o4, .inl (cI, 12, .inl fw5))]) (w1 := fun _ => []) (wn := fun _ => [(o1, .inr (0, [.ref o2, .ref o4, .ref o6, .int v8, .int v9, .int v10, .int v11, .int v12])), (o2, .inl (cI, 256, .inl f4802)), (o4, .inl (cI, 12, .inl fw5))]) (fun hPc hDc => va_runSN (As := [.int 0, .int x4801]) (rest := []) ⟨hx, hb, hml, hown, hts⟩ (kX11_in_1 l dC dI cI c2 cZ 0 x4801 H.size) ⟨va_cnB 2 hts gX0_countWays_X11_in_n62 rfl rfl rfl (hN.1 _ ns_125) (hts (.initialized RX11) hm_X0_countWays_19) (by decide +kernel) ⟨Nat.le_of_ble_eq_true rfl, Nat.le_of_ble_eq_true rfl⟩, (hts (.static yX11_in) hm_X0_countWays_18), trivial⟩ (pre_S hPc hK hDc hN) rfl rfl hl.1 rfl (lv_room (Nat.le_of_ble_eq_true rfl)) dX0_countWays_69 ⟨Nat.le_of_ble_eq_true rfl, Nat.le_of_ble_eq_true rfl⟩) hP hD hS hA [] [0, 1, 2] [0, 1, 2] rfl rfl (by decide +kernel) (by decide +kernel) (by decide +kernel) (by decide +kernel) (fun _ => rfl) (fun x4807 _ H locs hq hP hD hS => ?_)
                have x4807_h := hq
                have hP : va_P (dC, dI) vwCl ([(o1, .inr (0, [.ref o2, .ref o4, .ref o6, .int v8, .int v9, .int v10, .int v11, .int v12])), (o2, .inl (cI, 256, .inl f4802)), (o4, .inl (cI, 12, .inl fw5))]) H := hP
                have hD : va_D A ([(o1, .inr (0, [.ref o2, .ref o4, .ref o6, .int v8, .int v9, .int v10, .int v11, .int v12])), (o2, .inl (cI, 256, .inl f4802)), (o4, .inl (cI, 12, .inl fw5))]) := hD
                refine lv_if_eq (tgt := 95) hx hb dX0_countWays_72 (by decide) (fun h4808 => ?_) (fun h4808 => ?_)
                ·
                  have j4809 : Iv 0 0 x4807 := r_eq h4808 ik_0
                  obtain ⟨x4810, x4810_e⟩ : ∃ z : Int32, z = x4801 + 1 := ⟨_, rfl⟩
                  have x4810_h : Iv 1 8 x4810 := iv_e x4810_e (iv_add j4805 ik_1 (by decide))
                  refine lv_iinc (v := x4810) (lv' := [(4, .int x4810), (3, .int 0), (2, .int x4578), (1, .int x2), (0, .ref o1)]) hx hb dX0_countWays_95 hl (k := 0) rfl (incN (by decide +kernel) x4810_e) (by decide) rfl (fun ls hl => ?_)
                  refine lv_goto (tgt := 57) hx hb dX0_countWays_98 (by decide) ?_
                  exact ih41 x4810 f4802 _ _ _ (ms_up x4810_e j4805 (by decide) hM41) (iv_w x4810_h (by decide)) hP hD hS hl
                ·
                  have j4811 : Iv 1 1 x4807 := r_nelo h4808 x4807_h ik_0 (by decide)
                  refine lv_aload_n hx hb dX0_countWays_75 rfl (lv_at hl 4 rfl) ?_
                  refine va_get (D := (dC, dI)) (ci := 0) (v := .ref o2) (C := RX0) (T := TX0) (N := 8) hx hb hts iw_X0_countWays_X0 hown hK hP 0 rfl rfl 0 (by decide) (hts (.fieldLink RX0 38 "HolelessHouse$Benches" "notes" "[I") hm_X0_countWays_2) (fun _ h9 => h9) rfl dX0_countWays_76 ?_
                  refine lv_iload_n hx hb dX0_countWays_79 rfl (lv_at hl 2 rfl) ?_
                  refine lv_iconst (v := 1) hx hb dX0_countWays_80 (by decide) ?_
                  refine lv_iload hx hb dX0_countWays_81 (lv_at hl 0 rfl) ?_
                  refine lv_ishl hx hb dX0_countWays_83 (lv_topi (fun x4812 x4812_e => ?_))
                  have x4812_h : Iv 1 128 x4812 := iv_e x4812_e (iv_shl1 j4805 (by decide))
                  refine lv_ior hx hb dX0_countWays_84 (lv_topi (fun x4813 x4813_e => ?_))
                  have x4813_h : Iv 0 255 x4813 := iv_e x4813_e (iv_or 8 j4582 x4812_h (by decide))
                  refine lv_dup2_11 hx hb dX0_countWays_85 rfl rfl ?_
                  refine va_iald hx hb hK hP 1 0 rfl rfl (vin_iv x4813_h (by decide)) dX0_countWays_86 (lv_topi (fun x4814 x4814_e => ?_))
                  refine lv_aload_n hx hb dX0_countWays_87 rfl (lv_at hl 4 rfl) ?_
                  refine va_get (D := (dC, dI)) (ci := 0) (v := .ref o2) (C := RX0) (T := TX0) (N := 8) hx hb hts iw_X0_countWays_X0 hown hK hP 0 rfl rfl 0 (by decide) (hts (.fieldLink RX0 38 "HolelessHouse$Benches" "notes" "[I") hm_X0_countWays_2) (fun _ h9 => h9) rfl dX0_countWays_88 ?_
                  refine lv_iload_n hx hb dX0_countWays_91 rfl (lv_at hl 2 rfl) ?_
                  refine va_iald hx hb hK hP 1 0 rfl rfl (vin_iv j4582 (by decide)) dX0_countWays_92 (lv_topi (fun x4815 x4815_e => ?_))
                  refine lv_iadd hx hb dX0_countWays_93 (lv_topi (fun x4816 x4816_e => ?_))
                  refine k_iast hx hb hK hP hD hS 1 0 rfl rfl (vin_iv x4813_h (by decide)) dX0_countWays_94 (fun f4817 H locs f4817_e hP hD hS => ?_)
                  have hP : va_P (dC, dI) vwCl ([(o1, .inr (0, [.ref o2, .ref o4, .ref o6, .int v8, .int v9, .int v10, .int v11, .int v12])), (o2, .inl (cI, 256, .inl f4817)), (o4, .inl (cI, 12, .inl fw5))]) H := hP
                  have hD : va_D A ([(o1, .inr (0, [.ref o2, .ref o4, .ref o6, .int v8, .int v9, .int v10, .int v11, .int v12])), (o2, .inl (cI, 256, .inl f4817)), (o4, .inl (cI, 12, .inl fw5))]) := hD
                  obtain ⟨x4818, x4818_e⟩ : ∃ z : Int32, z = x4801 + 1 := ⟨_, rfl⟩
                  have x4818_h : Iv 1 8 x4818 := iv_e x4818_e (iv_add j4805 ik_1 (by decide))
                  refine lv_iinc (v := x4818) (lv' := [(4, .int x4818), (3, .int 0), (2, .int x4578), (1, .int x2), (0, .ref o1)]) hx hb dX0_countWays_95 hl (k := 0) rfl (incN (by decide +kernel) x4818_e) (by decide) rfl (fun ls hl => ?_)
                  refine lv_goto (tgt := 57) hx hb dX0_countWays_98 (by decide) ?_
                  exact ih41 x4818 f4817 _ _ _ (ms_up x4818_e j4805 (by decide) hM41) (iv_w x4818_h (by decide)) hP hD hS hl
          exact L41 _ 0 f4579 _ _ _ (Nat.lt_succ_self _) (iv_w ik_0 (by decide)) hP hD hS hl
  exact L39 _ 0 f5 _ _ _ (Nat.lt_succ_self _) (iv_w ik_0 (by decide)) hP hD hS hl
