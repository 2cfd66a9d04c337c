set_option maxHeartbeats 4000000 in
set_option maxRecDepth 100000 in
theorem kxX0_seatsRest_27 (l : Launch) (dC : Nat → ClassId) (dI : Nat → Nat → Nat) (cI c2 cZ : ClassId) (o1 : Nat) (o2 : Nat) (o4 : Nat) (o6 : Nat) (fw3 : Nat → Int32) (fw5 : Nat → Int32) (fw7 : Nat → Int32) (v8 : Int32) (v9 : Int32) (v10 : Int32) (v11 : Int32) (v12 : Int32) (a1 : Int32) (sz : Nat) (v8_h : Iv 0 12 v8) (v9_h : Iv 0 8 v9) (v11_h : Iv 0 1 v11) (a1_h : Iv 0 255 a1) (pre0 : SP (Int32.toNatClampNeg v9) 4 a1) (pre1 : MS (okS fw5 (Int32.toNatClampNeg v8)) (Int32.toNatClampNeg v9) fw3) : Met l yX0_seatsRest wsX0_seatsRest ({ frames := 4, cells := 0, slots := 0, locals := 96 }) (va_Pc [.ref o1, .int a1, .int 4] (wPre (dC, dI) [(cI, .int), (c2, .array .int), (cZ, .boolean)] ([(o1, .inr (0, [.ref o2, .ref o4, .ref o6, .int v8, .int v9, .int v10, .int v11, .int v12])), (o2, .inl (cI, 256, .inl fw3)), (o4, .inl (cI, 12, .inl fw5)), (o6, .inl (cI, 8, .inl fw7))]) sz)) (va_Qi (fun (r : Int32) (u : (Nat → Int32) × (Nat → Int32)) => Iv 0 1 r ∧ SY (okS fw5 (Int32.toNatClampNeg v8)) (Int32.toNatClampNeg v9) 4 a1 r u.2 ∧ MS (okS fw5 (Int32.toNatClampNeg v8)) (Int32.toNatClampNeg v9) u.1 ∧ LPp 4 u.2 fw7) (fun u t => wPost (dC, dI) [(cI, .int), (c2, .array .int), (cZ, .boolean)] (va_A ([(o1, .inr (0, [.ref o2, .ref o4, .ref o6, .int v8, .int v9, .int v10, .int v11, .int v12])), (o2, .inl (cI, 256, .inl fw3)), (o4, .inl (cI, 12, .inl fw5)), (o6, .inl (cI, 8, .inl fw7))]) sz) ([(o1, .inr (0, [.ref o2, .ref o4, .ref o6, .int v8, .int v9, .int v10, .int v11, .int v12])), (o2, .inl (cI, 256, .inl u.1)), (o4, .inl (cI, 12, .inl fw5)), (o6, .inl (cI, 8, .inl u.2))]) t) (va_A ([(o1, .inr (0, [.ref o2, .ref o4, .ref o6, .int v8, .int v9, .int v10, .int v11, .int v12])), (o2, .inl (cI, 256, .inl fw3)), (o4, .inl (cI, 12, .inl fw5)), (o6, .inl (cI, 8, .inl fw7))]) sz)) 0 0 (va_A ([(o1, .inr (0, [.ref o2, .ref o4, .ref o6, .int v8, .int v9, .int v10, .int v11, .int v12])), (o2, .inl (cI, 256, .inl fw3)), (o4, .inl (cI, 12, .inl fw5)), (o6, .inl (cI, 8, .inl fw7))]) sz) := by
  refine Met.ofW (cc := cX0_seatsRest) (maxL := 5) (ret := (some .boolean)) (by decide) rfl ?_
  intro p e s m args below meth c s₁ B hml hv
  obtain ⟨rfl, hsz, hP, hK, hD0, hN⟩ := hv
  have hx := B.exec
  have hb := B.bytes
  have hr := B.returns
  have hts := atoms_spec (ws := wsX0_seatsRest) B.pre
  have hown : s.vm.findClass RX0 = some m.cls := findClass_of_methodNamed B.named
  have hlocks := B.notSynchronized
  subst hsz
  have hD := hD0.self (sz := s.heap.size)
  generalize hAe : va_A ([(o1, .inr (0, [.ref o2, .ref o4, .ref o6, .int v8, .int v9, .int v10, .int v11, .int v12])), (o2, .inl (cI, 256, .inl fw3)), (o4, .inl (cI, 12, .inl fw5)), (o6, .inl (cI, 8, .inl fw7))]) s.heap.size = A at hD ⊢
  have hA : ∀ q : Nat, s.heap.size ≤ q → A q := fun q h => by rw [← hAe]; exact Or.inr h
  have hS : va_S A s.heap s.heap [] := va_S.rf
  have hP : va_P (dC, dI) vwCl ([(o1, .inr (0, [.ref o2, .ref o4, .ref o6, .int v8, .int v9, .int v10, .int v11, .int v12])), (o2, .inl (cI, 256, .inl fw3)), (o4, .inl (cI, 12, .inl fw5)), (o6, .inl (cI, 8, .inl fw7))]) s.heap := hP
  have hl := lv_entry ([.ref o1, .int a1, .int 4]) (n := 5) (Nat.le_of_ble_eq_true rfl)
  rw [lg_entry_eq]
  generalize (lg_sl ([.ref o1, .int a1, .int 4]) ++ List.replicate (5 - (lg_sl ([.ref o1, .int a1, .int 4])).length) Slot.unset).toArray = ls at hl ⊢
  have hl : lv_has ls 5 [(0, .ref o1), (1, .int a1), (2, .int 4)] := hl
  refine gen_Q (fun Q hQ => ?_)
  refine lv_iload_n hx hb dX0_seatsRest_0 rfl (lv_at hl 2 rfl) ?_
  refine lv_aload_n hx hb dX0_seatsRest_1 rfl (lv_at hl 0 rfl) ?_
  refine va_get (D := (dC, dI)) (ci := 0) (v := .int v9) (C := RX0) (T := TX0) (N := 8) hx hb hts iw_X0_seatsRest_X0 hown hK hP 0 rfl rfl 4 (by decide) (hts (.fieldLink RX0 25 "HolelessHouse$Benches" "width" "I") hm_X0_seatsRest_1) (fun _ h9 => h9) rfl dX0_seatsRest_2 ?_
  refine lv_icmp_lt (tgt := 10) hx hb dX0_seatsRest_5 (by decide) (fun h1 => ?_) (fun h1 => ?_)
  ·
    have qh1 := lt_i h1
    have j2 : Iv 5 8 v9 := r_ltr qh1 ik_4 v9_h (by decide)
    refine lv_aload_n hx hb dX0_seatsRest_10 rfl (lv_at hl 0 rfl) ?_
    refine va_get (D := (dC, dI)) (ci := 0) (v := .ref o2) (C := RX0) (T := TX0) (N := 8) hx hb hts iw_X0_seatsRest_X0 hown hK hP 0 rfl rfl 0 (by decide) (hts (.fieldLink RX0 38 "HolelessHouse$Benches" "notes" "[I") hm_X0_seatsRest_2) (fun _ h9 => h9) rfl dX0_seatsRest_11 ?_
    refine lv_iload_n hx hb dX0_seatsRest_14 rfl (lv_at hl 1 rfl) ?_
    refine va_iald hx hb hK hP 1 0 rfl rfl (vin_iv a1_h (by decide)) dX0_seatsRest_15 (lv_topi (fun x3 x3_e => ?_))
    refine lv_iconst (v := 1) hx hb dX0_seatsRest_16 (by decide) ?_
    refine lv_icmp_ne (tgt := 22) hx hb dX0_seatsRest_17 (by decide) (fun h4 => ?_) (fun h4 => ?_)
    ·
      refine lv_aload_n hx hb dX0_seatsRest_22 rfl (lv_at hl 0 rfl) ?_
      refine lv_iload_n hx hb dX0_seatsRest_23 rfl (lv_at hl 1 rfl) ?_
      refine kc_i (D := (dC, dI)) (S := Unit) (wc := [(o1, .inr (0, [.ref o2, .ref o4, .ref o6, .int v8, .int v9, .int v10, .int v11, .int v12])), (o4, .inl (cI, 12, .inl fw5))]) (wr := [(o2, .inl (cI, 256, .inl fw3)), (o6, .inl (cI, 8, .inl fw7))]) (w1 := fun _ => [(o1, .inr (0, [.ref o2, .ref o4, .ref o6, .int v8, .int v9, .int v10, .int v11, .int v12])), (o4, .inl (cI, 12, .inl fw5))]) (wn := fun _ => [(o1, .inr (0, [.ref o2, .ref o4, .ref o6, .int v8, .int v9, .int v10, .int v11, .int v12])), (o2, .inl (cI, 256, .inl fw3)), (o4, .inl (cI, 12, .inl fw5)), (o6, .inl (cI, 8, .inl fw7))]) (fun hPc hDc => va_runV (As := [.int a1]) (rest := []) ⟨hx, hb, hml, hown, hts⟩ (kxX0_mayCome_3 l dC dI cI c2 cZ o1 o2 o4 o6 fw5 v8 v9 v10 v11 v12 a1 s.heap.size v8_h (iv_w j2 (by decide)) v11_h a1_h) (cwV 1 hts gX0_seatsRest_X0_mayCome rfl rfl rfl (by decide +kernel) ⟨Nat.le_of_ble_eq_true rfl, Nat.le_of_ble_eq_true rfl⟩) (pre_V hPc hK hDc hN (ci := 0) (q0 := 0) rfl rfl) rfl rfl hl.1 rfl (lv_room (Nat.le_of_ble_eq_true rfl)) dX0_seatsRest_24 ⟨Nat.le_of_ble_eq_true rfl, Nat.le_of_ble_eq_true rfl⟩) hP hD hS hA [0, 2] [1, 3] [2, 0, 3, 1] rfl rfl (by decide +kernel) (by decide +kernel) (by decide +kernel) (by decide +kernel) (fun _ => rfl) (fun x5 _ H locs hq hP hD hS => ?_)
      obtain ⟨x5_h, e6⟩ := hq
      have hP : va_P (dC, dI) vwCl ([(o1, .inr (0, [.ref o2, .ref o4, .ref o6, .int v8, .int v9, .int v10, .int v11, .int v12])), (o2, .inl (cI, 256, .inl fw3)), (o4, .inl (cI, 12, .inl fw5)), (o6, .inl (cI, 8, .inl fw7))]) H := hP
      have hD : va_D A ([(o1, .inr (0, [.ref o2, .ref o4, .ref o6, .int v8, .int v9, .int v10, .int v11, .int v12])), (o2, .inl (cI, 256, .inl fw3)), (o4, .inl (cI, 12, .inl fw5)), (o6, .inl (cI, 8, .inl fw7))]) := hD
      refine lv_istore_n (lv' := [(3, .int x5), (0, .ref o1), (1, .int a1), (2, .int 4)]) hx hb dX0_seatsRest_27 rfl hl (by decide) rfl (fun ls hl => ?_)
      refine lv_iconst (v := 0) hx hb dX0_seatsRest_28 (by decide) ?_
      refine lv_istore (lv' := [(4, .int 0), (3, .int x5), (0, .ref o1), (1, .int a1), (2, .int 4)]) hx hb dX0_seatsRest_29 hl (by decide) rfl (fun ls hl => ?_)
      have L1 : ∀ (N : Nat) (x148 : Int32) (f149 : Nat → Int32) (f150 : Nat → Int32) (H : Heap) (locs : List Loc) (ls : Array Slot), (8 - x148.toInt).toNat < N → Iv 0 8 x148 → (IC (okS fw5 (Int32.toNatClampNeg v8)) (Int32.toNatClampNeg v9) a1 x5 (Int32.toNatClampNeg x148)) → (MS (okS fw5 (Int32.toNatClampNeg v8)) (Int32.toNatClampNeg v9) f149) → (LPp 4 f150 fw7) → va_P (dC, dI) vwCl ([(o1, .inr (0, [.ref o2, .ref o4, .ref o6, .int v8, .int v9, .int v10, .int v11, .int v12])), (o2, .inl (cI, 256, .inl f149)), (o4, .inl (cI, 12, .inl fw5)), (o6, .inl (cI, 8, .inl f150))]) H → va_D A ([(o1, .inr (0, [.ref o2, .ref o4, .ref o6, .int v8, .int v9, .int v10, .int v11, .int v12])), (o2, .inl (cI, 256, .inl f149)), (o4, .inl (cI, 12, .inl fw5)), (o6, .inl (cI, 8, .inl f150))]) → va_S A s.heap H locs → lv_has ls 5 [(4, .int x148), (3, .int x5), (0, .ref o1), (1, .int a1), (2, .int 4)] → W p l e ({ frames := 4, cells := 0, slots := 0, locals := 96 }) s m ([.ref o1, .int a1, .int 4] : List Value).toArray below meth c H locs 0 0 Q (F0 m 31 ls []) := by
        intro N
        induction N with
        | zero =>
          intro x148 f149 f150 H locs ls hM
          exact absurd hM (Nat.not_lt_zero _)
        | succ N ih1 =>
          intro x148 f149 f150 H locs ls hM1 x148_h iv1_0 iv1_1 iv1_2 hP hD hS hl
          refine lv_iload hx hb dX0_seatsRest_31 (lv_at hl 0 rfl) ?_
          refine lv_aload_n hx hb dX0_seatsRest_33 rfl (lv_at hl 2 rfl) ?_
          refine va_get (D := (dC, dI)) (ci := 0) (v := .int v9) (C := RX0) (T := TX0) (N := 8) hx hb hts iw_X0_seatsRest_X0 hown hK hP 0 rfl rfl 4 (by decide) (hts (.fieldLink RX0 25 "HolelessHouse$Benches" "width" "I") hm_X0_seatsRest_1) (fun _ h9 => h9) rfl dX0_seatsRest_34 ?_
          refine lv_icmp_ge (tgt := 81) hx hb dX0_seatsRest_37 (by decide) (fun h151 => ?_) (fun h151 => ?_)
          ·
            have qh151 := le_i h151
            have j152 : Iv 5 8 x148 := r_ler qh151 j2 x148_h (by decide)
            refine lv_aload_n hx hb dX0_seatsRest_81 rfl (lv_at hl 2 rfl) ?_
            refine va_get (D := (dC, dI)) (ci := 0) (v := .ref o2) (C := RX0) (T := TX0) (N := 8) hx hb hts iw_X0_seatsRest_X0 hown hK hP 0 rfl rfl 0 (by decide) (hts (.fieldLink RX0 38 "HolelessHouse$Benches" "notes" "[I") hm_X0_seatsRest_2) (fun _ h9 => h9) rfl dX0_seatsRest_82 ?_
            refine lv_iload_n hx hb dX0_seatsRest_85 rfl (lv_at hl 3 rfl) ?_
            refine lv_iconst (v := 1) hx hb dX0_seatsRest_86 (by decide) ?_
            refine k_iast hx hb hK hP hD hS 1 0 rfl rfl (vin_iv a1_h (by decide)) dX0_seatsRest_87 (fun f153 H locs f153_e hP hD hS => ?_)
            have hP : va_P (dC, dI) vwCl ([(o1, .inr (0, [.ref o2, .ref o4, .ref o6, .int v8, .int v9, .int v10, .int v11, .int v12])), (o2, .inl (cI, 256, .inl f153)), (o4, .inl (cI, 12, .inl fw5)), (o6, .inl (cI, 8, .inl f150))]) H := hP
            have hD : va_D A ([(o1, .inr (0, [.ref o2, .ref o4, .ref o6, .int v8, .int v9, .int v10, .int v11, .int v12])), (o2, .inl (cI, 256, .inl f153)), (o4, .inl (cI, 12, .inl fw5)), (o6, .inl (cI, 8, .inl f150))]) := hD
            refine lv_iconst (v := 0) hx hb dX0_seatsRest_88 (by decide) ?_
            rw [hQ]
            exact W.zret (v := 0) (ty := .boolean) hx hb hr rfl (fun t ht hW => ⟨⟨0, (f153, f150), rfl, ⟨(iv_w ik_0 (by decide)), (SY_n (SY_z pre0 e6 iv1_0 qh151 (iv_w (c := 0) (d := 12) j2 (by decide)) (by have a0 := (show _ ≤ _ ∧ _ ≤ _ from j2); have a1 := (show Int32.toInt 4 = 4 by decide +kernel); have a2 := qh1; show 4 < Int.toNat _; omega))), (MS_u iv1_1 (SY_z pre0 e6 iv1_0 qh151 (iv_w (c := 0) (d := 12) j2 (by decide)) (by have a0 := (show _ ≤ _ ∧ _ ≤ _ from j2); have a1 := (show Int32.toInt 4 = 4 by decide +kernel); have a2 := qh1; show 4 < Int.toNat _; omega)) (iv_w (c := 0) (d := 4095) a1_h (by decide)) f153_e), iv1_2⟩, by rw [ht]; exact hP, va_K.moved hW.alike hK, hD⟩, hS.F ht⟩) hS.2.2 dX0_seatsRest_89
          ·
            have qh151 := nle_i h151
            have j154 : Iv 0 7 x148 := r_ltl qh151 x148_h j2 (by decide)
            refine lv_iload_n hx hb dX0_seatsRest_40 rfl (lv_at hl 1 rfl) ?_
            refine lv_iload hx hb dX0_seatsRest_41 (lv_at hl 0 rfl) ?_
            refine kc_i (D := (dC, dI)) (S := Unit) (wc := []) (wr := [(o1, .inr (0, [.ref o2, .ref o4, .ref o6, .int v8, .int v9, .int v10, .int v11, .int v12])), (o2, .inl (cI, 256, .inl f149)), (o4, .inl (cI, 12, .inl fw5)), (o6, .inl (cI, 8, .inl f150))]) (w1 := fun _ => []) (wn := fun _ => [(o1, .inr (0, [.ref o2, .ref o4, .ref o6, .int v8, .int v9, .int v10, .int v11, .int v12])), (o2, .inl (cI, 256, .inl f149)), (o4, .inl (cI, 12, .inl fw5)), (o6, .inl (cI, 8, .inl f150))]) (fun hPc hDc => va_runSN (As := [.int x5, .int x148]) (rest := []) ⟨hx, hb, hml, hown, hts⟩ (kxX11_in_2 l dC dI cI c2 cZ x5 x148 H.size) ⟨va_cnB 2 hts gX0_seatsRest_X11_in_n62 rfl rfl rfl (hN.1 _ ns_125) (hts (.initialized RX11) hm_X0_seatsRest_12) (by decide +kernel) ⟨Nat.le_of_ble_eq_true rfl, Nat.le_of_ble_eq_true rfl⟩, (hts (.static yX11_in) hm_X0_seatsRest_11), trivial⟩ (pre_S hPc hK hDc hN) rfl rfl hl.1 rfl (lv_room (Nat.le_of_ble_eq_true rfl)) dX0_seatsRest_43 ⟨Nat.le_of_ble_eq_true rfl, Nat.le_of_ble_eq_true rfl⟩) hP hD hS hA [] [0, 1, 2, 3] [0, 1, 2, 3] rfl rfl (by decide +kernel) (by decide +kernel) (by decide +kernel) (by decide +kernel) (fun _ => rfl) (fun x155 _ H locs hq hP hD hS => ?_)
            obtain ⟨x155_h, e156⟩ := hq
            have hP : va_P (dC, dI) vwCl ([(o1, .inr (0, [.ref o2, .ref o4, .ref o6, .int v8, .int v9, .int v10, .int v11, .int v12])), (o2, .inl (cI, 256, .inl f149)), (o4, .inl (cI, 12, .inl fw5)), (o6, .inl (cI, 8, .inl f150))]) H := hP
            have hD : va_D A ([(o1, .inr (0, [.ref o2, .ref o4, .ref o6, .int v8, .int v9, .int v10, .int v11, .int v12])), (o2, .inl (cI, 256, .inl f149)), (o4, .inl (cI, 12, .inl fw5)), (o6, .inl (cI, 8, .inl f150))]) := hD
            refine lv_if_eq (tgt := 75) hx hb dX0_seatsRest_46 (by decide) (fun h157 => ?_) (fun h157 => ?_)
            ·
              have j158 : Iv 0 0 x155 := r_eq h157 ik_0
              have b159 : bt x5 (Int32.toNatClampNeg x148) = false := has_f (e156 (iv_w (c := 0) (d := 12) j154 (by decide))) h157
              obtain ⟨x160, x160_e⟩ : ∃ z : Int32, z = x148 + 1 := ⟨_, rfl⟩
              have x160_h : Iv 1 8 x160 := iv_e x160_e (iv_add j154 ik_1 (by decide))
              refine lv_iinc (v := x160) (lv' := [(4, .int x160), (3, .int x5), (0, .ref o1), (1, .int a1), (2, .int 4)]) hx hb dX0_seatsRest_75 hl (k := 0) rfl (incN (by decide +kernel) x160_e) (by decide) rfl (fun ls hl => ?_)
              refine lv_goto (tgt := 31) hx hb dX0_seatsRest_78 (by decide) ?_
              exact ih1 x160 f149 f150 _ _ _ (ms_up x160_e j154 (by decide) hM1) (iv_w x160_h (by decide)) (IC_f iv1_0 (iv_w (c := 0) (d := 4095) j154 (by decide)) x160_e b159) iv1_1 iv1_2 hP hD hS hl
            ·
              have j161 : Iv 1 1 x155 := r_nelo h157 x155_h ik_0 (by decide)
              have b162 : bt x5 (Int32.toNatClampNeg x148) = true := has_t (e156 (iv_w (c := 0) (d := 12) j154 (by decide))) h157
              refine lv_aload_n hx hb dX0_seatsRest_49 rfl (lv_at hl 2 rfl) ?_
              refine va_get (D := (dC, dI)) (ci := 0) (v := .ref o6) (C := RX0) (T := TX0) (N := 8) hx hb hts iw_X0_seatsRest_X0 hown hK hP 0 rfl rfl 2 (by decide) (hts (.fieldLink RX0 41 "HolelessHouse$Benches" "places" "[I") hm_X0_seatsRest_3) (fun _ h9 => h9) rfl dX0_seatsRest_50 ?_
              refine lv_iload_n hx hb dX0_seatsRest_53 rfl (lv_at hl 4 rfl) ?_
              refine lv_iload hx hb dX0_seatsRest_54 (lv_at hl 0 rfl) ?_
              refine k_iast hx hb hK hP hD hS 3 0 rfl rfl (vin_iv ik_4 (by decide)) dX0_seatsRest_56 (fun f163 H locs f163_e hP hD hS => ?_)
              have hP : va_P (dC, dI) vwCl ([(o1, .inr (0, [.ref o2, .ref o4, .ref o6, .int v8, .int v9, .int v10, .int v11, .int v12])), (o2, .inl (cI, 256, .inl f149)), (o4, .inl (cI, 12, .inl fw5)), (o6, .inl (cI, 8, .inl f163))]) H := hP
              have hD : va_D A ([(o1, .inr (0, [.ref o2, .ref o4, .ref o6, .int v8, .int v9, .int v10, .int v11, .int v12])), (o2, .inl (cI, 256, .inl f149)), (o4, .inl (cI, 12, .inl fw5)), (o6, .inl (cI, 8, .inl f163))]) := hD
              refine lv_aload_n hx hb dX0_seatsRest_57 rfl (lv_at hl 2 rfl) ?_
              refine lv_iload_n hx hb dX0_seatsRest_58 rfl (lv_at hl 3 rfl) ?_
              refine lv_iconst (v := 1) hx hb dX0_seatsRest_59 (by decide) ?_
              refine lv_iload hx hb dX0_seatsRest_60 (lv_at hl 0 rfl) ?_
              refine lv_ishl hx hb dX0_seatsRest_62 (lv_topi (fun x164 x164_e => ?_))
              have x164_h : Iv 1 128 x164 := iv_e x164_e (iv_shl1 j154 (by decide))
              refine lv_ior hx hb dX0_seatsRest_63 (lv_topi (fun x165 x165_e => ?_))
              have x165_h : Iv 0 255 x165 := iv_e x165_e (iv_or 8 a1_h x164_h (by decide))
              refine lv_iload_n hx hb dX0_seatsRest_64 rfl (lv_at hl 4 rfl) ?_
              refine lv_iconst (v := 1) hx hb dX0_seatsRest_65 (by decide) ?_
              refine lv_iadd hx hb dX0_seatsRest_66 (tk_i (v := 5) (by decide +kernel) ?_)
              refine kc_i (D := (dC, dI)) (S := (Nat → Int32) × (Nat → Int32)) (wc := [(o1, .inr (0, [.ref o2, .ref o4, .ref o6, .int v8, .int v9, .int v10, .int v11, .int v12])), (o2, .inl (cI, 256, .inl f149)), (o4, .inl (cI, 12, .inl fw5)), (o6, .inl (cI, 8, .inl f163))]) (wr := []) (w1 := fun u => [(o1, .inr (0, [.ref o2, .ref o4, .ref o6, .int v8, .int v9, .int v10, .int v11, .int v12])), (o2, .inl (cI, 256, .inl u.1)), (o4, .inl (cI, 12, .inl fw5)), (o6, .inl (cI, 8, .inl u.2))]) (wn := fun u => [(o1, .inr (0, [.ref o2, .ref o4, .ref o6, .int v8, .int v9, .int v10, .int v11, .int v12])), (o2, .inl (cI, 256, .inl u.1)), (o4, .inl (cI, 12, .inl fw5)), (o6, .inl (cI, 8, .inl u.2))]) (fun hPc hDc => va_runS (As := [.ref o1, .int x165, .int 5]) (rest := []) ⟨hx, hb, hml, hown, hts⟩ (kxX0_seatsRest_26 l dC dI cI c2 cZ o1 o2 o4 o6 f149 fw5 f163 v8 v9 v10 v11 v12 x165 H.size v8_h (iv_w j2 (by decide)) v11_h x165_h (SP_s pre0 e6 (iv_w (c := 0) (d := 11) j154 (by decide)) b162 x164_e x165_e) iv1_1) (va_cwS 3 hts gX0_seatsRest_X0_seatsRest rfl rfl rfl (by decide +kernel) ⟨Nat.le_of_ble_eq_true rfl, Nat.le_of_ble_eq_true rfl⟩) (pre_S hPc hK hDc hN) rfl rfl hl.1 rfl (lv_room (Nat.le_of_ble_eq_true rfl)) dX0_seatsRest_67 ⟨Nat.le_of_ble_eq_true rfl, Nat.le_of_ble_eq_true rfl⟩) hP hD hS hA [0, 1, 2, 3] [] [0, 1, 2, 3] rfl rfl (by decide +kernel) (by decide +kernel) (by decide +kernel) (by decide +kernel) (fun _ => rfl) (fun x168 u H locs hq hP hD hS => ?_)
              obtain ⟨f166, f167⟩ := u
              obtain ⟨x168_h, e169, e170, e171⟩ := hq
              have hP : va_P (dC, dI) vwCl ([(o1, .inr (0, [.ref o2, .ref o4, .ref o6, .int v8, .int v9, .int v10, .int v11, .int v12])), (o2, .inl (cI, 256, .inl f166)), (o4, .inl (cI, 12, .inl fw5)), (o6, .inl (cI, 8, .inl f167))]) H := hP
              have hD : va_D A ([(o1, .inr (0, [.ref o2, .ref o4, .ref o6, .int v8, .int v9, .int v10, .int v11, .int v12])), (o2, .inl (cI, 256, .inl f166)), (o4, .inl (cI, 12, .inl fw5)), (o6, .inl (cI, 8, .inl f167))]) := hD
              refine lv_if_eq (tgt := 75) hx hb dX0_seatsRest_70 (by decide) (fun h172 => ?_) (fun h172 => ?_)
              ·
                have j173 : Iv 0 0 x168 := r_eq h172 ik_0
                obtain ⟨x174, x174_e⟩ : ∃ z : Int32, z = x148 + 1 := ⟨_, rfl⟩
                have x174_h : Iv 1 8 x174 := iv_e x174_e (iv_add j154 ik_1 (by decide))
                refine lv_iinc (v := x174) (lv' := [(4, .int x174), (3, .int x5), (0, .ref o1), (1, .int a1), (2, .int 4)]) hx hb dX0_seatsRest_75 hl (k := 0) rfl (incN (by decide +kernel) x174_e) (by decide) rfl (fun ls hl => ?_)
                refine lv_goto (tgt := 31) hx hb dX0_seatsRest_78 (by decide) ?_
                exact ih1 x174 f166 f167 _ _ _ (ms_up x174_e j154 (by decide) hM1) (iv_w x174_h (by decide)) (IC_t iv1_0 (iv_w (c := 0) (d := 11) j154 (by decide)) x174_e x164_e x165_e e169 h172) e170 (LPp_t e171 (LPp_u iv1_2 f163_e)) hP hD hS hl
              ·
                have j175 : Iv 1 1 x168 := r_nelo h172 x168_h ik_0 (by decide)
                refine lv_iconst (v := 1) hx hb dX0_seatsRest_73 (by decide) ?_
                rw [hQ]
                exact W.zret (v := 1) (ty := .boolean) hx hb hr rfl (fun t ht hW => ⟨⟨1, (f166, f167), rfl, ⟨(iv_w ik_1 (by decide)), (SY_t pre0 e6 iv1_0 (iv_w (c := 0) (d := 11) j154 (by decide)) b162 x164_e x165_e f163_e e171 e169 h172 (by have a0 := (show _ ≤ _ ∧ _ ≤ _ from j2); have a1 := (show Int32.toInt 4 = 4 by decide +kernel); have a2 := qh1; show 4 < Int.toNat _; omega)), e170, (LPp_t e171 (LPp_u iv1_2 f163_e))⟩, by rw [ht]; exact hP, va_K.moved hW.alike hK, hD⟩, hS.F ht⟩) hS.2.2 dX0_seatsRest_74
      exact L1 _ 0 fw3 fw7 _ _ _ (Nat.lt_succ_self _) (iv_w ik_0 (by decide)) IC_0 pre1 LPp_r hP hD hS hl
    ·
      have j176 : Iv 1 1 x3 := r_eq h4 ik_1
      refine lv_iconst (v := 0) hx hb dX0_seatsRest_20 (by decide) ?_
      rw [hQ]
      exact W.zret (v := 0) (ty := .boolean) hx hb hr rfl (fun t ht hW => ⟨⟨0, (fw3, fw7), rfl, ⟨(iv_w ik_0 (by decide)), (SY_memo pre0 pre1 (iv_w (c := 0) (d := 4095) a1_h (by decide)) x3_e h4), pre1, LPp_r⟩, by rw [ht]; exact hP, va_K.moved hW.alike hK, hD⟩, hS.F ht⟩) hS.2.2 dX0_seatsRest_21
  ·
    have qh1 := nlt_i h1
    have j177 : Iv 0 4 v9 := r_lel qh1 v9_h ik_4 (by decide)
    refine lv_iconst (v := 1) hx hb dX0_seatsRest_8 (by decide) ?_
    rw [hQ]
    exact W.zret (v := 1) (ty := .boolean) hx hb hr rfl (fun t ht hW => ⟨⟨1, (fw3, fw7), rfl, ⟨(iv_w ik_1 (by decide)), (SY_full pre0 (by have a0 := (show _ ≤ _ ∧ _ ≤ _ from j177); have a1 := (show Int32.toInt 4 = 4 by decide +kernel); have a2 := qh1; show Int.toNat _ ≤ 4; omega)), pre1, LPp_r⟩, by rw [ht]; exact hP, va_K.moved hW.alike hK, hD⟩, hS.F ht⟩) hS.2.2 dX0_seatsRest_9
set_option maxHeartbeats 4000000 in
set_option maxRecDepth 100000 in
theorem kxX0_seatsRest_28 (l : Launch) (dC : Nat → ClassId) (dI : Nat → Nat → Nat) (cI c2 cZ : ClassId) (o1 : Nat) (o2 : Nat) (o4 : Nat) (o6 : Nat) (fw3 : Nat → Int32) (fw5 : Nat → Int32) (fw7 : Nat → Int32) (v8 : Int32) (v9 : Int32) (v10 : Int32) (v11 : Int32) (v12 : Int32) (a1 : Int32) (sz : Nat) (v8_h : Iv 0 12 v8) (v9_h : Iv 0 8 v9) (v11_h : Iv 0 1 v11) (a1_h : Iv 0 255 a1) (pre0 : SP (Int32.toNatClampNeg v9) 3 a1) (pre1 : MS (okS fw5 (Int32.toNatClampNeg v8)) (Int32.toNatClampNeg v9) fw3) : Met l yX0_seatsRest wsX0_seatsRest ({ frames := 5, cells := 0, slots := 0, locals := 120 }) (va_Pc [.ref o1, .int a1, .int 3] (wPre (dC, dI) [(cI, .int), (c2, .array .int), (cZ, .boolean)] ([(o1, .inr (0, [.ref o2, .ref o4, .ref o6, .int v8, .int v9, .int v10, .int v11, .int v12])), (o2, .inl (cI, 256, .inl fw3)), (o4, .inl (cI, 12, .inl fw5)), (o6, .inl (cI, 8, .inl fw7))]) sz)) (va_Qi (fun (r : Int32) (u : (Nat → Int32) × (Nat → Int32)) => Iv 0 1 r ∧ SY (okS fw5 (Int32.toNatClampNeg v8)) (Int32.toNatClampNeg v9) 3 a1 r u.2 ∧ MS (okS fw5 (Int32.toNatClampNeg v8)) (Int32.toNatClampNeg v9) u.1 ∧ LPp 3 u.2 fw7) (fun u t => wPost (dC, dI) [(cI, .int), (c2, .array .int), (cZ, .boolean)] (va_A ([(o1, .inr (0, [.ref o2, .ref o4, .ref o6, .int v8, .int v9, .int v10, .int v11, .int v12])), (o2, .inl (cI, 256, .inl fw3)), (o4, .inl (cI, 12, .inl fw5)), (o6, .inl (cI, 8, .inl fw7))]) sz) ([(o1, .inr (0, [.ref o2, .ref o4, .ref o6, .int v8, .int v9, .int v10, .int v11, .int v12])), (o2, .inl (cI, 256, .inl u.1)), (o4, .inl (cI, 12, .inl fw5)), (o6, .inl (cI, 8, .inl u.2))]) t) (va_A ([(o1, .inr (0, [.ref o2, .ref o4, .ref o6, .int v8, .int v9, .int v10, .int v11, .int v12])), (o2, .inl (cI, 256, .inl fw3)), (o4, .inl (cI, 12, .inl fw5)), (o6, .inl (cI, 8, .inl fw7))]) sz)) 0 0 (va_A ([(o1, .inr (0, [.ref o2, .ref o4, .ref o6, .int v8, .int v9, .int v10, .int v11, .int v12])), (o2, .inl (cI, 256, .inl fw3)), (o4, .inl (cI, 12, .inl fw5)), (o6, .inl (cI, 8, .inl fw7))]) sz) := by
  refine Met.ofW (cc := cX0_seatsRest) (maxL := 5) (ret := (some .boolean)) (by decide) rfl ?_
  intro p e s m args below meth c s₁ B hml hv
  obtain ⟨rfl, hsz, hP, hK, hD0, hN⟩ := hv
  have hx := B.exec
  have hb := B.bytes
  have hr := B.returns
  have hts := atoms_spec (ws := wsX0_seatsRest) B.pre
  have hown : s.vm.findClass RX0 = some m.cls := findClass_of_methodNamed B.named
  have hlocks := B.notSynchronized
  subst hsz
  have hD := hD0.self (sz := s.heap.size)
  generalize hAe : va_A ([(o1, .inr (0, [.ref o2, .ref o4, .ref o6, .int v8, .int v9, .int v10, .int v11, .int v12])), (o2, .inl (cI, 256, .inl fw3)), (o4, .inl (cI, 12, .inl fw5)), (o6, .inl (cI, 8, .inl fw7))]) s.heap.size = A at hD ⊢
  have hA : ∀ q : Nat, s.heap.size ≤ q → A q := fun q h => by rw [← hAe]; exact Or.inr h
  have hS : va_S A s.heap s.heap [] := va_S.rf
  have hP : va_P (dC, dI) vwCl ([(o1, .inr (0, [.ref o2, .ref o4, .ref o6, .int v8, .int v9, .int v10, .int v11, .int v12])), (o2, .inl (cI, 256, .inl fw3)), (o4, .inl (cI, 12, .inl fw5)), (o6, .inl (cI, 8, .inl fw7))]) s.heap := hP
  have hl := lv_entry ([.ref o1, .int a1, .int 3]) (n := 5) (Nat.le_of_ble_eq_true rfl)
  rw [lg_entry_eq]
  generalize (lg_sl ([.ref o1, .int a1, .int 3]) ++ List.replicate (5 - (lg_sl ([.ref o1, .int a1, .int 3])).length) Slot.unset).toArray = ls at hl ⊢
  have hl : lv_has ls 5 [(0, .ref o1), (1, .int a1), (2, .int 3)] := hl
  refine gen_Q (fun Q hQ => ?_)
  refine lv_iload_n hx hb dX0_seatsRest_0 rfl (lv_at hl 2 rfl) ?_
  refine lv_aload_n hx hb dX0_seatsRest_1 rfl (lv_at hl 0 rfl) ?_
  refine va_get (D := (dC, dI)) (ci := 0) (v := .int v9) (C := RX0) (T := TX0) (N := 8) hx hb hts iw_X0_seatsRest_X0 hown hK hP 0 rfl rfl 4 (by decide) (hts (.fieldLink RX0 25 "HolelessHouse$Benches" "width" "I") hm_X0_seatsRest_1) (fun _ h9 => h9) rfl dX0_seatsRest_2 ?_
  refine lv_icmp_lt (tgt := 10) hx hb dX0_seatsRest_5 (by decide) (fun h1 => ?_) (fun h1 => ?_)
  ·
    have qh1 := lt_i h1
    have j2 : Iv 4 8 v9 := r_ltr qh1 ik_3 v9_h (by decide)
    refine lv_aload_n hx hb dX0_seatsRest_10 rfl (lv_at hl 0 rfl) ?_
    refine va_get (D := (dC, dI)) (ci := 0) (v := .ref o2) (C := RX0) (T := TX0) (N := 8) hx hb hts iw_X0_seatsRest_X0 hown hK hP 0 rfl rfl 0 (by decide) (hts (.fieldLink RX0 38 "HolelessHouse$Benches" "notes" "[I") hm_X0_seatsRest_2) (fun _ h9 => h9) rfl dX0_seatsRest_11 ?_
    refine lv_iload_n hx hb dX0_seatsRest_14 rfl (lv_at hl 1 rfl) ?_
    refine va_iald hx hb hK hP 1 0 rfl rfl (vin_iv a1_h (by decide)) dX0_seatsRest_15 (lv_topi (fun x3 x3_e => ?_))
    refine lv_iconst (v := 1) hx hb dX0_seatsRest_16 (by decide) ?_
    refine lv_icmp_ne (tgt := 22) hx hb dX0_seatsRest_17 (by decide) (fun h4 => ?_) (fun h4 => ?_)
    ·
      refine lv_aload_n hx hb dX0_seatsRest_22 rfl (lv_at hl 0 rfl) ?_
      refine lv_iload_n hx hb dX0_seatsRest_23 rfl (lv_at hl 1 rfl) ?_
      refine kc_i (D := (dC, dI)) (S := Unit) (wc := [(o1, .inr (0, [.ref o2, .ref o4, .ref o6, .int v8, .int v9, .int v10, .int v11, .int v12])), (o4, .inl (cI, 12, .inl fw5))]) (wr := [(o2, .inl (cI, 256, .inl fw3)), (o6, .inl (cI, 8, .inl fw7))]) (w1 := fun _ => [(o1, .inr (0, [.ref o2, .ref o4, .ref o6, .int v8, .int v9, .int v10, .int v11, .int v12])), (o4, .inl (cI, 12, .inl fw5))]) (wn := fun _ => [(o1, .inr (0, [.ref o2, .ref o4, .ref o6, .int v8, .int v9, .int v10, .int v11, .int v12])), (o2, .inl (cI, 256, .inl fw3)), (o4, .inl (cI, 12, .inl fw5)), (o6, .inl (cI, 8, .inl fw7))]) (fun hPc hDc => va_runV (As := [.int a1]) (rest := []) ⟨hx, hb, hml, hown, hts⟩ (kxX0_mayCome_3 l dC dI cI c2 cZ o1 o2 o4 o6 fw5 v8 v9 v10 v11 v12 a1 s.heap.size v8_h (iv_w j2 (by decide)) v11_h a1_h) (cwV 1 hts gX0_seatsRest_X0_mayCome rfl rfl rfl (by decide +kernel) ⟨Nat.le_of_ble_eq_true rfl, Nat.le_of_ble_eq_true rfl⟩) (pre_V hPc hK hDc hN (ci := 0) (q0 := 0) rfl rfl) rfl rfl hl.1 rfl (lv_room (Nat.le_of_ble_eq_true rfl)) dX0_seatsRest_24 ⟨Nat.le_of_ble_eq_true rfl, Nat.le_of_ble_eq_true rfl⟩) hP hD hS hA [0, 2] [1, 3] [2, 0, 3, 1] rfl rfl (by decide +kernel) (by decide +kernel) (by decide +kernel) (by decide +kernel) (fun _ => rfl) (fun x5 _ H locs hq hP hD hS => ?_)
      obtain ⟨x5_h, e6⟩ := hq
      have hP : va_P (dC, dI) vwCl ([(o1, .inr (0, [.ref o2, .ref o4, .ref o6, .int v8, .int v9, .int v10, .int v11, .int v12])), (o2, .inl (cI, 256, .inl fw3)), (o4, .inl (cI, 12, .inl fw5)), (o6, .inl (cI, 8, .inl fw7))]) H := hP
      have hD : va_D A ([(o1, .inr (0, [.ref o2, .ref o4, .ref o6, .int v8, .int v9, .int v10, .int v11, .int v12])), (o2, .inl (cI, 256, .inl fw3)), (o4, .inl (cI, 12, .inl fw5)), (o6, .inl (cI, 8, .inl fw7))]) := hD
      refine lv_istore_n (lv' := [(3, .int x5), (0, .ref o1), (1, .int a1), (2, .int 3)]) hx hb dX0_seatsRest_27 rfl hl (by decide) rfl (fun ls hl => ?_)
      refine lv_iconst (v := 0) hx hb dX0_seatsRest_28 (by decide) ?_
      refine lv_istore (lv' := [(4, .int 0), (3, .int x5), (0, .ref o1), (1, .int a1), (2, .int 3)]) hx hb dX0_seatsRest_29 hl (by decide) rfl (fun ls hl => ?_)
      have L1 : ∀ (N : Nat) (x151 : Int32) (f152 : Nat → Int32) (f153 : Nat → Int32) (H : Heap) (locs : List Loc) (ls : Array Slot), (8 - x151.toInt).toNat < N → Iv 0 8 x151 → (IC (okS fw5 (Int32.toNatClampNeg v8)) (Int32.toNatClampNeg v9) a1 x5 (Int32.toNatClampNeg x151)) → (MS (okS fw5 (Int32.toNatClampNeg v8)) (Int32.toNatClampNeg v9) f152) → (LPp 3 f153 fw7) → va_P (dC, dI) vwCl ([(o1, .inr (0, [.ref o2, .ref o4, .ref o6, .int v8, .int v9, .int v10, .int v11, .int v12])), (o2, .inl (cI, 256, .inl f152)), (o4, .inl (cI, 12, .inl fw5)), (o6, .inl (cI, 8, .inl f153))]) H → va_D A ([(o1, .inr (0, [.ref o2, .ref o4, .ref o6, .int v8, .int v9, .int v10, .int v11, .int v12])), (o2, .inl (cI, 256, .inl f152)), (o4, .inl (cI, 12, .inl fw5)), (o6, .inl (cI, 8, .inl f153))]) → va_S A s.heap H locs → lv_has ls 5 [(4, .int x151), (3, .int x5), (0, .ref o1), (1, .int a1), (2, .int 3)] → W p l e ({ frames := 5, cells := 0, slots := 0, locals := 120 }) s m ([.ref o1, .int a1, .int 3] : List Value).toArray below meth c H locs 0 0 Q (F0 m 31 ls []) := by
        intro N
        induction N with
        | zero =>
          intro x151 f152 f153 H locs ls hM
          exact absurd hM (Nat.not_lt_zero _)
        | succ N ih1 =>
          intro x151 f152 f153 H locs ls hM1 x151_h iv1_0 iv1_1 iv1_2 hP hD hS hl
          refine lv_iload hx hb dX0_seatsRest_31 (lv_at hl 0 rfl) ?_
          refine lv_aload_n hx hb dX0_seatsRest_33 rfl (lv_at hl 2 rfl) ?_
          refine va_get (D := (dC, dI)) (ci := 0) (v := .int v9) (C := RX0) (T := TX0) (N := 8) hx hb hts iw_X0_seatsRest_X0 hown hK hP 0 rfl rfl 4 (by decide) (hts (.fieldLink RX0 25 "HolelessHouse$Benches" "width" "I") hm_X0_seatsRest_1) (fun _ h9 => h9) rfl dX0_seatsRest_34 ?_
          refine lv_icmp_ge (tgt := 81) hx hb dX0_seatsRest_37 (by decide) (fun h154 => ?_) (fun h154 => ?_)
          ·
            have qh154 := le_i h154
            have j155 : Iv 4 8 x151 := r_ler qh154 j2 x151_h (by decide)
            refine lv_aload_n hx hb dX0_seatsRest_81 rfl (lv_at hl 2 rfl) ?_
            refine va_get (D := (dC, dI)) (ci := 0) (v := .ref o2) (C := RX0) (T := TX0) (N := 8) hx hb hts iw_X0_seatsRest_X0 hown hK hP 0 rfl rfl 0 (by decide) (hts (.fieldLink RX0 38 "HolelessHouse$Benches" "notes" "[I") hm_X0_seatsRest_2) (fun _ h9 => h9) rfl dX0_seatsRest_82 ?_
            refine lv_iload_n hx hb dX0_seatsRest_85 rfl (lv_at hl 3 rfl) ?_
            refine lv_iconst (v := 1) hx hb dX0_seatsRest_86 (by decide) ?_
            refine k_iast hx hb hK hP hD hS 1 0 rfl rfl (vin_iv a1_h (by decide)) dX0_seatsRest_87 (fun f156 H locs f156_e hP hD hS => ?_)
            have hP : va_P (dC, dI) vwCl ([(o1, .inr (0, [.ref o2, .ref o4, .ref o6, .int v8, .int v9, .int v10, .int v11, .int v12])), (o2, .inl (cI, 256, .inl f156)), (o4, .inl (cI, 12, .inl fw5)), (o6, .inl (cI, 8, .inl f153))]) H := hP
            have hD : va_D A ([(o1, .inr (0, [.ref o2, .ref o4, .ref o6, .int v8, .int v9, .int v10, .int v11, .int v12])), (o2, .inl (cI, 256, .inl f156)), (o4, .inl (cI, 12, .inl fw5)), (o6, .inl (cI, 8, .inl f153))]) := hD
            refine lv_iconst (v := 0) hx hb dX0_seatsRest_88 (by decide) ?_
            rw [hQ]
            exact W.zret (v := 0) (ty := .boolean) hx hb hr rfl (fun t ht hW => ⟨⟨0, (f156, f153), rfl, ⟨(iv_w ik_0 (by decide)), (SY_n (SY_z pre0 e6 iv1_0 qh154 (iv_w (c := 0) (d := 12) j2 (by decide)) (by have a0 := (show _ ≤ _ ∧ _ ≤ _ from j2); have a1 := (show Int32.toInt 3 = 3 by decide +kernel); have a2 := qh1; show 3 < Int.toNat _; omega))), (MS_u iv1_1 (SY_z pre0 e6 iv1_0 qh154 (iv_w (c := 0) (d := 12) j2 (by decide)) (by have a0 := (show _ ≤ _ ∧ _ ≤ _ from j2); have a1 := (show Int32.toInt 3 = 3 by decide +kernel); have a2 := qh1; show 3 < Int.toNat _; omega)) (iv_w (c := 0) (d := 4095) a1_h (by decide)) f156_e), iv1_2⟩, by rw [ht]; exact hP, va_K.moved hW.alike hK, hD⟩, hS.F ht⟩) hS.2.2 dX0_seatsRest_89
          ·
            have qh154 := nle_i h154
            have j157 : Iv 0 7 x151 := r_ltl qh154 x151_h j2 (by decide)
            refine lv_iload_n hx hb dX0_seatsRest_40 rfl (lv_at hl 1 rfl) ?_
            refine lv_iload hx hb dX0_seatsRest_41 (lv_at hl 0 rfl) ?_
            refine kc_i (D := (dC, dI)) (S := Unit) (wc := []) (wr := [(o1, .inr (0, [.ref o2, .ref o4, .ref o6, .int v8, .int v9, .int v10, .int v11, .int v12])), (o2, .inl (cI, 256, .inl f152)), (o4, .inl (cI, 12, .inl fw5)), (o6, .inl (cI, 8, .inl f153))]) (w1 := fun _ => []) (wn := fun _ => [(o1, .inr (0, [.ref o2, .ref o4, .ref o6, .int v8, .int v9, .int v10, .int v11, .int v12])), (o2, .inl (cI, 256, .inl f152)), (o4, .inl (cI, 12, .inl fw5)), (o6, .inl (cI, 8, .inl f153))]) (fun hPc hDc => va_runSN (As := [.int x5, .int x151]) (rest := []) ⟨hx, hb, hml, hown, hts⟩ (kxX11_in_2 l dC dI cI c2 cZ x5 x151 H.size) ⟨va_cnB 2 hts gX0_seatsRest_X11_in_n62 rfl rfl rfl (hN.1 _ ns_125) (hts (.initialized RX11) hm_X0_seatsRest_12) (by decide +kernel) ⟨Nat.le_of_ble_eq_true rfl, Nat.le_of_ble_eq_true rfl⟩, (hts (.static yX11_in) hm_X0_seatsRest_11), trivial⟩ (pre_S hPc hK hDc hN) rfl rfl hl.1 rfl (lv_room (Nat.le_of_ble_eq_true rfl)) dX0_seatsRest_43 ⟨Nat.le_of_ble_eq_true rfl, Nat.le_of_ble_eq_true rfl⟩) hP hD hS hA [] [0, 1, 2, 3] [0, 1, 2, 3] rfl rfl (by decide +kernel) (by decide +kernel) (by decide +kernel) (by decide +kernel) (fun _ => rfl) (fun x158 _ H locs hq hP hD hS => ?_)
            obtain ⟨x158_h, e159⟩ := hq
            have hP : va_P (dC, dI) vwCl ([(o1, .inr (0, [.ref o2, .ref o4, .ref o6, .int v8, .int v9, .int v10, .int v11, .int v12])), (o2, .inl (cI, 256, .inl f152)), (o4, .inl (cI, 12, .inl fw5)), (o6, .inl (cI, 8, .inl f153))]) H := hP
            have hD : va_D A ([(o1, .inr (0, [.ref o2, .ref o4, .ref o6, .int v8, .int v9, .int v10, .int v11, .int v12])), (o2, .inl (cI, 256, .inl f152)), (o4, .inl (cI, 12, .inl fw5)), (o6, .inl (cI, 8, .inl f153))]) := hD
            refine lv_if_eq (tgt := 75) hx hb dX0_seatsRest_46 (by decide) (fun h160 => ?_) (fun h160 => ?_)
            ·
              have j161 : Iv 0 0 x158 := r_eq h160 ik_0
              have b162 : bt x5 (Int32.toNatClampNeg x151) = false := has_f (e159 (iv_w (c := 0) (d := 12) j157 (by decide))) h160
              obtain ⟨x163, x163_e⟩ : ∃ z : Int32, z = x151 + 1 := ⟨_, rfl⟩
              have x163_h : Iv 1 8 x163 := iv_e x163_e (iv_add j157 ik_1 (by decide))
              refine lv_iinc (v := x163) (lv' := [(4, .int x163), (3, .int x5), (0, .ref o1), (1, .int a1), (2, .int 3)]) hx hb dX0_seatsRest_75 hl (k := 0) rfl (incN (by decide +kernel) x163_e) (by decide) rfl (fun ls hl => ?_)
              refine lv_goto (tgt := 31) hx hb dX0_seatsRest_78 (by decide) ?_
              exact ih1 x163 f152 f153 _ _ _ (ms_up x163_e j157 (by decide) hM1) (iv_w x163_h (by decide)) (IC_f iv1_0 (iv_w (c := 0) (d := 4095) j157 (by decide)) x163_e b162) iv1_1 iv1_2 hP hD hS hl
            ·
              have j164 : Iv 1 1 x158 := r_nelo h160 x158_h ik_0 (by decide)
              have b165 : bt x5 (Int32.toNatClampNeg x151) = true := has_t (e159 (iv_w (c := 0) (d := 12) j157 (by decide))) h160
              refine lv_aload_n hx hb dX0_seatsRest_49 rfl (lv_at hl 2 rfl) ?_
              refine va_get (D := (dC, dI)) (ci := 0) (v := .ref o6) (C := RX0) (T := TX0) (N := 8) hx hb hts iw_X0_seatsRest_X0 hown hK hP 0 rfl rfl 2 (by decide) (hts (.fieldLink RX0 41 "HolelessHouse$Benches" "places" "[I") hm_X0_seatsRest_3) (fun _ h9 => h9) rfl dX0_seatsRest_50 ?_
              refine lv_iload_n hx hb dX0_seatsRest_53 rfl (lv_at hl 4 rfl) ?_
              refine lv_iload hx hb dX0_seatsRest_54 (lv_at hl 0 rfl) ?_
              refine k_iast hx hb hK hP hD hS 3 0 rfl rfl (vin_iv ik_3 (by decide)) dX0_seatsRest_56 (fun f166 H locs f166_e hP hD hS => ?_)
              have hP : va_P (dC, dI) vwCl ([(o1, .inr (0, [.ref o2, .ref o4, .ref o6, .int v8, .int v9, .int v10, .int v11, .int v12])), (o2, .inl (cI, 256, .inl f152)), (o4, .inl (cI, 12, .inl fw5)), (o6, .inl (cI, 8, .inl f166))]) H := hP
              have hD : va_D A ([(o1, .inr (0, [.ref o2, .ref o4, .ref o6, .int v8, .int v9, .int v10, .int v11, .int v12])), (o2, .inl (cI, 256, .inl f152)), (o4, .inl (cI, 12, .inl fw5)), (o6, .inl (cI, 8, .inl f166))]) := hD
              refine lv_aload_n hx hb dX0_seatsRest_57 rfl (lv_at hl 2 rfl) ?_
              refine lv_iload_n hx hb dX0_seatsRest_58 rfl (lv_at hl 3 rfl) ?_
              refine lv_iconst (v := 1) hx hb dX0_seatsRest_59 (by decide) ?_
              refine lv_iload hx hb dX0_seatsRest_60 (lv_at hl 0 rfl) ?_
              refine lv_ishl hx hb dX0_seatsRest_62 (lv_topi (fun x167 x167_e => ?_))
              have x167_h : Iv 1 128 x167 := iv_e x167_e (iv_shl1 j157 (by decide))
              refine lv_ior hx hb dX0_seatsRest_63 (lv_topi (fun x168 x168_e => ?_))
              have x168_h : Iv 0 255 x168 := iv_e x168_e (iv_or 8 a1_h x167_h (by decide))
              refine lv_iload_n hx hb dX0_seatsRest_64 rfl (lv_at hl 4 rfl) ?_
              refine lv_iconst (v := 1) hx hb dX0_seatsRest_65 (by decide) ?_
              refine lv_iadd hx hb dX0_seatsRest_66 (tk_i (v := 4) (by decide +kernel) ?_)
              refine kc_i (D := (dC, dI)) (S := (Nat → Int32) × (Nat → Int32)) (wc := [(o1, .inr (0, [.ref o2, .ref o4, .ref o6, .int v8, .int v9, .int v10, .int v11, .int v12])), (o2, .inl (cI, 256, .inl f152)), (o4, .inl (cI, 12, .inl fw5)), (o6, .inl (cI, 8, .inl f166))]) (wr := []) (w1 := fun u => [(o1, .inr (0, [.ref o2, .ref o4, .ref o6, .int v8, .int v9, .int v10, .int v11, .int v12])), (o2, .inl (cI, 256, .inl u.1)), (o4, .inl (cI, 12, .inl fw5)), (o6, .inl (cI, 8, .inl u.2))]) (wn := fun u => [(o1, .inr (0, [.ref o2, .ref o4, .ref o6, .int v8, .int v9, .int v10, .int v11, .int v12])), (o2, .inl (cI, 256, .inl u.1)), (o4, .inl (cI, 12, .inl fw5)), (o6, .inl (cI, 8, .inl u.2))]) (fun hPc hDc => va_runS (As := [.ref o1, .int x168, .int 4]) (rest := []) ⟨hx, hb, hml, hown, hts⟩ (kxX0_seatsRest_27 l dC dI cI c2 cZ o1 o2 o4 o6 f152 fw5 f166 v8 v9 v10 v11 v12 x168 H.size v8_h (iv_w j2 (by decide)) v11_h x168_h (SP_s pre0 e6 (iv_w (c := 0) (d := 11) j157 (by decide)) b165 x167_e x168_e) iv1_1) (va_cwS 3 hts gX0_seatsRest_X0_seatsRest rfl rfl rfl (by decide +kernel) ⟨Nat.le_of_ble_eq_true rfl, Nat.le_of_ble_eq_true rfl⟩) (pre_S hPc hK hDc hN) rfl rfl hl.1 rfl (lv_room (Nat.le_of_ble_eq_true rfl)) dX0_seatsRest_67 ⟨Nat.le_of_ble_eq_true rfl, Nat.le_of_ble_eq_true rfl⟩) hP hD hS hA [0, 1, 2, 3] [] [0, 1, 2, 3] rfl rfl (by decide +kernel) (by decide +kernel) (by decide +kernel) (by decide +kernel) (fun _ => rfl) (fun x171 u H locs hq hP hD hS => ?_)
              obtain ⟨f169, f170⟩ := u
              obtain ⟨x171_h, e172, e173, e174⟩ := hq
              have hP : va_P (dC, dI) vwCl ([(o1, .inr (0, [.ref o2, .ref o4, .ref o6, .int v8, .int v9, .int v10, .int v11, .int v12])), (o2, .inl (cI, 256, .inl f169)), (o4, .inl (cI, 12, .inl fw5)), (o6, .inl (cI, 8, .inl f170))]) H := hP
              have hD : va_D A ([(o1, .inr (0, [.ref o2, .ref o4, .ref o6, .int v8, .int v9, .int v10, .int v11, .int v12])), (o2, .inl (cI, 256, .inl f169)), (o4, .inl (cI, 12, .inl fw5)), (o6, .inl (cI, 8, .inl f170))]) := hD
              refine lv_if_eq (tgt := 75) hx hb dX0_seatsRest_70 (by decide) (fun h175 => ?_) (fun h175 => ?_)
              ·
                have j176 : Iv 0 0 x171 := r_eq h175 ik_0
                obtain ⟨x177, x177_e⟩ : ∃ z : Int32, z = x151 + 1 := ⟨_, rfl⟩
                have x177_h : Iv 1 8 x177 := iv_e x177_e (iv_add j157 ik_1 (by decide))
                refine lv_iinc (v := x177) (lv' := [(4, .int x177), (3, .int x5), (0, .ref o1), (1, .int a1), (2, .int 3)]) hx hb dX0_seatsRest_75 hl (k := 0) rfl (incN (by decide +kernel) x177_e) (by decide) rfl (fun ls hl => ?_)
                refine lv_goto (tgt := 31) hx hb dX0_seatsRest_78 (by decide) ?_
                exact ih1 x177 f169 f170 _ _ _ (ms_up x177_e j157 (by decide) hM1) (iv_w x177_h (by decide)) (IC_t iv1_0 (iv_w (c := 0) (d := 11) j157 (by decide)) x177_e x167_e x168_e e172 h175) e173 (LPp_t e174 (LPp_u iv1_2 f166_e)) hP hD hS hl
              ·
                have j178 : Iv 1 1 x171 := r_nelo h175 x171_h ik_0 (by decide)
                refine lv_iconst (v := 1) hx hb dX0_seatsRest_73 (by decide) ?_
                rw [hQ]
                exact W.zret (v := 1) (ty := .boolean) hx hb hr rfl (fun t ht hW => ⟨⟨1, (f169, f170), rfl, ⟨(iv_w ik_1 (by decide)), (SY_t pre0 e6 iv1_0 (iv_w (c := 0) (d := 11) j157 (by decide)) b165 x167_e x168_e f166_e e174 e172 h175 (by have a0 := (show _ ≤ _ ∧ _ ≤ _ from j2); have a1 := (show Int32.toInt 3 = 3 by decide +kernel); have a2 := qh1; show 3 < Int.toNat _; omega)), e173, (LPp_t e174 (LPp_u iv1_2 f166_e))⟩, by rw [ht]; exact hP, va_K.moved hW.alike hK, hD⟩, hS.F ht⟩) hS.2.2 dX0_seatsRest_74
      exact L1 _ 0 fw3 fw7 _ _ _ (Nat.lt_succ_self _) (iv_w ik_0 (by decide)) IC_0 pre1 LPp_r hP hD hS hl
    ·
      have j179 : Iv 1 1 x3 := r_eq h4 ik_1
      refine lv_iconst (v := 0) hx hb dX0_seatsRest_20 (by decide) ?_
      rw [hQ]
      exact W.zret (v := 0) (ty := .boolean) hx hb hr rfl (fun t ht hW => ⟨⟨0, (fw3, fw7), rfl, ⟨(iv_w ik_0 (by decide)), (SY_memo pre0 pre1 (iv_w (c := 0) (d := 4095) a1_h (by decide)) x3_e h4), pre1, LPp_r⟩, by rw [ht]; exact hP, va_K.moved hW.alike hK, hD⟩, hS.F ht⟩) hS.2.2 dX0_seatsRest_21
  ·
    have qh1 := nlt_i h1
    have j180 : Iv 0 3 v9 := r_lel qh1 v9_h ik_3 (by decide)
    refine lv_iconst (v := 1) hx hb dX0_seatsRest_8 (by decide) ?_
    rw [hQ]
    exact W.zret (v := 1) (ty := .boolean) hx hb hr rfl (fun t ht hW => ⟨⟨1, (fw3, fw7), rfl, ⟨(iv_w ik_1 (by decide)), (SY_full pre0 (by have a0 := (show _ ≤ _ ∧ _ ≤ _ from j180); have a1 := (show Int32.toInt 3 = 3 by decide +kernel); have a2 := qh1; show Int.toNat _ ≤ 3; omega)), pre1, LPp_r⟩, by rw [ht]; exact hP, va_K.moved hW.alike hK, hD⟩, hS.F ht⟩) hS.2.2 dX0_seatsRest_9
set_option maxHeartbeats 4000000 in
set_option maxRecDepth 100000 in
theorem kxX0_seatsRest_29 (l : Launch) (dC : Nat → ClassId) (dI : Nat → Nat → Nat) (cI c2 cZ : ClassId) (o1 : Nat) (o2 : Nat) (o4 : Nat) (o6 : Nat) (fw3 : Nat → Int32) (fw5 : Nat → Int32) (fw7 : Nat → Int32) (v8 : Int32) (v9 : Int32) (v10 : Int32) (v11 : Int32) (v12 : Int32) (a1 : Int32) (sz : Nat) (v8_h : Iv 0 12 v8) (v9_h : Iv 0 8 v9) (v11_h : Iv 0 1 v11) (a1_h : Iv 0 255 a1) (pre0 : SP (Int32.toNatClampNeg v9) 2 a1) (pre1 : MS (okS fw5 (Int32.toNatClampNeg v8)) (Int32.toNatClampNeg v9) fw3) : Met l yX0_seatsRest wsX0_seatsRest ({ frames := 6, cells := 0, slots := 0, locals := 144 }) (va_Pc [.ref o1, .int a1, .int 2] (wPre (dC, dI) [(cI, .int), (c2, .array .int), (cZ, .boolean)] ([(o1, .inr (0, [.ref o2, .ref o4, .ref o6, .int v8, .int v9, .int v10, .int v11, .int v12])), (o2, .inl (cI, 256, .inl fw3)), (o4, .inl (cI, 12, .inl fw5)), (o6, .inl (cI, 8, .inl fw7))]) sz)) (va_Qi (fun (r : Int32) (u : (Nat → Int32) × (Nat → Int32)) => Iv 0 1 r ∧ SY (okS fw5 (Int32.toNatClampNeg v8)) (Int32.toNatClampNeg v9) 2 a1 r u.2 ∧ MS (okS fw5 (Int32.toNatClampNeg v8)) (Int32.toNatClampNeg v9) u.1 ∧ LPp 2 u.2 fw7) (fun u t => wPost (dC, dI) [(cI, .int), (c2, .array .int), (cZ, .boolean)] (va_A ([(o1, .inr (0, [.ref o2, .ref o4, .ref o6, .int v8, .int v9, .int v10, .int v11, .int v12])), (o2, .inl (cI, 256, .inl fw3)), (o4, .inl (cI, 12, .inl fw5)), (o6, .inl (cI, 8, .inl fw7))]) sz) ([(o1, .inr (0, [.ref o2, .ref o4, .ref o6, .int v8, .int v9, .int v10, .int v11, .int v12])), (o2, .inl (cI, 256, .inl u.1)), (o4, .inl (cI, 12, .inl fw5)), (o6, .inl (cI, 8, .inl u.2))]) t) (va_A ([(o1, .inr (0, [.ref o2, .ref o4, .ref o6, .int v8, .int v9, .int v10, .int v11, .int v12])), (o2, .inl (cI, 256, .inl fw3)), (o4, .inl (cI, 12, .inl fw5)), (o6, .inl (cI, 8, .inl fw7))]) sz)) 0 0 (va_A ([(o1, .inr (0, [.ref o2, .ref o4, .ref o6, .int v8, .int v9, .int v10, .int v11, .int v12])), (o2, .inl (cI, 256, .inl fw3)), (o4, .inl (cI, 12, .inl fw5)), (o6, .inl (cI, 8, .inl fw7))]) sz) := by
  refine Met.ofW (cc := cX0_seatsRest) (maxL := 5) (ret := (some .boolean)) (by decide) rfl ?_
  intro p e s m args below meth c s₁ B hml hv
  obtain ⟨rfl, hsz, hP, hK, hD0, hN⟩ := hv
  have hx := B.exec
  have hb := B.bytes
  have hr := B.returns
  have hts := atoms_spec (ws := wsX0_seatsRest) B.pre
  have hown : s.vm.findClass RX0 = some m.cls := findClass_of_methodNamed B.named
  have hlocks := B.notSynchronized
  subst hsz
  have hD := hD0.self (sz := s.heap.size)
  generalize hAe : va_A ([(o1, .inr (0, [.ref o2, .ref o4, .ref o6, .int v8, .int v9, .int v10, .int v11, .int v12])), (o2, .inl (cI, 256, .inl fw3)), (o4, .inl (cI, 12, .inl fw5)), (o6, .inl (cI, 8, .inl fw7))]) s.heap.size = A at hD ⊢
  have hA : ∀ q : Nat, s.heap.size ≤ q → A q := fun q h => by rw [← hAe]; exact Or.inr h
  have hS : va_S A s.heap s.heap [] := va_S.rf
  have hP : va_P (dC, dI) vwCl ([(o1, .inr (0, [.ref o2, .ref o4, .ref o6, .int v8, .int v9, .int v10, .int v11, .int v12])), (o2, .inl (cI, 256, .inl fw3)), (o4, .inl (cI, 12, .inl fw5)), (o6, .inl (cI, 8, .inl fw7))]) s.heap := hP
  have hl := lv_entry ([.ref o1, .int a1, .int 2]) (n := 5) (Nat.le_of_ble_eq_true rfl)
  rw [lg_entry_eq]
  generalize (lg_sl ([.ref o1, .int a1, .int 2]) ++ List.replicate (5 - (lg_sl ([.ref o1, .int a1, .int 2])).length) Slot.unset).toArray = ls at hl ⊢
  have hl : lv_has ls 5 [(0, .ref o1), (1, .int a1), (2, .int 2)] := hl
  refine gen_Q (fun Q hQ => ?_)
  refine lv_iload_n hx hb dX0_seatsRest_0 rfl (lv_at hl 2 rfl) ?_
  refine lv_aload_n hx hb dX0_seatsRest_1 rfl (lv_at hl 0 rfl) ?_
  refine va_get (D := (dC, dI)) (ci := 0) (v := .int v9) (C := RX0) (T := TX0) (N := 8) hx hb hts iw_X0_seatsRest_X0 hown hK hP 0 rfl rfl 4 (by decide) (hts (.fieldLink RX0 25 "HolelessHouse$Benches" "width" "I") hm_X0_seatsRest_1) (fun _ h9 => h9) rfl dX0_seatsRest_2 ?_
  refine lv_icmp_lt (tgt := 10) hx hb dX0_seatsRest_5 (by decide) (fun h1 => ?_) (fun h1 => ?_)
  ·
    have qh1 := lt_i h1
    have j2 : Iv 3 8 v9 := r_ltr qh1 ik_2 v9_h (by decide)
    refine lv_aload_n hx hb dX0_seatsRest_10 rfl (lv_at hl 0 rfl) ?_
    refine va_get (D := (dC, dI)) (ci := 0) (v := .ref o2) (C := RX0) (T := TX0) (N := 8) hx hb hts iw_X0_seatsRest_X0 hown hK hP 0 rfl rfl 0 (by decide) (hts (.fieldLink RX0 38 "HolelessHouse$Benches" "notes" "[I") hm_X0_seatsRest_2) (fun _ h9 => h9) rfl dX0_seatsRest_11 ?_
    refine lv_iload_n hx hb dX0_seatsRest_14 rfl (lv_at hl 1 rfl) ?_
    refine va_iald hx hb hK hP 1 0 rfl rfl (vin_iv a1_h (by decide)) dX0_seatsRest_15 (lv_topi (fun x3 x3_e => ?_))
    refine lv_iconst (v := 1) hx hb dX0_seatsRest_16 (by decide) ?_
    refine lv_icmp_ne (tgt := 22) hx hb dX0_seatsRest_17 (by decide) (fun h4 => ?_) (fun h4 => ?_)
    ·
      refine lv_aload_n hx hb dX0_seatsRest_22 rfl (lv_at hl 0 rfl) ?_
      refine lv_iload_n hx hb dX0_seatsRest_23 rfl (lv_at hl 1 rfl) ?_
      refine kc_i (D := (dC, dI)) (S := Unit) (wc := [(o1, .inr (0, [.ref o2, .ref o4, .ref o6, .int v8, .int v9, .int v10, .int v11, .int v12])), (o4, .inl (cI, 12, .inl fw5))]) (wr := [(o2, .inl (cI, 256, .inl fw3)), (o6, .inl (cI, 8, .inl fw7))]) (w1 := fun _ => [(o1, .inr (0, [.ref o2, .ref o4, .ref o6, .int v8, .int v9, .int v10, .int v11, .int v12])), (o4, .inl (cI, 12, .inl fw5))]) (wn := fun _ => [(o1, .inr (0, [.ref o2, .ref o4, .ref o6, .int v8, .int v9, .int v10, .int v11, .int v12])), (o2, .inl (cI, 256, .inl fw3)), (o4, .inl (cI, 12, .inl fw5)), (o6, .inl (cI, 8, .inl fw7))]) (fun hPc hDc => va_runV (As := [.int a1]) (rest := []) ⟨hx, hb, hml, hown, hts⟩ (kxX0_mayCome_3 l dC dI cI c2 cZ o1 o2 o4 o6 fw5 v8 v9 v10 v11 v12 a1 s.heap.size v8_h (iv_w j2 (by decide)) v11_h a1_h) (cwV 1 hts gX0_seatsRest_X0_mayCome rfl rfl rfl (by decide +kernel) ⟨Nat.le_of_ble_eq_true rfl, Nat.le_of_ble_eq_true rfl⟩) (pre_V hPc hK hDc hN (ci := 0) (q0 := 0) rfl rfl) rfl rfl hl.1 rfl (lv_room (Nat.le_of_ble_eq_true rfl)) dX0_seatsRest_24 ⟨Nat.le_of_ble_eq_true rfl, Nat.le_of_ble_eq_true rfl⟩) hP hD hS hA [0, 2] [1, 3] [2, 0, 3, 1] rfl rfl (by decide +kernel) (by decide +kernel) (by decide +kernel) (by decide +kernel) (fun _ => rfl) (fun x5 _ H locs hq hP hD hS => ?_)
      obtain ⟨x5_h, e6⟩ := hq
      have hP : va_P (dC, dI) vwCl ([(o1, .inr (0, [.ref o2, .ref o4, .ref o6, .int v8, .int v9, .int v10, .int v11, .int v12])), (o2, .inl (cI, 256, .inl fw3)), (o4, .inl (cI, 12, .inl fw5)), (o6, .inl (cI, 8, .inl fw7))]) H := hP
      have hD : va_D A ([(o1, .inr (0, [.ref o2, .ref o4, .ref o6, .int v8, .int v9, .int v10, .int v11, .int v12])), (o2, .inl (cI, 256, .inl fw3)), (o4, .inl (cI, 12, .inl fw5)), (o6, .inl (cI, 8, .inl fw7))]) := hD
      refine lv_istore_n (lv' := [(3, .int x5), (0, .ref o1), (1, .int a1), (2, .int 2)]) hx hb dX0_seatsRest_27 rfl hl (by decide) rfl (fun ls hl => ?_)
      refine lv_iconst (v := 0) hx hb dX0_seatsRest_28 (by decide) ?_
      refine lv_istore (lv' := [(4, .int 0), (3, .int x5), (0, .ref o1), (1, .int a1), (2, .int 2)]) hx hb dX0_seatsRest_29 hl (by decide) rfl (fun ls hl => ?_)
      have L1 : ∀ (N : Nat) (x154 : Int32) (f155 : Nat → Int32) (f156 : Nat → Int32) (H : Heap) (locs : List Loc) (ls : Array Slot), (8 - x154.toInt).toNat < N → Iv 0 8 x154 → (IC (okS fw5 (Int32.toNatClampNeg v8)) (Int32.toNatClampNeg v9) a1 x5 (Int32.toNatClampNeg x154)) → (MS (okS fw5 (Int32.toNatClampNeg v8)) (Int32.toNatClampNeg v9) f155) → (LPp 2 f156 fw7) → va_P (dC, dI) vwCl ([(o1, .inr (0, [.ref o2, .ref o4, .ref o6, .int v8, .int v9, .int v10, .int v11, .int v12])), (o2, .inl (cI, 256, .inl f155)), (o4, .inl (cI, 12, .inl fw5)), (o6, .inl (cI, 8, .inl f156))]) H → va_D A ([(o1, .inr (0, [.ref o2, .ref o4, .ref o6, .int v8, .int v9, .int v10, .int v11, .int v12])), (o2, .inl (cI, 256, .inl f155)), (o4, .inl (cI, 12, .inl fw5)), (o6, .inl (cI, 8, .inl f156))]) → va_S A s.heap H locs → lv_has ls 5 [(4, .int x154), (3, .int x5), (0, .ref o1), (1, .int a1), (2, .int 2)] → W p l e ({ frames := 6, cells := 0, slots := 0, locals := 144 }) s m ([.ref o1, .int a1, .int 2] : List Value).toArray below meth c H locs 0 0 Q (F0 m 31 ls []) := by
        intro N
        induction N with
        | zero =>
          intro x154 f155 f156 H locs ls hM
          exact absurd hM (Nat.not_lt_zero _)
        | succ N ih1 =>
          intro x154 f155 f156 H locs ls hM1 x154_h iv1_0 iv1_1 iv1_2 hP hD hS hl
          refine lv_iload hx hb dX0_seatsRest_31 (lv_at hl 0 rfl) ?_
          refine lv_aload_n hx hb dX0_seatsRest_33 rfl (lv_at hl 2 rfl) ?_
          refine va_get (D := (dC, dI)) (ci := 0) (v := .int v9) (C := RX0) (T := TX0) (N := 8) hx hb hts iw_X0_seatsRest_X0 hown hK hP 0 rfl rfl 4 (by decide) (hts (.fieldLink RX0 25 "HolelessHouse$Benches" "width" "I") hm_X0_seatsRest_1) (fun _ h9 => h9) rfl dX0_seatsRest_34 ?_
          refine lv_icmp_ge (tgt := 81) hx hb dX0_seatsRest_37 (by decide) (fun h157 => ?_) (fun h157 => ?_)
          ·
            have qh157 := le_i h157
            have j158 : Iv 3 8 x154 := r_ler qh157 j2 x154_h (by decide)
            refine lv_aload_n hx hb dX0_seatsRest_81 rfl (lv_at hl 2 rfl) ?_
            refine va_get (D := (dC, dI)) (ci := 0) (v := .ref o2) (C := RX0) (T := TX0) (N := 8) hx hb hts iw_X0_seatsRest_X0 hown hK hP 0 rfl rfl 0 (by decide) (hts (.fieldLink RX0 38 "HolelessHouse$Benches" "notes" "[I") hm_X0_seatsRest_2) (fun _ h9 => h9) rfl dX0_seatsRest_82 ?_
            refine lv_iload_n hx hb dX0_seatsRest_85 rfl (lv_at hl 3 rfl) ?_
            refine lv_iconst (v := 1) hx hb dX0_seatsRest_86 (by decide) ?_
            refine k_iast hx hb hK hP hD hS 1 0 rfl rfl (vin_iv a1_h (by decide)) dX0_seatsRest_87 (fun f159 H locs f159_e hP hD hS => ?_)
            have hP : va_P (dC, dI) vwCl ([(o1, .inr (0, [.ref o2, .ref o4, .ref o6, .int v8, .int v9, .int v10, .int v11, .int v12])), (o2, .inl (cI, 256, .inl f159)), (o4, .inl (cI, 12, .inl fw5)), (o6, .inl (cI, 8, .inl f156))]) H := hP
            have hD : va_D A ([(o1, .inr (0, [.ref o2, .ref o4, .ref o6, .int v8, .int v9, .int v10, .int v11, .int v12])), (o2, .inl (cI, 256, .inl f159)), (o4, .inl (cI, 12, .inl fw5)), (o6, .inl (cI, 8, .inl f156))]) := hD
            refine lv_iconst (v := 0) hx hb dX0_seatsRest_88 (by decide) ?_
            rw [hQ]
            exact W.zret (v := 0) (ty := .boolean) hx hb hr rfl (fun t ht hW => ⟨⟨0, (f159, f156), rfl, ⟨(iv_w ik_0 (by decide)), (SY_n (SY_z pre0 e6 iv1_0 qh157 (iv_w (c := 0) (d := 12) j2 (by decide)) (by have a0 := (show _ ≤ _ ∧ _ ≤ _ from j2); have a1 := (show Int32.toInt 2 = 2 by decide +kernel); have a2 := qh1; show 2 < Int.toNat _; omega))), (MS_u iv1_1 (SY_z pre0 e6 iv1_0 qh157 (iv_w (c := 0) (d := 12) j2 (by decide)) (by have a0 := (show _ ≤ _ ∧ _ ≤ _ from j2); have a1 := (show Int32.toInt 2 = 2 by decide +kernel); have a2 := qh1; show 2 < Int.toNat _; omega)) (iv_w (c := 0) (d := 4095) a1_h (by decide)) f159_e), iv1_2⟩, by rw [ht]; exact hP, va_K.moved hW.alike hK, hD⟩, hS.F ht⟩) hS.2.2 dX0_seatsRest_89
          ·
            have qh157 := nle_i h157
            have j160 : Iv 0 7 x154 := r_ltl qh157 x154_h j2 (by decide)
            refine lv_iload_n hx hb dX0_seatsRest_40 rfl (lv_at hl 1 rfl) ?_
            refine lv_iload hx hb dX0_seatsRest_41 (lv_at hl 0 rfl) ?_
            refine kc_i (D := (dC, dI)) (S := Unit) (wc := []) (wr := [(o1, .inr (0, [.ref o2, .ref o4, .ref o6, .int v8, .int v9, .int v10, .int v11, .int v12])), (o2, .inl (cI, 256, .inl f155)), (o4, .inl (cI, 12, .inl fw5)), (o6, .inl (cI, 8, .inl f156))]) (w1 := fun _ => []) (wn := fun _ => [(o1, .inr (0, [.ref o2, .ref o4, .ref o6, .int v8, .int v9, .int v10, .int v11, .int v12])), (o2, .inl (cI, 256, .inl f155)), (o4, .inl (cI, 12, .inl fw5)), (o6, .inl (cI, 8, .inl f156))]) (fun hPc hDc => va_runSN (As := [.int x5, .int x154]) (rest := []) ⟨hx, hb, hml, hown, hts⟩ (kxX11_in_2 l dC dI cI c2 cZ x5 x154 H.size) ⟨va_cnB 2 hts gX0_seatsRest_X11_in_n62 rfl rfl rfl (hN.1 _ ns_125) (hts (.initialized RX11) hm_X0_seatsRest_12) (by decide +kernel) ⟨Nat.le_of_ble_eq_true rfl, Nat.le_of_ble_eq_true rfl⟩, (hts (.static yX11_in) hm_X0_seatsRest_11), trivial⟩ (pre_S hPc hK hDc hN) rfl rfl hl.1 rfl (lv_room (Nat.le_of_ble_eq_true rfl)) dX0_seatsRest_43 ⟨Nat.le_of_ble_eq_true rfl, Nat.le_of_ble_eq_true rfl⟩) hP hD hS hA [] [0, 1, 2, 3] [0, 1, 2, 3] rfl rfl (by decide +kernel) (by decide +kernel) (by decide +kernel) (by decide +kernel) (fun _ => rfl) (fun x161 _ H locs hq hP hD hS => ?_)
            obtain ⟨x161_h, e162⟩ := hq
            have hP : va_P (dC, dI) vwCl ([(o1, .inr (0, [.ref o2, .ref o4, .ref o6, .int v8, .int v9, .int v10, .int v11, .int v12])), (o2, .inl (cI, 256, .inl f155)), (o4, .inl (cI, 12, .inl fw5)), (o6, .inl (cI, 8, .inl f156))]) H := hP
            have hD : va_D A ([(o1, .inr (0, [.ref o2, .ref o4, .ref o6, .int v8, .int v9, .int v10, .int v11, .int v12])), (o2, .inl (cI, 256, .inl f155)), (o4, .inl (cI, 12, .inl fw5)), (o6, .inl (cI, 8, .inl f156))]) := hD
            refine lv_if_eq (tgt := 75) hx hb dX0_seatsRest_46 (by decide) (fun h163 => ?_) (fun h163 => ?_)
            ·
              have j164 : Iv 0 0 x161 := r_eq h163 ik_0
              have b165 : bt x5 (Int32.toNatClampNeg x154) = false := has_f (e162 (iv_w (c := 0) (d := 12) j160 (by decide))) h163
              obtain ⟨x166, x166_e⟩ : ∃ z : Int32, z = x154 + 1 := ⟨_, rfl⟩
              have x166_h : Iv 1 8 x166 := iv_e x166_e (iv_add j160 ik_1 (by decide))
              refine lv_iinc (v := x166) (lv' := [(4, .int x166), (3, .int x5), (0, .ref o1), (1, .int a1), (2, .int 2)]) hx hb dX0_seatsRest_75 hl (k := 0) rfl (incN (by decide +kernel) x166_e) (by decide) rfl (fun ls hl => ?_)
              refine lv_goto (tgt := 31) hx hb dX0_seatsRest_78 (by decide) ?_
              exact ih1 x166 f155 f156 _ _ _ (ms_up x166_e j160 (by decide) hM1) (iv_w x166_h (by decide)) (IC_f iv1_0 (iv_w (c := 0) (d := 4095) j160 (by decide)) x166_e b165) iv1_1 iv1_2 hP hD hS hl
            ·
              have j167 : Iv 1 1 x161 := r_nelo h163 x161_h ik_0 (by decide)
              have b168 : bt x5 (Int32.toNatClampNeg x154) = true := has_t (e162 (iv_w (c := 0) (d := 12) j160 (by decide))) h163
              refine lv_aload_n hx hb dX0_seatsRest_49 rfl (lv_at hl 2 rfl) ?_
              refine va_get (D := (dC, dI)) (ci := 0) (v := .ref o6) (C := RX0) (T := TX0) (N := 8) hx hb hts iw_X0_seatsRest_X0 hown hK hP 0 rfl rfl 2 (by decide) (hts (.fieldLink RX0 41 "HolelessHouse$Benches" "places" "[I") hm_X0_seatsRest_3) (fun _ h9 => h9) rfl dX0_seatsRest_50 ?_
              refine lv_iload_n hx hb dX0_seatsRest_53 rfl (lv_at hl 4 rfl) ?_
              refine lv_iload hx hb dX0_seatsRest_54 (lv_at hl 0 rfl) ?_
              refine k_iast hx hb hK hP hD hS 3 0 rfl rfl (vin_iv ik_2 (by decide)) dX0_seatsRest_56 (fun f169 H locs f169_e hP hD hS => ?_)
              have hP : va_P (dC, dI) vwCl ([(o1, .inr (0, [.ref o2, .ref o4, .ref o6, .int v8, .int v9, .int v10, .int v11, .int v12])), (o2, .inl (cI, 256, .inl f155)), (o4, .inl (cI, 12, .inl fw5)), (o6, .inl (cI, 8, .inl f169))]) H := hP
              have hD : va_D A ([(o1, .inr (0, [.ref o2, .ref o4, .ref o6, .int v8, .int v9, .int v10, .int v11, .int v12])), (o2, .inl (cI, 256, .inl f155)), (o4, .inl (cI, 12, .inl fw5)), (o6, .inl (cI, 8, .inl f169))]) := hD
              refine lv_aload_n hx hb dX0_seatsRest_57 rfl (lv_at hl 2 rfl) ?_
              refine lv_iload_n hx hb dX0_seatsRest_58 rfl (lv_at hl 3 rfl) ?_
              refine lv_iconst (v := 1) hx hb dX0_seatsRest_59 (by decide) ?_
              refine lv_iload hx hb dX0_seatsRest_60 (lv_at hl 0 rfl) ?_
              refine lv_ishl hx hb dX0_seatsRest_62 (lv_topi (fun x170 x170_e => ?_))
              have x170_h : Iv 1 128 x170 := iv_e x170_e (iv_shl1 j160 (by decide))
              refine lv_ior hx hb dX0_seatsRest_63 (lv_topi (fun x171 x171_e => ?_))
              have x171_h : Iv 0 255 x171 := iv_e x171_e (iv_or 8 a1_h x170_h (by decide))
              refine lv_iload_n hx hb dX0_seatsRest_64 rfl (lv_at hl 4 rfl) ?_
              refine lv_iconst (v := 1) hx hb dX0_seatsRest_65 (by decide) ?_
              refine lv_iadd hx hb dX0_seatsRest_66 (tk_i (v := 3) (by decide +kernel) ?_)
              refine kc_i (D := (dC, dI)) (S := (Nat → Int32) × (Nat → Int32)) (wc := [(o1, .inr (0, [.ref o2, .ref o4, .ref o6, .int v8, .int v9, .int v10, .int v11, .int v12])), (o2, .inl (cI, 256, .inl f155)), (o4, .inl (cI, 12, .inl fw5)), (o6, .inl (cI, 8, .inl f169))]) (wr := []) (w1 := fun u => [(o1, .inr (0, [.ref o2, .ref o4, .ref o6, .int v8, .int v9, .int v10, .int v11, .int v12])), (o2, .inl (cI, 256, .inl u.1)), (o4, .inl (cI, 12, .inl fw5)), (o6, .inl (cI, 8, .inl u.2))]) (wn := fun u => [(o1, .inr (0, [.ref o2, .ref o4, .ref o6, .int v8, .int v9, .int v10, .int v11, .int v12])), (o2, .inl (cI, 256, .inl u.1)), (o4, .inl (cI, 12, .inl fw5)), (o6, .inl (cI, 8, .inl u.2))]) (fun hPc hDc => va_runS (As := [.ref o1, .int x171, .int 3]) (rest := []) ⟨hx, hb, hml, hown, hts⟩ (kxX0_seatsRest_28 l dC dI cI c2 cZ o1 o2 o4 o6 f155 fw5 f169 v8 v9 v10 v11 v12 x171 H.size v8_h (iv_w j2 (by decide)) v11_h x171_h (SP_s pre0 e6 (iv_w (c := 0) (d := 11) j160 (by decide)) b168 x170_e x171_e) iv1_1) (va_cwS 3 hts gX0_seatsRest_X0_seatsRest rfl rfl rfl (by decide +kernel) ⟨Nat.le_of_ble_eq_true rfl, Nat.le_of_ble_eq_true rfl⟩) (pre_S hPc hK hDc hN) rfl rfl hl.1 rfl (lv_room (Nat.le_of_ble_eq_true rfl)) dX0_seatsRest_67 ⟨Nat.le_of_ble_eq_true rfl, Nat.le_of_ble_eq_true rfl⟩) hP hD hS hA [0, 1, 2, 3] [] [0, 1, 2, 3] rfl rfl (by decide +kernel) (by decide +kernel) (by decide +kernel) (by decide +kernel) (fun _ => rfl) (fun x174 u H locs hq hP hD hS => ?_)
              obtain ⟨f172, f173⟩ := u
              obtain ⟨x174_h, e175, e176, e177⟩ := hq
              have hP : va_P (dC, dI) vwCl ([(o1, .inr (0, [.ref o2, .ref o4, .ref o6, .int v8, .int v9, .int v10, .int v11, .int v12])), (o2, .inl (cI, 256, .inl f172)), (o4, .inl (cI, 12, .inl fw5)), (o6, .inl (cI, 8, .inl f173))]) H := hP
              have hD : va_D A ([(o1, .inr (0, [.ref o2, .ref o4, .ref o6, .int v8, .int v9, .int v10, .int v11, .int v12])), (o2, .inl (cI, 256, .inl f172)), (o4, .inl (cI, 12, .inl fw5)), (o6, .inl (cI, 8, .inl f173))]) := hD
              refine lv_if_eq (tgt := 75) hx hb dX0_seatsRest_70 (by decide) (fun h178 => ?_) (fun h178 => ?_)
              ·
                have j179 : Iv 0 0 x174 := r_eq h178 ik_0
                obtain ⟨x180, x180_e⟩ : ∃ z : Int32, z = x154 + 1 := ⟨_, rfl⟩
                have x180_h : Iv 1 8 x180 := iv_e x180_e (iv_add j160 ik_1 (by decide))
                refine lv_iinc (v := x180) (lv' := [(4, .int x180), (3, .int x5), (0, .ref o1), (1, .int a1), (2, .int 2)]) hx hb dX0_seatsRest_75 hl (k := 0) rfl (incN (by decide +kernel) x180_e) (by decide) rfl (fun ls hl => ?_)
                refine lv_goto (tgt := 31) hx hb dX0_seatsRest_78 (by decide) ?_
                exact ih1 x180 f172 f173 _ _ _ (ms_up x180_e j160 (by decide) hM1) (iv_w x180_h (by decide)) (IC_t iv1_0 (iv_w (c := 0) (d := 11) j160 (by decide)) x180_e x170_e x171_e e175 h178) e176 (LPp_t e177 (LPp_u iv1_2 f169_e)) hP hD hS hl
              ·
                have j181 : Iv 1 1 x174 := r_nelo h178 x174_h ik_0 (by decide)
                refine lv_iconst (v := 1) hx hb dX0_seatsRest_73 (by decide) ?_
                rw [hQ]
                exact W.zret (v := 1) (ty := .boolean) hx hb hr rfl (fun t ht hW => ⟨⟨1, (f172, f173), rfl, ⟨(iv_w ik_1 (by decide)), (SY_t pre0 e6 iv1_0 (iv_w (c := 0) (d := 11) j160 (by decide)) b168 x170_e x171_e f169_e e177 e175 h178 (by have a0 := (show _ ≤ _ ∧ _ ≤ _ from j2); have a1 := (show Int32.toInt 2 = 2 by decide +kernel); have a2 := qh1; show 2 < Int.toNat _; omega)), e176, (LPp_t e177 (LPp_u iv1_2 f169_e))⟩, by rw [ht]; exact hP, va_K.moved hW.alike hK, hD⟩, hS.F ht⟩) hS.2.2 dX0_seatsRest_74
      exact L1 _ 0 fw3 fw7 _ _ _ (Nat.lt_succ_self _) (iv_w ik_0 (by decide)) IC_0 pre1 LPp_r hP hD hS hl
    ·
      have j182 : Iv 1 1 x3 := r_eq h4 ik_1
      refine lv_iconst (v := 0) hx hb dX0_seatsRest_20 (by decide) ?_
      rw [hQ]
      exact W.zret (v := 0) (ty := .boolean) hx hb hr rfl (fun t ht hW => ⟨⟨0, (fw3, fw7), rfl, ⟨(iv_w ik_0 (by decide)), (SY_memo pre0 pre1 (iv_w (c := 0) (d := 4095) a1_h (by decide)) x3_e h4), pre1, LPp_r⟩, by rw [ht]; exact hP, va_K.moved hW.alike hK, hD⟩, hS.F ht⟩) hS.2.2 dX0_seatsRest_21
  ·
    have qh1 := nlt_i h1
    have j183 : Iv 0 2 v9 := r_lel qh1 v9_h ik_2 (by decide)
    refine lv_iconst (v := 1) hx hb dX0_seatsRest_8 (by decide) ?_
    rw [hQ]
    exact W.zret (v := 1) (ty := .boolean) hx hb hr rfl (fun t ht hW => ⟨⟨1, (fw3, fw7), rfl, ⟨(iv_w ik_1 (by decide)), (SY_full pre0 (by have a0 := (show _ ≤ _ ∧ _ ≤ _ from j183); have a1 := (show Int32.toInt 2 = 2 by decide +kernel); have a2 := qh1; show Int.toNat _ ≤ 2; omega)), pre1, LPp_r⟩, by rw [ht]; exact hP, va_K.moved hW.alike hK, hD⟩, hS.F ht⟩) hS.2.2 dX0_seatsRest_9
set_option maxHeartbeats 4000000 in
set_option maxRecDepth 100000 in
theorem kxX0_seatsRest_30 (l : Launch) (dC : Nat → ClassId) (dI : Nat → Nat → Nat) (cI c2 cZ : ClassId) (o1 : Nat) (o2 : Nat) (o4 : Nat) (o6 : Nat) (fw3 : Nat → Int32) (fw5 : Nat → Int32) (fw7 : Nat → Int32) (v8 : Int32) (v9 : Int32) (v10 : Int32) (v11 : Int32) (v12 : Int32) (a1 : Int32) (sz : Nat) (v8_h : Iv 0 12 v8) (v9_h : Iv 0 8 v9) (v11_h : Iv 0 1 v11) (a1_h : Iv 0 255 a1) (pre0 : SP (Int32.toNatClampNeg v9) 1 a1) (pre1 : MS (okS fw5 (Int32.toNatClampNeg v8)) (Int32.toNatClampNeg v9) fw3) : Met l yX0_seatsRest wsX0_seatsRest ({ frames := 7, cells := 0, slots := 0, locals := 168 }) (va_Pc [.ref o1, .int a1, .int 1] (wPre (dC, dI) [(cI, .int), (c2, .array .int), (cZ, .boolean)] ([(o1, .inr (0, [.ref o2, .ref o4, .ref o6, .int v8, .int v9, .int v10, .int v11, .int v12])), (o2, .inl (cI, 256, .inl fw3)), (o4, .inl (cI, 12, .inl fw5)), (o6, .inl (cI, 8, .inl fw7))]) sz)) (va_Qi (fun (r : Int32) (u : (Nat → Int32) × (Nat → Int32)) => Iv 0 1 r ∧ SY (okS fw5 (Int32.toNatClampNeg v8)) (Int32.toNatClampNeg v9) 1 a1 r u.2 ∧ MS (okS fw5 (Int32.toNatClampNeg v8)) (Int32.toNatClampNeg v9) u.1 ∧ LPp 1 u.2 fw7) (fun u t => wPost (dC, dI) [(cI, .int), (c2, .array .int), (cZ, .boolean)] (va_A ([(o1, .inr (0, [.ref o2, .ref o4, .ref o6, .int v8, .int v9, .int v10, .int v11, .int v12])), (o2, .inl (cI, 256, .inl fw3)), (o4, .inl (cI, 12, .inl fw5)), (o6, .inl (cI, 8, .inl fw7))]) sz) ([(o1, .inr (0, [.ref o2, .ref o4, .ref o6, .int v8, .int v9, .int v10, .int v11, .int v12])), (o2, .inl (cI, 256, .inl u.1)), (o4, .inl (cI, 12, .inl fw5)), (o6, .inl (cI, 8, .inl u.2))]) t) (va_A ([(o1, .inr (0, [.ref o2, .ref o4, .ref o6, .int v8, .int v9, .int v10, .int v11, .int v12])), (o2, .inl (cI, 256, .inl fw3)), (o4, .inl (cI, 12, .inl fw5)), (o6, .inl (cI, 8, .inl fw7))]) sz)) 0 0 (va_A ([(o1, .inr (0, [.ref o2, .ref o4, .ref o6, .int v8, .int v9, .int v10, .int v11, .int v12])), (o2, .inl (cI, 256, .inl fw3)), (o4, .inl (cI, 12, .inl fw5)), (o6, .inl (cI, 8, .inl fw7))]) sz) := by
  refine Met.ofW (cc := cX0_seatsRest) (maxL := 5) (ret := (some .boolean)) (by decide) rfl ?_
  intro p e s m args below meth c s₁ B hml hv
  obtain ⟨rfl, hsz, hP, hK, hD0, hN⟩ := hv
  have hx := B.exec
  have hb := B.bytes
  have hr := B.returns
  have hts := atoms_spec (ws := wsX0_seatsRest) B.pre
  have hown : s.vm.findClass RX0 = some m.cls := findClass_of_methodNamed B.named
  have hlocks := B.notSynchronized
  subst hsz
  have hD := hD0.self (sz := s.heap.size)
  generalize hAe : va_A ([(o1, .inr (0, [.ref o2, .ref o4, .ref o6, .int v8, .int v9, .int v10, .int v11, .int v12])), (o2, .inl (cI, 256, .inl fw3)), (o4, .inl (cI, 12, .inl fw5)), (o6, .inl (cI, 8, .inl fw7))]) s.heap.size = A at hD ⊢
  have hA : ∀ q : Nat, s.heap.size ≤ q → A q := fun q h => by rw [← hAe]; exact Or.inr h
  have hS : va_S A s.heap s.heap [] := va_S.rf
  have hP : va_P (dC, dI) vwCl ([(o1, .inr (0, [.ref o2, .ref o4, .ref o6, .int v8, .int v9, .int v10, .int v11, .int v12])), (o2, .inl (cI, 256, .inl fw3)), (o4, .inl (cI, 12, .inl fw5)), (o6, .inl (cI, 8, .inl fw7))]) s.heap := hP
  have hl := lv_entry ([.ref o1, .int a1, .int 1]) (n := 5) (Nat.le_of_ble_eq_true rfl)
  rw [lg_entry_eq]
  generalize (lg_sl ([.ref o1, .int a1, .int 1]) ++ List.replicate (5 - (lg_sl ([.ref o1, .int a1, .int 1])).length) Slot.unset).toArray = ls at hl ⊢
  have hl : lv_has ls 5 [(0, .ref o1), (1, .int a1), (2, .int 1)] := hl
  refine gen_Q (fun Q hQ => ?_)
  refine lv_iload_n hx hb dX0_seatsRest_0 rfl (lv_at hl 2 rfl) ?_
  refine lv_aload_n hx hb dX0_seatsRest_1 rfl (lv_at hl 0 rfl) ?_
  refine va_get (D := (dC, dI)) (ci := 0) (v := .int v9) (C := RX0) (T := TX0) (N := 8) hx hb hts iw_X0_seatsRest_X0 hown hK hP 0 rfl rfl 4 (by decide) (hts (.fieldLink RX0 25 "HolelessHouse$Benches" "width" "I") hm_X0_seatsRest_1) (fun _ h9 => h9) rfl dX0_seatsRest_2 ?_
  refine lv_icmp_lt (tgt := 10) hx hb dX0_seatsRest_5 (by decide) (fun h1 => ?_) (fun h1 => ?_)
  ·
    have qh1 := lt_i h1
    have j2 : Iv 2 8 v9 := r_ltr qh1 ik_1 v9_h (by decide)
    refine lv_aload_n hx hb dX0_seatsRest_10 rfl (lv_at hl 0 rfl) ?_
    refine va_get (D := (dC, dI)) (ci := 0) (v := .ref o2) (C := RX0) (T := TX0) (N := 8) hx hb hts iw_X0_seatsRest_X0 hown hK hP 0 rfl rfl 0 (by decide) (hts (.fieldLink RX0 38 "HolelessHouse$Benches" "notes" "[I") hm_X0_seatsRest_2) (fun _ h9 => h9) rfl dX0_seatsRest_11 ?_
    refine lv_iload_n hx hb dX0_seatsRest_14 rfl (lv_at hl 1 rfl) ?_
    refine va_iald hx hb hK hP 1 0 rfl rfl (vin_iv a1_h (by decide)) dX0_seatsRest_15 (lv_topi (fun x3 x3_e => ?_))
    refine lv_iconst (v := 1) hx hb dX0_seatsRest_16 (by decide) ?_
    refine lv_icmp_ne (tgt := 22) hx hb dX0_seatsRest_17 (by decide) (fun h4 => ?_) (fun h4 => ?_)
    ·
      refine lv_aload_n hx hb dX0_seatsRest_22 rfl (lv_at hl 0 rfl) ?_
      refine lv_iload_n hx hb dX0_seatsRest_23 rfl (lv_at hl 1 rfl) ?_
      refine kc_i (D := (dC, dI)) (S := Unit) (wc := [(o1, .inr (0, [.ref o2, .ref o4, .ref o6, .int v8, .int v9, .int v10, .int v11, .int v12])), (o4, .inl (cI, 12, .inl fw5))]) (wr := [(o2, .inl (cI, 256, .inl fw3)), (o6, .inl (cI, 8, .inl fw7))]) (w1 := fun _ => [(o1, .inr (0, [.ref o2, .ref o4, .ref o6, .int v8, .int v9, .int v10, .int v11, .int v12])), (o4, .inl (cI, 12, .inl fw5))]) (wn := fun _ => [(o1, .inr (0, [.ref o2, .ref o4, .ref o6, .int v8, .int v9, .int v10, .int v11, .int v12])), (o2, .inl (cI, 256, .inl fw3)), (o4, .inl (cI, 12, .inl fw5)), (o6, .inl (cI, 8, .inl fw7))]) (fun hPc hDc => va_runV (As := [.int a1]) (rest := []) ⟨hx, hb, hml, hown, hts⟩ (kxX0_mayCome_3 l dC dI cI c2 cZ o1 o2 o4 o6 fw5 v8 v9 v10 v11 v12 a1 s.heap.size v8_h (iv_w j2 (by decide)) v11_h a1_h) (cwV 1 hts gX0_seatsRest_X0_mayCome rfl rfl rfl (by decide +kernel) ⟨Nat.le_of_ble_eq_true rfl, Nat.le_of_ble_eq_true rfl⟩) (pre_V hPc hK hDc hN (ci := 0) (q0 := 0) rfl rfl) rfl rfl hl.1 rfl (lv_room (Nat.le_of_ble_eq_true rfl)) dX0_seatsRest_24 ⟨Nat.le_of_ble_eq_true rfl, Nat.le_of_ble_eq_true rfl⟩) hP hD hS hA [0, 2] [1, 3] [2, 0, 3, 1] rfl rfl (by decide +kernel) (by decide +kernel) (by decide +kernel) (by decide +kernel) (fun _ => rfl) (fun x5 _ H locs hq hP hD hS => ?_)
      obtain ⟨x5_h, e6⟩ := hq
      have hP : va_P (dC, dI) vwCl ([(o1, .inr (0, [.ref o2, .ref o4, .ref o6, .int v8, .int v9, .int v10, .int v11, .int v12])), (o2, .inl (cI, 256, .inl fw3)), (o4, .inl (cI, 12, .inl fw5)), (o6, .inl (cI, 8, .inl fw7))]) H := hP
      have hD : va_D A ([(o1, .inr (0, [.ref o2, .ref o4, .ref o6, .int v8, .int v9, .int v10, .int v11, .int v12])), (o2, .inl (cI, 256, .inl fw3)), (o4, .inl (cI, 12, .inl fw5)), (o6, .inl (cI, 8, .inl fw7))]) := hD
      refine lv_istore_n (lv' := [(3, .int x5), (0, .ref o1), (1, .int a1), (2, .int 1)]) hx hb dX0_seatsRest_27 rfl hl (by decide) rfl (fun ls hl => ?_)
      refine lv_iconst (v := 0) hx hb dX0_seatsRest_28 (by decide) ?_
      refine lv_istore (lv' := [(4, .int 0), (3, .int x5), (0, .ref o1), (1, .int a1), (2, .int 1)]) hx hb dX0_seatsRest_29 hl (by decide) rfl (fun ls hl => ?_)
      have L1 : ∀ (N : Nat) (x157 : Int32) (f158 : Nat → Int32) (f159 : Nat → Int32) (H : Heap) (locs : List Loc) (ls : Array Slot), (8 - x157.toInt).toNat < N → Iv 0 8 x157 → (IC (okS fw5 (Int32.toNatClampNeg v8)) (Int32.toNatClampNeg v9) a1 x5 (Int32.toNatClampNeg x157)) → (MS (okS fw5 (Int32.toNatClampNeg v8)) (Int32.toNatClampNeg v9) f158) → (LPp 1 f159 fw7) → va_P (dC, dI) vwCl ([(o1, .inr (0, [.ref o2, .ref o4, .ref o6, .int v8, .int v9, .int v10, .int v11, .int v12])), (o2, .inl (cI, 256, .inl f158)), (o4, .inl (cI, 12, .inl fw5)), (o6, .inl (cI, 8, .inl f159))]) H → va_D A ([(o1, .inr (0, [.ref o2, .ref o4, .ref o6, .int v8, .int v9, .int v10, .int v11, .int v12])), (o2, .inl (cI, 256, .inl f158)), (o4, .inl (cI, 12, .inl fw5)), (o6, .inl (cI, 8, .inl f159))]) → va_S A s.heap H locs → lv_has ls 5 [(4, .int x157), (3, .int x5), (0, .ref o1), (1, .int a1), (2, .int 1)] → W p l e ({ frames := 7, cells := 0, slots := 0, locals := 168 }) s m ([.ref o1, .int a1, .int 1] : List Value).toArray below meth c H locs 0 0 Q (F0 m 31 ls []) := by
        intro N
        induction N with
        | zero =>
          intro x157 f158 f159 H locs ls hM
          exact absurd hM (Nat.not_lt_zero _)
        | succ N ih1 =>
          intro x157 f158 f159 H locs ls hM1 x157_h iv1_0 iv1_1 iv1_2 hP hD hS hl
          refine lv_iload hx hb dX0_seatsRest_31 (lv_at hl 0 rfl) ?_
          refine lv_aload_n hx hb dX0_seatsRest_33 rfl (lv_at hl 2 rfl) ?_
          refine va_get (D := (dC, dI)) (ci := 0) (v := .int v9) (C := RX0) (T := TX0) (N := 8) hx hb hts iw_X0_seatsRest_X0 hown hK hP 0 rfl rfl 4 (by decide) (hts (.fieldLink RX0 25 "HolelessHouse$Benches" "width" "I") hm_X0_seatsRest_1) (fun _ h9 => h9) rfl dX0_seatsRest_34 ?_
          refine lv_icmp_ge (tgt := 81) hx hb dX0_seatsRest_37 (by decide) (fun h160 => ?_) (fun h160 => ?_)
          ·
            have qh160 := le_i h160
            have j161 : Iv 2 8 x157 := r_ler qh160 j2 x157_h (by decide)
            refine lv_aload_n hx hb dX0_seatsRest_81 rfl (lv_at hl 2 rfl) ?_
            refine va_get (D := (dC, dI)) (ci := 0) (v := .ref o2) (C := RX0) (T := TX0) (N := 8) hx hb hts iw_X0_seatsRest_X0 hown hK hP 0 rfl rfl 0 (by decide) (hts (.fieldLink RX0 38 "HolelessHouse$Benches" "notes" "[I") hm_X0_seatsRest_2) (fun _ h9 => h9) rfl dX0_seatsRest_82 ?_
            refine lv_iload_n hx hb dX0_seatsRest_85 rfl (lv_at hl 3 rfl) ?_
            refine lv_iconst (v := 1) hx hb dX0_seatsRest_86 (by decide) ?_
            refine k_iast hx hb hK hP hD hS 1 0 rfl rfl (vin_iv a1_h (by decide)) dX0_seatsRest_87 (fun f162 H locs f162_e hP hD hS => ?_)
            have hP : va_P (dC, dI) vwCl ([(o1, .inr (0, [.ref o2, .ref o4, .ref o6, .int v8, .int v9, .int v10, .int v11, .int v12])), (o2, .inl (cI, 256, .inl f162)), (o4, .inl (cI, 12, .inl fw5)), (o6, .inl (cI, 8, .inl f159))]) H := hP
            have hD : va_D A ([(o1, .inr (0, [.ref o2, .ref o4, .ref o6, .int v8, .int v9, .int v10, .int v11, .int v12])), (o2, .inl (cI, 256, .inl f162)), (o4, .inl (cI, 12, .inl fw5)), (o6, .inl (cI, 8, .inl f159))]) := hD
            refine lv_iconst (v := 0) hx hb dX0_seatsRest_88 (by decide) ?_
            rw [hQ]
            exact W.zret (v := 0) (ty := .boolean) hx hb hr rfl (fun t ht hW => ⟨⟨0, (f162, f159), rfl, ⟨(iv_w ik_0 (by decide)), (SY_n (SY_z pre0 e6 iv1_0 qh160 (iv_w (c := 0) (d := 12) j2 (by decide)) (by have a0 := (show _ ≤ _ ∧ _ ≤ _ from j2); have a1 := (show Int32.toInt 1 = 1 by decide +kernel); have a2 := qh1; show 1 < Int.toNat _; omega))), (MS_u iv1_1 (SY_z pre0 e6 iv1_0 qh160 (iv_w (c := 0) (d := 12) j2 (by decide)) (by have a0 := (show _ ≤ _ ∧ _ ≤ _ from j2); have a1 := (show Int32.toInt 1 = 1 by decide +kernel); have a2 := qh1; show 1 < Int.toNat _; omega)) (iv_w (c := 0) (d := 4095) a1_h (by decide)) f162_e), iv1_2⟩, by rw [ht]; exact hP, va_K.moved hW.alike hK, hD⟩, hS.F ht⟩) hS.2.2 dX0_seatsRest_89
          ·
            have qh160 := nle_i h160
            have j163 : Iv 0 7 x157 := r_ltl qh160 x157_h j2 (by decide)
            refine lv_iload_n hx hb dX0_seatsRest_40 rfl (lv_at hl 1 rfl) ?_
            refine lv_iload hx hb dX0_seatsRest_41 (lv_at hl 0 rfl) ?_
            refine kc_i (D := (dC, dI)) (S := Unit) (wc := []) (wr := [(o1, .inr (0, [.ref o2, .ref o4, .ref o6, .int v8, .int v9, .int v10, .int v11, .int v12])), (o2, .inl (cI, 256, .inl f158)), (o4, .inl (cI, 12, .inl fw5)), (o6, .inl (cI, 8, .inl f159))]) (w1 := fun _ => []) (wn := fun _ => [(o1, .inr (0, [.ref o2, .ref o4, .ref o6, .int v8, .int v9, .int v10, .int v11, .int v12])), (o2, .inl (cI, 256, .inl f158)), (o4, .inl (cI, 12, .inl fw5)), (o6, .inl (cI, 8, .inl f159))]) (fun hPc hDc => va_runSN (As := [.int x5, .int x157]) (rest := []) ⟨hx, hb, hml, hown, hts⟩ (kxX11_in_2 l dC dI cI c2 cZ x5 x157 H.size) ⟨va_cnB 2 hts gX0_seatsRest_X11_in_n62 rfl rfl rfl (hN.1 _ ns_125) (hts (.initialized RX11) hm_X0_seatsRest_12) (by decide +kernel) ⟨Nat.le_of_ble_eq_true rfl, Nat.le_of_ble_eq_true rfl⟩, (hts (.static yX11_in) hm_X0_seatsRest_11), trivial⟩ (pre_S hPc hK hDc hN) rfl rfl hl.1 rfl (lv_room (Nat.le_of_ble_eq_true rfl)) dX0_seatsRest_43 ⟨Nat.le_of_ble_eq_true rfl, Nat.le_of_ble_eq_true rfl⟩) hP hD hS hA [] [0, 1, 2, 3] [0, 1, 2, 3] rfl rfl (by decide +kernel) (by decide +kernel) (by decide +kernel) (by decide +kernel) (fun _ => rfl) (fun x164 _ H locs hq hP hD hS => ?_)
            obtain ⟨x164_h, e165⟩ := hq
            have hP : va_P (dC, dI) vwCl ([(o1, .inr (0, [.ref o2, .ref o4, .ref o6, .int v8, .int v9, .int v10, .int v11, .int v12])), (o2, .inl (cI, 256, .inl f158)), (o4, .inl (cI, 12, .inl fw5)), (o6, .inl (cI, 8, .inl f159))]) H := hP
            have hD : va_D A ([(o1, .inr (0, [.ref o2, .ref o4, .ref o6, .int v8, .int v9, .int v10, .int v11, .int v12])), (o2, .inl (cI, 256, .inl f158)), (o4, .inl (cI, 12, .inl fw5)), (o6, .inl (cI, 8, .inl f159))]) := hD
            refine lv_if_eq (tgt := 75) hx hb dX0_seatsRest_46 (by decide) (fun h166 => ?_) (fun h166 => ?_)
            ·
              have j167 : Iv 0 0 x164 := r_eq h166 ik_0
              have b168 : bt x5 (Int32.toNatClampNeg x157) = false := has_f (e165 (iv_w (c := 0) (d := 12) j163 (by decide))) h166
              obtain ⟨x169, x169_e⟩ : ∃ z : Int32, z = x157 + 1 := ⟨_, rfl⟩
              have x169_h : Iv 1 8 x169 := iv_e x169_e (iv_add j163 ik_1 (by decide))
              refine lv_iinc (v := x169) (lv' := [(4, .int x169), (3, .int x5), (0, .ref o1), (1, .int a1), (2, .int 1)]) hx hb dX0_seatsRest_75 hl (k := 0) rfl (incN (by decide +kernel) x169_e) (by decide) rfl (fun ls hl => ?_)
              refine lv_goto (tgt := 31) hx hb dX0_seatsRest_78 (by decide) ?_
              exact ih1 x169 f158 f159 _ _ _ (ms_up x169_e j163 (by decide) hM1) (iv_w x169_h (by decide)) (IC_f iv1_0 (iv_w (c := 0) (d := 4095) j163 (by decide)) x169_e b168) iv1_1 iv1_2 hP hD hS hl
            ·
              have j170 : Iv 1 1 x164 := r_nelo h166 x164_h ik_0 (by decide)
              have b171 : bt x5 (Int32.toNatClampNeg x157) = true := has_t (e165 (iv_w (c := 0) (d := 12) j163 (by decide))) h166
              refine lv_aload_n hx hb dX0_seatsRest_49 rfl (lv_at hl 2 rfl) ?_
              refine va_get (D := (dC, dI)) (ci := 0) (v := .ref o6) (C := RX0) (T := TX0) (N := 8) hx hb hts iw_X0_seatsRest_X0 hown hK hP 0 rfl rfl 2 (by decide) (hts (.fieldLink RX0 41 "HolelessHouse$Benches" "places" "[I") hm_X0_seatsRest_3) (fun _ h9 => h9) rfl dX0_seatsRest_50 ?_
              refine lv_iload_n hx hb dX0_seatsRest_53 rfl (lv_at hl 4 rfl) ?_
              refine lv_iload hx hb dX0_seatsRest_54 (lv_at hl 0 rfl) ?_
              refine k_iast hx hb hK hP hD hS 3 0 rfl rfl (vin_iv ik_1 (by decide)) dX0_seatsRest_56 (fun f172 H locs f172_e hP hD hS => ?_)
              have hP : va_P (dC, dI) vwCl ([(o1, .inr (0, [.ref o2, .ref o4, .ref o6, .int v8, .int v9, .int v10, .int v11, .int v12])), (o2, .inl (cI, 256, .inl f158)), (o4, .inl (cI, 12, .inl fw5)), (o6, .inl (cI, 8, .inl f172))]) H := hP
              have hD : va_D A ([(o1, .inr (0, [.ref o2, .ref o4, .ref o6, .int v8, .int v9, .int v10, .int v11, .int v12])), (o2, .inl (cI, 256, .inl f158)), (o4, .inl (cI, 12, .inl fw5)), (o6, .inl (cI, 8, .inl f172))]) := hD
              refine lv_aload_n hx hb dX0_seatsRest_57 rfl (lv_at hl 2 rfl) ?_
              refine lv_iload_n hx hb dX0_seatsRest_58 rfl (lv_at hl 3 rfl) ?_
              refine lv_iconst (v := 1) hx hb dX0_seatsRest_59 (by decide) ?_
              refine lv_iload hx hb dX0_seatsRest_60 (lv_at hl 0 rfl) ?_
              refine lv_ishl hx hb dX0_seatsRest_62 (lv_topi (fun x173 x173_e => ?_))
              have x173_h : Iv 1 128 x173 := iv_e x173_e (iv_shl1 j163 (by decide))
              refine lv_ior hx hb dX0_seatsRest_63 (lv_topi (fun x174 x174_e => ?_))
              have x174_h : Iv 0 255 x174 := iv_e x174_e (iv_or 8 a1_h x173_h (by decide))
              refine lv_iload_n hx hb dX0_seatsRest_64 rfl (lv_at hl 4 rfl) ?_
              refine lv_iconst (v := 1) hx hb dX0_seatsRest_65 (by decide) ?_
              refine lv_iadd hx hb dX0_seatsRest_66 (tk_i (v := 2) (by decide +kernel) ?_)
              refine kc_i (D := (dC, dI)) (S := (Nat → Int32) × (Nat → Int32)) (wc := [(o1, .inr (0, [.ref o2, .ref o4, .ref o6, .int v8, .int v9, .int v10, .int v11, .int v12])), (o2, .inl (cI, 256, .inl f158)), (o4, .inl (cI, 12, .inl fw5)), (o6, .inl (cI, 8, .inl f172))]) (wr := []) (w1 := fun u => [(o1, .inr (0, [.ref o2, .ref o4, .ref o6, .int v8, .int v9, .int v10, .int v11, .int v12])), (o2, .inl (cI, 256, .inl u.1)), (o4, .inl (cI, 12, .inl fw5)), (o6, .inl (cI, 8, .inl u.2))]) (wn := fun u => [(o1, .inr (0, [.ref o2, .ref o4, .ref o6, .int v8, .int v9, .int v10, .int v11, .int v12])), (o2, .inl (cI, 256, .inl u.1)), (o4, .inl (cI, 12, .inl fw5)), (o6, .inl (cI, 8, .inl u.2))]) (fun hPc hDc => va_runS (As := [.ref o1, .int x174, .int 2]) (rest := []) ⟨hx, hb, hml, hown, hts⟩ (kxX0_seatsRest_29 l dC dI cI c2 cZ o1 o2 o4 o6 f158 fw5 f172 v8 v9 v10 v11 v12 x174 H.size v8_h (iv_w j2 (by decide)) v11_h x174_h (SP_s pre0 e6 (iv_w (c := 0) (d := 11) j163 (by decide)) b171 x173_e x174_e) iv1_1) (va_cwS 3 hts gX0_seatsRest_X0_seatsRest rfl rfl rfl (by decide +kernel) ⟨Nat.le_of_ble_eq_true rfl, Nat.le_of_ble_eq_true rfl⟩) (pre_S hPc hK hDc hN) rfl rfl hl.1 rfl (lv_room (Nat.le_of_ble_eq_true rfl)) dX0_seatsRest_67 ⟨Nat.le_of_ble_eq_true rfl, Nat.le_of_ble_eq_true rfl⟩) hP hD hS hA [0, 1, 2, 3] [] [0, 1, 2, 3] rfl rfl (by decide +kernel) (by decide +kernel) (by decide +kernel) (by decide +kernel) (fun _ => rfl) (fun x177 u H locs hq hP hD hS => ?_)
              obtain ⟨f175, f176⟩ := u
              obtain ⟨x177_h, e178, e179, e180⟩ := hq
              have hP : va_P (dC, dI) vwCl ([(o1, .inr (0, [.ref o2, .ref o4, .ref o6, .int v8, .int v9, .int v10, .int v11, .int v12])), (o2, .inl (cI, 256, .inl f175)), (o4, .inl (cI, 12, .inl fw5)), (o6, .inl (cI, 8, .inl f176))]) H := hP
              have hD : va_D A ([(o1, .inr (0, [.ref o2, .ref o4, .ref o6, .int v8, .int v9, .int v10, .int v11, .int v12])), (o2, .inl (cI, 256, .inl f175)), (o4, .inl (cI, 12, .inl fw5)), (o6, .inl (cI, 8, .inl f176))]) := hD
              refine lv_if_eq (tgt := 75) hx hb dX0_seatsRest_70 (by decide) (fun h181 => ?_) (fun h181 => ?_)
              ·
                have j182 : Iv 0 0 x177 := r_eq h181 ik_0
                obtain ⟨x183, x183_e⟩ : ∃ z : Int32, z = x157 + 1 := ⟨_, rfl⟩
                have x183_h : Iv 1 8 x183 := iv_e x183_e (iv_add j163 ik_1 (by decide))
                refine lv_iinc (v := x183) (lv' := [(4, .int x183), (3, .int x5), (0, .ref o1), (1, .int a1), (2, .int 1)]) hx hb dX0_seatsRest_75 hl (k := 0) rfl (incN (by decide +kernel) x183_e) (by decide) rfl (fun ls hl => ?_)
                refine lv_goto (tgt := 31) hx hb dX0_seatsRest_78 (by decide) ?_
                exact ih1 x183 f175 f176 _ _ _ (ms_up x183_e j163 (by decide) hM1) (iv_w x183_h (by decide)) (IC_t iv1_0 (iv_w (c := 0) (d := 11) j163 (by decide)) x183_e x173_e x174_e e178 h181) e179 (LPp_t e180 (LPp_u iv1_2 f172_e)) hP hD hS hl
              ·
                have j184 : Iv 1 1 x177 := r_nelo h181 x177_h ik_0 (by decide)
                refine lv_iconst (v := 1) hx hb dX0_seatsRest_73 (by decide) ?_
                rw [hQ]
                exact W.zret (v := 1) (ty := .boolean) hx hb hr rfl (fun t ht hW => ⟨⟨1, (f175, f176), rfl, ⟨(iv_w ik_1 (by decide)), (SY_t pre0 e6 iv1_0 (iv_w (c := 0) (d := 11) j163 (by decide)) b171 x173_e x174_e f172_e e180 e178 h181 (by have a0 := (show _ ≤ _ ∧ _ ≤ _ from j2); have a1 := (show Int32.toInt 1 = 1 by decide +kernel); have a2 := qh1; show 1 < Int.toNat _; omega)), e179, (LPp_t e180 (LPp_u iv1_2 f172_e))⟩, by rw [ht]; exact hP, va_K.moved hW.alike hK, hD⟩, hS.F ht⟩) hS.2.2 dX0_seatsRest_74
      exact L1 _ 0 fw3 fw7 _ _ _ (Nat.lt_succ_self _) (iv_w ik_0 (by decide)) IC_0 pre1 LPp_r hP hD hS hl
    ·
      have j185 : Iv 1 1 x3 := r_eq h4 ik_1
      refine lv_iconst (v := 0) hx hb dX0_seatsRest_20 (by decide) ?_
      rw [hQ]
      exact W.zret (v := 0) (ty := .boolean) hx hb hr rfl (fun t ht hW => ⟨⟨0, (fw3, fw7), rfl, ⟨(iv_w ik_0 (by decide)), (SY_memo pre0 pre1 (iv_w (c := 0) (d := 4095) a1_h (by decide)) x3_e h4), pre1, LPp_r⟩, by rw [ht]; exact hP, va_K.moved hW.alike hK, hD⟩, hS.F ht⟩) hS.2.2 dX0_seatsRest_21
  ·
    have qh1 := nlt_i h1
    have j186 : Iv 0 1 v9 := r_lel qh1 v9_h ik_1 (by decide)
    refine lv_iconst (v := 1) hx hb dX0_seatsRest_8 (by decide) ?_
    rw [hQ]
    exact W.zret (v := 1) (ty := .boolean) hx hb hr rfl (fun t ht hW => ⟨⟨1, (fw3, fw7), rfl, ⟨(iv_w ik_1 (by decide)), (SY_full pre0 (by have a0 := (show _ ≤ _ ∧ _ ≤ _ from j186); have a1 := (show Int32.toInt 1 = 1 by decide +kernel); have a2 := qh1; show Int.toNat _ ≤ 1; omega)), pre1, LPp_r⟩, by rw [ht]; exact hP, va_K.moved hW.alike hK, hD⟩, hS.F ht⟩) hS.2.2 dX0_seatsRest_9
set_option maxHeartbeats 4000000 in
set_option maxRecDepth 100000 in
theorem kxX0_seatsRest_31 (l : Launch) (dC : Nat → ClassId) (dI : Nat → Nat → Nat) (cI c2 cZ : ClassId) (o1 : Nat) (o2 : Nat) (o4 : Nat) (o6 : Nat) (fw3 : Nat → Int32) (fw5 : Nat → Int32) (fw7 : Nat → Int32) (v8 : Int32) (v9 : Int32) (v10 : Int32) (v11 : Int32) (v12 : Int32) (a1 : Int32) (sz : Nat) (v8_h : Iv 0 12 v8) (v9_h : Iv 0 8 v9) (v11_h : Iv 0 1 v11) (a1_h : Iv 0 255 a1) (pre0 : SP (Int32.toNatClampNeg v9) 0 a1) (pre1 : MS (okS fw5 (Int32.toNatClampNeg v8)) (Int32.toNatClampNeg v9) fw3) : Met l yX0_seatsRest wsX0_seatsRest ({ frames := 8, cells := 0, slots := 0, locals := 192 }) (va_Pc [.ref o1, .int a1, .int 0] (wPre (dC, dI) [(cI, .int), (c2, .array .int), (cZ, .boolean)] ([(o1, .inr (0, [.ref o2, .ref o4, .ref o6, .int v8, .int v9, .int v10, .int v11, .int v12])), (o2, .inl (cI, 256, .inl fw3)), (o4, .inl (cI, 12, .inl fw5)), (o6, .inl (cI, 8, .inl fw7))]) sz)) (va_Qi (fun (r : Int32) (u : (Nat → Int32) × (Nat → Int32)) => Iv 0 1 r ∧ SY (okS fw5 (Int32.toNatClampNeg v8)) (Int32.toNatClampNeg v9) 0 a1 r u.2 ∧ MS (okS fw5 (Int32.toNatClampNeg v8)) (Int32.toNatClampNeg v9) u.1 ∧ LPp 0 u.2 fw7) (fun u t => wPost (dC, dI) [(cI, .int), (c2, .array .int), (cZ, .boolean)] (va_A ([(o1, .inr (0, [.ref o2, .ref o4, .ref o6, .int v8, .int v9, .int v10, .int v11, .int v12])), (o2, .inl (cI, 256, .inl fw3)), (o4, .inl (cI, 12, .inl fw5)), (o6, .inl (cI, 8, .inl fw7))]) sz) ([(o1, .inr (0, [.ref o2, .ref o4, .ref o6, .int v8, .int v9, .int v10, .int v11, .int v12])), (o2, .inl (cI, 256, .inl u.1)), (o4, .inl (cI, 12, .inl fw5)), (o6, .inl (cI, 8, .inl u.2))]) t) (va_A ([(o1, .inr (0, [.ref o2, .ref o4, .ref o6, .int v8, .int v9, .int v10, .int v11, .int v12])), (o2, .inl (cI, 256, .inl fw3)), (o4, .inl (cI, 12, .inl fw5)), (o6, .inl (cI, 8, .inl fw7))]) sz)) 0 0 (va_A ([(o1, .inr (0, [.ref o2, .ref o4, .ref o6, .int v8, .int v9, .int v10, .int v11, .int v12])), (o2, .inl (cI, 256, .inl fw3)), (o4, .inl (cI, 12, .inl fw5)), (o6, .inl (cI, 8, .inl fw7))]) sz) := by
  refine Met.ofW (cc := cX0_seatsRest) (maxL := 5) (ret := (some .boolean)) (by decide) rfl ?_
  intro p e s m args below meth c s₁ B hml hv
  obtain ⟨rfl, hsz, hP, hK, hD0, hN⟩ := hv
  have hx := B.exec
  have hb := B.bytes
  have hr := B.returns
  have hts := atoms_spec (ws := wsX0_seatsRest) B.pre
  have hown : s.vm.findClass RX0 = some m.cls := findClass_of_methodNamed B.named
  have hlocks := B.notSynchronized
  subst hsz
  have hD := hD0.self (sz := s.heap.size)
  generalize hAe : va_A ([(o1, .inr (0, [.ref o2, .ref o4, .ref o6, .int v8, .int v9, .int v10, .int v11, .int v12])), (o2, .inl (cI, 256, .inl fw3)), (o4, .inl (cI, 12, .inl fw5)), (o6, .inl (cI, 8, .inl fw7))]) s.heap.size = A at hD ⊢
  have hA : ∀ q : Nat, s.heap.size ≤ q → A q := fun q h => by rw [← hAe]; exact Or.inr h
  have hS : va_S A s.heap s.heap [] := va_S.rf
  have hP : va_P (dC, dI) vwCl ([(o1, .inr (0, [.ref o2, .ref o4, .ref o6, .int v8, .int v9, .int v10, .int v11, .int v12])), (o2, .inl (cI, 256, .inl fw3)), (o4, .inl (cI, 12, .inl fw5)), (o6, .inl (cI, 8, .inl fw7))]) s.heap := hP
  have hl := lv_entry ([.ref o1, .int a1, .int 0]) (n := 5) (Nat.le_of_ble_eq_true rfl)
  rw [lg_entry_eq]
  generalize (lg_sl ([.ref o1, .int a1, .int 0]) ++ List.replicate (5 - (lg_sl ([.ref o1, .int a1, .int 0])).length) Slot.unset).toArray = ls at hl ⊢
  have hl : lv_has ls 5 [(0, .ref o1), (1, .int a1), (2, .int 0)] := hl
  refine gen_Q (fun Q hQ => ?_)
  refine lv_iload_n hx hb dX0_seatsRest_0 rfl (lv_at hl 2 rfl) ?_
  refine lv_aload_n hx hb dX0_seatsRest_1 rfl (lv_at hl 0 rfl) ?_
  refine va_get (D := (dC, dI)) (ci := 0) (v := .int v9) (C := RX0) (T := TX0) (N := 8) hx hb hts iw_X0_seatsRest_X0 hown hK hP 0 rfl rfl 4 (by decide) (hts (.fieldLink RX0 25 "HolelessHouse$Benches" "width" "I") hm_X0_seatsRest_1) (fun _ h9 => h9) rfl dX0_seatsRest_2 ?_
  refine lv_icmp_lt (tgt := 10) hx hb dX0_seatsRest_5 (by decide) (fun h1 => ?_) (fun h1 => ?_)
  ·
    have qh1 := lt_i h1
    have j2 : Iv 1 8 v9 := r_ltr qh1 ik_0 v9_h (by decide)
    refine lv_aload_n hx hb dX0_seatsRest_10 rfl (lv_at hl 0 rfl) ?_
    refine va_get (D := (dC, dI)) (ci := 0) (v := .ref o2) (C := RX0) (T := TX0) (N := 8) hx hb hts iw_X0_seatsRest_X0 hown hK hP 0 rfl rfl 0 (by decide) (hts (.fieldLink RX0 38 "HolelessHouse$Benches" "notes" "[I") hm_X0_seatsRest_2) (fun _ h9 => h9) rfl dX0_seatsRest_11 ?_
    refine lv_iload_n hx hb dX0_seatsRest_14 rfl (lv_at hl 1 rfl) ?_
    refine va_iald hx hb hK hP 1 0 rfl rfl (vin_iv a1_h (by decide)) dX0_seatsRest_15 (lv_topi (fun x3 x3_e => ?_))
    refine lv_iconst (v := 1) hx hb dX0_seatsRest_16 (by decide) ?_
    refine lv_icmp_ne (tgt := 22) hx hb dX0_seatsRest_17 (by decide) (fun h4 => ?_) (fun h4 => ?_)
    ·
      refine lv_aload_n hx hb dX0_seatsRest_22 rfl (lv_at hl 0 rfl) ?_
      refine lv_iload_n hx hb dX0_seatsRest_23 rfl (lv_at hl 1 rfl) ?_
      refine kc_i (D := (dC, dI)) (S := Unit) (wc := [(o1, .inr (0, [.ref o2, .ref o4, .ref o6, .int v8, .int v9, .int v10, .int v11, .int v12])), (o4, .inl (cI, 12, .inl fw5))]) (wr := [(o2, .inl (cI, 256, .inl fw3)), (o6, .inl (cI, 8, .inl fw7))]) (w1 := fun _ => [(o1, .inr (0, [.ref o2, .ref o4, .ref o6, .int v8, .int v9, .int v10, .int v11, .int v12])), (o4, .inl (cI, 12, .inl fw5))]) (wn := fun _ => [(o1, .inr (0, [.ref o2, .ref o4, .ref o6, .int v8, .int v9, .int v10, .int v11, .int v12])), (o2, .inl (cI, 256, .inl fw3)), (o4, .inl (cI, 12, .inl fw5)), (o6, .inl (cI, 8, .inl fw7))]) (fun hPc hDc => va_runV (As := [.int a1]) (rest := []) ⟨hx, hb, hml, hown, hts⟩ (kxX0_mayCome_3 l dC dI cI c2 cZ o1 o2 o4 o6 fw5 v8 v9 v10 v11 v12 a1 s.heap.size v8_h (iv_w j2 (by decide)) v11_h a1_h) (cwV 1 hts gX0_seatsRest_X0_mayCome rfl rfl rfl (by decide +kernel) ⟨Nat.le_of_ble_eq_true rfl, Nat.le_of_ble_eq_true rfl⟩) (pre_V hPc hK hDc hN (ci := 0) (q0 := 0) rfl rfl) rfl rfl hl.1 rfl (lv_room (Nat.le_of_ble_eq_true rfl)) dX0_seatsRest_24 ⟨Nat.le_of_ble_eq_true rfl, Nat.le_of_ble_eq_true rfl⟩) hP hD hS hA [0, 2] [1, 3] [2, 0, 3, 1] rfl rfl (by decide +kernel) (by decide +kernel) (by decide +kernel) (by decide +kernel) (fun _ => rfl) (fun x5 _ H locs hq hP hD hS => ?_)
      obtain ⟨x5_h, e6⟩ := hq
      have hP : va_P (dC, dI) vwCl ([(o1, .inr (0, [.ref o2, .ref o4, .ref o6, .int v8, .int v9, .int v10, .int v11, .int v12])), (o2, .inl (cI, 256, .inl fw3)), (o4, .inl (cI, 12, .inl fw5)), (o6, .inl (cI, 8, .inl fw7))]) H := hP
      have hD : va_D A ([(o1, .inr (0, [.ref o2, .ref o4, .ref o6, .int v8, .int v9, .int v10, .int v11, .int v12])), (o2, .inl (cI, 256, .inl fw3)), (o4, .inl (cI, 12, .inl fw5)), (o6, .inl (cI, 8, .inl fw7))]) := hD
      refine lv_istore_n (lv' := [(3, .int x5), (0, .ref o1), (1, .int a1), (2, .int 0)]) hx hb dX0_seatsRest_27 rfl hl (by decide) rfl (fun ls hl => ?_)
      refine lv_iconst (v := 0) hx hb dX0_seatsRest_28 (by decide) ?_
      refine lv_istore (lv' := [(4, .int 0), (3, .int x5), (0, .ref o1), (1, .int a1), (2, .int 0)]) hx hb dX0_seatsRest_29 hl (by decide) rfl (fun ls hl => ?_)
      have L1 : ∀ (N : Nat) (x160 : Int32) (f161 : Nat → Int32) (f162 : Nat → Int32) (H : Heap) (locs : List Loc) (ls : Array Slot), (8 - x160.toInt).toNat < N → Iv 0 8 x160 → (IC (okS fw5 (Int32.toNatClampNeg v8)) (Int32.toNatClampNeg v9) a1 x5 (Int32.toNatClampNeg x160)) → (MS (okS fw5 (Int32.toNatClampNeg v8)) (Int32.toNatClampNeg v9) f161) → (LPp 0 f162 fw7) → va_P (dC, dI) vwCl ([(o1, .inr (0, [.ref o2, .ref o4, .ref o6, .int v8, .int v9, .int v10, .int v11, .int v12])), (o2, .inl (cI, 256, .inl f161)), (o4, .inl (cI, 12, .inl fw5)), (o6, .inl (cI, 8, .inl f162))]) H → va_D A ([(o1, .inr (0, [.ref o2, .ref o4, .ref o6, .int v8, .int v9, .int v10, .int v11, .int v12])), (o2, .inl (cI, 256, .inl f161)), (o4, .inl (cI, 12, .inl fw5)), (o6, .inl (cI, 8, .inl f162))]) → va_S A s.heap H locs → lv_has ls 5 [(4, .int x160), (3, .int x5), (0, .ref o1), (1, .int a1), (2, .int 0)] → W p l e ({ frames := 8, cells := 0, slots := 0, locals := 192 }) s m ([.ref o1, .int a1, .int 0] : List Value).toArray below meth c H locs 0 0 Q (F0 m 31 ls []) := by
        intro N
        induction N with
        | zero =>
          intro x160 f161 f162 H locs ls hM
          exact absurd hM (Nat.not_lt_zero _)
        | succ N ih1 =>
          intro x160 f161 f162 H locs ls hM1 x160_h iv1_0 iv1_1 iv1_2 hP hD hS hl
          refine lv_iload hx hb dX0_seatsRest_31 (lv_at hl 0 rfl) ?_
          refine lv_aload_n hx hb dX0_seatsRest_33 rfl (lv_at hl 2 rfl) ?_
          refine va_get (D := (dC, dI)) (ci := 0) (v := .int v9) (C := RX0) (T := TX0) (N := 8) hx hb hts iw_X0_seatsRest_X0 hown hK hP 0 rfl rfl 4 (by decide) (hts (.fieldLink RX0 25 "HolelessHouse$Benches" "width" "I") hm_X0_seatsRest_1) (fun _ h9 => h9) rfl dX0_seatsRest_34 ?_
          refine lv_icmp_ge (tgt := 81) hx hb dX0_seatsRest_37 (by decide) (fun h163 => ?_) (fun h163 => ?_)
          ·
            have qh163 := le_i h163
            have j164 : Iv 1 8 x160 := r_ler qh163 j2 x160_h (by decide)
            refine lv_aload_n hx hb dX0_seatsRest_81 rfl (lv_at hl 2 rfl) ?_
            refine va_get (D := (dC, dI)) (ci := 0) (v := .ref o2) (C := RX0) (T := TX0) (N := 8) hx hb hts iw_X0_seatsRest_X0 hown hK hP 0 rfl rfl 0 (by decide) (hts (.fieldLink RX0 38 "HolelessHouse$Benches" "notes" "[I") hm_X0_seatsRest_2) (fun _ h9 => h9) rfl dX0_seatsRest_82 ?_
            refine lv_iload_n hx hb dX0_seatsRest_85 rfl (lv_at hl 3 rfl) ?_
            refine lv_iconst (v := 1) hx hb dX0_seatsRest_86 (by decide) ?_
            refine k_iast hx hb hK hP hD hS 1 0 rfl rfl (vin_iv a1_h (by decide)) dX0_seatsRest_87 (fun f165 H locs f165_e hP hD hS => ?_)
            have hP : va_P (dC, dI) vwCl ([(o1, .inr (0, [.ref o2, .ref o4, .ref o6, .int v8, .int v9, .int v10, .int v11, .int v12])), (o2, .inl (cI, 256, .inl f165)), (o4, .inl (cI, 12, .inl fw5)), (o6, .inl (cI, 8, .inl f162))]) H := hP
            have hD : va_D A ([(o1, .inr (0, [.ref o2, .ref o4, .ref o6, .int v8, .int v9, .int v10, .int v11, .int v12])), (o2, .inl (cI, 256, .inl f165)), (o4, .inl (cI, 12, .inl fw5)), (o6, .inl (cI, 8, .inl f162))]) := hD
            refine lv_iconst (v := 0) hx hb dX0_seatsRest_88 (by decide) ?_
            rw [hQ]
            exact W.zret (v := 0) (ty := .boolean) hx hb hr rfl (fun t ht hW => ⟨⟨0, (f165, f162), rfl, ⟨(iv_w ik_0 (by decide)), (SY_n (SY_z pre0 e6 iv1_0 qh163 (iv_w (c := 0) (d := 12) j2 (by decide)) (by have a0 := (show _ ≤ _ ∧ _ ≤ _ from j2); have a1 := (show Int32.toInt 0 = 0 by decide +kernel); have a2 := qh1; show 0 < Int.toNat _; omega))), (MS_u iv1_1 (SY_z pre0 e6 iv1_0 qh163 (iv_w (c := 0) (d := 12) j2 (by decide)) (by have a0 := (show _ ≤ _ ∧ _ ≤ _ from j2); have a1 := (show Int32.toInt 0 = 0 by decide +kernel); have a2 := qh1; show 0 < Int.toNat _; omega)) (iv_w (c := 0) (d := 4095) a1_h (by decide)) f165_e), iv1_2⟩, by rw [ht]; exact hP, va_K.moved hW.alike hK, hD⟩, hS.F ht⟩) hS.2.2 dX0_seatsRest_89
          ·
            have qh163 := nle_i h163
            have j166 : Iv 0 7 x160 := r_ltl qh163 x160_h j2 (by decide)
            refine lv_iload_n hx hb dX0_seatsRest_40 rfl (lv_at hl 1 rfl) ?_
            refine lv_iload hx hb dX0_seatsRest_41 (lv_at hl 0 rfl) ?_
            refine kc_i (D := (dC, dI)) (S := Unit) (wc := []) (wr := [(o1, .inr (0, [.ref o2, .ref o4, .ref o6, .int v8, .int v9, .int v10, .int v11, .int v12])), (o2, .inl (cI, 256, .inl f161)), (o4, .inl (cI, 12, .inl fw5)), (o6, .inl (cI, 8, .inl f162))]) (w1 := fun _ => []) (wn := fun _ => [(o1, .inr (0, [.ref o2, .ref o4, .ref o6, .int v8, .int v9, .int v10, .int v11, .int v12])), (o2, .inl (cI, 256, .inl f161)), (o4, .inl (cI, 12, .inl fw5)), (o6, .inl (cI, 8, .inl f162))]) (fun hPc hDc => va_runSN (As := [.int x5, .int x160]) (rest := []) ⟨hx, hb, hml, hown, hts⟩ (kxX11_in_2 l dC dI cI c2 cZ x5 x160 H.size) ⟨va_cnB 2 hts gX0_seatsRest_X11_in_n62 rfl rfl rfl (hN.1 _ ns_125) (hts (.initialized RX11) hm_X0_seatsRest_12) (by decide +kernel) ⟨Nat.le_of_ble_eq_true rfl, Nat.le_of_ble_eq_true rfl⟩, (hts (.static yX11_in) hm_X0_seatsRest_11), trivial⟩ (pre_S hPc hK hDc hN) rfl rfl hl.1 rfl (lv_room (Nat.le_of_ble_eq_true rfl)) dX0_seatsRest_43 ⟨Nat.le_of_ble_eq_true rfl, Nat.le_of_ble_eq_true rfl⟩) hP hD hS hA [] [0, 1, 2, 3] [0, 1, 2, 3] rfl rfl (by decide +kernel) (by decide +kernel) (by decide +kernel) (by decide +kernel) (fun _ => rfl) (fun x167 _ H locs hq hP hD hS => ?_)
            obtain ⟨x167_h, e168⟩ := hq
            have hP : va_P (dC, dI) vwCl ([(o1, .inr (0, [.ref o2, .ref o4, .ref o6, .int v8, .int v9, .int v10, .int v11, .int v12])), (o2, .inl (cI, 256, .inl f161)), (o4, .inl (cI, 12, .inl fw5)), (o6, .inl (cI, 8, .inl f162))]) H := hP
            have hD : va_D A ([(o1, .inr (0, [.ref o2, .ref o4, .ref o6, .int v8, .int v9, .int v10, .int v11, .int v12])), (o2, .inl (cI, 256, .inl f161)), (o4, .inl (cI, 12, .inl fw5)), (o6, .inl (cI, 8, .inl f162))]) := hD
            refine lv_if_eq (tgt := 75) hx hb dX0_seatsRest_46 (by decide) (fun h169 => ?_) (fun h169 => ?_)
            ·
              have j170 : Iv 0 0 x167 := r_eq h169 ik_0
              have b171 : bt x5 (Int32.toNatClampNeg x160) = false := has_f (e168 (iv_w (c := 0) (d := 12) j166 (by decide))) h169
              obtain ⟨x172, x172_e⟩ : ∃ z : Int32, z = x160 + 1 := ⟨_, rfl⟩
              have x172_h : Iv 1 8 x172 := iv_e x172_e (iv_add j166 ik_1 (by decide))
              refine lv_iinc (v := x172) (lv' := [(4, .int x172), (3, .int x5), (0, .ref o1), (1, .int a1), (2, .int 0)]) hx hb dX0_seatsRest_75 hl (k := 0) rfl (incN (by decide +kernel) x172_e) (by decide) rfl (fun ls hl => ?_)
              refine lv_goto (tgt := 31) hx hb dX0_seatsRest_78 (by decide) ?_
              exact ih1 x172 f161 f162 _ _ _ (ms_up x172_e j166 (by decide) hM1) (iv_w x172_h (by decide)) (IC_f iv1_0 (iv_w (c := 0) (d := 4095) j166 (by decide)) x172_e b171) iv1_1 iv1_2 hP hD hS hl
            ·
              have j173 : Iv 1 1 x167 := r_nelo h169 x167_h ik_0 (by decide)
              have b174 : bt x5 (Int32.toNatClampNeg x160) = true := has_t (e168 (iv_w (c := 0) (d := 12) j166 (by decide))) h169
              refine lv_aload_n hx hb dX0_seatsRest_49 rfl (lv_at hl 2 rfl) ?_
              refine va_get (D := (dC, dI)) (ci := 0) (v := .ref o6) (C := RX0) (T := TX0) (N := 8) hx hb hts iw_X0_seatsRest_X0 hown hK hP 0 rfl rfl 2 (by decide) (hts (.fieldLink RX0 41 "HolelessHouse$Benches" "places" "[I") hm_X0_seatsRest_3) (fun _ h9 => h9) rfl dX0_seatsRest_50 ?_
              refine lv_iload_n hx hb dX0_seatsRest_53 rfl (lv_at hl 4 rfl) ?_
              refine lv_iload hx hb dX0_seatsRest_54 (lv_at hl 0 rfl) ?_
              refine k_iast hx hb hK hP hD hS 3 0 rfl rfl (vin_iv ik_0 (by decide)) dX0_seatsRest_56 (fun f175 H locs f175_e hP hD hS => ?_)
              have hP : va_P (dC, dI) vwCl ([(o1, .inr (0, [.ref o2, .ref o4, .ref o6, .int v8, .int v9, .int v10, .int v11, .int v12])), (o2, .inl (cI, 256, .inl f161)), (o4, .inl (cI, 12, .inl fw5)), (o6, .inl (cI, 8, .inl f175))]) H := hP
              have hD : va_D A ([(o1, .inr (0, [.ref o2, .ref o4, .ref o6, .int v8, .int v9, .int v10, .int v11, .int v12])), (o2, .inl (cI, 256, .inl f161)), (o4, .inl (cI, 12, .inl fw5)), (o6, .inl (cI, 8, .inl f175))]) := hD
              refine lv_aload_n hx hb dX0_seatsRest_57 rfl (lv_at hl 2 rfl) ?_
              refine lv_iload_n hx hb dX0_seatsRest_58 rfl (lv_at hl 3 rfl) ?_
              refine lv_iconst (v := 1) hx hb dX0_seatsRest_59 (by decide) ?_
              refine lv_iload hx hb dX0_seatsRest_60 (lv_at hl 0 rfl) ?_
              refine lv_ishl hx hb dX0_seatsRest_62 (lv_topi (fun x176 x176_e => ?_))
              have x176_h : Iv 1 128 x176 := iv_e x176_e (iv_shl1 j166 (by decide))
              refine lv_ior hx hb dX0_seatsRest_63 (lv_topi (fun x177 x177_e => ?_))
              have x177_h : Iv 0 255 x177 := iv_e x177_e (iv_or 8 a1_h x176_h (by decide))
              refine lv_iload_n hx hb dX0_seatsRest_64 rfl (lv_at hl 4 rfl) ?_
              refine lv_iconst (v := 1) hx hb dX0_seatsRest_65 (by decide) ?_
              refine lv_iadd hx hb dX0_seatsRest_66 (tk_i (v := 1) (by decide +kernel) ?_)
              refine kc_i (D := (dC, dI)) (S := (Nat → Int32) × (Nat → Int32)) (wc := [(o1, .inr (0, [.ref o2, .ref o4, .ref o6, .int v8, .int v9, .int v10, .int v11, .int v12])), (o2, .inl (cI, 256, .inl f161)), (o4, .inl (cI, 12, .inl fw5)), (o6, .inl (cI, 8, .inl f175))]) (wr := []) (w1 := fun u => [(o1, .inr (0, [.ref o2, .ref o4, .ref o6, .int v8, .int v9, .int v10, .int v11, .int v12])), (o2, .inl (cI, 256, .inl u.1)), (o4, .inl (cI, 12, .inl fw5)), (o6, .inl (cI, 8, .inl u.2))]) (wn := fun u => [(o1, .inr (0, [.ref o2, .ref o4, .ref o6, .int v8, .int v9, .int v10, .int v11, .int v12])), (o2, .inl (cI, 256, .inl u.1)), (o4, .inl (cI, 12, .inl fw5)), (o6, .inl (cI, 8, .inl u.2))]) (fun hPc hDc => va_runS (As := [.ref o1, .int x177, .int 1]) (rest := []) ⟨hx, hb, hml, hown, hts⟩ (kxX0_seatsRest_30 l dC dI cI c2 cZ o1 o2 o4 o6 f161 fw5 f175 v8 v9 v10 v11 v12 x177 H.size v8_h (iv_w j2 (by decide)) v11_h x177_h (SP_s pre0 e6 (iv_w (c := 0) (d := 11) j166 (by decide)) b174 x176_e x177_e) iv1_1) (va_cwS 3 hts gX0_seatsRest_X0_seatsRest rfl rfl rfl (by decide +kernel) ⟨Nat.le_of_ble_eq_true rfl, Nat.le_of_ble_eq_true rfl⟩) (pre_S hPc hK hDc hN) rfl rfl hl.1 rfl (lv_room (Nat.le_of_ble_eq_true rfl)) dX0_seatsRest_67 ⟨Nat.le_of_ble_eq_true rfl, Nat.le_of_ble_eq_true rfl⟩) hP hD hS hA [0, 1, 2, 3] [] [0, 1, 2, 3] rfl rfl (by decide +kernel) (by decide +kernel) (by decide +kernel) (by decide +kernel) (fun _ => rfl) (fun x180 u H locs hq hP hD hS => ?_)
              obtain ⟨f178, f179⟩ := u
              obtain ⟨x180_h, e181, e182, e183⟩ := hq
              have hP : va_P (dC, dI) vwCl ([(o1, .inr (0, [.ref o2, .ref o4, .ref o6, .int v8, .int v9, .int v10, .int v11, .int v12])), (o2, .inl (cI, 256, .inl f178)), (o4, .inl (cI, 12, .inl fw5)), (o6, .inl (cI, 8, .inl f179))]) H := hP
              have hD : va_D A ([(o1, .inr (0, [.ref o2, .ref o4, .ref o6, .int v8, .int v9, .int v10, .int v11, .int v12])), (o2, .inl (cI, 256, .inl f178)), (o4, .inl (cI, 12, .inl fw5)), (o6, .inl (cI, 8, .inl f179))]) := hD
              refine lv_if_eq (tgt := 75) hx hb dX0_seatsRest_70 (by decide) (fun h184 => ?_) (fun h184 => ?_)
              ·
                have j185 : Iv 0 0 x180 := r_eq h184 ik_0
                obtain ⟨x186, x186_e⟩ : ∃ z : Int32, z = x160 + 1 := ⟨_, rfl⟩
                have x186_h : Iv 1 8 x186 := iv_e x186_e (iv_add j166 ik_1 (by decide))
                refine lv_iinc (v := x186) (lv' := [(4, .int x186), (3, .int x5), (0, .ref o1), (1, .int a1), (2, .int 0)]) hx hb dX0_seatsRest_75 hl (k := 0) rfl (incN (by decide +kernel) x186_e) (by decide) rfl (fun ls hl => ?_)
                refine lv_goto (tgt := 31) hx hb dX0_seatsRest_78 (by decide) ?_
                exact ih1 x186 f178 f179 _ _ _ (ms_up x186_e j166 (by decide) hM1) (iv_w x186_h (by decide)) (IC_t iv1_0 (iv_w (c := 0) (d := 11) j166 (by decide)) x186_e x176_e x177_e e181 h184) e182 (LPp_t e183 (LPp_u iv1_2 f175_e)) hP hD hS hl
              ·
                have j187 : Iv 1 1 x180 := r_nelo h184 x180_h ik_0 (by decide)
                refine lv_iconst (v := 1) hx hb dX0_seatsRest_73 (by decide) ?_
                rw [hQ]
                exact W.zret (v := 1) (ty := .boolean) hx hb hr rfl (fun t ht hW => ⟨⟨1, (f178, f179), rfl, ⟨(iv_w ik_1 (by decide)), (SY_t pre0 e6 iv1_0 (iv_w (c := 0) (d := 11) j166 (by decide)) b174 x176_e x177_e f175_e e183 e181 h184 (by have a0 := (show _ ≤ _ ∧ _ ≤ _ from j2); have a1 := (show Int32.toInt 0 = 0 by decide +kernel); have a2 := qh1; show 0 < Int.toNat _; omega)), e182, (LPp_t e183 (LPp_u iv1_2 f175_e))⟩, by rw [ht]; exact hP, va_K.moved hW.alike hK, hD⟩, hS.F ht⟩) hS.2.2 dX0_seatsRest_74
      exact L1 _ 0 fw3 fw7 _ _ _ (Nat.lt_succ_self _) (iv_w ik_0 (by decide)) IC_0 pre1 LPp_r hP hD hS hl
    ·
      have j188 : Iv 1 1 x3 := r_eq h4 ik_1
      refine lv_iconst (v := 0) hx hb dX0_seatsRest_20 (by decide) ?_
      rw [hQ]
      exact W.zret (v := 0) (ty := .boolean) hx hb hr rfl (fun t ht hW => ⟨⟨0, (fw3, fw7), rfl, ⟨(iv_w ik_0 (by decide)), (SY_memo pre0 pre1 (iv_w (c := 0) (d := 4095) a1_h (by decide)) x3_e h4), pre1, LPp_r⟩, by rw [ht]; exact hP, va_K.moved hW.alike hK, hD⟩, hS.F ht⟩) hS.2.2 dX0_seatsRest_21
  ·
    have qh1 := nlt_i h1
    have j189 : Iv 0 0 v9 := r_lel qh1 v9_h ik_0 (by decide)
    refine lv_iconst (v := 1) hx hb dX0_seatsRest_8 (by decide) ?_
    rw [hQ]
    exact W.zret (v := 1) (ty := .boolean) hx hb hr rfl (fun t ht hW => ⟨⟨1, (fw3, fw7), rfl, ⟨(iv_w ik_1 (by decide)), (SY_full pre0 (by have a0 := (show _ ≤ _ ∧ _ ≤ _ from j189); have a1 := (show Int32.toInt 0 = 0 by decide +kernel); have a2 := qh1; show Int.toNat _ ≤ 0; omega)), pre1, LPp_r⟩, by rw [ht]; exact hP, va_K.moved hW.alike hK, hD⟩, hS.F ht⟩) hS.2.2 dX0_seatsRest_9
set_option maxHeartbeats 4000000 in
set_option maxRecDepth 100000 in
theorem kxX0_findFirst_3 (l : Launch) (dC : Nat → ClassId) (dI : Nat → Nat → Nat) (cI c2 cZ : ClassId) (o1 : Nat) (o2 : Nat) (o4 : Nat) (o6 : Nat) (fw3 : Nat → Int32) (fw5 : Nat → Int32) (fw7 : Nat → Int32) (v8 : Int32) (v9 : Int32) (v10 : Int32) (v11 : Int32) (v12 : Int32) (sz : Nat) (v8_h : Iv 0 12 v8) (v9_h : Iv 0 8 v9) (v11_h : Iv 0 1 v11) : Met l yX0_findFirst wsX0_findFirst ({ frames := 9, cells := 0, slots := 0, locals := 216 }) (va_Pc [.ref o1] (wPre (dC, dI) [(cI, .int), (c2, .array .int), (cZ, .boolean)] ([(o1, .inr (0, [.ref o2, .ref o4, .ref o6, .int v8, .int v9, .int v10, .int v11, .int v12])), (o2, .inl (cI, 256, .inl fw3)), (o4, .inl (cI, 12, .inl fw5)), (o6, .inl (cI, 8, .inl fw7))]) sz)) (va_Qv (fun (u : Int32 × (Nat → Int32) × (Nat → Int32)) => Iv 0 1 u.1 ∧ SY (okS fw5 (Int32.toNatClampNeg v8)) (Int32.toNatClampNeg v9) 0 0 u.1 u.2.2) (fun u t => wPost (dC, dI) [(cI, .int), (c2, .array .int), (cZ, .boolean)] (va_A ([(o1, .inr (0, [.ref o2, .ref o4, .ref o6, .int v8, .int v9, .int v10, .int v11, .int v12])), (o2, .inl (cI, 256, .inl fw3)), (o4, .inl (cI, 12, .inl fw5)), (o6, .inl (cI, 8, .inl fw7))]) sz) ([(o1, .inr (0, [.ref o2, .ref o4, .ref o6, .int v8, .int v9, .int v10, .int u.1, .int v12])), (o2, .inl (cI, 256, .inl u.2.1)), (o4, .inl (cI, 12, .inl fw5)), (o6, .inl (cI, 8, .inl u.2.2))]) t) (va_A ([(o1, .inr (0, [.ref o2, .ref o4, .ref o6, .int v8, .int v9, .int v10, .int v11, .int v12])), (o2, .inl (cI, 256, .inl fw3)), (o4, .inl (cI, 12, .inl fw5)), (o6, .inl (cI, 8, .inl fw7))]) sz)) 0 0 (va_A ([(o1, .inr (0, [.ref o2, .ref o4, .ref o6, .int v8, .int v9, .int v10, .int v11, .int v12])), (o2, .inl (cI, 256, .inl fw3)), (o4, .inl (cI, 12, .inl fw5)), (o6, .inl (cI, 8, .inl fw7))]) sz) := by
  refine Met.ofW (cc := cX0_findFirst) (maxL := 1) (ret := none) (by decide) rfl ?_
  intro p e s m args below meth c s₁ B hml hv
  obtain ⟨rfl, hsz, hP, hK, hD0, hN⟩ := hv
  have hx := B.exec
  have hb := B.bytes
  have hr := B.returns
  have hts := atoms_spec (ws := wsX0_findFirst) B.pre
  have hown : s.vm.findClass RX0 = some m.cls := findClass_of_methodNamed B.named
  have hlocks := B.notSynchronized
  subst hsz
  have hD := hD0.self (sz := s.heap.size)
  generalize hAe : va_A ([(o1, .inr (0, [.ref o2, .ref o4, .ref o6, .int v8, .int v9, .int v10, .int v11, .int v12])), (o2, .inl (cI, 256, .inl fw3)), (o4, .inl (cI, 12, .inl fw5)), (o6, .inl (cI, 8, .inl fw7))]) s.heap.size = A at hD ⊢
  have hA : ∀ q : Nat, s.heap.size ≤ q → A q := fun q h => by rw [← hAe]; exact Or.inr h
  have hS : va_S A s.heap s.heap [] := va_S.rf
  have hP : va_P (dC, dI) vwCl ([(o1, .inr (0, [.ref o2, .ref o4, .ref o6, .int v8, .int v9, .int v10, .int v11, .int v12])), (o2, .inl (cI, 256, .inl fw3)), (o4, .inl (cI, 12, .inl fw5)), (o6, .inl (cI, 8, .inl fw7))]) s.heap := hP
  have hl := lv_entry ([.ref o1]) (n := 1) (Nat.le_of_ble_eq_true rfl)
  rw [lg_entry_eq]
  generalize (lg_sl ([.ref o1]) ++ List.replicate (1 - (lg_sl ([.ref o1])).length) Slot.unset).toArray = ls at hl ⊢
  have hl : lv_has ls 1 [(0, .ref o1)] := hl
  refine gen_Q (fun Q hQ => ?_)
  refine lv_aload_n hx hb dX0_findFirst_0 rfl (lv_at hl 0 rfl) ?_
  refine va_get (D := (dC, dI)) (ci := 0) (v := .ref o2) (C := RX0) (T := TX0) (N := 8) hx hb hts iw_X0_findFirst_X0 hown hK hP 0 rfl rfl 0 (by decide) (hts (.fieldLink RX0 38 "HolelessHouse$Benches" "notes" "[I") hm_X0_findFirst_1) (fun _ h9 => h9) rfl dX0_findFirst_1 ?_
  refine lv_iconst (v := 0) hx hb dX0_findFirst_4 (by decide) ?_
  refine lv_iconst (v := 1) hx hb dX0_findFirst_5 (by decide) ?_
  refine lv_aload_n hx hb dX0_findFirst_6 rfl (lv_at hl 0 rfl) ?_
  refine va_get (D := (dC, dI)) (ci := 0) (v := .int v9) (C := RX0) (T := TX0) (N := 8) hx hb hts iw_X0_findFirst_X0 hown hK hP 0 rfl rfl 4 (by decide) (hts (.fieldLink RX0 25 "HolelessHouse$Benches" "width" "I") hm_X0_findFirst_2) (fun _ h9 => h9) rfl dX0_findFirst_7 ?_
  refine lv_ishl hx hb dX0_findFirst_10 (lv_topi (fun x1 x1_e => ?_))
  have x1_h : Iv 1 256 x1 := iv_e x1_e (iv_shl1 v9_h (by decide))
  refine lv_iconst (v := 0) hx hb dX0_findFirst_11 (by decide) ?_
  refine kc_v (D := (dC, dI)) (S := (Nat → Int32)) (wc := [(o2, .inl (cI, 256, .inl fw3))]) (wr := [(o1, .inr (0, [.ref o2, .ref o4, .ref o6, .int v8, .int v9, .int v10, .int v11, .int v12])), (o4, .inl (cI, 12, .inl fw5)), (o6, .inl (cI, 8, .inl fw7))]) (w1 := fun u => [(o2, .inl (cI, 256, .inl u))]) (wn := fun u => [(o1, .inr (0, [.ref o2, .ref o4, .ref o6, .int v8, .int v9, .int v10, .int v11, .int v12])), (o2, .inl (cI, 256, .inl u)), (o4, .inl (cI, 12, .inl fw5)), (o6, .inl (cI, 8, .inl fw7))]) (fun hPc hDc => va_runS (As := [.ref o2, .int 0, .int x1, .int 0]) (rest := []) ⟨hx, hb, hml, hown, hts⟩ (kxJ7_fill_fda19_4 l dC dI cI c2 cZ o2 fw3 0 x1 0 s.heap.size ik_0 x1_h ik_0) (va_cwS 4 hts gX0_findFirst_J7_fill_fda19 rfl rfl rfl (by decide +kernel) ⟨Nat.le_of_ble_eq_true rfl, Nat.le_of_ble_eq_true rfl⟩) (pre_S hPc hK hDc hN) rfl rfl hl.1 rfl (lv_room (Nat.le_of_ble_eq_true rfl)) dX0_findFirst_12 ⟨Nat.le_of_ble_eq_true rfl, Nat.le_of_ble_eq_true rfl⟩) hP hD hS hA [1] [0, 2, 3] [0, 3, 1, 2] rfl rfl (by decide +kernel) (by decide +kernel) (by decide +kernel) (by decide +kernel) (fun _ => rfl) (fun f2 H locs hq hP hD hS => ?_)
  have e3 := hq
  have hP : va_P (dC, dI) vwCl ([(o1, .inr (0, [.ref o2, .ref o4, .ref o6, .int v8, .int v9, .int v10, .int v11, .int v12])), (o2, .inl (cI, 256, .inl f2)), (o4, .inl (cI, 12, .inl fw5)), (o6, .inl (cI, 8, .inl fw7))]) H := hP
  have hD : va_D A ([(o1, .inr (0, [.ref o2, .ref o4, .ref o6, .int v8, .int v9, .int v10, .int v11, .int v12])), (o2, .inl (cI, 256, .inl f2)), (o4, .inl (cI, 12, .inl fw5)), (o6, .inl (cI, 8, .inl fw7))]) := hD
  refine lv_aload_n hx hb dX0_findFirst_15 rfl (lv_at hl 0 rfl) ?_
  refine lv_aload_n hx hb dX0_findFirst_16 rfl (lv_at hl 0 rfl) ?_
  refine lv_iconst (v := 0) hx hb dX0_findFirst_17 (by decide) ?_
  refine lv_iconst (v := 0) hx hb dX0_findFirst_18 (by decide) ?_
  refine kc_i (D := (dC, dI)) (S := (Nat → Int32) × (Nat → Int32)) (wc := [(o1, .inr (0, [.ref o2, .ref o4, .ref o6, .int v8, .int v9, .int v10, .int v11, .int v12])), (o2, .inl (cI, 256, .inl f2)), (o4, .inl (cI, 12, .inl fw5)), (o6, .inl (cI, 8, .inl fw7))]) (wr := []) (w1 := fun u => [(o1, .inr (0, [.ref o2, .ref o4, .ref o6, .int v8, .int v9, .int v10, .int v11, .int v12])), (o2, .inl (cI, 256, .inl u.1)), (o4, .inl (cI, 12, .inl fw5)), (o6, .inl (cI, 8, .inl u.2))]) (wn := fun u => [(o1, .inr (0, [.ref o2, .ref o4, .ref o6, .int v8, .int v9, .int v10, .int v11, .int v12])), (o2, .inl (cI, 256, .inl u.1)), (o4, .inl (cI, 12, .inl fw5)), (o6, .inl (cI, 8, .inl u.2))]) (fun hPc hDc => va_runS (As := [.ref o1, .int 0, .int 0]) (rest := [.ref o1]) ⟨hx, hb, hml, hown, hts⟩ (kxX0_seatsRest_31 l dC dI cI c2 cZ o1 o2 o4 o6 f2 fw5 fw7 v8 v9 v10 v11 v12 0 H.size v8_h v9_h v11_h (iv_w ik_0 (by decide)) SP_0 (MS_0 (iv_w (c := 0) (d := 12) v9_h (by decide)) x1_e e3)) (va_cwS 3 hts gX0_findFirst_X0_seatsRest rfl rfl rfl (by decide +kernel) ⟨Nat.le_of_ble_eq_true rfl, Nat.le_of_ble_eq_true rfl⟩) (pre_S hPc hK hDc hN) rfl rfl hl.1 rfl (lv_room (Nat.le_of_ble_eq_true rfl)) dX0_findFirst_19 ⟨Nat.le_of_ble_eq_true rfl, Nat.le_of_ble_eq_true rfl⟩) hP hD hS hA [0, 1, 2, 3] [] [0, 1, 2, 3] rfl rfl (by decide +kernel) (by decide +kernel) (by decide +kernel) (by decide +kernel) (fun _ => rfl) (fun x6 u H locs hq hP hD hS => ?_)
  obtain ⟨f4, f5⟩ := u
  obtain ⟨x6_h, e7, e8, e9⟩ := hq
  have hP : va_P (dC, dI) vwCl ([(o1, .inr (0, [.ref o2, .ref o4, .ref o6, .int v8, .int v9, .int v10, .int v11, .int v12])), (o2, .inl (cI, 256, .inl f4)), (o4, .inl (cI, 12, .inl fw5)), (o6, .inl (cI, 8, .inl f5))]) H := hP
  have hD : va_D A ([(o1, .inr (0, [.ref o2, .ref o4, .ref o6, .int v8, .int v9, .int v10, .int v11, .int v12])), (o2, .inl (cI, 256, .inl f4)), (o4, .inl (cI, 12, .inl fw5)), (o6, .inl (cI, 8, .inl f5))]) := hD
  refine va_put (D := (dC, dI)) (ci := 0) (v := .int x6) (ty := .boolean) (C := RX0) (T := TX0) (N := 8) hx hb hts iw_X0_findFirst_X0 tyX0 tyX0_ok nmX0 hown hK hP hD hS 0 rfl rfl 6 (by decide) (hts (.fieldLink RX0 31 "HolelessHouse$Benches" "seated" "Z") hm_X0_findFirst_3) (fun _ h9 => h9) rfl (by decide +kernel) (nar_z x6_h) (fit_z x6_h) (Nat.le_of_ble_eq_true rfl) dX0_findFirst_22 (fun H locs hP hD hS => ?_)
  have hP : va_P (dC, dI) vwCl ([(o1, .inr (0, [.ref o2, .ref o4, .ref o6, .int v8, .int v9, .int v10, .int x6, .int v12])), (o2, .inl (cI, 256, .inl f4)), (o4, .inl (cI, 12, .inl fw5)), (o6, .inl (cI, 8, .inl f5))]) H := hP
  have hD : va_D A ([(o1, .inr (0, [.ref o2, .ref o4, .ref o6, .int v8, .int v9, .int v10, .int x6, .int v12])), (o2, .inl (cI, 256, .inl f4)), (o4, .inl (cI, 12, .inl fw5)), (o6, .inl (cI, 8, .inl f5))]) := hD
  rw [hQ]
  exact W.vret hx hb hr (fun t ht hW => ⟨⟨(x6, f4, f5), rfl, ⟨x6_h, e7⟩, by rw [ht]; exact hP, va_K.moved hW.alike hK, hD⟩, hS.F ht⟩) hS.2.2 dX0_findFirst_25
set_option maxHeartbeats 4000000 in
set_option maxRecDepth 100000 in
theorem kxX11_bringSeats_2 (l : Launch) (dC : Nat → ClassId) (dI : Nat → Nat → Nat) (cI c2 cZ : ClassId) (o1 : Nat) (o2 : Nat) (o7 : Nat) (o12 : Nat) (o41 : Nat) (o51 : Nat) (o64 : Nat) (o77 : Nat) (o84 : Nat) (o91 : Nat) (o99 : Nat) (o111 : Nat) (o123 : Nat) (o112 : Nat) (o114 : Nat) (o116 : Nat) (o8 : Nat) (fw9 : Nat → Int32) (v10 : Int32) (v11 : Int32) (fw113 : Nat → Int32) (fw115 : Nat → Int32) (fw117 : Nat → Int32) (v118 : Int32) (v119 : Int32) (v120 : Int32) (v121 : Int32) (v122 : Int32) (v125 : Int32) (sz : Nat) (fw9_b : Bd 12 (-1) 255 fw9) (v10_h : Iv 0 8 v10) (v118_h : Iv 0 12 v118) (v119_h : Iv 0 8 v119) (v121_h : Iv 0 1 v121) (pre0 : CCq v122 v11 v10 fw9 v121 fw117 v119) (pre1 : RB (Int32.toNatClampNeg v10) fw9) : Met l yX11_bringSeats wsX11_bringSeats ({ frames := 10, cells := 0, slots := 0, locals := 236 }) (va_Pc [.ref o1] (wPre (dC, dI) [(cI, .int), (c2, .array .int), (cZ, .boolean)] ([(o1, .inr (11, [.ref o2, .ref o7, .ref o12, .ref o41, .ref o51, .ref o64, .ref o77, .ref o84, .ref o91, .ref o99, .ref o111, .ref o123, .int v125])), (o111, .inr (0, [.ref o112, .ref o114, .ref o116, .int v118, .int v119, .int v120, .int v121, .int v122])), (o7, .inr (10, [.ref o8, .int v10, .int v11])), (o8, .inl (cI, 12, .inl fw9)), (o114, .inl (cI, 12, .inl fw115)), (o112, .inl (cI, 256, .inl fw113)), (o116, .inl (cI, 8, .inl fw117))]) sz)) (va_Qv (fun (u : Int32 × Int32 × Int32 × Int32 × Int32 × (Nat → Int32) × (Nat → Int32) × (Nat → Int32)) => Iv 0 12 u.1 ∧ Iv 0 8 u.2.1 ∧ Iv 0 1 u.2.2.2.1 ∧ FW (Int32.toNatClampNeg v10) fw9 u.2.2.2.1 u.2.2.2.2.2.2.2 ∧ u.2.2.2.2.1 = v11 ∧ u.2.1 = v10) (fun u t => wPost (dC, dI) [(cI, .int), (c2, .array .int), (cZ, .boolean)] (va_A ([(o1, .inr (11, [.ref o2, .ref o7, .ref o12, .ref o41, .ref o51, .ref o64, .ref o77, .ref o84, .ref o91, .ref o99, .ref o111, .ref o123, .int v125])), (o111, .inr (0, [.ref o112, .ref o114, .ref o116, .int v118, .int v119, .int v120, .int v121, .int v122])), (o7, .inr (10, [.ref o8, .int v10, .int v11])), (o8, .inl (cI, 12, .inl fw9)), (o114, .inl (cI, 12, .inl fw115)), (o112, .inl (cI, 256, .inl fw113)), (o116, .inl (cI, 8, .inl fw117))]) sz) ([(o1, .inr (11, [.ref o2, .ref o7, .ref o12, .ref o41, .ref o51, .ref o64, .ref o77, .ref o84, .ref o91, .ref o99, .ref o111, .ref o123, .int v125])), (o111, .inr (0, [.ref o112, .ref o114, .ref o116, .int u.1, .int u.2.1, .int u.2.2.1, .int u.2.2.2.1, .int u.2.2.2.2.1])), (o7, .inr (10, [.ref o8, .int v10, .int v11])), (o8, .inl (cI, 12, .inl fw9)), (o114, .inl (cI, 12, .inl u.2.2.2.2.2.1)), (o112, .inl (cI, 256, .inl u.2.2.2.2.2.2.1)), (o116, .inl (cI, 8, .inl u.2.2.2.2.2.2.2))]) t) (va_A ([(o1, .inr (11, [.ref o2, .ref o7, .ref o12, .ref o41, .ref o51, .ref o64, .ref o77, .ref o84, .ref o91, .ref o99, .ref o111, .ref o123, .int v125])), (o111, .inr (0, [.ref o112, .ref o114, .ref o116, .int v118, .int v119, .int v120, .int v121, .int v122])), (o7, .inr (10, [.ref o8, .int v10, .int v11])), (o8, .inl (cI, 12, .inl fw9)), (o114, .inl (cI, 12, .inl fw115)), (o112, .inl (cI, 256, .inl fw113)), (o116, .inl (cI, 8, .inl fw117))]) sz)) 0 0 (va_A ([(o1, .inr (11, [.ref o2, .ref o7, .ref o12, .ref o41, .ref o51, .ref o64, .ref o77, .ref o84, .ref o91, .ref o99, .ref o111, .ref o123, .int v125])), (o111, .inr (0, [.ref o112, .ref o114, .ref o116, .int v118, .int v119, .int v120, .int v121, .int v122])), (o7, .inr (10, [.ref o8, .int v10, .int v11])), (o8, .inl (cI, 12, .inl fw9)), (o114, .inl (cI, 12, .inl fw115)), (o112, .inl (cI, 256, .inl fw113)), (o116, .inl (cI, 8, .inl fw117))]) sz) := by
  refine Met.ofW (cc := cX11_bringSeats) (maxL := 2) (ret := none) (by decide) rfl ?_
  intro p e s m args below meth c s₁ B hml hv
  obtain ⟨rfl, hsz, hP, hK, hD0, hN⟩ := hv
  have hx := B.exec
  have hb := B.bytes
  have hr := B.returns
  have hts := atoms_spec (ws := wsX11_bringSeats) B.pre
  have hown : s.vm.findClass RX11 = some m.cls := findClass_of_methodNamed B.named
  have hlocks := B.notSynchronized
  subst hsz
  have hD := hD0.self (sz := s.heap.size)
  generalize hAe : va_A ([(o1, .inr (11, [.ref o2, .ref o7, .ref o12, .ref o41, .ref o51, .ref o64, .ref o77, .ref o84, .ref o91, .ref o99, .ref o111, .ref o123, .int v125])), (o111, .inr (0, [.ref o112, .ref o114, .ref o116, .int v118, .int v119, .int v120, .int v121, .int v122])), (o7, .inr (10, [.ref o8, .int v10, .int v11])), (o8, .inl (cI, 12, .inl fw9)), (o114, .inl (cI, 12, .inl fw115)), (o112, .inl (cI, 256, .inl fw113)), (o116, .inl (cI, 8, .inl fw117))]) s.heap.size = A at hD ⊢
  have hA : ∀ q : Nat, s.heap.size ≤ q → A q := fun q h => by rw [← hAe]; exact Or.inr h
  have hS : va_S A s.heap s.heap [] := va_S.rf
  have hP : va_P (dC, dI) vwCl ([(o1, .inr (11, [.ref o2, .ref o7, .ref o12, .ref o41, .ref o51, .ref o64, .ref o77, .ref o84, .ref o91, .ref o99, .ref o111, .ref o123, .int v125])), (o111, .inr (0, [.ref o112, .ref o114, .ref o116, .int v118, .int v119, .int v120, .int v121, .int v122])), (o7, .inr (10, [.ref o8, .int v10, .int v11])), (o8, .inl (cI, 12, .inl fw9)), (o114, .inl (cI, 12, .inl fw115)), (o112, .inl (cI, 256, .inl fw113)), (o116, .inl (cI, 8, .inl fw117))]) s.heap := hP
  have hl := lv_entry ([.ref o1]) (n := 2) (Nat.le_of_ble_eq_true rfl)
  rw [lg_entry_eq]
  generalize (lg_sl ([.ref o1]) ++ List.replicate (2 - (lg_sl ([.ref o1])).length) Slot.unset).toArray = ls at hl ⊢
  have hl : lv_has ls 2 [(0, .ref o1)] := hl
  refine gen_Q (fun Q hQ => ?_)
  refine lv_aload_n hx hb dX11_bringSeats_0 rfl (lv_at hl 0 rfl) ?_
  refine va_get (D := (dC, dI)) (ci := 11) (v := .ref o111) (C := RX11) (T := TX11) (N := 13) hx hb hts iw_X11_bringSeats_X11 hown hK hP 0 rfl rfl 10 (by decide) (hts (.fieldLink RX11 79 "HolelessHouse" "seats" "LHolelessHouse$Benches;") hm_X11_bringSeats_1) (fun _ h9 => h9) rfl dX11_bringSeats_1 ?_
  refine va_getN (D := (dC, dI)) (ci := 0) (v := .int v122) (C := RX0) (T := TX0) (N := 8) hx hb hts iw_X11_bringSeats_X0 hown hK hP 1 rfl rfl 7 (by decide) (hN.use ns_47) (fun _ h9 => h9) rfl dX11_bringSeats_4 ?_
  refine lv_aload_n hx hb dX11_bringSeats_7 rfl (lv_at hl 0 rfl) ?_
  refine va_get (D := (dC, dI)) (ci := 11) (v := .ref o7) (C := RX11) (T := TX11) (N := 13) hx hb hts iw_X11_bringSeats_X11 hown hK hP 0 rfl rfl 1 (by decide) (hts (.fieldLink RX11 19 "HolelessHouse" "table" "LHolelessHouse$Table;") hm_X11_bringSeats_2) (fun _ h9 => h9) rfl dX11_bringSeats_8 ?_
  refine va_getN (D := (dC, dI)) (ci := 10) (v := .int v11) (C := RX10) (T := TX10) (N := 3) hx hb hts iw_X11_bringSeats_X10 hown hK hP 2 rfl rfl 2 (by decide) (hN.use ns_23) (fun _ h9 => h9) rfl dX11_bringSeats_11 ?_
  refine lv_icmp_ne (tgt := 18) hx hb dX11_bringSeats_14 (by decide) (fun h1 => ?_) (fun h1 => ?_)
  ·
    refine lv_aload_n hx hb dX11_bringSeats_18 rfl (lv_at hl 0 rfl) ?_
    refine va_get (D := (dC, dI)) (ci := 11) (v := .ref o111) (C := RX11) (T := TX11) (N := 13) hx hb hts iw_X11_bringSeats_X11 hown hK hP 0 rfl rfl 10 (by decide) (hts (.fieldLink RX11 79 "HolelessHouse" "seats" "LHolelessHouse$Benches;") hm_X11_bringSeats_1) (fun _ h9 => h9) rfl dX11_bringSeats_19 ?_
    refine lv_aload_n hx hb dX11_bringSeats_22 rfl (lv_at hl 0 rfl) ?_
    refine va_get (D := (dC, dI)) (ci := 11) (v := .ref o7) (C := RX11) (T := TX11) (N := 13) hx hb hts iw_X11_bringSeats_X11 hown hK hP 0 rfl rfl 1 (by decide) (hts (.fieldLink RX11 19 "HolelessHouse" "table" "LHolelessHouse$Table;") hm_X11_bringSeats_2) (fun _ h9 => h9) rfl dX11_bringSeats_23 ?_
    refine va_getN (D := (dC, dI)) (ci := 10) (v := .int v11) (C := RX10) (T := TX10) (N := 3) hx hb hts iw_X11_bringSeats_X10 hown hK hP 2 rfl rfl 2 (by decide) (hN.use ns_23) (fun _ h9 => h9) rfl dX11_bringSeats_26 ?_
    refine va_putN (D := (dC, dI)) (ci := 0) (v := .int v11) (ty := .int) (C := RX0) (T := TX0) (N := 8) hx hb hts iw_X11_bringSeats_X0 tyX0 tyX0_ok nmX0 hown hK hP hD hS 1 rfl rfl 7 (by decide) (hN.use ns_47) (fun _ h9 => h9) rfl (by decide +kernel) rfl rfl (Nat.le_of_ble_eq_true rfl) dX11_bringSeats_29 (fun H locs hP hD hS => ?_)
    have hP : va_P (dC, dI) vwCl ([(o1, .inr (11, [.ref o2, .ref o7, .ref o12, .ref o41, .ref o51, .ref o64, .ref o77, .ref o84, .ref o91, .ref o99, .ref o111, .ref o123, .int v125])), (o111, .inr (0, [.ref o112, .ref o114, .ref o116, .int v118, .int v119, .int v120, .int v121, .int v11])), (o7, .inr (10, [.ref o8, .int v10, .int v11])), (o8, .inl (cI, 12, .inl fw9)), (o114, .inl (cI, 12, .inl fw115)), (o112, .inl (cI, 256, .inl fw113)), (o116, .inl (cI, 8, .inl fw117))]) H := hP
    have hD : va_D A ([(o1, .inr (11, [.ref o2, .ref o7, .ref o12, .ref o41, .ref o51, .ref o64, .ref o77, .ref o84, .ref o91, .ref o99, .ref o111, .ref o123, .int v125])), (o111, .inr (0, [.ref o112, .ref o114, .ref o116, .int v118, .int v119, .int v120, .int v121, .int v11])), (o7, .inr (10, [.ref o8, .int v10, .int v11])), (o8, .inl (cI, 12, .inl fw9)), (o114, .inl (cI, 12, .inl fw115)), (o112, .inl (cI, 256, .inl fw113)), (o116, .inl (cI, 8, .inl fw117))]) := hD
    refine lv_aload_n hx hb dX11_bringSeats_32 rfl (lv_at hl 0 rfl) ?_
    refine va_get (D := (dC, dI)) (ci := 11) (v := .ref o111) (C := RX11) (T := TX11) (N := 13) hx hb hts iw_X11_bringSeats_X11 hown hK hP 0 rfl rfl 10 (by decide) (hts (.fieldLink RX11 79 "HolelessHouse" "seats" "LHolelessHouse$Benches;") hm_X11_bringSeats_1) (fun _ h9 => h9) rfl dX11_bringSeats_33 ?_
    refine lv_aload_n hx hb dX11_bringSeats_36 rfl (lv_at hl 0 rfl) ?_
    refine va_get (D := (dC, dI)) (ci := 11) (v := .ref o7) (C := RX11) (T := TX11) (N := 13) hx hb hts iw_X11_bringSeats_X11 hown hK hP 0 rfl rfl 1 (by decide) (hts (.fieldLink RX11 19 "HolelessHouse" "table" "LHolelessHouse$Table;") hm_X11_bringSeats_2) (fun _ h9 => h9) rfl dX11_bringSeats_37 ?_
    refine va_getN (D := (dC, dI)) (ci := 10) (v := .int v10) (C := RX10) (T := TX10) (N := 3) hx hb hts iw_X11_bringSeats_X10 hown hK hP 2 rfl rfl 1 (by decide) (hN.use ns_22) (fun _ h9 => h9) rfl dX11_bringSeats_40 ?_
    refine kc_v (D := (dC, dI)) (S := Int32 × Int32) (wc := [(o111, .inr (0, [.ref o112, .ref o114, .ref o116, .int v118, .int v119, .int v120, .int v121, .int v11]))]) (wr := [(o1, .inr (11, [.ref o2, .ref o7, .ref o12, .ref o41, .ref o51, .ref o64, .ref o77, .ref o84, .ref o91, .ref o99, .ref o111, .ref o123, .int v125])), (o7, .inr (10, [.ref o8, .int v10, .int v11])), (o8, .inl (cI, 12, .inl fw9)), (o114, .inl (cI, 12, .inl fw115)), (o112, .inl (cI, 256, .inl fw113)), (o116, .inl (cI, 8, .inl fw117))]) (w1 := fun u => [(o111, .inr (0, [.ref o112, .ref o114, .ref o116, .int u.1, .int u.2, .int v120, .int v121, .int v11]))]) (wn := fun u => [(o1, .inr (11, [.ref o2, .ref o7, .ref o12, .ref o41, .ref o51, .ref o64, .ref o77, .ref o84, .ref o91, .ref o99, .ref o111, .ref o123, .int v125])), (o111, .inr (0, [.ref o112, .ref o114, .ref o116, .int u.1, .int u.2, .int v120, .int v121, .int v11])), (o7, .inr (10, [.ref o8, .int v10, .int v11])), (o8, .inl (cI, 12, .inl fw9)), (o114, .inl (cI, 12, .inl fw115)), (o112, .inl (cI, 256, .inl fw113)), (o116, .inl (cI, 8, .inl fw117))]) (fun hPc hDc => va_runVN (As := [.int v10]) (rest := []) ⟨hx, hb, hml, hown, hts⟩ (kxX0_restart_4 l dC dI cI c2 cZ o111 o112 o114 o116 v118 v119 v120 v121 v11 v10 H.size v118_h v119_h v121_h v10_h) ⟨va_cnB 1 hts gX11_bringSeats_X0_restart_n303 rfl rfl rfl (hN.1 _ ns_121) (hts (.initialized RX0) hm_X11_bringSeats_4) (by decide +kernel) ⟨Nat.le_of_ble_eq_true rfl, Nat.le_of_ble_eq_true rfl⟩, (hts (.instanceMethod yX0_restart) hm_X11_bringSeats_3), (hts (.selects RX0 yX0_restart yX0_restart) hm_X11_bringSeats_5)⟩ (pre_V hPc hK hDc hN (ci := 0) (q0 := 0) rfl rfl) rfl rfl hl.1 rfl (lv_room (Nat.le_of_ble_eq_true rfl)) dX11_bringSeats_43 ⟨Nat.le_of_ble_eq_true rfl, Nat.le_of_ble_eq_true rfl⟩) hP hD hS hA [1] [0, 2, 3, 4, 5, 6] [0, 6, 1, 2, 3, 4, 5] rfl rfl (by decide +kernel) (by decide +kernel) (by decide +kernel) (by decide +kernel) (fun _ => rfl) (fun u H locs hq hP hD hS => ?_)
    obtain ⟨y2, y3⟩ := u
    obtain ⟨y2_h, y3_h, e4, e5⟩ := hq
    have hP : va_P (dC, dI) vwCl ([(o1, .inr (11, [.ref o2, .ref o7, .ref o12, .ref o41, .ref o51, .ref o64, .ref o77, .ref o84, .ref o91, .ref o99, .ref o111, .ref o123, .int v125])), (o111, .inr (0, [.ref o112, .ref o114, .ref o116, .int y2, .int y3, .int v120, .int v121, .int v11])), (o7, .inr (10, [.ref o8, .int v10, .int v11])), (o8, .inl (cI, 12, .inl fw9)), (o114, .inl (cI, 12, .inl fw115)), (o112, .inl (cI, 256, .inl fw113)), (o116, .inl (cI, 8, .inl fw117))]) H := hP
    have hD : va_D A ([(o1, .inr (11, [.ref o2, .ref o7, .ref o12, .ref o41, .ref o51, .ref o64, .ref o77, .ref o84, .ref o91, .ref o99, .ref o111, .ref o123, .int v125])), (o111, .inr (0, [.ref o112, .ref o114, .ref o116, .int y2, .int y3, .int v120, .int v121, .int v11])), (o7, .inr (10, [.ref o8, .int v10, .int v11])), (o8, .inl (cI, 12, .inl fw9)), (o114, .inl (cI, 12, .inl fw115)), (o112, .inl (cI, 256, .inl fw113)), (o116, .inl (cI, 8, .inl fw117))]) := hD
    refine lv_iconst (v := 0) hx hb dX11_bringSeats_46 (by decide) ?_
    refine lv_istore_n (lv' := [(1, .int 0), (0, .ref o1)]) hx hb dX11_bringSeats_47 rfl hl (by decide) rfl (fun ls hl => ?_)
    have L1 : ∀ (N : Nat) (x108 : Int32) (f109 : Nat → Int32) (x110 : Int32) (H : Heap) (locs : List Loc) (ls : Array Slot), (12 - x108.toInt).toNat < N → Iv 0 12 x108 → Iv 0 12 x110 → (SR fw9 f109 (Int32.toNatClampNeg x108) (Int32.toNatClampNeg x110)) → (Int32.toInt x110 ≤ Int32.toInt x108) → va_P (dC, dI) vwCl ([(o1, .inr (11, [.ref o2, .ref o7, .ref o12, .ref o41, .ref o51, .ref o64, .ref o77, .ref o84, .ref o91, .ref o99, .ref o111, .ref o123, .int v125])), (o111, .inr (0, [.ref o112, .ref o114, .ref o116, .int x110, .int y3, .int v120, .int v121, .int v11])), (o7, .inr (10, [.ref o8, .int v10, .int v11])), (o8, .inl (cI, 12, .inl fw9)), (o114, .inl (cI, 12, .inl f109)), (o112, .inl (cI, 256, .inl fw113)), (o116, .inl (cI, 8, .inl fw117))]) H → va_D A ([(o1, .inr (11, [.ref o2, .ref o7, .ref o12, .ref o41, .ref o51, .ref o64, .ref o77, .ref o84, .ref o91, .ref o99, .ref o111, .ref o123, .int v125])), (o111, .inr (0, [.ref o112, .ref o114, .ref o116, .int x110, .int y3, .int v120, .int v121, .int v11])), (o7, .inr (10, [.ref o8, .int v10, .int v11])), (o8, .inl (cI, 12, .inl fw9)), (o114, .inl (cI, 12, .inl f109)), (o112, .inl (cI, 256, .inl fw113)), (o116, .inl (cI, 8, .inl fw117))]) → va_S A s.heap H locs → lv_has ls 2 [(1, .int x108), (0, .ref o1)] → W p l e ({ frames := 10, cells := 0, slots := 0, locals := 236 }) s m ([.ref o1] : List Value).toArray below meth c H locs 0 0 Q (F0 m 48 ls []) := by
      intro N
      induction N with
      | zero =>
        intro x108 f109 x110 H locs ls hM
        exact absurd hM (Nat.not_lt_zero _)
      | succ N ih1 =>
        intro x108 f109 x110 H locs ls hM1 x108_h x110_h iv1_0 iv1_1 hP hD hS hl
        refine lv_iload_n hx hb dX11_bringSeats_48 rfl (lv_at hl 0 rfl) ?_
        refine lv_bipush (v := 12) hx hb dX11_bringSeats_49 (by decide) ?_
        refine lv_icmp_ge (tgt := 89) hx hb dX11_bringSeats_51 (by decide) (fun h111 => ?_) (fun h111 => ?_)
        ·
          have qh111 := le_i h111
          have j112 : Iv 12 12 x108 := r_ler qh111 ik_12 x108_h (by decide)
          refine lv_aload_n hx hb dX11_bringSeats_89 rfl (lv_at hl 1 rfl) ?_
          refine va_get (D := (dC, dI)) (ci := 11) (v := .ref o111) (C := RX11) (T := TX11) (N := 13) hx hb hts iw_X11_bringSeats_X11 hown hK hP 0 rfl rfl 10 (by decide) (hts (.fieldLink RX11 79 "HolelessHouse" "seats" "LHolelessHouse$Benches;") hm_X11_bringSeats_1) (fun _ h9 => h9) rfl dX11_bringSeats_90 ?_
          refine kc_v (D := (dC, dI)) (S := Int32 × (Nat → Int32) × (Nat → Int32)) (wc := [(o111, .inr (0, [.ref o112, .ref o114, .ref o116, .int x110, .int y3, .int v120, .int v121, .int v11])), (o112, .inl (cI, 256, .inl fw113)), (o114, .inl (cI, 12, .inl f109)), (o116, .inl (cI, 8, .inl fw117))]) (wr := [(o1, .inr (11, [.ref o2, .ref o7, .ref o12, .ref o41, .ref o51, .ref o64, .ref o77, .ref o84, .ref o91, .ref o99, .ref o111, .ref o123, .int v125])), (o7, .inr (10, [.ref o8, .int v10, .int v11])), (o8, .inl (cI, 12, .inl fw9))]) (w1 := fun u => [(o111, .inr (0, [.ref o112, .ref o114, .ref o116, .int x110, .int y3, .int v120, .int u.1, .int v11])), (o112, .inl (cI, 256, .inl u.2.1)), (o114, .inl (cI, 12, .inl f109)), (o116, .inl (cI, 8, .inl u.2.2))]) (wn := fun u => [(o1, .inr (11, [.ref o2, .ref o7, .ref o12, .ref o41, .ref o51, .ref o64, .ref o77, .ref o84, .ref o91, .ref o99, .ref o111, .ref o123, .int v125])), (o111, .inr (0, [.ref o112, .ref o114, .ref o116, .int x110, .int y3, .int v120, .int u.1, .int v11])), (o7, .inr (10, [.ref o8, .int v10, .int v11])), (o8, .inl (cI, 12, .inl fw9)), (o114, .inl (cI, 12, .inl f109)), (o112, .inl (cI, 256, .inl u.2.1)), (o116, .inl (cI, 8, .inl u.2.2))]) (fun hPc hDc => va_runVN (As := []) (rest := []) ⟨hx, hb, hml, hown, hts⟩ (kxX0_findFirst_3 l dC dI cI c2 cZ o111 o112 o114 o116 fw113 f109 fw117 x110 y3 v120 v121 v11 H.size x110_h y3_h v121_h) ⟨va_cnB 0 hts gX11_bringSeats_X0_findFirst_n310 rfl rfl rfl (hN.1 _ ns_124) (hts (.initialized RX0) hm_X11_bringSeats_4) (by decide +kernel) ⟨Nat.le_of_ble_eq_true rfl, Nat.le_of_ble_eq_true rfl⟩, (hts (.instanceMethod yX0_findFirst) hm_X11_bringSeats_13), (hts (.selects RX0 yX0_findFirst yX0_findFirst) hm_X11_bringSeats_14)⟩ (pre_V hPc hK hDc hN (ci := 0) (q0 := 0) rfl rfl) rfl rfl hl.1 rfl (lv_room (Nat.le_of_ble_eq_true rfl)) dX11_bringSeats_93 ⟨Nat.le_of_ble_eq_true rfl, Nat.le_of_ble_eq_true rfl⟩) hP hD hS hA [1, 5, 4, 6] [0, 2, 3] [0, 3, 1, 2, 5, 4, 6] rfl rfl (by decide +kernel) (by decide +kernel) (by decide +kernel) (by decide +kernel) (fun _ => rfl) (fun u H locs hq hP hD hS => ?_)
          obtain ⟨y113, f114, f115⟩ := u
          obtain ⟨y113_h, e116⟩ := hq
          have hP : va_P (dC, dI) vwCl ([(o1, .inr (11, [.ref o2, .ref o7, .ref o12, .ref o41, .ref o51, .ref o64, .ref o77, .ref o84, .ref o91, .ref o99, .ref o111, .ref o123, .int v125])), (o111, .inr (0, [.ref o112, .ref o114, .ref o116, .int x110, .int y3, .int v120, .int y113, .int v11])), (o7, .inr (10, [.ref o8, .int v10, .int v11])), (o8, .inl (cI, 12, .inl fw9)), (o114, .inl (cI, 12, .inl f109)), (o112, .inl (cI, 256, .inl f114)), (o116, .inl (cI, 8, .inl f115))]) H := hP
          have hD : va_D A ([(o1, .inr (11, [.ref o2, .ref o7, .ref o12, .ref o41, .ref o51, .ref o64, .ref o77, .ref o84, .ref o91, .ref o99, .ref o111, .ref o123, .int v125])), (o111, .inr (0, [.ref o112, .ref o114, .ref o116, .int x110, .int y3, .int v120, .int y113, .int v11])), (o7, .inr (10, [.ref o8, .int v10, .int v11])), (o8, .inl (cI, 12, .inl fw9)), (o114, .inl (cI, 12, .inl f109)), (o112, .inl (cI, 256, .inl f114)), (o116, .inl (cI, 8, .inl f115))]) := hD
          refine lv_aload_n hx hb dX11_bringSeats_96 rfl (lv_at hl 1 rfl) ?_
          refine va_get (D := (dC, dI)) (ci := 11) (v := .ref o111) (C := RX11) (T := TX11) (N := 13) hx hb hts iw_X11_bringSeats_X11 hown hK hP 0 rfl rfl 10 (by decide) (hts (.fieldLink RX11 79 "HolelessHouse" "seats" "LHolelessHouse$Benches;") hm_X11_bringSeats_1) (fun _ h9 => h9) rfl dX11_bringSeats_97 ?_
          refine kc_v (D := (dC, dI)) (S := Int32 × (Nat → Int32)) (wc := [(o111, .inr (0, [.ref o112, .ref o114, .ref o116, .int x110, .int y3, .int v120, .int y113, .int v11])), (o112, .inl (cI, 256, .inl f114)), (o114, .inl (cI, 12, .inl f109))]) (wr := [(o1, .inr (11, [.ref o2, .ref o7, .ref o12, .ref o41, .ref o51, .ref o64, .ref o77, .ref o84, .ref o91, .ref o99, .ref o111, .ref o123, .int v125])), (o7, .inr (10, [.ref o8, .int v10, .int v11])), (o8, .inl (cI, 12, .inl fw9)), (o116, .inl (cI, 8, .inl f115))]) (w1 := fun u => [(o111, .inr (0, [.ref o112, .ref o114, .ref o116, .int x110, .int y3, .int u.1, .int y113, .int v11])), (o112, .inl (cI, 256, .inl u.2)), (o114, .inl (cI, 12, .inl f109))]) (wn := fun u => [(o1, .inr (11, [.ref o2, .ref o7, .ref o12, .ref o41, .ref o51, .ref o64, .ref o77, .ref o84, .ref o91, .ref o99, .ref o111, .ref o123, .int v125])), (o111, .inr (0, [.ref o112, .ref o114, .ref o116, .int x110, .int y3, .int u.1, .int y113, .int v11])), (o7, .inr (10, [.ref o8, .int v10, .int v11])), (o8, .inl (cI, 12, .inl fw9)), (o114, .inl (cI, 12, .inl f109)), (o112, .inl (cI, 256, .inl u.2)), (o116, .inl (cI, 8, .inl f115))]) (fun hPc hDc => va_runVN (As := []) (rest := []) ⟨hx, hb, hml, hown, hts⟩ (kX0_countWays_1 l dC dI cI c2 cZ o111 o112 o114 o116 f114 f109 x110 y3 v120 y113 v11 H.size x110_h y3_h y113_h) ⟨va_cnB 0 hts gX11_bringSeats_X0_countWays_n314 rfl rfl rfl (hN.1 _ ns_137) (hts (.initialized RX0) hm_X11_bringSeats_4) (by decide +kernel) ⟨Nat.le_of_ble_eq_true rfl, Nat.le_of_ble_eq_true rfl⟩, (hts (.instanceMethod yX0_countWays) hm_X11_bringSeats_36), (hts (.selects RX0 yX0_countWays yX0_countWays) hm_X11_bringSeats_37)⟩ (pre_V hPc hK hDc hN (ci := 0) (q0 := 0) rfl rfl) rfl rfl hl.1 rfl (lv_room (Nat.le_of_ble_eq_true rfl)) dX11_bringSeats_100 ⟨Nat.le_of_ble_eq_true rfl, Nat.le_of_ble_eq_true rfl⟩) hP hD hS hA [1, 5, 4] [0, 2, 3, 6] [0, 4, 1, 2, 6, 5, 3] rfl rfl (by decide +kernel) (by decide +kernel) (by decide +kernel) (by decide +kernel) (fun _ => rfl) (fun u H locs hq hP hD hS => ?_)
          obtain ⟨y117, f118⟩ := u
          have hP : va_P (dC, dI) vwCl ([(o1, .inr (11, [.ref o2, .ref o7, .ref o12, .ref o41, .ref o51, .ref o64, .ref o77, .ref o84, .ref o91, .ref o99, .ref o111, .ref o123, .int v125])), (o111, .inr (0, [.ref o112, .ref o114, .ref o116, .int x110, .int y3, .int y117, .int y113, .int v11])), (o7, .inr (10, [.ref o8, .int v10, .int v11])), (o8, .inl (cI, 12, .inl fw9)), (o114, .inl (cI, 12, .inl f109)), (o112, .inl (cI, 256, .inl f118)), (o116, .inl (cI, 8, .inl f115))]) H := hP
          have hD : va_D A ([(o1, .inr (11, [.ref o2, .ref o7, .ref o12, .ref o41, .ref o51, .ref o64, .ref o77, .ref o84, .ref o91, .ref o99, .ref o111, .ref o123, .int v125])), (o111, .inr (0, [.ref o112, .ref o114, .ref o116, .int x110, .int y3, .int y117, .int y113, .int v11])), (o7, .inr (10, [.ref o8, .int v10, .int v11])), (o8, .inl (cI, 12, .inl fw9)), (o114, .inl (cI, 12, .inl f109)), (o112, .inl (cI, 256, .inl f118)), (o116, .inl (cI, 8, .inl f115))]) := hD
          rw [hQ]
          exact W.vret hx hb hr (fun t ht hW => ⟨⟨(x110, y3, y117, y113, v11, f109, f118, f115), rfl, ⟨x110_h, y3_h, y113_h, (FW_i e116 e4 pre1 (SR_e iv1_0 j112)), rfl, e4⟩, by rw [ht]; exact hP, va_K.moved hW.alike hK, hD⟩, hS.F ht⟩) hS.2.2 dX11_bringSeats_103
        ·
          have qh111 := nle_i h111
          have j119 : Iv 0 11 x108 := r_ltl qh111 x108_h ik_12 (by decide)
          refine lv_aload_n hx hb dX11_bringSeats_54 rfl (lv_at hl 1 rfl) ?_
          refine va_get (D := (dC, dI)) (ci := 11) (v := .ref o7) (C := RX11) (T := TX11) (N := 13) hx hb hts iw_X11_bringSeats_X11 hown hK hP 0 rfl rfl 1 (by decide) (hts (.fieldLink RX11 19 "HolelessHouse" "table" "LHolelessHouse$Table;") hm_X11_bringSeats_2) (fun _ h9 => h9) rfl dX11_bringSeats_55 ?_
          refine va_getN (D := (dC, dI)) (ci := 10) (v := .ref o8) (C := RX10) (T := TX10) (N := 3) hx hb hts iw_X11_bringSeats_X10 hown hK hP 2 rfl rfl 0 (by decide) (hN.use ns_21) (fun _ h9 => h9) rfl dX11_bringSeats_58 ?_
          refine lv_iload_n hx hb dX11_bringSeats_61 rfl (lv_at hl 0 rfl) ?_
          refine va_iald hx hb hK hP 3 0 rfl rfl (vin_iv j119 (by decide)) dX11_bringSeats_62 (lv_topi (fun x120 x120_e => ?_))
          have x120_h : Iv (-1) 255 x120 := iv_e x120_e (bd_at fw9_b (vin_iv j119 (by decide)))
          refine lv_iconst (v := (-1)) hx hb dX11_bringSeats_63 (by decide) ?_
          refine lv_icmp_eq (tgt := 83) hx hb dX11_bringSeats_64 (by decide) (fun h121 => ?_) (fun h121 => ?_)
          ·
            have j122 : Iv (-1) (-1) x120 := r_eq h121 ikm_1
            obtain ⟨x123, x123_e⟩ : ∃ z : Int32, z = x108 + 1 := ⟨_, rfl⟩
            have x123_h : Iv 1 12 x123 := iv_e x123_e (iv_add j119 ik_1 (by decide))
            refine lv_iinc (v := x123) (lv' := [(1, .int x123), (0, .ref o1)]) hx hb dX11_bringSeats_83 hl (k := 0) rfl (incN (by decide +kernel) x123_e) (by decide) rfl (fun ls hl => ?_)
            refine lv_goto (tgt := 48) hx hb dX11_bringSeats_86 (by decide) ?_
            exact ih1 x123 f109 x110 _ _ _ (ms_up x123_e j119 (by decide) hM1) (iv_w x123_h (by decide)) x110_h (SR_n iv1_0 (iv_w (c := 0) (d := 4095) j119 (by decide)) x123_e x120_e j122) (up_le iv1_1 (iv_w (c := 0) (d := 4095) j119 (by decide)) x123_e) hP hD hS hl
          ·
            have j124 : Iv 0 255 x120 := r_nelo h121 x120_h ikm_1 (by decide)
            refine lv_aload_n hx hb dX11_bringSeats_67 rfl (lv_at hl 1 rfl) ?_
            refine va_get (D := (dC, dI)) (ci := 11) (v := .ref o111) (C := RX11) (T := TX11) (N := 13) hx hb hts iw_X11_bringSeats_X11 hown hK hP 0 rfl rfl 10 (by decide) (hts (.fieldLink RX11 79 "HolelessHouse" "seats" "LHolelessHouse$Benches;") hm_X11_bringSeats_1) (fun _ h9 => h9) rfl dX11_bringSeats_68 ?_
            refine lv_aload_n hx hb dX11_bringSeats_71 rfl (lv_at hl 1 rfl) ?_
            refine va_get (D := (dC, dI)) (ci := 11) (v := .ref o7) (C := RX11) (T := TX11) (N := 13) hx hb hts iw_X11_bringSeats_X11 hown hK hP 0 rfl rfl 1 (by decide) (hts (.fieldLink RX11 19 "HolelessHouse" "table" "LHolelessHouse$Table;") hm_X11_bringSeats_2) (fun _ h9 => h9) rfl dX11_bringSeats_72 ?_
            refine va_getN (D := (dC, dI)) (ci := 10) (v := .ref o8) (C := RX10) (T := TX10) (N := 3) hx hb hts iw_X11_bringSeats_X10 hown hK hP 2 rfl rfl 0 (by decide) (hN.use ns_21) (fun _ h9 => h9) rfl dX11_bringSeats_75 ?_
            refine lv_iload_n hx hb dX11_bringSeats_78 rfl (lv_at hl 0 rfl) ?_
            refine va_iald hx hb hK hP 3 0 rfl rfl (vin_iv j119 (by decide)) dX11_bringSeats_79 (lv_topi (fun x125 x125_e => ?_))
            have x125_h : Iv 0 255 x125 := iv_e (x125_e.trans x120_e.symm) j124
            refine kc_v (D := (dC, dI)) (S := Int32 × (Nat → Int32)) (wc := [(o111, .inr (0, [.ref o112, .ref o114, .ref o116, .int x110, .int y3, .int v120, .int v121, .int v11])), (o114, .inl (cI, 12, .inl f109))]) (wr := [(o1, .inr (11, [.ref o2, .ref o7, .ref o12, .ref o41, .ref o51, .ref o64, .ref o77, .ref o84, .ref o91, .ref o99, .ref o111, .ref o123, .int v125])), (o7, .inr (10, [.ref o8, .int v10, .int v11])), (o8, .inl (cI, 12, .inl fw9)), (o112, .inl (cI, 256, .inl fw113)), (o116, .inl (cI, 8, .inl fw117))]) (w1 := fun u => [(o111, .inr (0, [.ref o112, .ref o114, .ref o116, .int u.1, .int y3, .int v120, .int v121, .int v11])), (o114, .inl (cI, 12, .inl u.2))]) (wn := fun u => [(o1, .inr (11, [.ref o2, .ref o7, .ref o12, .ref o41, .ref o51, .ref o64, .ref o77, .ref o84, .ref o91, .ref o99, .ref o111, .ref o123, .int v125])), (o111, .inr (0, [.ref o112, .ref o114, .ref o116, .int u.1, .int y3, .int v120, .int v121, .int v11])), (o7, .inr (10, [.ref o8, .int v10, .int v11])), (o8, .inl (cI, 12, .inl fw9)), (o114, .inl (cI, 12, .inl u.2)), (o112, .inl (cI, 256, .inl fw113)), (o116, .inl (cI, 8, .inl fw117))]) (fun hPc hDc => va_runVN (As := [.int x125]) (rest := []) ⟨hx, hb, hml, hown, hts⟩ (kxX0_addRow_3 l dC dI cI c2 cZ o111 o112 o114 o116 f109 x110 y3 v120 v121 v11 x125 H.size x110_h y3_h v121_h) ⟨va_cnB 1 hts gX11_bringSeats_X0_addRow_n307 rfl rfl rfl (hN.1 _ ns_123) (hts (.initialized RX0) hm_X11_bringSeats_4) (by decide +kernel) ⟨Nat.le_of_ble_eq_true rfl, Nat.le_of_ble_eq_true rfl⟩, (hts (.instanceMethod yX0_addRow) hm_X11_bringSeats_9), (hts (.selects RX0 yX0_addRow yX0_addRow) hm_X11_bringSeats_10)⟩ (pre_V hPc hK hDc hN (ci := 0) (q0 := 0) rfl rfl) rfl rfl hl.1 rfl (lv_room (Nat.le_of_ble_eq_true rfl)) dX11_bringSeats_80 ⟨Nat.le_of_ble_eq_true rfl, Nat.le_of_ble_eq_true rfl⟩) hP hD hS hA [1, 4] [0, 2, 3, 5, 6] [0, 5, 1, 2, 6, 3, 4] rfl rfl (by decide +kernel) (by decide +kernel) (by decide +kernel) (by decide +kernel) (fun _ => rfl) (fun u H locs hq hP hD hS => ?_)
            obtain ⟨y126, f127⟩ := u
            obtain ⟨y126_h, e128⟩ := hq
            have hP : va_P (dC, dI) vwCl ([(o1, .inr (11, [.ref o2, .ref o7, .ref o12, .ref o41, .ref o51, .ref o64, .ref o77, .ref o84, .ref o91, .ref o99, .ref o111, .ref o123, .int v125])), (o111, .inr (0, [.ref o112, .ref o114, .ref o116, .int y126, .int y3, .int v120, .int v121, .int v11])), (o7, .inr (10, [.ref o8, .int v10, .int v11])), (o8, .inl (cI, 12, .inl fw9)), (o114, .inl (cI, 12, .inl f127)), (o112, .inl (cI, 256, .inl fw113)), (o116, .inl (cI, 8, .inl fw117))]) H := hP
            have hD : va_D A ([(o1, .inr (11, [.ref o2, .ref o7, .ref o12, .ref o41, .ref o51, .ref o64, .ref o77, .ref o84, .ref o91, .ref o99, .ref o111, .ref o123, .int v125])), (o111, .inr (0, [.ref o112, .ref o114, .ref o116, .int y126, .int y3, .int v120, .int v121, .int v11])), (o7, .inr (10, [.ref o8, .int v10, .int v11])), (o8, .inl (cI, 12, .inl fw9)), (o114, .inl (cI, 12, .inl f127)), (o112, .inl (cI, 256, .inl fw113)), (o116, .inl (cI, 8, .inl fw117))]) := hD
            obtain ⟨x129, x129_e⟩ : ∃ z : Int32, z = x108 + 1 := ⟨_, rfl⟩
            have x129_h : Iv 1 12 x129 := iv_e x129_e (iv_add j119 ik_1 (by decide))
            refine lv_iinc (v := x129) (lv' := [(1, .int x129), (0, .ref o1)]) hx hb dX11_bringSeats_83 hl (k := 0) rfl (incN (by decide +kernel) x129_e) (by decide) rfl (fun ls hl => ?_)
            refine lv_goto (tgt := 48) hx hb dX11_bringSeats_86 (by decide) ?_
            exact ih1 x129 f127 y126 _ _ _ (ms_up x129_e j119 (by decide) hM1) (iv_w x129_h (by decide)) y126_h (SR_y iv1_0 (iv_w (c := 0) (d := 4095) j119 (by decide)) x129_e x125_e x125_h (iv_w (c := 0) (d := 4095) x110_h (by decide)) (e128 (lt_12 iv1_1 j119)).1 (e128 (lt_12 iv1_1 j119)).2) (up_le2 iv1_1 (iv_w (c := 0) (d := 4095) j119 (by decide)) x129_e x110_h (e128 (lt_12 iv1_1 j119)).1) hP hD hS hl
    exact L1 _ 0 fw115 y2 _ _ _ (Nat.lt_succ_self _) (iv_w ik_0 (by decide)) y2_h (SR_0e e5) (z_le e5) hP hD hS hl
  ·
    rw [hQ]
    exact W.vret hx hb hr (fun t ht hW => ⟨⟨(v118, v119, v120, v121, v122, fw115, fw113, fw117), rfl, ⟨v118_h, v119_h, v121_h, (pre0 h1).1, h1, (pre0 h1).2⟩, by rw [ht]; exact hP, va_K.moved hW.alike hK, hD⟩, hS.F ht⟩) hS.2.2 dX11_bringSeats_17
set_option maxHeartbeats 4000000 in
set_option maxRecDepth 100000 in
theorem kxX11_seat_2 (l : Launch) (dC : Nat → ClassId) (dI : Nat → Nat → Nat) (cI c2 cZ : ClassId) (o1 : Nat) (o2 : Nat) (o7 : Nat) (o12 : Nat) (o41 : Nat) (o51 : Nat) (o64 : Nat) (o77 : Nat) (o84 : Nat) (o91 : Nat) (o99 : Nat) (o111 : Nat) (o123 : Nat) (o112 : Nat) (o114 : Nat) (o116 : Nat) (o8 : Nat) (fw9 : Nat → Int32) (v10 : Int32) (v11 : Int32) (fw113 : Nat → Int32) (fw115 : Nat → Int32) (fw117 : Nat → Int32) (v118 : Int32) (v119 : Int32) (v120 : Int32) (v121 : Int32) (v122 : Int32) (v125 : Int32) (a1 : Int32) (sz : Nat) (fw9_b : Bd 12 (-1) 255 fw9) (v10_h : Iv 0 8 v10) (v118_h : Iv 0 12 v118) (v119_h : Iv 0 8 v119) (v121_h : Iv 0 1 v121) (pre0 : CCq v122 v11 v10 fw9 v121 fw117 v119) (pre1 : RB (Int32.toNatClampNeg v10) fw9) : Met l yX11_seat wsX11_seat ({ frames := 11, cells := 0, slots := 0, locals := 257 }) (va_Pc [.ref o1, .int a1] (wPre (dC, dI) [(cI, .int), (c2, .array .int), (cZ, .boolean)] ([(o1, .inr (11, [.ref o2, .ref o7, .ref o12, .ref o41, .ref o51, .ref o64, .ref o77, .ref o84, .ref o91, .ref o99, .ref o111, .ref o123, .int v125])), (o111, .inr (0, [.ref o112, .ref o114, .ref o116, .int v118, .int v119, .int v120, .int v121, .int v122])), (o7, .inr (10, [.ref o8, .int v10, .int v11])), (o8, .inl (cI, 12, .inl fw9)), (o114, .inl (cI, 12, .inl fw115)), (o112, .inl (cI, 256, .inl fw113)), (o116, .inl (cI, 8, .inl fw117))]) sz)) (va_Qi (fun (r : Int32) (u : Int32 × Int32 × Int32 × Int32 × Int32 × (Nat → Int32) × (Nat → Int32) × (Nat → Int32)) => Iv 0 12 u.1 ∧ Iv 0 8 u.2.1 ∧ Iv 0 1 u.2.2.2.1 ∧ STP v10 fw9 a1 r ∧ FW (Int32.toNatClampNeg v10) fw9 u.2.2.2.1 u.2.2.2.2.2.2.2 ∧ u.2.2.2.2.1 = v11 ∧ u.2.1 = v10) (fun u t => wPost (dC, dI) [(cI, .int), (c2, .array .int), (cZ, .boolean)] (va_A ([(o1, .inr (11, [.ref o2, .ref o7, .ref o12, .ref o41, .ref o51, .ref o64, .ref o77, .ref o84, .ref o91, .ref o99, .ref o111, .ref o123, .int v125])), (o111, .inr (0, [.ref o112, .ref o114, .ref o116, .int v118, .int v119, .int v120, .int v121, .int v122])), (o7, .inr (10, [.ref o8, .int v10, .int v11])), (o8, .inl (cI, 12, .inl fw9)), (o114, .inl (cI, 12, .inl fw115)), (o112, .inl (cI, 256, .inl fw113)), (o116, .inl (cI, 8, .inl fw117))]) sz) ([(o1, .inr (11, [.ref o2, .ref o7, .ref o12, .ref o41, .ref o51, .ref o64, .ref o77, .ref o84, .ref o91, .ref o99, .ref o111, .ref o123, .int v125])), (o111, .inr (0, [.ref o112, .ref o114, .ref o116, .int u.1, .int u.2.1, .int u.2.2.1, .int u.2.2.2.1, .int u.2.2.2.2.1])), (o7, .inr (10, [.ref o8, .int v10, .int v11])), (o8, .inl (cI, 12, .inl fw9)), (o114, .inl (cI, 12, .inl u.2.2.2.2.2.1)), (o112, .inl (cI, 256, .inl u.2.2.2.2.2.2.1)), (o116, .inl (cI, 8, .inl u.2.2.2.2.2.2.2))]) t) (va_A ([(o1, .inr (11, [.ref o2, .ref o7, .ref o12, .ref o41, .ref o51, .ref o64, .ref o77, .ref o84, .ref o91, .ref o99, .ref o111, .ref o123, .int v125])), (o111, .inr (0, [.ref o112, .ref o114, .ref o116, .int v118, .int v119, .int v120, .int v121, .int v122])), (o7, .inr (10, [.ref o8, .int v10, .int v11])), (o8, .inl (cI, 12, .inl fw9)), (o114, .inl (cI, 12, .inl fw115)), (o112, .inl (cI, 256, .inl fw113)), (o116, .inl (cI, 8, .inl fw117))]) sz)) 0 0 (va_A ([(o1, .inr (11, [.ref o2, .ref o7, .ref o12, .ref o41, .ref o51, .ref o64, .ref o77, .ref o84, .ref o91, .ref o99, .ref o111, .ref o123, .int v125])), (o111, .inr (0, [.ref o112, .ref o114, .ref o116, .int v118, .int v119, .int v120, .int v121, .int v122])), (o7, .inr (10, [.ref o8, .int v10, .int v11])), (o8, .inl (cI, 12, .inl fw9)), (o114, .inl (cI, 12, .inl fw115)), (o112, .inl (cI, 256, .inl fw113)), (o116, .inl (cI, 8, .inl fw117))]) sz) := by
  refine Met.ofW (cc := cX11_seat) (maxL := 2) (ret := (some .int)) (by decide) rfl ?_
  intro p e s m args below meth c s₁ B hml hv
  obtain ⟨rfl, hsz, hP, hK, hD0, hN⟩ := hv
  have hx := B.exec
  have hb := B.bytes
  have hr := B.returns
  have hts := atoms_spec (ws := wsX11_seat) B.pre
  have hown : s.vm.findClass RX11 = some m.cls := findClass_of_methodNamed B.named
  have hlocks := B.notSynchronized
  subst hsz
  have hD := hD0.self (sz := s.heap.size)
  generalize hAe : va_A ([(o1, .inr (11, [.ref o2, .ref o7, .ref o12, .ref o41, .ref o51, .ref o64, .ref o77, .ref o84, .ref o91, .ref o99, .ref o111, .ref o123, .int v125])), (o111, .inr (0, [.ref o112, .ref o114, .ref o116, .int v118, .int v119, .int v120, .int v121, .int v122])), (o7, .inr (10, [.ref o8, .int v10, .int v11])), (o8, .inl (cI, 12, .inl fw9)), (o114, .inl (cI, 12, .inl fw115)), (o112, .inl (cI, 256, .inl fw113)), (o116, .inl (cI, 8, .inl fw117))]) s.heap.size = A at hD ⊢
  have hA : ∀ q : Nat, s.heap.size ≤ q → A q := fun q h => by rw [← hAe]; exact Or.inr h
  have hS : va_S A s.heap s.heap [] := va_S.rf
  have hP : va_P (dC, dI) vwCl ([(o1, .inr (11, [.ref o2, .ref o7, .ref o12, .ref o41, .ref o51, .ref o64, .ref o77, .ref o84, .ref o91, .ref o99, .ref o111, .ref o123, .int v125])), (o111, .inr (0, [.ref o112, .ref o114, .ref o116, .int v118, .int v119, .int v120, .int v121, .int v122])), (o7, .inr (10, [.ref o8, .int v10, .int v11])), (o8, .inl (cI, 12, .inl fw9)), (o114, .inl (cI, 12, .inl fw115)), (o112, .inl (cI, 256, .inl fw113)), (o116, .inl (cI, 8, .inl fw117))]) s.heap := hP
  have hl := lv_entry ([.ref o1, .int a1]) (n := 2) (Nat.le_of_ble_eq_true rfl)
  rw [lg_entry_eq]
  generalize (lg_sl ([.ref o1, .int a1]) ++ List.replicate (2 - (lg_sl ([.ref o1, .int a1])).length) Slot.unset).toArray = ls at hl ⊢
  have hl : lv_has ls 2 [(0, .ref o1), (1, .int a1)] := hl
  refine gen_Q (fun Q hQ => ?_)
  refine lv_aload_n hx hb dX11_seat_0 rfl (lv_at hl 0 rfl) ?_
  refine kc_v (D := (dC, dI)) (S := Int32 × Int32 × Int32 × Int32 × Int32 × (Nat → Int32) × (Nat → Int32) × (Nat → Int32)) (wc := [(o1, .inr (11, [.ref o2, .ref o7, .ref o12, .ref o41, .ref o51, .ref o64, .ref o77, .ref o84, .ref o91, .ref o99, .ref o111, .ref o123, .int v125])), (o111, .inr (0, [.ref o112, .ref o114, .ref o116, .int v118, .int v119, .int v120, .int v121, .int v122])), (o7, .inr (10, [.ref o8, .int v10, .int v11])), (o8, .inl (cI, 12, .inl fw9)), (o114, .inl (cI, 12, .inl fw115)), (o112, .inl (cI, 256, .inl fw113)), (o116, .inl (cI, 8, .inl fw117))]) (wr := []) (w1 := fun u => [(o1, .inr (11, [.ref o2, .ref o7, .ref o12, .ref o41, .ref o51, .ref o64, .ref o77, .ref o84, .ref o91, .ref o99, .ref o111, .ref o123, .int v125])), (o111, .inr (0, [.ref o112, .ref o114, .ref o116, .int u.1, .int u.2.1, .int u.2.2.1, .int u.2.2.2.1, .int u.2.2.2.2.1])), (o7, .inr (10, [.ref o8, .int v10, .int v11])), (o8, .inl (cI, 12, .inl fw9)), (o114, .inl (cI, 12, .inl u.2.2.2.2.2.1)), (o112, .inl (cI, 256, .inl u.2.2.2.2.2.2.1)), (o116, .inl (cI, 8, .inl u.2.2.2.2.2.2.2))]) (wn := fun u => [(o1, .inr (11, [.ref o2, .ref o7, .ref o12, .ref o41, .ref o51, .ref o64, .ref o77, .ref o84, .ref o91, .ref o99, .ref o111, .ref o123, .int v125])), (o111, .inr (0, [.ref o112, .ref o114, .ref o116, .int u.1, .int u.2.1, .int u.2.2.1, .int u.2.2.2.1, .int u.2.2.2.2.1])), (o7, .inr (10, [.ref o8, .int v10, .int v11])), (o8, .inl (cI, 12, .inl fw9)), (o114, .inl (cI, 12, .inl u.2.2.2.2.2.1)), (o112, .inl (cI, 256, .inl u.2.2.2.2.2.2.1)), (o116, .inl (cI, 8, .inl u.2.2.2.2.2.2.2))]) (fun hPc hDc => va_runV (As := []) (rest := []) ⟨hx, hb, hml, hown, hts⟩ (kxX11_bringSeats_2 l dC dI cI c2 cZ o1 o2 o7 o12 o41 o51 o64 o77 o84 o91 o99 o111 o123 o112 o114 o116 o8 fw9 v10 v11 fw113 fw115 fw117 v118 v119 v120 v121 v122 v125 s.heap.size fw9_b v10_h v118_h v119_h v121_h pre0 pre1) (cwV 0 hts gX11_seat_X11_bringSeats rfl rfl rfl (by decide +kernel) ⟨Nat.le_of_ble_eq_true rfl, Nat.le_of_ble_eq_true rfl⟩) (pre_V hPc hK hDc hN (ci := 11) (q0 := 0) rfl rfl) rfl rfl hl.1 rfl (lv_room (Nat.le_of_ble_eq_true rfl)) dX11_seat_1 ⟨Nat.le_of_ble_eq_true rfl, Nat.le_of_ble_eq_true rfl⟩) hP hD hS hA [0, 1, 2, 3, 4, 5, 6] [] [0, 1, 2, 3, 4, 5, 6] rfl rfl (by decide +kernel) (by decide +kernel) (by decide +kernel) (by decide +kernel) (fun _ => rfl) (fun u H locs hq hP hD hS => ?_)
  obtain ⟨y1, y2, y3, y4, y5, f6, f7, f8⟩ := u
  obtain ⟨y1_h, y2_h, y4_h, e9, e10, e11⟩ := hq
  have hP : va_P (dC, dI) vwCl ([(o1, .inr (11, [.ref o2, .ref o7, .ref o12, .ref o41, .ref o51, .ref o64, .ref o77, .ref o84, .ref o91, .ref o99, .ref o111, .ref o123, .int v125])), (o111, .inr (0, [.ref o112, .ref o114, .ref o116, .int y1, .int y2, .int y3, .int y4, .int y5])), (o7, .inr (10, [.ref o8, .int v10, .int v11])), (o8, .inl (cI, 12, .inl fw9)), (o114, .inl (cI, 12, .inl f6)), (o112, .inl (cI, 256, .inl f7)), (o116, .inl (cI, 8, .inl f8))]) H := hP
  have hD : va_D A ([(o1, .inr (11, [.ref o2, .ref o7, .ref o12, .ref o41, .ref o51, .ref o64, .ref o77, .ref o84, .ref o91, .ref o99, .ref o111, .ref o123, .int v125])), (o111, .inr (0, [.ref o112, .ref o114, .ref o116, .int y1, .int y2, .int y3, .int y4, .int y5])), (o7, .inr (10, [.ref o8, .int v10, .int v11])), (o8, .inl (cI, 12, .inl fw9)), (o114, .inl (cI, 12, .inl f6)), (o112, .inl (cI, 256, .inl f7)), (o116, .inl (cI, 8, .inl f8))]) := hD
  refine lv_aload_n hx hb dX11_seat_4 rfl (lv_at hl 0 rfl) ?_
  refine va_get (D := (dC, dI)) (ci := 11) (v := .ref o111) (C := RX11) (T := TX11) (N := 13) hx hb hts iw_X11_seat_X11 hown hK hP 0 rfl rfl 10 (by decide) (hts (.fieldLink RX11 79 "HolelessHouse" "seats" "LHolelessHouse$Benches;") hm_X11_seat_1) (fun _ h9 => h9) rfl dX11_seat_5 ?_
  refine va_getN (D := (dC, dI)) (ci := 0) (v := .int y4) (C := RX0) (T := TX0) (N := 8) hx hb hts iw_X11_seat_X0 hown hK hP 1 rfl rfl 6 (by decide) (hN.use ns_46) (fun _ h9 => h9) rfl dX11_seat_8 ?_
  refine lv_if_eq (tgt := 41) hx hb dX11_seat_11 (by decide) (fun h12 => ?_) (fun h12 => ?_)
  ·
    have j13 : Iv 0 0 y4 := r_eq h12 ik_0
    refine lv_bipush (v := (-9)) hx hb dX11_seat_41 (by decide) ?_
    rw [hQ]
    exact W.iret (v := (-9)) hx hb hr (fun t ht hW => ⟨⟨(-9), (y1, y2, y3, y4, y5, f6, f7, f8), rfl, ⟨y1_h, y2_h, (iv_w j13 (by decide)), (STP_d e9 h12), e9, e10, e11⟩, by rw [ht]; exact hP, va_K.moved hW.alike hK, hD⟩, hS.F ht⟩) hS.2.2 dX11_seat_43
  ·
    have j14 : Iv 1 1 y4 := r_nelo h12 y4_h ik_0 (by decide)
    refine lv_iload_n hx hb dX11_seat_14 rfl (lv_at hl 1 rfl) ?_
    refine lv_if_lt (tgt := 41) hx hb dX11_seat_15 (by decide) (fun h15 => ?_) (fun h15 => ?_)
    ·
      have qh15 := lt_i h15
      have j16 : Iv (-2147483648) (-1) a1 := r_ltl qh15 (iv_full a1) ik_0 (by decide)
      refine lv_bipush (v := (-9)) hx hb dX11_seat_41 (by decide) ?_
      rw [hQ]
      exact W.iret (v := (-9)) hx hb hr (fun t ht hW => ⟨⟨(-9), (y1, y2, y3, y4, y5, f6, f7, f8), rfl, ⟨y1_h, y2_h, (iv_w j14 (by decide)), (STP_lo qh15), e9, e10, e11⟩, by rw [ht]; exact hP, va_K.moved hW.alike hK, hD⟩, hS.F ht⟩) hS.2.2 dX11_seat_43
    ·
      have qh15 := nlt_i h15
      have j17 : Iv 0 2147483647 a1 := r_ler qh15 ik_0 (iv_full a1) (by decide)
      refine lv_iload_n hx hb dX11_seat_18 rfl (lv_at hl 1 rfl) ?_
      refine lv_aload_n hx hb dX11_seat_19 rfl (lv_at hl 0 rfl) ?_
      refine va_get (D := (dC, dI)) (ci := 11) (v := .ref o111) (C := RX11) (T := TX11) (N := 13) hx hb hts iw_X11_seat_X11 hown hK hP 0 rfl rfl 10 (by decide) (hts (.fieldLink RX11 79 "HolelessHouse" "seats" "LHolelessHouse$Benches;") hm_X11_seat_1) (fun _ h9 => h9) rfl dX11_seat_20 ?_
      refine va_getN (D := (dC, dI)) (ci := 0) (v := .int y2) (C := RX0) (T := TX0) (N := 8) hx hb hts iw_X11_seat_X0 hown hK hP 1 rfl rfl 4 (by decide) (hN.use ns_44) (fun _ h9 => h9) rfl dX11_seat_23 ?_
      refine lv_icmp_ge (tgt := 41) hx hb dX11_seat_26 (by decide) (fun h18 => ?_) (fun h18 => ?_)
      ·
        have qh18 := le_i h18
        refine lv_bipush (v := (-9)) hx hb dX11_seat_41 (by decide) ?_
        rw [hQ]
        exact W.iret (v := (-9)) hx hb hr (fun t ht hW => ⟨⟨(-9), (y1, y2, y3, y4, y5, f6, f7, f8), rfl, ⟨y1_h, y2_h, (iv_w j14 (by decide)), (STP_hi e11 qh18), e9, e10, e11⟩, by rw [ht]; exact hP, va_K.moved hW.alike hK, hD⟩, hS.F ht⟩) hS.2.2 dX11_seat_43
      ·
        have qh18 := nle_i h18
        have j19 : Iv 0 7 a1 := r_ltl qh18 j17 y2_h (by decide)
        have j20 : Iv 1 8 y2 := r_ltr qh18 j17 y2_h (by decide)
        refine lv_aload_n hx hb dX11_seat_29 rfl (lv_at hl 0 rfl) ?_
        refine va_get (D := (dC, dI)) (ci := 11) (v := .ref o111) (C := RX11) (T := TX11) (N := 13) hx hb hts iw_X11_seat_X11 hown hK hP 0 rfl rfl 10 (by decide) (hts (.fieldLink RX11 79 "HolelessHouse" "seats" "LHolelessHouse$Benches;") hm_X11_seat_1) (fun _ h9 => h9) rfl dX11_seat_30 ?_
        refine va_getN (D := (dC, dI)) (ci := 0) (v := .ref o116) (C := RX0) (T := TX0) (N := 8) hx hb hts iw_X11_seat_X0 hown hK hP 1 rfl rfl 2 (by decide) (hN.use ns_43) (fun _ h9 => h9) rfl dX11_seat_33 ?_
        refine lv_iload_n hx hb dX11_seat_36 rfl (lv_at hl 1 rfl) ?_
        refine va_iald hx hb hK hP 6 0 rfl rfl (vin_iv j19 (by decide)) dX11_seat_37 (lv_topi (fun x21 x21_e => ?_))
        refine lv_goto (tgt := 43) hx hb dX11_seat_38 (by decide) ?_
        rw [hQ]
        exact W.iret (v := x21) hx hb hr (fun t ht hW => ⟨⟨x21, (y1, y2, y3, y4, y5, f6, f7, f8), rfl, ⟨y1_h, (iv_w j20 (by decide)), (iv_w j14 (by decide)), (STP_ci e9 h12 e11 j19 qh18 x21_e), e9, e10, e11⟩, by rw [ht]; exact hP, va_K.moved hW.alike hK, hD⟩, hS.F ht⟩) hS.2.2 dX11_seat_43
