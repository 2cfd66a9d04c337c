set_option maxHeartbeats 4000000 in
set_option maxRecDepth 100000 in
theorem kX7_paints_4 (l : Launch) (dC : Nat → ClassId) (dI : Nat → Nat → Nat) (cI c2 cZ : ClassId) (o1 : Nat) (o8 : Nat) (o9 : Nat) (o2 : Nat) (o4 : Nat) (fw3 : Nat → Int32) (fw5 : Nat → Int32) (v6 : Int32) (v7 : Int32) (fw10 : Nat → Int32) (v11 : Int32) (v12 : Int32) (a3 : Int32) (sz : Nat) (v6_h : Iv (-2147483648) 12 v6) (fw10_b : Bd 12 0 4095 fw10) (v11_h : Iv 0 12 v11) (a3_h : Iv 0 12 a3) : Met l yX7_paints wsX7_paints ({ frames := 3, cells := 0, slots := 0, locals := 72 }) (va_Pc [.ref o1, .ref o8, .int 9, .int a3] (wPre (dC, dI) [(cI, .int), (c2, .array .int), (cZ, .boolean)] ([(o8, .inr (4, [.ref o9, .int v11, .int v12])), (o1, .inr (7, [.ref o2, .ref o4, .int v6, .int v7])), (o4, .inl (cI, 12, .inl fw5)), (o9, .inl (cI, 12, .inl fw10)), (o2, .inl (cI, 12, .inl fw3))]) sz)) (va_Qi (fun (r : Int32) (u : (Nat → Int32) × (Nat → Int32)) => Iv 0 1 r) (fun u t => wPost (dC, dI) [(cI, .int), (c2, .array .int), (cZ, .boolean)] (va_A ([(o8, .inr (4, [.ref o9, .int v11, .int v12])), (o1, .inr (7, [.ref o2, .ref o4, .int v6, .int v7])), (o4, .inl (cI, 12, .inl fw5)), (o9, .inl (cI, 12, .inl fw10)), (o2, .inl (cI, 12, .inl fw3))]) sz) ([(o8, .inr (4, [.ref o9, .int v11, .int v12])), (o1, .inr (7, [.ref o2, .ref o4, .int v6, .int v7])), (o4, .inl (cI, 12, .inl u.1)), (o9, .inl (cI, 12, .inl fw10)), (o2, .inl (cI, 12, .inl u.2))]) t) (va_A ([(o8, .inr (4, [.ref o9, .int v11, .int v12])), (o1, .inr (7, [.ref o2, .ref o4, .int v6, .int v7])), (o4, .inl (cI, 12, .inl fw5)), (o9, .inl (cI, 12, .inl fw10)), (o2, .inl (cI, 12, .inl fw3))]) sz)) 0 0 (va_A ([(o8, .inr (4, [.ref o9, .int v11, .int v12])), (o1, .inr (7, [.ref o2, .ref o4, .int v6, .int v7])), (o4, .inl (cI, 12, .inl fw5)), (o9, .inl (cI, 12, .inl fw10)), (o2, .inl (cI, 12, .inl fw3))]) sz) := by
  refine Met.ofW (cc := cX7_paints) (maxL := 5) (ret := (some .boolean)) (by decide) rfl ?_
  intro p e s m args below meth c s₁ B hml hv
  obtain ⟨rfl, hsz, hP, hK, hD0, hN⟩ := hv
  have hx := B.exec
  have hb := B.bytes
  have hr := B.returns
  have hts := atoms_spec (ws := wsX7_paints) B.pre
  have hown : s.vm.findClass RX7 = some m.cls := findClass_of_methodNamed B.named
  have hlocks := B.notSynchronized
  subst hsz
  have hD := hD0.self (sz := s.heap.size)
  generalize hAe : va_A ([(o8, .inr (4, [.ref o9, .int v11, .int v12])), (o1, .inr (7, [.ref o2, .ref o4, .int v6, .int v7])), (o4, .inl (cI, 12, .inl fw5)), (o9, .inl (cI, 12, .inl fw10)), (o2, .inl (cI, 12, .inl fw3))]) s.heap.size = A at hD ⊢
  have hA : ∀ q : Nat, s.heap.size ≤ q → A q := fun q h => by rw [← hAe]; exact Or.inr h
  have hS : va_S A s.heap s.heap [] := va_S.rf
  have hP : va_P (dC, dI) vwCl ([(o8, .inr (4, [.ref o9, .int v11, .int v12])), (o1, .inr (7, [.ref o2, .ref o4, .int v6, .int v7])), (o4, .inl (cI, 12, .inl fw5)), (o9, .inl (cI, 12, .inl fw10)), (o2, .inl (cI, 12, .inl fw3))]) s.heap := hP
  have hl := lv_entry ([.ref o1, .ref o8, .int 9, .int a3]) (n := 5) (Nat.le_of_ble_eq_true rfl)
  rw [lg_entry_eq]
  generalize (lg_sl ([.ref o1, .ref o8, .int 9, .int a3]) ++ List.replicate (5 - (lg_sl ([.ref o1, .ref o8, .int 9, .int a3])).length) Slot.unset).toArray = ls at hl ⊢
  have hl : lv_has ls 5 [(0, .ref o1), (1, .ref o8), (2, .int 9), (3, .int a3)] := hl
  refine gen_Q (fun Q hQ => ?_)
  refine lv_iload_n hx hb dX7_paints_0 rfl (lv_at hl 2 rfl) ?_
  refine lv_aload_n hx hb dX7_paints_1 rfl (lv_at hl 1 rfl) ?_
  refine va_getN (D := (dC, dI)) (ci := 4) (v := .int v11) (C := RX4) (T := TX4) (N := 3) hx hb hts iw_X7_paints_X4 hown hK hP 0 rfl rfl 1 (by decide) (hN.use ns_8) (fun _ h9 => h9) rfl dX7_paints_2 ?_
  refine lv_icmp_lt (tgt := 10) hx hb dX7_paints_5 (by decide) (fun h1 => ?_) (fun h1 => ?_)
  ·
    have qh1 := lt_i h1
    have j2 : Iv 10 12 v11 := r_ltr qh1 ik_9 v11_h (by decide)
    refine lv_iconst (v := 0) hx hb dX7_paints_10 (by decide) ?_
    refine lv_istore (lv' := [(4, .int 0), (0, .ref o1), (1, .ref o8), (2, .int 9), (3, .int a3)]) hx hb dX7_paints_11 hl (by decide) rfl (fun ls hl => ?_)
    have L1 : ∀ (N : Nat) (x250 : Int32) (f251 : Nat → Int32) (f252 : Nat → Int32) (H : Heap) (locs : List Loc) (ls : Array Slot), (12 - x250.toInt).toNat < N → Iv 0 12 x250 → va_P (dC, dI) vwCl ([(o8, .inr (4, [.ref o9, .int v11, .int v12])), (o1, .inr (7, [.ref o2, .ref o4, .int v6, .int v7])), (o4, .inl (cI, 12, .inl f252)), (o9, .inl (cI, 12, .inl fw10)), (o2, .inl (cI, 12, .inl f251))]) H → va_D A ([(o8, .inr (4, [.ref o9, .int v11, .int v12])), (o1, .inr (7, [.ref o2, .ref o4, .int v6, .int v7])), (o4, .inl (cI, 12, .inl f252)), (o9, .inl (cI, 12, .inl fw10)), (o2, .inl (cI, 12, .inl f251))]) → va_S A s.heap H locs → lv_has ls 5 [(4, .int x250), (0, .ref o1), (1, .ref o8), (2, .int 9), (3, .int a3)] → W p l e ({ frames := 3, cells := 0, slots := 0, locals := 72 }) s m ([.ref o1, .ref o8, .int 9, .int a3] : List Value).toArray below meth c H locs 0 0 Q (F0 m 13 ls []) := by
      intro N
      induction N with
      | zero =>
        intro x250 f251 f252 H locs ls hM
        exact absurd hM (Nat.not_lt_zero _)
      | succ N ih1 =>
        intro x250 f251 f252 H locs ls hM1 x250_h hP hD hS hl
        refine lv_iload hx hb dX7_paints_13 (lv_at hl 0 rfl) ?_
        refine lv_iload_n hx hb dX7_paints_15 rfl (lv_at hl 4 rfl) ?_
        refine lv_icmp_gt (tgt := 108) hx hb dX7_paints_16 (by decide) (fun h253 => ?_) (fun h253 => ?_)
        ·
          have qh253 := lt_i h253
          have j254 : Iv 0 11 a3 := r_ltl qh253 a3_h x250_h (by decide)
          have j255 : Iv 1 12 x250 := r_ltr qh253 a3_h x250_h (by decide)
          refine lv_iconst (v := 0) hx hb dX7_paints_108 (by decide) ?_
          rw [hQ]
          exact W.zret (v := 0) (ty := .boolean) hx hb hr rfl (fun t ht hW => ⟨⟨0, (f252, f251), rfl, (iv_w ik_0 (by decide)), by rw [ht]; exact hP, va_K.moved hW.alike hK, hD⟩, hS.F ht⟩) hS.2.2 dX7_paints_109
        ·
          have qh253 := nlt_i h253
          refine lv_iload hx hb dX7_paints_19 (lv_at hl 0 rfl) ?_
          refine lv_aload_n hx hb dX7_paints_21 rfl (lv_at hl 1 rfl) ?_
          refine va_get (D := (dC, dI)) (ci := 7) (v := .int v6) (C := RX7) (T := TX7) (N := 4) hx hb hts iw_X7_paints_X7 hown hK hP 1 rfl rfl 2 (by decide) (hts (.fieldLink RX7 18 "HolelessHouse$Paint" "most" "I") hm_X7_paints_1) (fun _ h9 => h9) rfl dX7_paints_22 ?_
          refine lv_icmp_ge (tgt := 108) hx hb dX7_paints_25 (by decide) (fun h256 => ?_) (fun h256 => ?_)
          ·
            have qh256 := le_i h256
            refine lv_iconst (v := 0) hx hb dX7_paints_108 (by decide) ?_
            rw [hQ]
            exact W.zret (v := 0) (ty := .boolean) hx hb hr rfl (fun t ht hW => ⟨⟨0, (f252, f251), rfl, (iv_w ik_0 (by decide)), by rw [ht]; exact hP, va_K.moved hW.alike hK, hD⟩, hS.F ht⟩) hS.2.2 dX7_paints_109
          ·
            have qh256 := nle_i h256
            have j257 : Iv 0 11 x250 := r_ltl qh256 x250_h v6_h (by decide)
            have j258 : Iv 1 12 v6 := r_ltr qh256 x250_h v6_h (by decide)
            refine lv_aload_n hx hb dX7_paints_28 rfl (lv_at hl 1 rfl) ?_
            refine va_get (D := (dC, dI)) (ci := 7) (v := .ref o4) (C := RX7) (T := TX7) (N := 4) hx hb hts iw_X7_paints_X7 hown hK hP 1 rfl rfl 1 (by decide) (hts (.fieldLink RX7 15 "HolelessHouse$Paint" "worn" "[I") hm_X7_paints_2) (fun _ h9 => h9) rfl dX7_paints_29 ?_
            refine lv_iload hx hb dX7_paints_32 (lv_at hl 0 rfl) ?_
            refine va_iald hx hb hK hP 2 0 rfl rfl (vin_iv j257 (by decide)) dX7_paints_34 (lv_topi (fun x259 x259_e => ?_))
            refine lv_aload_n hx hb dX7_paints_35 rfl (lv_at hl 2 rfl) ?_
            refine va_getN (D := (dC, dI)) (ci := 4) (v := .ref o9) (C := RX4) (T := TX4) (N := 3) hx hb hts iw_X7_paints_X4 hown hK hP 0 rfl rfl 0 (by decide) (hN.use ns_3) (fun _ h9 => h9) rfl dX7_paints_36 ?_
            refine lv_iload_n hx hb dX7_paints_39 rfl (lv_at hl 3 rfl) ?_
            refine va_iald hx hb hK hP 3 0 rfl rfl (vin_iv ik_9 (by decide)) dX7_paints_40 (lv_topi (fun x260 x260_e => ?_))
            have x260_h : Iv 0 4095 x260 := iv_e x260_e (bd_at fw10_b (vin_iv ik_9 (by decide)))
            refine lv_iand hx hb dX7_paints_41 (lv_topi (fun x261 x261_e => ?_))
            have x261_h : Iv 0 4095 x261 := iv_e x261_e (iv_andR _ x260_h (by decide))
            refine lv_if_ne (tgt := 102) hx hb dX7_paints_42 (by decide) (fun h262 => ?_) (fun h262 => ?_)
            ·
              have j263 : Iv 1 4095 x261 := r_nelo h262 x261_h ik_0 (by decide)
              obtain ⟨x264, x264_e⟩ : ∃ z : Int32, z = x250 + 1 := ⟨_, rfl⟩
              have x264_h : Iv 1 12 x264 := iv_e x264_e (iv_add j257 ik_1 (by decide))
              refine lv_iinc (v := x264) (lv' := [(4, .int x264), (0, .ref o1), (1, .ref o8), (2, .int 9), (3, .int a3)]) hx hb dX7_paints_102 hl (k := 0) rfl (incN (by decide +kernel) x264_e) (by decide) rfl (fun ls hl => ?_)
              refine lv_goto (tgt := 13) hx hb dX7_paints_105 (by decide) ?_
              exact ih1 x264 f251 f252 _ _ _ (ms_up x264_e j257 (by decide) hM1) (iv_w x264_h (by decide)) hP hD hS hl
            ·
              have j265 : Iv 0 0 x261 := r_eq h262 ik_0
              refine lv_aload_n hx hb dX7_paints_45 rfl (lv_at hl 1 rfl) ?_
              refine va_get (D := (dC, dI)) (ci := 7) (v := .ref o4) (C := RX7) (T := TX7) (N := 4) hx hb hts iw_X7_paints_X7 hown hK hP 1 rfl rfl 1 (by decide) (hts (.fieldLink RX7 15 "HolelessHouse$Paint" "worn" "[I") hm_X7_paints_2) (fun _ h9 => h9) rfl dX7_paints_46 ?_
              refine lv_iload hx hb dX7_paints_49 (lv_at hl 0 rfl) ?_
              refine lv_dup2_11 hx hb dX7_paints_51 rfl rfl ?_
              refine va_iald hx hb hK hP 2 0 rfl rfl (vin_iv j257 (by decide)) dX7_paints_52 (lv_topi (fun x266 x266_e => ?_))
              refine lv_iconst (v := 1) hx hb dX7_paints_53 (by decide) ?_
              refine lv_iload_n hx hb dX7_paints_54 rfl (lv_at hl 3 rfl) ?_
              refine lv_ishl hx hb dX7_paints_55 (tk_i (v := 512) (by decide +kernel) ?_)
              refine lv_ior hx hb dX7_paints_56 (lv_topi (fun x267 x267_e => ?_))
              refine k_iast hx hb hK hP hD hS 2 0 rfl rfl (vin_iv j257 (by decide)) dX7_paints_57 (fun f268 H locs f268_e hP hD hS => ?_)
              have hP : va_P (dC, dI) vwCl ([(o8, .inr (4, [.ref o9, .int v11, .int v12])), (o1, .inr (7, [.ref o2, .ref o4, .int v6, .int v7])), (o4, .inl (cI, 12, .inl f268)), (o9, .inl (cI, 12, .inl fw10)), (o2, .inl (cI, 12, .inl f251))]) H := hP
              have hD : va_D A ([(o8, .inr (4, [.ref o9, .int v11, .int v12])), (o1, .inr (7, [.ref o2, .ref o4, .int v6, .int v7])), (o4, .inl (cI, 12, .inl f268)), (o9, .inl (cI, 12, .inl fw10)), (o2, .inl (cI, 12, .inl f251))]) := hD
              refine lv_aload_n hx hb dX7_paints_58 rfl (lv_at hl 1 rfl) ?_
              refine va_get (D := (dC, dI)) (ci := 7) (v := .ref o2) (C := RX7) (T := TX7) (N := 4) hx hb hts iw_X7_paints_X7 hown hK hP 1 rfl rfl 0 (by decide) (hts (.fieldLink RX7 9 "HolelessHouse$Paint" "hues" "[I") hm_X7_paints_3) (fun _ h9 => h9) rfl dX7_paints_59 ?_
              refine lv_iload_n hx hb dX7_paints_62 rfl (lv_at hl 3 rfl) ?_
              refine lv_iload hx hb dX7_paints_63 (lv_at hl 0 rfl) ?_
              refine k_iast hx hb hK hP hD hS 4 0 rfl rfl (vin_iv ik_9 (by decide)) dX7_paints_65 (fun f269 H locs f269_e hP hD hS => ?_)
              have hP : va_P (dC, dI) vwCl ([(o8, .inr (4, [.ref o9, .int v11, .int v12])), (o1, .inr (7, [.ref o2, .ref o4, .int v6, .int v7])), (o4, .inl (cI, 12, .inl f268)), (o9, .inl (cI, 12, .inl fw10)), (o2, .inl (cI, 12, .inl f269))]) H := hP
              have hD : va_D A ([(o8, .inr (4, [.ref o9, .int v11, .int v12])), (o1, .inr (7, [.ref o2, .ref o4, .int v6, .int v7])), (o4, .inl (cI, 12, .inl f268)), (o9, .inl (cI, 12, .inl fw10)), (o2, .inl (cI, 12, .inl f269))]) := hD
              refine lv_aload_n hx hb dX7_paints_66 rfl (lv_at hl 1 rfl) ?_
              refine lv_aload_n hx hb dX7_paints_67 rfl (lv_at hl 2 rfl) ?_
              refine lv_iload_n hx hb dX7_paints_68 rfl (lv_at hl 3 rfl) ?_
              refine lv_iconst (v := 1) hx hb dX7_paints_69 (by decide) ?_
              refine lv_iadd hx hb dX7_paints_70 (tk_i (v := 10) (by decide +kernel) ?_)
              refine lv_iload_n hx hb dX7_paints_71 rfl (lv_at hl 4 rfl) ?_
              refine lv_iload hx hb dX7_paints_72 (lv_at hl 0 rfl) ?_
              refine lv_iconst (v := 1) hx hb dX7_paints_74 (by decide) ?_
              refine lv_iadd hx hb dX7_paints_75 (lv_topi (fun x270 x270_e => ?_))
              have x270_h : Iv 1 12 x270 := iv_e x270_e (iv_add j257 ik_1 (by decide))
              refine va_mmax hx hb (hml.trans hl.1.symm) hown (hts (.methodLink RX7 46 Lib.Math.max.name) hm_X7_paints_4) (hts (.static Lib.Math.max.name) hm_X7_paints_5) (hts (.initialized "java/lang/Math") hm_X7_paints_6) (hts (.code Lib.Math.max.name Lib.Math.max.code 2 (some .int)) hm_X7_paints_7) (Nat.le_of_ble_eq_true rfl) (Nat.le_of_ble_eq_true rfl) (Nat.le_of_ble_eq_true rfl) (Nat.le_of_ble_eq_true rfl) dX7_paints_76 (lv_topi (fun x271 x271_e => ?_))
              have x271_h : Iv 0 12 x271 := iv_e x271_e (iv_max a3_h x270_h (by decide))
              refine kc_i (D := (dC, dI)) (S := (Nat → Int32) × (Nat → Int32)) (wc := [(o8, .inr (4, [.ref o9, .int v11, .int v12])), (o1, .inr (7, [.ref o2, .ref o4, .int v6, .int v7])), (o4, .inl (cI, 12, .inl f268)), (o9, .inl (cI, 12, .inl fw10)), (o2, .inl (cI, 12, .inl f269))]) (wr := []) (w1 := fun u => [(o8, .inr (4, [.ref o9, .int v11, .int v12])), (o1, .inr (7, [.ref o2, .ref o4, .int v6, .int v7])), (o4, .inl (cI, 12, .inl u.1)), (o9, .inl (cI, 12, .inl fw10)), (o2, .inl (cI, 12, .inl u.2))]) (wn := fun u => [(o8, .inr (4, [.ref o9, .int v11, .int v12])), (o1, .inr (7, [.ref o2, .ref o4, .int v6, .int v7])), (o4, .inl (cI, 12, .inl u.1)), (o9, .inl (cI, 12, .inl fw10)), (o2, .inl (cI, 12, .inl u.2))]) (fun hPc hDc => va_runS (As := [.ref o1, .ref o8, .int 10, .int x271]) (rest := []) ⟨hx, hb, hml, hown, hts⟩ (kX7_paints_3 l dC dI cI c2 cZ o1 o8 o9 o2 o4 f269 f268 v6 v7 fw10 v11 v12 x271 H.size (iv_w j258 (by decide)) fw10_b (iv_w j2 (by decide)) x271_h) (va_cwS 4 hts gX7_paints_X7_paints rfl rfl rfl (by decide +kernel) ⟨Nat.le_of_ble_eq_true rfl, Nat.le_of_ble_eq_true rfl⟩) (pre_S hPc hK hDc hN) rfl rfl hl.1 rfl (lv_room (Nat.le_of_ble_eq_true rfl)) dX7_paints_79 ⟨Nat.le_of_ble_eq_true rfl, Nat.le_of_ble_eq_true rfl⟩) hP hD hS hA [0, 1, 2, 3, 4] [] [0, 1, 2, 3, 4] rfl rfl (by decide +kernel) (by decide +kernel) (by decide +kernel) (by decide +kernel) (fun _ => rfl) (fun x274 u H locs hq hP hD hS => ?_)
              obtain ⟨f272, f273⟩ := u
              have x274_h := hq
              have hP : va_P (dC, dI) vwCl ([(o8, .inr (4, [.ref o9, .int v11, .int v12])), (o1, .inr (7, [.ref o2, .ref o4, .int v6, .int v7])), (o4, .inl (cI, 12, .inl f272)), (o9, .inl (cI, 12, .inl fw10)), (o2, .inl (cI, 12, .inl f273))]) H := hP
              have hD : va_D A ([(o8, .inr (4, [.ref o9, .int v11, .int v12])), (o1, .inr (7, [.ref o2, .ref o4, .int v6, .int v7])), (o4, .inl (cI, 12, .inl f272)), (o9, .inl (cI, 12, .inl fw10)), (o2, .inl (cI, 12, .inl f273))]) := hD
              refine lv_if_eq (tgt := 87) hx hb dX7_paints_82 (by decide) (fun h275 => ?_) (fun h275 => ?_)
              ·
                have j276 : Iv 0 0 x274 := r_eq h275 ik_0
                refine lv_aload_n hx hb dX7_paints_87 rfl (lv_at hl 1 rfl) ?_
                refine va_get (D := (dC, dI)) (ci := 7) (v := .ref o4) (C := RX7) (T := TX7) (N := 4) hx hb hts iw_X7_paints_X7 hown hK hP 1 rfl rfl 1 (by decide) (hts (.fieldLink RX7 15 "HolelessHouse$Paint" "worn" "[I") hm_X7_paints_2) (fun _ h9 => h9) rfl dX7_paints_88 ?_
                refine lv_iload hx hb dX7_paints_91 (lv_at hl 0 rfl) ?_
                refine lv_dup2_11 hx hb dX7_paints_93 rfl rfl ?_
                refine va_iald hx hb hK hP 2 0 rfl rfl (vin_iv j257 (by decide)) dX7_paints_94 (lv_topi (fun x277 x277_e => ?_))
                refine lv_iconst (v := 1) hx hb dX7_paints_95 (by decide) ?_
                refine lv_iload_n hx hb dX7_paints_96 rfl (lv_at hl 3 rfl) ?_
                refine lv_ishl hx hb dX7_paints_97 (tk_i (v := 512) (by decide +kernel) ?_)
                refine lv_iconst (v := (-1)) hx hb dX7_paints_98 (by decide) ?_
                refine lv_ixor hx hb dX7_paints_99 (tk_i (v := (-513)) (by decide +kernel) ?_)
                refine lv_iand hx hb dX7_paints_100 (lv_topi (fun x278 x278_e => ?_))
                refine k_iast hx hb hK hP hD hS 2 0 rfl rfl (vin_iv j257 (by decide)) dX7_paints_101 (fun f279 H locs f279_e hP hD hS => ?_)
                have hP : va_P (dC, dI) vwCl ([(o8, .inr (4, [.ref o9, .int v11, .int v12])), (o1, .inr (7, [.ref o2, .ref o4, .int v6, .int v7])), (o4, .inl (cI, 12, .inl f279)), (o9, .inl (cI, 12, .inl fw10)), (o2, .inl (cI, 12, .inl f273))]) H := hP
                have hD : va_D A ([(o8, .inr (4, [.ref o9, .int v11, .int v12])), (o1, .inr (7, [.ref o2, .ref o4, .int v6, .int v7])), (o4, .inl (cI, 12, .inl f279)), (o9, .inl (cI, 12, .inl fw10)), (o2, .inl (cI, 12, .inl f273))]) := hD
                obtain ⟨x280, x280_e⟩ : ∃ z : Int32, z = x250 + 1 := ⟨_, rfl⟩
                have x280_h : Iv 1 12 x280 := iv_e x280_e (iv_add j257 ik_1 (by decide))
                refine lv_iinc (v := x280) (lv' := [(4, .int x280), (0, .ref o1), (1, .ref o8), (2, .int 9), (3, .int a3)]) hx hb dX7_paints_102 hl (k := 0) rfl (incN (by decide +kernel) x280_e) (by decide) rfl (fun ls hl => ?_)
                refine lv_goto (tgt := 13) hx hb dX7_paints_105 (by decide) ?_
                exact ih1 x280 f273 f279 _ _ _ (ms_up x280_e j257 (by decide) hM1) (iv_w x280_h (by decide)) hP hD hS hl
              ·
                have j281 : Iv 1 1 x274 := r_nelo h275 x274_h ik_0 (by decide)
                refine lv_iconst (v := 1) hx hb dX7_paints_85 (by decide) ?_
                rw [hQ]
                exact W.zret (v := 1) (ty := .boolean) hx hb hr rfl (fun t ht hW => ⟨⟨1, (f272, f273), rfl, (iv_w ik_1 (by decide)), by rw [ht]; exact hP, va_K.moved hW.alike hK, hD⟩, hS.F ht⟩) hS.2.2 dX7_paints_86
    exact L1 _ 0 fw3 fw5 _ _ _ (Nat.lt_succ_self _) (iv_w ik_0 (by decide)) hP hD hS hl
  ·
    have qh1 := nlt_i h1
    have j282 : Iv 0 9 v11 := r_lel qh1 v11_h ik_9 (by decide)
    refine lv_iconst (v := 1) hx hb dX7_paints_8 (by decide) ?_
    rw [hQ]
    exact W.zret (v := 1) (ty := .boolean) hx hb hr rfl (fun t ht hW => ⟨⟨1, (fw5, fw3), rfl, (iv_w ik_1 (by decide)), by rw [ht]; exact hP, va_K.moved hW.alike hK, hD⟩, hS.F ht⟩) hS.2.2 dX7_paints_9
set_option maxHeartbeats 4000000 in
set_option maxRecDepth 100000 in
theorem kX7_paints_5 (l : Launch) (dC : Nat → ClassId) (dI : Nat → Nat → Nat) (cI c2 cZ : ClassId) (o1 : Nat) (o8 : Nat) (o9 : Nat) (o2 : Nat) (o4 : Nat) (fw3 : Nat → Int32) (fw5 : Nat → Int32) (v6 : Int32) (v7 : Int32) (fw10 : Nat → Int32) (v11 : Int32) (v12 : Int32) (a3 : Int32) (sz : Nat) (v6_h : Iv (-2147483648) 12 v6) (fw10_b : Bd 12 0 4095 fw10) (v11_h : Iv 0 12 v11) (a3_h : Iv 0 12 a3) : Met l yX7_paints wsX7_paints ({ frames := 4, cells := 0, slots := 0, locals := 96 }) (va_Pc [.ref o1, .ref o8, .int 8, .int a3] (wPre (dC, dI) [(cI, .int), (c2, .array .int), (cZ, .boolean)] ([(o8, .inr (4, [.ref o9, .int v11, .int v12])), (o1, .inr (7, [.ref o2, .ref o4, .int v6, .int v7])), (o4, .inl (cI, 12, .inl fw5)), (o9, .inl (cI, 12, .inl fw10)), (o2, .inl (cI, 12, .inl fw3))]) sz)) (va_Qi (fun (r : Int32) (u : (Nat → Int32) × (Nat → Int32)) => Iv 0 1 r) (fun u t => wPost (dC, dI) [(cI, .int), (c2, .array .int), (cZ, .boolean)] (va_A ([(o8, .inr (4, [.ref o9, .int v11, .int v12])), (o1, .inr (7, [.ref o2, .ref o4, .int v6, .int v7])), (o4, .inl (cI, 12, .inl fw5)), (o9, .inl (cI, 12, .inl fw10)), (o2, .inl (cI, 12, .inl fw3))]) sz) ([(o8, .inr (4, [.ref o9, .int v11, .int v12])), (o1, .inr (7, [.ref o2, .ref o4, .int v6, .int v7])), (o4, .inl (cI, 12, .inl u.1)), (o9, .inl (cI, 12, .inl fw10)), (o2, .inl (cI, 12, .inl u.2))]) t) (va_A ([(o8, .inr (4, [.ref o9, .int v11, .int v12])), (o1, .inr (7, [.ref o2, .ref o4, .int v6, .int v7])), (o4, .inl (cI, 12, .inl fw5)), (o9, .inl (cI, 12, .inl fw10)), (o2, .inl (cI, 12, .inl fw3))]) sz)) 0 0 (va_A ([(o8, .inr (4, [.ref o9, .int v11, .int v12])), (o1, .inr (7, [.ref o2, .ref o4, .int v6, .int v7])), (o4, .inl (cI, 12, .inl fw5)), (o9, .inl (cI, 12, .inl fw10)), (o2, .inl (cI, 12, .inl fw3))]) sz) := by
  refine Met.ofW (cc := cX7_paints) (maxL := 5) (ret := (some .boolean)) (by decide) rfl ?_
  intro p e s m args below meth c s₁ B hml hv
  obtain ⟨rfl, hsz, hP, hK, hD0, hN⟩ := hv
  have hx := B.exec
  have hb := B.bytes
  have hr := B.returns
  have hts := atoms_spec (ws := wsX7_paints) B.pre
  have hown : s.vm.findClass RX7 = some m.cls := findClass_of_methodNamed B.named
  have hlocks := B.notSynchronized
  subst hsz
  have hD := hD0.self (sz := s.heap.size)
  generalize hAe : va_A ([(o8, .inr (4, [.ref o9, .int v11, .int v12])), (o1, .inr (7, [.ref o2, .ref o4, .int v6, .int v7])), (o4, .inl (cI, 12, .inl fw5)), (o9, .inl (cI, 12, .inl fw10)), (o2, .inl (cI, 12, .inl fw3))]) s.heap.size = A at hD ⊢
  have hA : ∀ q : Nat, s.heap.size ≤ q → A q := fun q h => by rw [← hAe]; exact Or.inr h
  have hS : va_S A s.heap s.heap [] := va_S.rf
  have hP : va_P (dC, dI) vwCl ([(o8, .inr (4, [.ref o9, .int v11, .int v12])), (o1, .inr (7, [.ref o2, .ref o4, .int v6, .int v7])), (o4, .inl (cI, 12, .inl fw5)), (o9, .inl (cI, 12, .inl fw10)), (o2, .inl (cI, 12, .inl fw3))]) s.heap := hP
  have hl := lv_entry ([.ref o1, .ref o8, .int 8, .int a3]) (n := 5) (Nat.le_of_ble_eq_true rfl)
  rw [lg_entry_eq]
  generalize (lg_sl ([.ref o1, .ref o8, .int 8, .int a3]) ++ List.replicate (5 - (lg_sl ([.ref o1, .ref o8, .int 8, .int a3])).length) Slot.unset).toArray = ls at hl ⊢
  have hl : lv_has ls 5 [(0, .ref o1), (1, .ref o8), (2, .int 8), (3, .int a3)] := hl
  refine gen_Q (fun Q hQ => ?_)
  refine lv_iload_n hx hb dX7_paints_0 rfl (lv_at hl 2 rfl) ?_
  refine lv_aload_n hx hb dX7_paints_1 rfl (lv_at hl 1 rfl) ?_
  refine va_getN (D := (dC, dI)) (ci := 4) (v := .int v11) (C := RX4) (T := TX4) (N := 3) hx hb hts iw_X7_paints_X4 hown hK hP 0 rfl rfl 1 (by decide) (hN.use ns_8) (fun _ h9 => h9) rfl dX7_paints_2 ?_
  refine lv_icmp_lt (tgt := 10) hx hb dX7_paints_5 (by decide) (fun h1 => ?_) (fun h1 => ?_)
  ·
    have qh1 := lt_i h1
    have j2 : Iv 9 12 v11 := r_ltr qh1 ik_8 v11_h (by decide)
    refine lv_iconst (v := 0) hx hb dX7_paints_10 (by decide) ?_
    refine lv_istore (lv' := [(4, .int 0), (0, .ref o1), (1, .ref o8), (2, .int 8), (3, .int a3)]) hx hb dX7_paints_11 hl (by decide) rfl (fun ls hl => ?_)
    have L1 : ∀ (N : Nat) (x250 : Int32) (f251 : Nat → Int32) (f252 : Nat → Int32) (H : Heap) (locs : List Loc) (ls : Array Slot), (12 - x250.toInt).toNat < N → Iv 0 12 x250 → va_P (dC, dI) vwCl ([(o8, .inr (4, [.ref o9, .int v11, .int v12])), (o1, .inr (7, [.ref o2, .ref o4, .int v6, .int v7])), (o4, .inl (cI, 12, .inl f252)), (o9, .inl (cI, 12, .inl fw10)), (o2, .inl (cI, 12, .inl f251))]) H → va_D A ([(o8, .inr (4, [.ref o9, .int v11, .int v12])), (o1, .inr (7, [.ref o2, .ref o4, .int v6, .int v7])), (o4, .inl (cI, 12, .inl f252)), (o9, .inl (cI, 12, .inl fw10)), (o2, .inl (cI, 12, .inl f251))]) → va_S A s.heap H locs → lv_has ls 5 [(4, .int x250), (0, .ref o1), (1, .ref o8), (2, .int 8), (3, .int a3)] → W p l e ({ frames := 4, cells := 0, slots := 0, locals := 96 }) s m ([.ref o1, .ref o8, .int 8, .int a3] : List Value).toArray below meth c H locs 0 0 Q (F0 m 13 ls []) := by
      intro N
      induction N with
      | zero =>
        intro x250 f251 f252 H locs ls hM
        exact absurd hM (Nat.not_lt_zero _)
      | succ N ih1 =>
        intro x250 f251 f252 H locs ls hM1 x250_h hP hD hS hl
        refine lv_iload hx hb dX7_paints_13 (lv_at hl 0 rfl) ?_
        refine lv_iload_n hx hb dX7_paints_15 rfl (lv_at hl 4 rfl) ?_
        refine lv_icmp_gt (tgt := 108) hx hb dX7_paints_16 (by decide) (fun h253 => ?_) (fun h253 => ?_)
        ·
          have qh253 := lt_i h253
          have j254 : Iv 0 11 a3 := r_ltl qh253 a3_h x250_h (by decide)
          have j255 : Iv 1 12 x250 := r_ltr qh253 a3_h x250_h (by decide)
          refine lv_iconst (v := 0) hx hb dX7_paints_108 (by decide) ?_
          rw [hQ]
          exact W.zret (v := 0) (ty := .boolean) hx hb hr rfl (fun t ht hW => ⟨⟨0, (f252, f251), rfl, (iv_w ik_0 (by decide)), by rw [ht]; exact hP, va_K.moved hW.alike hK, hD⟩, hS.F ht⟩) hS.2.2 dX7_paints_109
        ·
          have qh253 := nlt_i h253
          refine lv_iload hx hb dX7_paints_19 (lv_at hl 0 rfl) ?_
          refine lv_aload_n hx hb dX7_paints_21 rfl (lv_at hl 1 rfl) ?_
          refine va_get (D := (dC, dI)) (ci := 7) (v := .int v6) (C := RX7) (T := TX7) (N := 4) hx hb hts iw_X7_paints_X7 hown hK hP 1 rfl rfl 2 (by decide) (hts (.fieldLink RX7 18 "HolelessHouse$Paint" "most" "I") hm_X7_paints_1) (fun _ h9 => h9) rfl dX7_paints_22 ?_
          refine lv_icmp_ge (tgt := 108) hx hb dX7_paints_25 (by decide) (fun h256 => ?_) (fun h256 => ?_)
          ·
            have qh256 := le_i h256
            refine lv_iconst (v := 0) hx hb dX7_paints_108 (by decide) ?_
            rw [hQ]
            exact W.zret (v := 0) (ty := .boolean) hx hb hr rfl (fun t ht hW => ⟨⟨0, (f252, f251), rfl, (iv_w ik_0 (by decide)), by rw [ht]; exact hP, va_K.moved hW.alike hK, hD⟩, hS.F ht⟩) hS.2.2 dX7_paints_109
          ·
            have qh256 := nle_i h256
            have j257 : Iv 0 11 x250 := r_ltl qh256 x250_h v6_h (by decide)
            have j258 : Iv 1 12 v6 := r_ltr qh256 x250_h v6_h (by decide)
            refine lv_aload_n hx hb dX7_paints_28 rfl (lv_at hl 1 rfl) ?_
            refine va_get (D := (dC, dI)) (ci := 7) (v := .ref o4) (C := RX7) (T := TX7) (N := 4) hx hb hts iw_X7_paints_X7 hown hK hP 1 rfl rfl 1 (by decide) (hts (.fieldLink RX7 15 "HolelessHouse$Paint" "worn" "[I") hm_X7_paints_2) (fun _ h9 => h9) rfl dX7_paints_29 ?_
            refine lv_iload hx hb dX7_paints_32 (lv_at hl 0 rfl) ?_
            refine va_iald hx hb hK hP 2 0 rfl rfl (vin_iv j257 (by decide)) dX7_paints_34 (lv_topi (fun x259 x259_e => ?_))
            refine lv_aload_n hx hb dX7_paints_35 rfl (lv_at hl 2 rfl) ?_
            refine va_getN (D := (dC, dI)) (ci := 4) (v := .ref o9) (C := RX4) (T := TX4) (N := 3) hx hb hts iw_X7_paints_X4 hown hK hP 0 rfl rfl 0 (by decide) (hN.use ns_3) (fun _ h9 => h9) rfl dX7_paints_36 ?_
            refine lv_iload_n hx hb dX7_paints_39 rfl (lv_at hl 3 rfl) ?_
            refine va_iald hx hb hK hP 3 0 rfl rfl (vin_iv ik_8 (by decide)) dX7_paints_40 (lv_topi (fun x260 x260_e => ?_))
            have x260_h : Iv 0 4095 x260 := iv_e x260_e (bd_at fw10_b (vin_iv ik_8 (by decide)))
            refine lv_iand hx hb dX7_paints_41 (lv_topi (fun x261 x261_e => ?_))
            have x261_h : Iv 0 4095 x261 := iv_e x261_e (iv_andR _ x260_h (by decide))
            refine lv_if_ne (tgt := 102) hx hb dX7_paints_42 (by decide) (fun h262 => ?_) (fun h262 => ?_)
            ·
              have j263 : Iv 1 4095 x261 := r_nelo h262 x261_h ik_0 (by decide)
              obtain ⟨x264, x264_e⟩ : ∃ z : Int32, z = x250 + 1 := ⟨_, rfl⟩
              have x264_h : Iv 1 12 x264 := iv_e x264_e (iv_add j257 ik_1 (by decide))
              refine lv_iinc (v := x264) (lv' := [(4, .int x264), (0, .ref o1), (1, .ref o8), (2, .int 8), (3, .int a3)]) hx hb dX7_paints_102 hl (k := 0) rfl (incN (by decide +kernel) x264_e) (by decide) rfl (fun ls hl => ?_)
              refine lv_goto (tgt := 13) hx hb dX7_paints_105 (by decide) ?_
              exact ih1 x264 f251 f252 _ _ _ (ms_up x264_e j257 (by decide) hM1) (iv_w x264_h (by decide)) hP hD hS hl
            ·
              have j265 : Iv 0 0 x261 := r_eq h262 ik_0
              refine lv_aload_n hx hb dX7_paints_45 rfl (lv_at hl 1 rfl) ?_
              refine va_get (D := (dC, dI)) (ci := 7) (v := .ref o4) (C := RX7) (T := TX7) (N := 4) hx hb hts iw_X7_paints_X7 hown hK hP 1 rfl rfl 1 (by decide) (hts (.fieldLink RX7 15 "HolelessHouse$Paint" "worn" "[I") hm_X7_paints_2) (fun _ h9 => h9) rfl dX7_paints_46 ?_
              refine lv_iload hx hb dX7_paints_49 (lv_at hl 0 rfl) ?_
              refine lv_dup2_11 hx hb dX7_paints_51 rfl rfl ?_
              refine va_iald hx hb hK hP 2 0 rfl rfl (vin_iv j257 (by decide)) dX7_paints_52 (lv_topi (fun x266 x266_e => ?_))
              refine lv_iconst (v := 1) hx hb dX7_paints_53 (by decide) ?_
              refine lv_iload_n hx hb dX7_paints_54 rfl (lv_at hl 3 rfl) ?_
              refine lv_ishl hx hb dX7_paints_55 (tk_i (v := 256) (by decide +kernel) ?_)
              refine lv_ior hx hb dX7_paints_56 (lv_topi (fun x267 x267_e => ?_))
              refine k_iast hx hb hK hP hD hS 2 0 rfl rfl (vin_iv j257 (by decide)) dX7_paints_57 (fun f268 H locs f268_e hP hD hS => ?_)
              have hP : va_P (dC, dI) vwCl ([(o8, .inr (4, [.ref o9, .int v11, .int v12])), (o1, .inr (7, [.ref o2, .ref o4, .int v6, .int v7])), (o4, .inl (cI, 12, .inl f268)), (o9, .inl (cI, 12, .inl fw10)), (o2, .inl (cI, 12, .inl f251))]) H := hP
              have hD : va_D A ([(o8, .inr (4, [.ref o9, .int v11, .int v12])), (o1, .inr (7, [.ref o2, .ref o4, .int v6, .int v7])), (o4, .inl (cI, 12, .inl f268)), (o9, .inl (cI, 12, .inl fw10)), (o2, .inl (cI, 12, .inl f251))]) := hD
              refine lv_aload_n hx hb dX7_paints_58 rfl (lv_at hl 1 rfl) ?_
              refine va_get (D := (dC, dI)) (ci := 7) (v := .ref o2) (C := RX7) (T := TX7) (N := 4) hx hb hts iw_X7_paints_X7 hown hK hP 1 rfl rfl 0 (by decide) (hts (.fieldLink RX7 9 "HolelessHouse$Paint" "hues" "[I") hm_X7_paints_3) (fun _ h9 => h9) rfl dX7_paints_59 ?_
              refine lv_iload_n hx hb dX7_paints_62 rfl (lv_at hl 3 rfl) ?_
              refine lv_iload hx hb dX7_paints_63 (lv_at hl 0 rfl) ?_
              refine k_iast hx hb hK hP hD hS 4 0 rfl rfl (vin_iv ik_8 (by decide)) dX7_paints_65 (fun f269 H locs f269_e hP hD hS => ?_)
              have hP : va_P (dC, dI) vwCl ([(o8, .inr (4, [.ref o9, .int v11, .int v12])), (o1, .inr (7, [.ref o2, .ref o4, .int v6, .int v7])), (o4, .inl (cI, 12, .inl f268)), (o9, .inl (cI, 12, .inl fw10)), (o2, .inl (cI, 12, .inl f269))]) H := hP
              have hD : va_D A ([(o8, .inr (4, [.ref o9, .int v11, .int v12])), (o1, .inr (7, [.ref o2, .ref o4, .int v6, .int v7])), (o4, .inl (cI, 12, .inl f268)), (o9, .inl (cI, 12, .inl fw10)), (o2, .inl (cI, 12, .inl f269))]) := hD
              refine lv_aload_n hx hb dX7_paints_66 rfl (lv_at hl 1 rfl) ?_
              refine lv_aload_n hx hb dX7_paints_67 rfl (lv_at hl 2 rfl) ?_
              refine lv_iload_n hx hb dX7_paints_68 rfl (lv_at hl 3 rfl) ?_
              refine lv_iconst (v := 1) hx hb dX7_paints_69 (by decide) ?_
              refine lv_iadd hx hb dX7_paints_70 (tk_i (v := 9) (by decide +kernel) ?_)
              refine lv_iload_n hx hb dX7_paints_71 rfl (lv_at hl 4 rfl) ?_
              refine lv_iload hx hb dX7_paints_72 (lv_at hl 0 rfl) ?_
              refine lv_iconst (v := 1) hx hb dX7_paints_74 (by decide) ?_
              refine lv_iadd hx hb dX7_paints_75 (lv_topi (fun x270 x270_e => ?_))
              have x270_h : Iv 1 12 x270 := iv_e x270_e (iv_add j257 ik_1 (by decide))
              refine va_mmax hx hb (hml.trans hl.1.symm) hown (hts (.methodLink RX7 46 Lib.Math.max.name) hm_X7_paints_4) (hts (.static Lib.Math.max.name) hm_X7_paints_5) (hts (.initialized "java/lang/Math") hm_X7_paints_6) (hts (.code Lib.Math.max.name Lib.Math.max.code 2 (some .int)) hm_X7_paints_7) (Nat.le_of_ble_eq_true rfl) (Nat.le_of_ble_eq_true rfl) (Nat.le_of_ble_eq_true rfl) (Nat.le_of_ble_eq_true rfl) dX7_paints_76 (lv_topi (fun x271 x271_e => ?_))
              have x271_h : Iv 0 12 x271 := iv_e x271_e (iv_max a3_h x270_h (by decide))
              refine kc_i (D := (dC, dI)) (S := (Nat → Int32) × (Nat → Int32)) (wc := [(o8, .inr (4, [.ref o9, .int v11, .int v12])), (o1, .inr (7, [.ref o2, .ref o4, .int v6, .int v7])), (o4, .inl (cI, 12, .inl f268)), (o9, .inl (cI, 12, .inl fw10)), (o2, .inl (cI, 12, .inl f269))]) (wr := []) (w1 := fun u => [(o8, .inr (4, [.ref o9, .int v11, .int v12])), (o1, .inr (7, [.ref o2, .ref o4, .int v6, .int v7])), (o4, .inl (cI, 12, .inl u.1)), (o9, .inl (cI, 12, .inl fw10)), (o2, .inl (cI, 12, .inl u.2))]) (wn := fun u => [(o8, .inr (4, [.ref o9, .int v11, .int v12])), (o1, .inr (7, [.ref o2, .ref o4, .int v6, .int v7])), (o4, .inl (cI, 12, .inl u.1)), (o9, .inl (cI, 12, .inl fw10)), (o2, .inl (cI, 12, .inl u.2))]) (fun hPc hDc => va_runS (As := [.ref o1, .ref o8, .int 9, .int x271]) (rest := []) ⟨hx, hb, hml, hown, hts⟩ (kX7_paints_4 l dC dI cI c2 cZ o1 o8 o9 o2 o4 f269 f268 v6 v7 fw10 v11 v12 x271 H.size (iv_w j258 (by decide)) fw10_b (iv_w j2 (by decide)) x271_h) (va_cwS 4 hts gX7_paints_X7_paints rfl rfl rfl (by decide +kernel) ⟨Nat.le_of_ble_eq_true rfl, Nat.le_of_ble_eq_true rfl⟩) (pre_S hPc hK hDc hN) rfl rfl hl.1 rfl (lv_room (Nat.le_of_ble_eq_true rfl)) dX7_paints_79 ⟨Nat.le_of_ble_eq_true rfl, Nat.le_of_ble_eq_true rfl⟩) hP hD hS hA [0, 1, 2, 3, 4] [] [0, 1, 2, 3, 4] rfl rfl (by decide +kernel) (by decide +kernel) (by decide +kernel) (by decide +kernel) (fun _ => rfl) (fun x274 u H locs hq hP hD hS => ?_)
              obtain ⟨f272, f273⟩ := u
              have x274_h := hq
              have hP : va_P (dC, dI) vwCl ([(o8, .inr (4, [.ref o9, .int v11, .int v12])), (o1, .inr (7, [.ref o2, .ref o4, .int v6, .int v7])), (o4, .inl (cI, 12, .inl f272)), (o9, .inl (cI, 12, .inl fw10)), (o2, .inl (cI, 12, .inl f273))]) H := hP
              have hD : va_D A ([(o8, .inr (4, [.ref o9, .int v11, .int v12])), (o1, .inr (7, [.ref o2, .ref o4, .int v6, .int v7])), (o4, .inl (cI, 12, .inl f272)), (o9, .inl (cI, 12, .inl fw10)), (o2, .inl (cI, 12, .inl f273))]) := hD
              refine lv_if_eq (tgt := 87) hx hb dX7_paints_82 (by decide) (fun h275 => ?_) (fun h275 => ?_)
              ·
                have j276 : Iv 0 0 x274 := r_eq h275 ik_0
                refine lv_aload_n hx hb dX7_paints_87 rfl (lv_at hl 1 rfl) ?_
                refine va_get (D := (dC, dI)) (ci := 7) (v := .ref o4) (C := RX7) (T := TX7) (N := 4) hx hb hts iw_X7_paints_X7 hown hK hP 1 rfl rfl 1 (by decide) (hts (.fieldLink RX7 15 "HolelessHouse$Paint" "worn" "[I") hm_X7_paints_2) (fun _ h9 => h9) rfl dX7_paints_88 ?_
                refine lv_iload hx hb dX7_paints_91 (lv_at hl 0 rfl) ?_
                refine lv_dup2_11 hx hb dX7_paints_93 rfl rfl ?_
                refine va_iald hx hb hK hP 2 0 rfl rfl (vin_iv j257 (by decide)) dX7_paints_94 (lv_topi (fun x277 x277_e => ?_))
                refine lv_iconst (v := 1) hx hb dX7_paints_95 (by decide) ?_
                refine lv_iload_n hx hb dX7_paints_96 rfl (lv_at hl 3 rfl) ?_
                refine lv_ishl hx hb dX7_paints_97 (tk_i (v := 256) (by decide +kernel) ?_)
                refine lv_iconst (v := (-1)) hx hb dX7_paints_98 (by decide) ?_
                refine lv_ixor hx hb dX7_paints_99 (tk_i (v := (-257)) (by decide +kernel) ?_)
                refine lv_iand hx hb dX7_paints_100 (lv_topi (fun x278 x278_e => ?_))
                refine k_iast hx hb hK hP hD hS 2 0 rfl rfl (vin_iv j257 (by decide)) dX7_paints_101 (fun f279 H locs f279_e hP hD hS => ?_)
                have hP : va_P (dC, dI) vwCl ([(o8, .inr (4, [.ref o9, .int v11, .int v12])), (o1, .inr (7, [.ref o2, .ref o4, .int v6, .int v7])), (o4, .inl (cI, 12, .inl f279)), (o9, .inl (cI, 12, .inl fw10)), (o2, .inl (cI, 12, .inl f273))]) H := hP
                have hD : va_D A ([(o8, .inr (4, [.ref o9, .int v11, .int v12])), (o1, .inr (7, [.ref o2, .ref o4, .int v6, .int v7])), (o4, .inl (cI, 12, .inl f279)), (o9, .inl (cI, 12, .inl fw10)), (o2, .inl (cI, 12, .inl f273))]) := hD
                obtain ⟨x280, x280_e⟩ : ∃ z : Int32, z = x250 + 1 := ⟨_, rfl⟩
                have x280_h : Iv 1 12 x280 := iv_e x280_e (iv_add j257 ik_1 (by decide))
                refine lv_iinc (v := x280) (lv' := [(4, .int x280), (0, .ref o1), (1, .ref o8), (2, .int 8), (3, .int a3)]) hx hb dX7_paints_102 hl (k := 0) rfl (incN (by decide +kernel) x280_e) (by decide) rfl (fun ls hl => ?_)
                refine lv_goto (tgt := 13) hx hb dX7_paints_105 (by decide) ?_
                exact ih1 x280 f273 f279 _ _ _ (ms_up x280_e j257 (by decide) hM1) (iv_w x280_h (by decide)) hP hD hS hl
              ·
                have j281 : Iv 1 1 x274 := r_nelo h275 x274_h ik_0 (by decide)
                refine lv_iconst (v := 1) hx hb dX7_paints_85 (by decide) ?_
                rw [hQ]
                exact W.zret (v := 1) (ty := .boolean) hx hb hr rfl (fun t ht hW => ⟨⟨1, (f272, f273), rfl, (iv_w ik_1 (by decide)), by rw [ht]; exact hP, va_K.moved hW.alike hK, hD⟩, hS.F ht⟩) hS.2.2 dX7_paints_86
    exact L1 _ 0 fw3 fw5 _ _ _ (Nat.lt_succ_self _) (iv_w ik_0 (by decide)) hP hD hS hl
  ·
    have qh1 := nlt_i h1
    have j282 : Iv 0 8 v11 := r_lel qh1 v11_h ik_8 (by decide)
    refine lv_iconst (v := 1) hx hb dX7_paints_8 (by decide) ?_
    rw [hQ]
    exact W.zret (v := 1) (ty := .boolean) hx hb hr rfl (fun t ht hW => ⟨⟨1, (fw5, fw3), rfl, (iv_w ik_1 (by decide)), by rw [ht]; exact hP, va_K.moved hW.alike hK, hD⟩, hS.F ht⟩) hS.2.2 dX7_paints_9
set_option maxHeartbeats 4000000 in
set_option maxRecDepth 100000 in
theorem kX7_paints_6 (l : Launch) (dC : Nat → ClassId) (dI : Nat → Nat → Nat) (cI c2 cZ : ClassId) (o1 : Nat) (o8 : Nat) (o9 : Nat) (o2 : Nat) (o4 : Nat) (fw3 : Nat → Int32) (fw5 : Nat → Int32) (v6 : Int32) (v7 : Int32) (fw10 : Nat → Int32) (v11 : Int32) (v12 : Int32) (a3 : Int32) (sz : Nat) (v6_h : Iv (-2147483648) 12 v6) (fw10_b : Bd 12 0 4095 fw10) (v11_h : Iv 0 12 v11) (a3_h : Iv 0 12 a3) : Met l yX7_paints wsX7_paints ({ frames := 5, cells := 0, slots := 0, locals := 120 }) (va_Pc [.ref o1, .ref o8, .int 7, .int a3] (wPre (dC, dI) [(cI, .int), (c2, .array .int), (cZ, .boolean)] ([(o8, .inr (4, [.ref o9, .int v11, .int v12])), (o1, .inr (7, [.ref o2, .ref o4, .int v6, .int v7])), (o4, .inl (cI, 12, .inl fw5)), (o9, .inl (cI, 12, .inl fw10)), (o2, .inl (cI, 12, .inl fw3))]) sz)) (va_Qi (fun (r : Int32) (u : (Nat → Int32) × (Nat → Int32)) => Iv 0 1 r) (fun u t => wPost (dC, dI) [(cI, .int), (c2, .array .int), (cZ, .boolean)] (va_A ([(o8, .inr (4, [.ref o9, .int v11, .int v12])), (o1, .inr (7, [.ref o2, .ref o4, .int v6, .int v7])), (o4, .inl (cI, 12, .inl fw5)), (o9, .inl (cI, 12, .inl fw10)), (o2, .inl (cI, 12, .inl fw3))]) sz) ([(o8, .inr (4, [.ref o9, .int v11, .int v12])), (o1, .inr (7, [.ref o2, .ref o4, .int v6, .int v7])), (o4, .inl (cI, 12, .inl u.1)), (o9, .inl (cI, 12, .inl fw10)), (o2, .inl (cI, 12, .inl u.2))]) t) (va_A ([(o8, .inr (4, [.ref o9, .int v11, .int v12])), (o1, .inr (7, [.ref o2, .ref o4, .int v6, .int v7])), (o4, .inl (cI, 12, .inl fw5)), (o9, .inl (cI, 12, .inl fw10)), (o2, .inl (cI, 12, .inl fw3))]) sz)) 0 0 (va_A ([(o8, .inr (4, [.ref o9, .int v11, .int v12])), (o1, .inr (7, [.ref o2, .ref o4, .int v6, .int v7])), (o4, .inl (cI, 12, .inl fw5)), (o9, .inl (cI, 12, .inl fw10)), (o2, .inl (cI, 12, .inl fw3))]) sz) := by
  refine Met.ofW (cc := cX7_paints) (maxL := 5) (ret := (some .boolean)) (by decide) rfl ?_
  intro p e s m args below meth c s₁ B hml hv
  obtain ⟨rfl, hsz, hP, hK, hD0, hN⟩ := hv
  have hx := B.exec
  have hb := B.bytes
  have hr := B.returns
  have hts := atoms_spec (ws := wsX7_paints) B.pre
  have hown : s.vm.findClass RX7 = some m.cls := findClass_of_methodNamed B.named
  have hlocks := B.notSynchronized
  subst hsz
  have hD := hD0.self (sz := s.heap.size)
  generalize hAe : va_A ([(o8, .inr (4, [.ref o9, .int v11, .int v12])), (o1, .inr (7, [.ref o2, .ref o4, .int v6, .int v7])), (o4, .inl (cI, 12, .inl fw5)), (o9, .inl (cI, 12, .inl fw10)), (o2, .inl (cI, 12, .inl fw3))]) s.heap.size = A at hD ⊢
  have hA : ∀ q : Nat, s.heap.size ≤ q → A q := fun q h => by rw [← hAe]; exact Or.inr h
  have hS : va_S A s.heap s.heap [] := va_S.rf
  have hP : va_P (dC, dI) vwCl ([(o8, .inr (4, [.ref o9, .int v11, .int v12])), (o1, .inr (7, [.ref o2, .ref o4, .int v6, .int v7])), (o4, .inl (cI, 12, .inl fw5)), (o9, .inl (cI, 12, .inl fw10)), (o2, .inl (cI, 12, .inl fw3))]) s.heap := hP
  have hl := lv_entry ([.ref o1, .ref o8, .int 7, .int a3]) (n := 5) (Nat.le_of_ble_eq_true rfl)
  rw [lg_entry_eq]
  generalize (lg_sl ([.ref o1, .ref o8, .int 7, .int a3]) ++ List.replicate (5 - (lg_sl ([.ref o1, .ref o8, .int 7, .int a3])).length) Slot.unset).toArray = ls at hl ⊢
  have hl : lv_has ls 5 [(0, .ref o1), (1, .ref o8), (2, .int 7), (3, .int a3)] := hl
  refine gen_Q (fun Q hQ => ?_)
  refine lv_iload_n hx hb dX7_paints_0 rfl (lv_at hl 2 rfl) ?_
  refine lv_aload_n hx hb dX7_paints_1 rfl (lv_at hl 1 rfl) ?_
  refine va_getN (D := (dC, dI)) (ci := 4) (v := .int v11) (C := RX4) (T := TX4) (N := 3) hx hb hts iw_X7_paints_X4 hown hK hP 0 rfl rfl 1 (by decide) (hN.use ns_8) (fun _ h9 => h9) rfl dX7_paints_2 ?_
  refine lv_icmp_lt (tgt := 10) hx hb dX7_paints_5 (by decide) (fun h1 => ?_) (fun h1 => ?_)
  ·
    have qh1 := lt_i h1
    have j2 : Iv 8 12 v11 := r_ltr qh1 ik_7 v11_h (by decide)
    refine lv_iconst (v := 0) hx hb dX7_paints_10 (by decide) ?_
    refine lv_istore (lv' := [(4, .int 0), (0, .ref o1), (1, .ref o8), (2, .int 7), (3, .int a3)]) hx hb dX7_paints_11 hl (by decide) rfl (fun ls hl => ?_)
    have L1 : ∀ (N : Nat) (x250 : Int32) (f251 : Nat → Int32) (f252 : Nat → Int32) (H : Heap) (locs : List Loc) (ls : Array Slot), (12 - x250.toInt).toNat < N → Iv 0 12 x250 → va_P (dC, dI) vwCl ([(o8, .inr (4, [.ref o9, .int v11, .int v12])), (o1, .inr (7, [.ref o2, .ref o4, .int v6, .int v7])), (o4, .inl (cI, 12, .inl f252)), (o9, .inl (cI, 12, .inl fw10)), (o2, .inl (cI, 12, .inl f251))]) H → va_D A ([(o8, .inr (4, [.ref o9, .int v11, .int v12])), (o1, .inr (7, [.ref o2, .ref o4, .int v6, .int v7])), (o4, .inl (cI, 12, .inl f252)), (o9, .inl (cI, 12, .inl fw10)), (o2, .inl (cI, 12, .inl f251))]) → va_S A s.heap H locs → lv_has ls 5 [(4, .int x250), (0, .ref o1), (1, .ref o8), (2, .int 7), (3, .int a3)] → W p l e ({ frames := 5, cells := 0, slots := 0, locals := 120 }) s m ([.ref o1, .ref o8, .int 7, .int a3] : List Value).toArray below meth c H locs 0 0 Q (F0 m 13 ls []) := by
      intro N
      induction N with
      | zero =>
        intro x250 f251 f252 H locs ls hM
        exact absurd hM (Nat.not_lt_zero _)
      | succ N ih1 =>
        intro x250 f251 f252 H locs ls hM1 x250_h hP hD hS hl
        refine lv_iload hx hb dX7_paints_13 (lv_at hl 0 rfl) ?_
        refine lv_iload_n hx hb dX7_paints_15 rfl (lv_at hl 4 rfl) ?_
        refine lv_icmp_gt (tgt := 108) hx hb dX7_paints_16 (by decide) (fun h253 => ?_) (fun h253 => ?_)
        ·
          have qh253 := lt_i h253
          have j254 : Iv 0 11 a3 := r_ltl qh253 a3_h x250_h (by decide)
          have j255 : Iv 1 12 x250 := r_ltr qh253 a3_h x250_h (by decide)
          refine lv_iconst (v := 0) hx hb dX7_paints_108 (by decide) ?_
          rw [hQ]
          exact W.zret (v := 0) (ty := .boolean) hx hb hr rfl (fun t ht hW => ⟨⟨0, (f252, f251), rfl, (iv_w ik_0 (by decide)), by rw [ht]; exact hP, va_K.moved hW.alike hK, hD⟩, hS.F ht⟩) hS.2.2 dX7_paints_109
        ·
          have qh253 := nlt_i h253
          refine lv_iload hx hb dX7_paints_19 (lv_at hl 0 rfl) ?_
          refine lv_aload_n hx hb dX7_paints_21 rfl (lv_at hl 1 rfl) ?_
          refine va_get (D := (dC, dI)) (ci := 7) (v := .int v6) (C := RX7) (T := TX7) (N := 4) hx hb hts iw_X7_paints_X7 hown hK hP 1 rfl rfl 2 (by decide) (hts (.fieldLink RX7 18 "HolelessHouse$Paint" "most" "I") hm_X7_paints_1) (fun _ h9 => h9) rfl dX7_paints_22 ?_
          refine lv_icmp_ge (tgt := 108) hx hb dX7_paints_25 (by decide) (fun h256 => ?_) (fun h256 => ?_)
          ·
            have qh256 := le_i h256
            refine lv_iconst (v := 0) hx hb dX7_paints_108 (by decide) ?_
            rw [hQ]
            exact W.zret (v := 0) (ty := .boolean) hx hb hr rfl (fun t ht hW => ⟨⟨0, (f252, f251), rfl, (iv_w ik_0 (by decide)), by rw [ht]; exact hP, va_K.moved hW.alike hK, hD⟩, hS.F ht⟩) hS.2.2 dX7_paints_109
          ·
            have qh256 := nle_i h256
            have j257 : Iv 0 11 x250 := r_ltl qh256 x250_h v6_h (by decide)
            have j258 : Iv 1 12 v6 := r_ltr qh256 x250_h v6_h (by decide)
            refine lv_aload_n hx hb dX7_paints_28 rfl (lv_at hl 1 rfl) ?_
            refine va_get (D := (dC, dI)) (ci := 7) (v := .ref o4) (C := RX7) (T := TX7) (N := 4) hx hb hts iw_X7_paints_X7 hown hK hP 1 rfl rfl 1 (by decide) (hts (.fieldLink RX7 15 "HolelessHouse$Paint" "worn" "[I") hm_X7_paints_2) (fun _ h9 => h9) rfl dX7_paints_29 ?_
            refine lv_iload hx hb dX7_paints_32 (lv_at hl 0 rfl) ?_
            refine va_iald hx hb hK hP 2 0 rfl rfl (vin_iv j257 (by decide)) dX7_paints_34 (lv_topi (fun x259 x259_e => ?_))
            refine lv_aload_n hx hb dX7_paints_35 rfl (lv_at hl 2 rfl) ?_
            refine va_getN (D := (dC, dI)) (ci := 4) (v := .ref o9) (C := RX4) (T := TX4) (N := 3) hx hb hts iw_X7_paints_X4 hown hK hP 0 rfl rfl 0 (by decide) (hN.use ns_3) (fun _ h9 => h9) rfl dX7_paints_36 ?_
            refine lv_iload_n hx hb dX7_paints_39 rfl (lv_at hl 3 rfl) ?_
            refine va_iald hx hb hK hP 3 0 rfl rfl (vin_iv ik_7 (by decide)) dX7_paints_40 (lv_topi (fun x260 x260_e => ?_))
            have x260_h : Iv 0 4095 x260 := iv_e x260_e (bd_at fw10_b (vin_iv ik_7 (by decide)))
            refine lv_iand hx hb dX7_paints_41 (lv_topi (fun x261 x261_e => ?_))
            have x261_h : Iv 0 4095 x261 := iv_e x261_e (iv_andR _ x260_h (by decide))
            refine lv_if_ne (tgt := 102) hx hb dX7_paints_42 (by decide) (fun h262 => ?_) (fun h262 => ?_)
            ·
              have j263 : Iv 1 4095 x261 := r_nelo h262 x261_h ik_0 (by decide)
              obtain ⟨x264, x264_e⟩ : ∃ z : Int32, z = x250 + 1 := ⟨_, rfl⟩
              have x264_h : Iv 1 12 x264 := iv_e x264_e (iv_add j257 ik_1 (by decide))
              refine lv_iinc (v := x264) (lv' := [(4, .int x264), (0, .ref o1), (1, .ref o8), (2, .int 7), (3, .int a3)]) hx hb dX7_paints_102 hl (k := 0) rfl (incN (by decide +kernel) x264_e) (by decide) rfl (fun ls hl => ?_)
              refine lv_goto (tgt := 13) hx hb dX7_paints_105 (by decide) ?_
              exact ih1 x264 f251 f252 _ _ _ (ms_up x264_e j257 (by decide) hM1) (iv_w x264_h (by decide)) hP hD hS hl
            ·
              have j265 : Iv 0 0 x261 := r_eq h262 ik_0
              refine lv_aload_n hx hb dX7_paints_45 rfl (lv_at hl 1 rfl) ?_
              refine va_get (D := (dC, dI)) (ci := 7) (v := .ref o4) (C := RX7) (T := TX7) (N := 4) hx hb hts iw_X7_paints_X7 hown hK hP 1 rfl rfl 1 (by decide) (hts (.fieldLink RX7 15 "HolelessHouse$Paint" "worn" "[I") hm_X7_paints_2) (fun _ h9 => h9) rfl dX7_paints_46 ?_
              refine lv_iload hx hb dX7_paints_49 (lv_at hl 0 rfl) ?_
              refine lv_dup2_11 hx hb dX7_paints_51 rfl rfl ?_
              refine va_iald hx hb hK hP 2 0 rfl rfl (vin_iv j257 (by decide)) dX7_paints_52 (lv_topi (fun x266 x266_e => ?_))
              refine lv_iconst (v := 1) hx hb dX7_paints_53 (by decide) ?_
              refine lv_iload_n hx hb dX7_paints_54 rfl (lv_at hl 3 rfl) ?_
              refine lv_ishl hx hb dX7_paints_55 (tk_i (v := 128) (by decide +kernel) ?_)
              refine lv_ior hx hb dX7_paints_56 (lv_topi (fun x267 x267_e => ?_))
              refine k_iast hx hb hK hP hD hS 2 0 rfl rfl (vin_iv j257 (by decide)) dX7_paints_57 (fun f268 H locs f268_e hP hD hS => ?_)
              have hP : va_P (dC, dI) vwCl ([(o8, .inr (4, [.ref o9, .int v11, .int v12])), (o1, .inr (7, [.ref o2, .ref o4, .int v6, .int v7])), (o4, .inl (cI, 12, .inl f268)), (o9, .inl (cI, 12, .inl fw10)), (o2, .inl (cI, 12, .inl f251))]) H := hP
              have hD : va_D A ([(o8, .inr (4, [.ref o9, .int v11, .int v12])), (o1, .inr (7, [.ref o2, .ref o4, .int v6, .int v7])), (o4, .inl (cI, 12, .inl f268)), (o9, .inl (cI, 12, .inl fw10)), (o2, .inl (cI, 12, .inl f251))]) := hD
              refine lv_aload_n hx hb dX7_paints_58 rfl (lv_at hl 1 rfl) ?_
              refine va_get (D := (dC, dI)) (ci := 7) (v := .ref o2) (C := RX7) (T := TX7) (N := 4) hx hb hts iw_X7_paints_X7 hown hK hP 1 rfl rfl 0 (by decide) (hts (.fieldLink RX7 9 "HolelessHouse$Paint" "hues" "[I") hm_X7_paints_3) (fun _ h9 => h9) rfl dX7_paints_59 ?_
              refine lv_iload_n hx hb dX7_paints_62 rfl (lv_at hl 3 rfl) ?_
              refine lv_iload hx hb dX7_paints_63 (lv_at hl 0 rfl) ?_
              refine k_iast hx hb hK hP hD hS 4 0 rfl rfl (vin_iv ik_7 (by decide)) dX7_paints_65 (fun f269 H locs f269_e hP hD hS => ?_)
              have hP : va_P (dC, dI) vwCl ([(o8, .inr (4, [.ref o9, .int v11, .int v12])), (o1, .inr (7, [.ref o2, .ref o4, .int v6, .int v7])), (o4, .inl (cI, 12, .inl f268)), (o9, .inl (cI, 12, .inl fw10)), (o2, .inl (cI, 12, .inl f269))]) H := hP
              have hD : va_D A ([(o8, .inr (4, [.ref o9, .int v11, .int v12])), (o1, .inr (7, [.ref o2, .ref o4, .int v6, .int v7])), (o4, .inl (cI, 12, .inl f268)), (o9, .inl (cI, 12, .inl fw10)), (o2, .inl (cI, 12, .inl f269))]) := hD
              refine lv_aload_n hx hb dX7_paints_66 rfl (lv_at hl 1 rfl) ?_
              refine lv_aload_n hx hb dX7_paints_67 rfl (lv_at hl 2 rfl) ?_
              refine lv_iload_n hx hb dX7_paints_68 rfl (lv_at hl 3 rfl) ?_
              refine lv_iconst (v := 1) hx hb dX7_paints_69 (by decide) ?_
              refine lv_iadd hx hb dX7_paints_70 (tk_i (v := 8) (by decide +kernel) ?_)
              refine lv_iload_n hx hb dX7_paints_71 rfl (lv_at hl 4 rfl) ?_
              refine lv_iload hx hb dX7_paints_72 (lv_at hl 0 rfl) ?_
              refine lv_iconst (v := 1) hx hb dX7_paints_74 (by decide) ?_
              refine lv_iadd hx hb dX7_paints_75 (lv_topi (fun x270 x270_e => ?_))
              have x270_h : Iv 1 12 x270 := iv_e x270_e (iv_add j257 ik_1 (by decide))
              refine va_mmax hx hb (hml.trans hl.1.symm) hown (hts (.methodLink RX7 46 Lib.Math.max.name) hm_X7_paints_4) (hts (.static Lib.Math.max.name) hm_X7_paints_5) (hts (.initialized "java/lang/Math") hm_X7_paints_6) (hts (.code Lib.Math.max.name Lib.Math.max.code 2 (some .int)) hm_X7_paints_7) (Nat.le_of_ble_eq_true rfl) (Nat.le_of_ble_eq_true rfl) (Nat.le_of_ble_eq_true rfl) (Nat.le_of_ble_eq_true rfl) dX7_paints_76 (lv_topi (fun x271 x271_e => ?_))
              have x271_h : Iv 0 12 x271 := iv_e x271_e (iv_max a3_h x270_h (by decide))
              refine kc_i (D := (dC, dI)) (S := (Nat → Int32) × (Nat → Int32)) (wc := [(o8, .inr (4, [.ref o9, .int v11, .int v12])), (o1, .inr (7, [.ref o2, .ref o4, .int v6, .int v7])), (o4, .inl (cI, 12, .inl f268)), (o9, .inl (cI, 12, .inl fw10)), (o2, .inl (cI, 12, .inl f269))]) (wr := []) (w1 := fun u => [(o8, .inr (4, [.ref o9, .int v11, .int v12])), (o1, .inr (7, [.ref o2, .ref o4, .int v6, .int v7])), (o4, .inl (cI, 12, .inl u.1)), (o9, .inl (cI, 12, .inl fw10)), (o2, .inl (cI, 12, .inl u.2))]) (wn := fun u => [(o8, .inr (4, [.ref o9, .int v11, .int v12])), (o1, .inr (7, [.ref o2, .ref o4, .int v6, .int v7])), (o4, .inl (cI, 12, .inl u.1)), (o9, .inl (cI, 12, .inl fw10)), (o2, .inl (cI, 12, .inl u.2))]) (fun hPc hDc => va_runS (As := [.ref o1, .ref o8, .int 8, .int x271]) (rest := []) ⟨hx, hb, hml, hown, hts⟩ (kX7_paints_5 l dC dI cI c2 cZ o1 o8 o9 o2 o4 f269 f268 v6 v7 fw10 v11 v12 x271 H.size (iv_w j258 (by decide)) fw10_b (iv_w j2 (by decide)) x271_h) (va_cwS 4 hts gX7_paints_X7_paints rfl rfl rfl (by decide +kernel) ⟨Nat.le_of_ble_eq_true rfl, Nat.le_of_ble_eq_true rfl⟩) (pre_S hPc hK hDc hN) rfl rfl hl.1 rfl (lv_room (Nat.le_of_ble_eq_true rfl)) dX7_paints_79 ⟨Nat.le_of_ble_eq_true rfl, Nat.le_of_ble_eq_true rfl⟩) hP hD hS hA [0, 1, 2, 3, 4] [] [0, 1, 2, 3, 4] rfl rfl (by decide +kernel) (by decide +kernel) (by decide +kernel) (by decide +kernel) (fun _ => rfl) (fun x274 u H locs hq hP hD hS => ?_)
              obtain ⟨f272, f273⟩ := u
              have x274_h := hq
              have hP : va_P (dC, dI) vwCl ([(o8, .inr (4, [.ref o9, .int v11, .int v12])), (o1, .inr (7, [.ref o2, .ref o4, .int v6, .int v7])), (o4, .inl (cI, 12, .inl f272)), (o9, .inl (cI, 12, .inl fw10)), (o2, .inl (cI, 12, .inl f273))]) H := hP
              have hD : va_D A ([(o8, .inr (4, [.ref o9, .int v11, .int v12])), (o1, .inr (7, [.ref o2, .ref o4, .int v6, .int v7])), (o4, .inl (cI, 12, .inl f272)), (o9, .inl (cI, 12, .inl fw10)), (o2, .inl (cI, 12, .inl f273))]) := hD
              refine lv_if_eq (tgt := 87) hx hb dX7_paints_82 (by decide) (fun h275 => ?_) (fun h275 => ?_)
              ·
                have j276 : Iv 0 0 x274 := r_eq h275 ik_0
                refine lv_aload_n hx hb dX7_paints_87 rfl (lv_at hl 1 rfl) ?_
                refine va_get (D := (dC, dI)) (ci := 7) (v := .ref o4) (C := RX7) (T := TX7) (N := 4) hx hb hts iw_X7_paints_X7 hown hK hP 1 rfl rfl 1 (by decide) (hts (.fieldLink RX7 15 "HolelessHouse$Paint" "worn" "[I") hm_X7_paints_2) (fun _ h9 => h9) rfl dX7_paints_88 ?_
                refine lv_iload hx hb dX7_paints_91 (lv_at hl 0 rfl) ?_
                refine lv_dup2_11 hx hb dX7_paints_93 rfl rfl ?_
                refine va_iald hx hb hK hP 2 0 rfl rfl (vin_iv j257 (by decide)) dX7_paints_94 (lv_topi (fun x277 x277_e => ?_))
                refine lv_iconst (v := 1) hx hb dX7_paints_95 (by decide) ?_
                refine lv_iload_n hx hb dX7_paints_96 rfl (lv_at hl 3 rfl) ?_
                refine lv_ishl hx hb dX7_paints_97 (tk_i (v := 128) (by decide +kernel) ?_)
                refine lv_iconst (v := (-1)) hx hb dX7_paints_98 (by decide) ?_
                refine lv_ixor hx hb dX7_paints_99 (tk_i (v := (-129)) (by decide +kernel) ?_)
                refine lv_iand hx hb dX7_paints_100 (lv_topi (fun x278 x278_e => ?_))
                refine k_iast hx hb hK hP hD hS 2 0 rfl rfl (vin_iv j257 (by decide)) dX7_paints_101 (fun f279 H locs f279_e hP hD hS => ?_)
                have hP : va_P (dC, dI) vwCl ([(o8, .inr (4, [.ref o9, .int v11, .int v12])), (o1, .inr (7, [.ref o2, .ref o4, .int v6, .int v7])), (o4, .inl (cI, 12, .inl f279)), (o9, .inl (cI, 12, .inl fw10)), (o2, .inl (cI, 12, .inl f273))]) H := hP
                have hD : va_D A ([(o8, .inr (4, [.ref o9, .int v11, .int v12])), (o1, .inr (7, [.ref o2, .ref o4, .int v6, .int v7])), (o4, .inl (cI, 12, .inl f279)), (o9, .inl (cI, 12, .inl fw10)), (o2, .inl (cI, 12, .inl f273))]) := hD
                obtain ⟨x280, x280_e⟩ : ∃ z : Int32, z = x250 + 1 := ⟨_, rfl⟩
                have x280_h : Iv 1 12 x280 := iv_e x280_e (iv_add j257 ik_1 (by decide))
                refine lv_iinc (v := x280) (lv' := [(4, .int x280), (0, .ref o1), (1, .ref o8), (2, .int 7), (3, .int a3)]) hx hb dX7_paints_102 hl (k := 0) rfl (incN (by decide +kernel) x280_e) (by decide) rfl (fun ls hl => ?_)
                refine lv_goto (tgt := 13) hx hb dX7_paints_105 (by decide) ?_
                exact ih1 x280 f273 f279 _ _ _ (ms_up x280_e j257 (by decide) hM1) (iv_w x280_h (by decide)) hP hD hS hl
              ·
                have j281 : Iv 1 1 x274 := r_nelo h275 x274_h ik_0 (by decide)
                refine lv_iconst (v := 1) hx hb dX7_paints_85 (by decide) ?_
                rw [hQ]
                exact W.zret (v := 1) (ty := .boolean) hx hb hr rfl (fun t ht hW => ⟨⟨1, (f272, f273), rfl, (iv_w ik_1 (by decide)), by rw [ht]; exact hP, va_K.moved hW.alike hK, hD⟩, hS.F ht⟩) hS.2.2 dX7_paints_86
    exact L1 _ 0 fw3 fw5 _ _ _ (Nat.lt_succ_self _) (iv_w ik_0 (by decide)) hP hD hS hl
  ·
    have qh1 := nlt_i h1
    have j282 : Iv 0 7 v11 := r_lel qh1 v11_h ik_7 (by decide)
    refine lv_iconst (v := 1) hx hb dX7_paints_8 (by decide) ?_
    rw [hQ]
    exact W.zret (v := 1) (ty := .boolean) hx hb hr rfl (fun t ht hW => ⟨⟨1, (fw5, fw3), rfl, (iv_w ik_1 (by decide)), by rw [ht]; exact hP, va_K.moved hW.alike hK, hD⟩, hS.F ht⟩) hS.2.2 dX7_paints_9
set_option maxHeartbeats 4000000 in
set_option maxRecDepth 100000 in
theorem kX7_paints_7 (l : Launch) (dC : Nat → ClassId) (dI : Nat → Nat → Nat) (cI c2 cZ : ClassId) (o1 : Nat) (o8 : Nat) (o9 : Nat) (o2 : Nat) (o4 : Nat) (fw3 : Nat → Int32) (fw5 : Nat → Int32) (v6 : Int32) (v7 : Int32) (fw10 : Nat → Int32) (v11 : Int32) (v12 : Int32) (a3 : Int32) (sz : Nat) (v6_h : Iv (-2147483648) 12 v6) (fw10_b : Bd 12 0 4095 fw10) (v11_h : Iv 0 12 v11) (a3_h : Iv 0 12 a3) : Met l yX7_paints wsX7_paints ({ frames := 6, cells := 0, slots := 0, locals := 144 }) (va_Pc [.ref o1, .ref o8, .int 6, .int a3] (wPre (dC, dI) [(cI, .int), (c2, .array .int), (cZ, .boolean)] ([(o8, .inr (4, [.ref o9, .int v11, .int v12])), (o1, .inr (7, [.ref o2, .ref o4, .int v6, .int v7])), (o4, .inl (cI, 12, .inl fw5)), (o9, .inl (cI, 12, .inl fw10)), (o2, .inl (cI, 12, .inl fw3))]) sz)) (va_Qi (fun (r : Int32) (u : (Nat → Int32) × (Nat → Int32)) => Iv 0 1 r) (fun u t => wPost (dC, dI) [(cI, .int), (c2, .array .int), (cZ, .boolean)] (va_A ([(o8, .inr (4, [.ref o9, .int v11, .int v12])), (o1, .inr (7, [.ref o2, .ref o4, .int v6, .int v7])), (o4, .inl (cI, 12, .inl fw5)), (o9, .inl (cI, 12, .inl fw10)), (o2, .inl (cI, 12, .inl fw3))]) sz) ([(o8, .inr (4, [.ref o9, .int v11, .int v12])), (o1, .inr (7, [.ref o2, .ref o4, .int v6, .int v7])), (o4, .inl (cI, 12, .inl u.1)), (o9, .inl (cI, 12, .inl fw10)), (o2, .inl (cI, 12, .inl u.2))]) t) (va_A ([(o8, .inr (4, [.ref o9, .int v11, .int v12])), (o1, .inr (7, [.ref o2, .ref o4, .int v6, .int v7])), (o4, .inl (cI, 12, .inl fw5)), (o9, .inl (cI, 12, .inl fw10)), (o2, .inl (cI, 12, .inl fw3))]) sz)) 0 0 (va_A ([(o8, .inr (4, [.ref o9, .int v11, .int v12])), (o1, .inr (7, [.ref o2, .ref o4, .int v6, .int v7])), (o4, .inl (cI, 12, .inl fw5)), (o9, .inl (cI, 12, .inl fw10)), (o2, .inl (cI, 12, .inl fw3))]) sz) := by
  refine Met.ofW (cc := cX7_paints) (maxL := 5) (ret := (some .boolean)) (by decide) rfl ?_
  intro p e s m args below meth c s₁ B hml hv
  obtain ⟨rfl, hsz, hP, hK, hD0, hN⟩ := hv
  have hx := B.exec
  have hb := B.bytes
  have hr := B.returns
  have hts := atoms_spec (ws := wsX7_paints) B.pre
  have hown : s.vm.findClass RX7 = some m.cls := findClass_of_methodNamed B.named
  have hlocks := B.notSynchronized
  subst hsz
  have hD := hD0.self (sz := s.heap.size)
  generalize hAe : va_A ([(o8, .inr (4, [.ref o9, .int v11, .int v12])), (o1, .inr (7, [.ref o2, .ref o4, .int v6, .int v7])), (o4, .inl (cI, 12, .inl fw5)), (o9, .inl (cI, 12, .inl fw10)), (o2, .inl (cI, 12, .inl fw3))]) s.heap.size = A at hD ⊢
  have hA : ∀ q : Nat, s.heap.size ≤ q → A q := fun q h => by rw [← hAe]; exact Or.inr h
  have hS : va_S A s.heap s.heap [] := va_S.rf
  have hP : va_P (dC, dI) vwCl ([(o8, .inr (4, [.ref o9, .int v11, .int v12])), (o1, .inr (7, [.ref o2, .ref o4, .int v6, .int v7])), (o4, .inl (cI, 12, .inl fw5)), (o9, .inl (cI, 12, .inl fw10)), (o2, .inl (cI, 12, .inl fw3))]) s.heap := hP
  have hl := lv_entry ([.ref o1, .ref o8, .int 6, .int a3]) (n := 5) (Nat.le_of_ble_eq_true rfl)
  rw [lg_entry_eq]
  generalize (lg_sl ([.ref o1, .ref o8, .int 6, .int a3]) ++ List.replicate (5 - (lg_sl ([.ref o1, .ref o8, .int 6, .int a3])).length) Slot.unset).toArray = ls at hl ⊢
  have hl : lv_has ls 5 [(0, .ref o1), (1, .ref o8), (2, .int 6), (3, .int a3)] := hl
  refine gen_Q (fun Q hQ => ?_)
  refine lv_iload_n hx hb dX7_paints_0 rfl (lv_at hl 2 rfl) ?_
  refine lv_aload_n hx hb dX7_paints_1 rfl (lv_at hl 1 rfl) ?_
  refine va_getN (D := (dC, dI)) (ci := 4) (v := .int v11) (C := RX4) (T := TX4) (N := 3) hx hb hts iw_X7_paints_X4 hown hK hP 0 rfl rfl 1 (by decide) (hN.use ns_8) (fun _ h9 => h9) rfl dX7_paints_2 ?_
  refine lv_icmp_lt (tgt := 10) hx hb dX7_paints_5 (by decide) (fun h1 => ?_) (fun h1 => ?_)
  ·
    have qh1 := lt_i h1
    have j2 : Iv 7 12 v11 := r_ltr qh1 ik_6 v11_h (by decide)
    refine lv_iconst (v := 0) hx hb dX7_paints_10 (by decide) ?_
    refine lv_istore (lv' := [(4, .int 0), (0, .ref o1), (1, .ref o8), (2, .int 6), (3, .int a3)]) hx hb dX7_paints_11 hl (by decide) rfl (fun ls hl => ?_)
    have L1 : ∀ (N : Nat) (x250 : Int32) (f251 : Nat → Int32) (f252 : Nat → Int32) (H : Heap) (locs : List Loc) (ls : Array Slot), (12 - x250.toInt).toNat < N → Iv 0 12 x250 → va_P (dC, dI) vwCl ([(o8, .inr (4, [.ref o9, .int v11, .int v12])), (o1, .inr (7, [.ref o2, .ref o4, .int v6, .int v7])), (o4, .inl (cI, 12, .inl f252)), (o9, .inl (cI, 12, .inl fw10)), (o2, .inl (cI, 12, .inl f251))]) H → va_D A ([(o8, .inr (4, [.ref o9, .int v11, .int v12])), (o1, .inr (7, [.ref o2, .ref o4, .int v6, .int v7])), (o4, .inl (cI, 12, .inl f252)), (o9, .inl (cI, 12, .inl fw10)), (o2, .inl (cI, 12, .inl f251))]) → va_S A s.heap H locs → lv_has ls 5 [(4, .int x250), (0, .ref o1), (1, .ref o8), (2, .int 6), (3, .int a3)] → W p l e ({ frames := 6, cells := 0, slots := 0, locals := 144 }) s m ([.ref o1, .ref o8, .int 6, .int a3] : List Value).toArray below meth c H locs 0 0 Q (F0 m 13 ls []) := by
      intro N
      induction N with
      | zero =>
        intro x250 f251 f252 H locs ls hM
        exact absurd hM (Nat.not_lt_zero _)
      | succ N ih1 =>
        intro x250 f251 f252 H locs ls hM1 x250_h hP hD hS hl
        refine lv_iload hx hb dX7_paints_13 (lv_at hl 0 rfl) ?_
        refine lv_iload_n hx hb dX7_paints_15 rfl (lv_at hl 4 rfl) ?_
        refine lv_icmp_gt (tgt := 108) hx hb dX7_paints_16 (by decide) (fun h253 => ?_) (fun h253 => ?_)
        ·
          have qh253 := lt_i h253
          have j254 : Iv 0 11 a3 := r_ltl qh253 a3_h x250_h (by decide)
          have j255 : Iv 1 12 x250 := r_ltr qh253 a3_h x250_h (by decide)
          refine lv_iconst (v := 0) hx hb dX7_paints_108 (by decide) ?_
          rw [hQ]
          exact W.zret (v := 0) (ty := .boolean) hx hb hr rfl (fun t ht hW => ⟨⟨0, (f252, f251), rfl, (iv_w ik_0 (by decide)), by rw [ht]; exact hP, va_K.moved hW.alike hK, hD⟩, hS.F ht⟩) hS.2.2 dX7_paints_109
        ·
          have qh253 := nlt_i h253
          refine lv_iload hx hb dX7_paints_19 (lv_at hl 0 rfl) ?_
          refine lv_aload_n hx hb dX7_paints_21 rfl (lv_at hl 1 rfl) ?_
          refine va_get (D := (dC, dI)) (ci := 7) (v := .int v6) (C := RX7) (T := TX7) (N := 4) hx hb hts iw_X7_paints_X7 hown hK hP 1 rfl rfl 2 (by decide) (hts (.fieldLink RX7 18 "HolelessHouse$Paint" "most" "I") hm_X7_paints_1) (fun _ h9 => h9) rfl dX7_paints_22 ?_
          refine lv_icmp_ge (tgt := 108) hx hb dX7_paints_25 (by decide) (fun h256 => ?_) (fun h256 => ?_)
          ·
            have qh256 := le_i h256
            refine lv_iconst (v := 0) hx hb dX7_paints_108 (by decide) ?_
            rw [hQ]
            exact W.zret (v := 0) (ty := .boolean) hx hb hr rfl (fun t ht hW => ⟨⟨0, (f252, f251), rfl, (iv_w ik_0 (by decide)), by rw [ht]; exact hP, va_K.moved hW.alike hK, hD⟩, hS.F ht⟩) hS.2.2 dX7_paints_109
          ·
            have qh256 := nle_i h256
            have j257 : Iv 0 11 x250 := r_ltl qh256 x250_h v6_h (by decide)
            have j258 : Iv 1 12 v6 := r_ltr qh256 x250_h v6_h (by decide)
            refine lv_aload_n hx hb dX7_paints_28 rfl (lv_at hl 1 rfl) ?_
            refine va_get (D := (dC, dI)) (ci := 7) (v := .ref o4) (C := RX7) (T := TX7) (N := 4) hx hb hts iw_X7_paints_X7 hown hK hP 1 rfl rfl 1 (by decide) (hts (.fieldLink RX7 15 "HolelessHouse$Paint" "worn" "[I") hm_X7_paints_2) (fun _ h9 => h9) rfl dX7_paints_29 ?_
            refine lv_iload hx hb dX7_paints_32 (lv_at hl 0 rfl) ?_
            refine va_iald hx hb hK hP 2 0 rfl rfl (vin_iv j257 (by decide)) dX7_paints_34 (lv_topi (fun x259 x259_e => ?_))
            refine lv_aload_n hx hb dX7_paints_35 rfl (lv_at hl 2 rfl) ?_
            refine va_getN (D := (dC, dI)) (ci := 4) (v := .ref o9) (C := RX4) (T := TX4) (N := 3) hx hb hts iw_X7_paints_X4 hown hK hP 0 rfl rfl 0 (by decide) (hN.use ns_3) (fun _ h9 => h9) rfl dX7_paints_36 ?_
            refine lv_iload_n hx hb dX7_paints_39 rfl (lv_at hl 3 rfl) ?_
            refine va_iald hx hb hK hP 3 0 rfl rfl (vin_iv ik_6 (by decide)) dX7_paints_40 (lv_topi (fun x260 x260_e => ?_))
            have x260_h : Iv 0 4095 x260 := iv_e x260_e (bd_at fw10_b (vin_iv ik_6 (by decide)))
            refine lv_iand hx hb dX7_paints_41 (lv_topi (fun x261 x261_e => ?_))
            have x261_h : Iv 0 4095 x261 := iv_e x261_e (iv_andR _ x260_h (by decide))
            refine lv_if_ne (tgt := 102) hx hb dX7_paints_42 (by decide) (fun h262 => ?_) (fun h262 => ?_)
            ·
              have j263 : Iv 1 4095 x261 := r_nelo h262 x261_h ik_0 (by decide)
              obtain ⟨x264, x264_e⟩ : ∃ z : Int32, z = x250 + 1 := ⟨_, rfl⟩
              have x264_h : Iv 1 12 x264 := iv_e x264_e (iv_add j257 ik_1 (by decide))
              refine lv_iinc (v := x264) (lv' := [(4, .int x264), (0, .ref o1), (1, .ref o8), (2, .int 6), (3, .int a3)]) hx hb dX7_paints_102 hl (k := 0) rfl (incN (by decide +kernel) x264_e) (by decide) rfl (fun ls hl => ?_)
              refine lv_goto (tgt := 13) hx hb dX7_paints_105 (by decide) ?_
              exact ih1 x264 f251 f252 _ _ _ (ms_up x264_e j257 (by decide) hM1) (iv_w x264_h (by decide)) hP hD hS hl
            ·
              have j265 : Iv 0 0 x261 := r_eq h262 ik_0
              refine lv_aload_n hx hb dX7_paints_45 rfl (lv_at hl 1 rfl) ?_
              refine va_get (D := (dC, dI)) (ci := 7) (v := .ref o4) (C := RX7) (T := TX7) (N := 4) hx hb hts iw_X7_paints_X7 hown hK hP 1 rfl rfl 1 (by decide) (hts (.fieldLink RX7 15 "HolelessHouse$Paint" "worn" "[I") hm_X7_paints_2) (fun _ h9 => h9) rfl dX7_paints_46 ?_
              refine lv_iload hx hb dX7_paints_49 (lv_at hl 0 rfl) ?_
              refine lv_dup2_11 hx hb dX7_paints_51 rfl rfl ?_
              refine va_iald hx hb hK hP 2 0 rfl rfl (vin_iv j257 (by decide)) dX7_paints_52 (lv_topi (fun x266 x266_e => ?_))
              refine lv_iconst (v := 1) hx hb dX7_paints_53 (by decide) ?_
              refine lv_iload_n hx hb dX7_paints_54 rfl (lv_at hl 3 rfl) ?_
              refine lv_ishl hx hb dX7_paints_55 (tk_i (v := 64) (by decide +kernel) ?_)
              refine lv_ior hx hb dX7_paints_56 (lv_topi (fun x267 x267_e => ?_))
              refine k_iast hx hb hK hP hD hS 2 0 rfl rfl (vin_iv j257 (by decide)) dX7_paints_57 (fun f268 H locs f268_e hP hD hS => ?_)
              have hP : va_P (dC, dI) vwCl ([(o8, .inr (4, [.ref o9, .int v11, .int v12])), (o1, .inr (7, [.ref o2, .ref o4, .int v6, .int v7])), (o4, .inl (cI, 12, .inl f268)), (o9, .inl (cI, 12, .inl fw10)), (o2, .inl (cI, 12, .inl f251))]) H := hP
              have hD : va_D A ([(o8, .inr (4, [.ref o9, .int v11, .int v12])), (o1, .inr (7, [.ref o2, .ref o4, .int v6, .int v7])), (o4, .inl (cI, 12, .inl f268)), (o9, .inl (cI, 12, .inl fw10)), (o2, .inl (cI, 12, .inl f251))]) := hD
              refine lv_aload_n hx hb dX7_paints_58 rfl (lv_at hl 1 rfl) ?_
              refine va_get (D := (dC, dI)) (ci := 7) (v := .ref o2) (C := RX7) (T := TX7) (N := 4) hx hb hts iw_X7_paints_X7 hown hK hP 1 rfl rfl 0 (by decide) (hts (.fieldLink RX7 9 "HolelessHouse$Paint" "hues" "[I") hm_X7_paints_3) (fun _ h9 => h9) rfl dX7_paints_59 ?_
              refine lv_iload_n hx hb dX7_paints_62 rfl (lv_at hl 3 rfl) ?_
              refine lv_iload hx hb dX7_paints_63 (lv_at hl 0 rfl) ?_
              refine k_iast hx hb hK hP hD hS 4 0 rfl rfl (vin_iv ik_6 (by decide)) dX7_paints_65 (fun f269 H locs f269_e hP hD hS => ?_)
              have hP : va_P (dC, dI) vwCl ([(o8, .inr (4, [.ref o9, .int v11, .int v12])), (o1, .inr (7, [.ref o2, .ref o4, .int v6, .int v7])), (o4, .inl (cI, 12, .inl f268)), (o9, .inl (cI, 12, .inl fw10)), (o2, .inl (cI, 12, .inl f269))]) H := hP
              have hD : va_D A ([(o8, .inr (4, [.ref o9, .int v11, .int v12])), (o1, .inr (7, [.ref o2, .ref o4, .int v6, .int v7])), (o4, .inl (cI, 12, .inl f268)), (o9, .inl (cI, 12, .inl fw10)), (o2, .inl (cI, 12, .inl f269))]) := hD
              refine lv_aload_n hx hb dX7_paints_66 rfl (lv_at hl 1 rfl) ?_
              refine lv_aload_n hx hb dX7_paints_67 rfl (lv_at hl 2 rfl) ?_
              refine lv_iload_n hx hb dX7_paints_68 rfl (lv_at hl 3 rfl) ?_
              refine lv_iconst (v := 1) hx hb dX7_paints_69 (by decide) ?_
              refine lv_iadd hx hb dX7_paints_70 (tk_i (v := 7) (by decide +kernel) ?_)
              refine lv_iload_n hx hb dX7_paints_71 rfl (lv_at hl 4 rfl) ?_
              refine lv_iload hx hb dX7_paints_72 (lv_at hl 0 rfl) ?_
              refine lv_iconst (v := 1) hx hb dX7_paints_74 (by decide) ?_
              refine lv_iadd hx hb dX7_paints_75 (lv_topi (fun x270 x270_e => ?_))
              have x270_h : Iv 1 12 x270 := iv_e x270_e (iv_add j257 ik_1 (by decide))
              refine va_mmax hx hb (hml.trans hl.1.symm) hown (hts (.methodLink RX7 46 Lib.Math.max.name) hm_X7_paints_4) (hts (.static Lib.Math.max.name) hm_X7_paints_5) (hts (.initialized "java/lang/Math") hm_X7_paints_6) (hts (.code Lib.Math.max.name Lib.Math.max.code 2 (some .int)) hm_X7_paints_7) (Nat.le_of_ble_eq_true rfl) (Nat.le_of_ble_eq_true rfl) (Nat.le_of_ble_eq_true rfl) (Nat.le_of_ble_eq_true rfl) dX7_paints_76 (lv_topi (fun x271 x271_e => ?_))
              have x271_h : Iv 0 12 x271 := iv_e x271_e (iv_max a3_h x270_h (by decide))
              refine kc_i (D := (dC, dI)) (S := (Nat → Int32) × (Nat → Int32)) (wc := [(o8, .inr (4, [.ref o9, .int v11, .int v12])), (o1, .inr (7, [.ref o2, .ref o4, .int v6, .int v7])), (o4, .inl (cI, 12, .inl f268)), (o9, .inl (cI, 12, .inl fw10)), (o2, .inl (cI, 12, .inl f269))]) (wr := []) (w1 := fun u => [(o8, .inr (4, [.ref o9, .int v11, .int v12])), (o1, .inr (7, [.ref o2, .ref o4, .int v6, .int v7])), (o4, .inl (cI, 12, .inl u.1)), (o9, .inl (cI, 12, .inl fw10)), (o2, .inl (cI, 12, .inl u.2))]) (wn := fun u => [(o8, .inr (4, [.ref o9, .int v11, .int v12])), (o1, .inr (7, [.ref o2, .ref o4, .int v6, .int v7])), (o4, .inl (cI, 12, .inl u.1)), (o9, .inl (cI, 12, .inl fw10)), (o2, .inl (cI, 12, .inl u.2))]) (fun hPc hDc => va_runS (As := [.ref o1, .ref o8, .int 7, .int x271]) (rest := []) ⟨hx, hb, hml, hown, hts⟩ (kX7_paints_6 l dC dI cI c2 cZ o1 o8 o9 o2 o4 f269 f268 v6 v7 fw10 v11 v12 x271 H.size (iv_w j258 (by decide)) fw10_b (iv_w j2 (by decide)) x271_h) (va_cwS 4 hts gX7_paints_X7_paints rfl rfl rfl (by decide +kernel) ⟨Nat.le_of_ble_eq_true rfl, Nat.le_of_ble_eq_true rfl⟩) (pre_S hPc hK hDc hN) rfl rfl hl.1 rfl (lv_room (Nat.le_of_ble_eq_true rfl)) dX7_paints_79 ⟨Nat.le_of_ble_eq_true rfl, Nat.le_of_ble_eq_true rfl⟩) hP hD hS hA [0, 1, 2, 3, 4] [] [0, 1, 2, 3, 4] rfl rfl (by decide +kernel) (by decide +kernel) (by decide +kernel) (by decide +kernel) (fun _ => rfl) (fun x274 u H locs hq hP hD hS => ?_)
              obtain ⟨f272, f273⟩ := u
              have x274_h := hq
              have hP : va_P (dC, dI) vwCl ([(o8, .inr (4, [.ref o9, .int v11, .int v12])), (o1, .inr (7, [.ref o2, .ref o4, .int v6, .int v7])), (o4, .inl (cI, 12, .inl f272)), (o9, .inl (cI, 12, .inl fw10)), (o2, .inl (cI, 12, .inl f273))]) H := hP
              have hD : va_D A ([(o8, .inr (4, [.ref o9, .int v11, .int v12])), (o1, .inr (7, [.ref o2, .ref o4, .int v6, .int v7])), (o4, .inl (cI, 12, .inl f272)), (o9, .inl (cI, 12, .inl fw10)), (o2, .inl (cI, 12, .inl f273))]) := hD
              refine lv_if_eq (tgt := 87) hx hb dX7_paints_82 (by decide) (fun h275 => ?_) (fun h275 => ?_)
              ·
                have j276 : Iv 0 0 x274 := r_eq h275 ik_0
                refine lv_aload_n hx hb dX7_paints_87 rfl (lv_at hl 1 rfl) ?_
                refine va_get (D := (dC, dI)) (ci := 7) (v := .ref o4) (C := RX7) (T := TX7) (N := 4) hx hb hts iw_X7_paints_X7 hown hK hP 1 rfl rfl 1 (by decide) (hts (.fieldLink RX7 15 "HolelessHouse$Paint" "worn" "[I") hm_X7_paints_2) (fun _ h9 => h9) rfl dX7_paints_88 ?_
                refine lv_iload hx hb dX7_paints_91 (lv_at hl 0 rfl) ?_
                refine lv_dup2_11 hx hb dX7_paints_93 rfl rfl ?_
                refine va_iald hx hb hK hP 2 0 rfl rfl (vin_iv j257 (by decide)) dX7_paints_94 (lv_topi (fun x277 x277_e => ?_))
                refine lv_iconst (v := 1) hx hb dX7_paints_95 (by decide) ?_
                refine lv_iload_n hx hb dX7_paints_96 rfl (lv_at hl 3 rfl) ?_
                refine lv_ishl hx hb dX7_paints_97 (tk_i (v := 64) (by decide +kernel) ?_)
                refine lv_iconst (v := (-1)) hx hb dX7_paints_98 (by decide) ?_
                refine lv_ixor hx hb dX7_paints_99 (tk_i (v := (-65)) (by decide +kernel) ?_)
                refine lv_iand hx hb dX7_paints_100 (lv_topi (fun x278 x278_e => ?_))
                refine k_iast hx hb hK hP hD hS 2 0 rfl rfl (vin_iv j257 (by decide)) dX7_paints_101 (fun f279 H locs f279_e hP hD hS => ?_)
                have hP : va_P (dC, dI) vwCl ([(o8, .inr (4, [.ref o9, .int v11, .int v12])), (o1, .inr (7, [.ref o2, .ref o4, .int v6, .int v7])), (o4, .inl (cI, 12, .inl f279)), (o9, .inl (cI, 12, .inl fw10)), (o2, .inl (cI, 12, .inl f273))]) H := hP
                have hD : va_D A ([(o8, .inr (4, [.ref o9, .int v11, .int v12])), (o1, .inr (7, [.ref o2, .ref o4, .int v6, .int v7])), (o4, .inl (cI, 12, .inl f279)), (o9, .inl (cI, 12, .inl fw10)), (o2, .inl (cI, 12, .inl f273))]) := hD
                obtain ⟨x280, x280_e⟩ : ∃ z : Int32, z = x250 + 1 := ⟨_, rfl⟩
                have x280_h : Iv 1 12 x280 := iv_e x280_e (iv_add j257 ik_1 (by decide))
                refine lv_iinc (v := x280) (lv' := [(4, .int x280), (0, .ref o1), (1, .ref o8), (2, .int 6), (3, .int a3)]) hx hb dX7_paints_102 hl (k := 0) rfl (incN (by decide +kernel) x280_e) (by decide) rfl (fun ls hl => ?_)
                refine lv_goto (tgt := 13) hx hb dX7_paints_105 (by decide) ?_
                exact ih1 x280 f273 f279 _ _ _ (ms_up x280_e j257 (by decide) hM1) (iv_w x280_h (by decide)) hP hD hS hl
              ·
                have j281 : Iv 1 1 x274 := r_nelo h275 x274_h ik_0 (by decide)
                refine lv_iconst (v := 1) hx hb dX7_paints_85 (by decide) ?_
                rw [hQ]
                exact W.zret (v := 1) (ty := .boolean) hx hb hr rfl (fun t ht hW => ⟨⟨1, (f272, f273), rfl, (iv_w ik_1 (by decide)), by rw [ht]; exact hP, va_K.moved hW.alike hK, hD⟩, hS.F ht⟩) hS.2.2 dX7_paints_86
    exact L1 _ 0 fw3 fw5 _ _ _ (Nat.lt_succ_self _) (iv_w ik_0 (by decide)) hP hD hS hl
  ·
    have qh1 := nlt_i h1
    have j282 : Iv 0 6 v11 := r_lel qh1 v11_h ik_6 (by decide)
    refine lv_iconst (v := 1) hx hb dX7_paints_8 (by decide) ?_
    rw [hQ]
    exact W.zret (v := 1) (ty := .boolean) hx hb hr rfl (fun t ht hW => ⟨⟨1, (fw5, fw3), rfl, (iv_w ik_1 (by decide)), by rw [ht]; exact hP, va_K.moved hW.alike hK, hD⟩, hS.F ht⟩) hS.2.2 dX7_paints_9
set_option maxHeartbeats 4000000 in
set_option maxRecDepth 100000 in
theorem kX7_paints_8 (l : Launch) (dC : Nat → ClassId) (dI : Nat → Nat → Nat) (cI c2 cZ : ClassId) (o1 : Nat) (o8 : Nat) (o9 : Nat) (o2 : Nat) (o4 : Nat) (fw3 : Nat → Int32) (fw5 : Nat → Int32) (v6 : Int32) (v7 : Int32) (fw10 : Nat → Int32) (v11 : Int32) (v12 : Int32) (a3 : Int32) (sz : Nat) (v6_h : Iv (-2147483648) 12 v6) (fw10_b : Bd 12 0 4095 fw10) (v11_h : Iv 0 12 v11) (a3_h : Iv 0 12 a3) : Met l yX7_paints wsX7_paints ({ frames := 7, cells := 0, slots := 0, locals := 168 }) (va_Pc [.ref o1, .ref o8, .int 5, .int a3] (wPre (dC, dI) [(cI, .int), (c2, .array .int), (cZ, .boolean)] ([(o8, .inr (4, [.ref o9, .int v11, .int v12])), (o1, .inr (7, [.ref o2, .ref o4, .int v6, .int v7])), (o4, .inl (cI, 12, .inl fw5)), (o9, .inl (cI, 12, .inl fw10)), (o2, .inl (cI, 12, .inl fw3))]) sz)) (va_Qi (fun (r : Int32) (u : (Nat → Int32) × (Nat → Int32)) => Iv 0 1 r) (fun u t => wPost (dC, dI) [(cI, .int), (c2, .array .int), (cZ, .boolean)] (va_A ([(o8, .inr (4, [.ref o9, .int v11, .int v12])), (o1, .inr (7, [.ref o2, .ref o4, .int v6, .int v7])), (o4, .inl (cI, 12, .inl fw5)), (o9, .inl (cI, 12, .inl fw10)), (o2, .inl (cI, 12, .inl fw3))]) sz) ([(o8, .inr (4, [.ref o9, .int v11, .int v12])), (o1, .inr (7, [.ref o2, .ref o4, .int v6, .int v7])), (o4, .inl (cI, 12, .inl u.1)), (o9, .inl (cI, 12, .inl fw10)), (o2, .inl (cI, 12, .inl u.2))]) t) (va_A ([(o8, .inr (4, [.ref o9, .int v11, .int v12])), (o1, .inr (7, [.ref o2, .ref o4, .int v6, .int v7])), (o4, .inl (cI, 12, .inl fw5)), (o9, .inl (cI, 12, .inl fw10)), (o2, .inl (cI, 12, .inl fw3))]) sz)) 0 0 (va_A ([(o8, .inr (4, [.ref o9, .int v11, .int v12])), (o1, .inr (7, [.ref o2, .ref o4, .int v6, .int v7])), (o4, .inl (cI, 12, .inl fw5)), (o9, .inl (cI, 12, .inl fw10)), (o2, .inl (cI, 12, .inl fw3))]) sz) := by
  refine Met.ofW (cc := cX7_paints) (maxL := 5) (ret := (some .boolean)) (by decide) rfl ?_
  intro p e s m args below meth c s₁ B hml hv
  obtain ⟨rfl, hsz, hP, hK, hD0, hN⟩ := hv
  have hx := B.exec
  have hb := B.bytes
  have hr := B.returns
  have hts := atoms_spec (ws := wsX7_paints) B.pre
  have hown : s.vm.findClass RX7 = some m.cls := findClass_of_methodNamed B.named
  have hlocks := B.notSynchronized
  subst hsz
  have hD := hD0.self (sz := s.heap.size)
  generalize hAe : va_A ([(o8, .inr (4, [.ref o9, .int v11, .int v12])), (o1, .inr (7, [.ref o2, .ref o4, .int v6, .int v7])), (o4, .inl (cI, 12, .inl fw5)), (o9, .inl (cI, 12, .inl fw10)), (o2, .inl (cI, 12, .inl fw3))]) s.heap.size = A at hD ⊢
  have hA : ∀ q : Nat, s.heap.size ≤ q → A q := fun q h => by rw [← hAe]; exact Or.inr h
  have hS : va_S A s.heap s.heap [] := va_S.rf
  have hP : va_P (dC, dI) vwCl ([(o8, .inr (4, [.ref o9, .int v11, .int v12])), (o1, .inr (7, [.ref o2, .ref o4, .int v6, .int v7])), (o4, .inl (cI, 12, .inl fw5)), (o9, .inl (cI, 12, .inl fw10)), (o2, .inl (cI, 12, .inl fw3))]) s.heap := hP
  have hl := lv_entry ([.ref o1, .ref o8, .int 5, .int a3]) (n := 5) (Nat.le_of_ble_eq_true rfl)
  rw [lg_entry_eq]
  generalize (lg_sl ([.ref o1, .ref o8, .int 5, .int a3]) ++ List.replicate (5 - (lg_sl ([.ref o1, .ref o8, .int 5, .int a3])).length) Slot.unset).toArray = ls at hl ⊢
  have hl : lv_has ls 5 [(0, .ref o1), (1, .ref o8), (2, .int 5), (3, .int a3)] := hl
  refine gen_Q (fun Q hQ => ?_)
  refine lv_iload_n hx hb dX7_paints_0 rfl (lv_at hl 2 rfl) ?_
  refine lv_aload_n hx hb dX7_paints_1 rfl (lv_at hl 1 rfl) ?_
  refine va_getN (D := (dC, dI)) (ci := 4) (v := .int v11) (C := RX4) (T := TX4) (N := 3) hx hb hts iw_X7_paints_X4 hown hK hP 0 rfl rfl 1 (by decide) (hN.use ns_8) (fun _ h9 => h9) rfl dX7_paints_2 ?_
  refine lv_icmp_lt (tgt := 10) hx hb dX7_paints_5 (by decide) (fun h1 => ?_) (fun h1 => ?_)
  ·
    have qh1 := lt_i h1
    have j2 : Iv 6 12 v11 := r_ltr qh1 ik_5 v11_h (by decide)
    refine lv_iconst (v := 0) hx hb dX7_paints_10 (by decide) ?_
    refine lv_istore (lv' := [(4, .int 0), (0, .ref o1), (1, .ref o8), (2, .int 5), (3, .int a3)]) hx hb dX7_paints_11 hl (by decide) rfl (fun ls hl => ?_)
    have L1 : ∀ (N : Nat) (x250 : Int32) (f251 : Nat → Int32) (f252 : Nat → Int32) (H : Heap) (locs : List Loc) (ls : Array Slot), (12 - x250.toInt).toNat < N → Iv 0 12 x250 → va_P (dC, dI) vwCl ([(o8, .inr (4, [.ref o9, .int v11, .int v12])), (o1, .inr (7, [.ref o2, .ref o4, .int v6, .int v7])), (o4, .inl (cI, 12, .inl f252)), (o9, .inl (cI, 12, .inl fw10)), (o2, .inl (cI, 12, .inl f251))]) H → va_D A ([(o8, .inr (4, [.ref o9, .int v11, .int v12])), (o1, .inr (7, [.ref o2, .ref o4, .int v6, .int v7])), (o4, .inl (cI, 12, .inl f252)), (o9, .inl (cI, 12, .inl fw10)), (o2, .inl (cI, 12, .inl f251))]) → va_S A s.heap H locs → lv_has ls 5 [(4, .int x250), (0, .ref o1), (1, .ref o8), (2, .int 5), (3, .int a3)] → W p l e ({ frames := 7, cells := 0, slots := 0, locals := 168 }) s m ([.ref o1, .ref o8, .int 5, .int a3] : List Value).toArray below meth c H locs 0 0 Q (F0 m 13 ls []) := by
      intro N
      induction N with
      | zero =>
        intro x250 f251 f252 H locs ls hM
        exact absurd hM (Nat.not_lt_zero _)
      | succ N ih1 =>
        intro x250 f251 f252 H locs ls hM1 x250_h hP hD hS hl
        refine lv_iload hx hb dX7_paints_13 (lv_at hl 0 rfl) ?_
        refine lv_iload_n hx hb dX7_paints_15 rfl (lv_at hl 4 rfl) ?_
        refine lv_icmp_gt (tgt := 108) hx hb dX7_paints_16 (by decide) (fun h253 => ?_) (fun h253 => ?_)
        ·
          have qh253 := lt_i h253
          have j254 : Iv 0 11 a3 := r_ltl qh253 a3_h x250_h (by decide)
          have j255 : Iv 1 12 x250 := r_ltr qh253 a3_h x250_h (by decide)
          refine lv_iconst (v := 0) hx hb dX7_paints_108 (by decide) ?_
          rw [hQ]
          exact W.zret (v := 0) (ty := .boolean) hx hb hr rfl (fun t ht hW => ⟨⟨0, (f252, f251), rfl, (iv_w ik_0 (by decide)), by rw [ht]; exact hP, va_K.moved hW.alike hK, hD⟩, hS.F ht⟩) hS.2.2 dX7_paints_109
        ·
          have qh253 := nlt_i h253
          refine lv_iload hx hb dX7_paints_19 (lv_at hl 0 rfl) ?_
          refine lv_aload_n hx hb dX7_paints_21 rfl (lv_at hl 1 rfl) ?_
          refine va_get (D := (dC, dI)) (ci := 7) (v := .int v6) (C := RX7) (T := TX7) (N := 4) hx hb hts iw_X7_paints_X7 hown hK hP 1 rfl rfl 2 (by decide) (hts (.fieldLink RX7 18 "HolelessHouse$Paint" "most" "I") hm_X7_paints_1) (fun _ h9 => h9) rfl dX7_paints_22 ?_
          refine lv_icmp_ge (tgt := 108) hx hb dX7_paints_25 (by decide) (fun h256 => ?_) (fun h256 => ?_)
          ·
            have qh256 := le_i h256
            refine lv_iconst (v := 0) hx hb dX7_paints_108 (by decide) ?_
            rw [hQ]
            exact W.zret (v := 0) (ty := .boolean) hx hb hr rfl (fun t ht hW => ⟨⟨0, (f252, f251), rfl, (iv_w ik_0 (by decide)), by rw [ht]; exact hP, va_K.moved hW.alike hK, hD⟩, hS.F ht⟩) hS.2.2 dX7_paints_109
          ·
            have qh256 := nle_i h256
            have j257 : Iv 0 11 x250 := r_ltl qh256 x250_h v6_h (by decide)
            have j258 : Iv 1 12 v6 := r_ltr qh256 x250_h v6_h (by decide)
            refine lv_aload_n hx hb dX7_paints_28 rfl (lv_at hl 1 rfl) ?_
            refine va_get (D := (dC, dI)) (ci := 7) (v := .ref o4) (C := RX7) (T := TX7) (N := 4) hx hb hts iw_X7_paints_X7 hown hK hP 1 rfl rfl 1 (by decide) (hts (.fieldLink RX7 15 "HolelessHouse$Paint" "worn" "[I") hm_X7_paints_2) (fun _ h9 => h9) rfl dX7_paints_29 ?_
            refine lv_iload hx hb dX7_paints_32 (lv_at hl 0 rfl) ?_
            refine va_iald hx hb hK hP 2 0 rfl rfl (vin_iv j257 (by decide)) dX7_paints_34 (lv_topi (fun x259 x259_e => ?_))
            refine lv_aload_n hx hb dX7_paints_35 rfl (lv_at hl 2 rfl) ?_
            refine va_getN (D := (dC, dI)) (ci := 4) (v := .ref o9) (C := RX4) (T := TX4) (N := 3) hx hb hts iw_X7_paints_X4 hown hK hP 0 rfl rfl 0 (by decide) (hN.use ns_3) (fun _ h9 => h9) rfl dX7_paints_36 ?_
            refine lv_iload_n hx hb dX7_paints_39 rfl (lv_at hl 3 rfl) ?_
            refine va_iald hx hb hK hP 3 0 rfl rfl (vin_iv ik_5 (by decide)) dX7_paints_40 (lv_topi (fun x260 x260_e => ?_))
            have x260_h : Iv 0 4095 x260 := iv_e x260_e (bd_at fw10_b (vin_iv ik_5 (by decide)))
            refine lv_iand hx hb dX7_paints_41 (lv_topi (fun x261 x261_e => ?_))
            have x261_h : Iv 0 4095 x261 := iv_e x261_e (iv_andR _ x260_h (by decide))
            refine lv_if_ne (tgt := 102) hx hb dX7_paints_42 (by decide) (fun h262 => ?_) (fun h262 => ?_)
            ·
              have j263 : Iv 1 4095 x261 := r_nelo h262 x261_h ik_0 (by decide)
              obtain ⟨x264, x264_e⟩ : ∃ z : Int32, z = x250 + 1 := ⟨_, rfl⟩
              have x264_h : Iv 1 12 x264 := iv_e x264_e (iv_add j257 ik_1 (by decide))
              refine lv_iinc (v := x264) (lv' := [(4, .int x264), (0, .ref o1), (1, .ref o8), (2, .int 5), (3, .int a3)]) hx hb dX7_paints_102 hl (k := 0) rfl (incN (by decide +kernel) x264_e) (by decide) rfl (fun ls hl => ?_)
              refine lv_goto (tgt := 13) hx hb dX7_paints_105 (by decide) ?_
              exact ih1 x264 f251 f252 _ _ _ (ms_up x264_e j257 (by decide) hM1) (iv_w x264_h (by decide)) hP hD hS hl
            ·
              have j265 : Iv 0 0 x261 := r_eq h262 ik_0
              refine lv_aload_n hx hb dX7_paints_45 rfl (lv_at hl 1 rfl) ?_
              refine va_get (D := (dC, dI)) (ci := 7) (v := .ref o4) (C := RX7) (T := TX7) (N := 4) hx hb hts iw_X7_paints_X7 hown hK hP 1 rfl rfl 1 (by decide) (hts (.fieldLink RX7 15 "HolelessHouse$Paint" "worn" "[I") hm_X7_paints_2) (fun _ h9 => h9) rfl dX7_paints_46 ?_
              refine lv_iload hx hb dX7_paints_49 (lv_at hl 0 rfl) ?_
              refine lv_dup2_11 hx hb dX7_paints_51 rfl rfl ?_
              refine va_iald hx hb hK hP 2 0 rfl rfl (vin_iv j257 (by decide)) dX7_paints_52 (lv_topi (fun x266 x266_e => ?_))
              refine lv_iconst (v := 1) hx hb dX7_paints_53 (by decide) ?_
              refine lv_iload_n hx hb dX7_paints_54 rfl (lv_at hl 3 rfl) ?_
              refine lv_ishl hx hb dX7_paints_55 (tk_i (v := 32) (by decide +kernel) ?_)
              refine lv_ior hx hb dX7_paints_56 (lv_topi (fun x267 x267_e => ?_))
              refine k_iast hx hb hK hP hD hS 2 0 rfl rfl (vin_iv j257 (by decide)) dX7_paints_57 (fun f268 H locs f268_e hP hD hS => ?_)
              have hP : va_P (dC, dI) vwCl ([(o8, .inr (4, [.ref o9, .int v11, .int v12])), (o1, .inr (7, [.ref o2, .ref o4, .int v6, .int v7])), (o4, .inl (cI, 12, .inl f268)), (o9, .inl (cI, 12, .inl fw10)), (o2, .inl (cI, 12, .inl f251))]) H := hP
              have hD : va_D A ([(o8, .inr (4, [.ref o9, .int v11, .int v12])), (o1, .inr (7, [.ref o2, .ref o4, .int v6, .int v7])), (o4, .inl (cI, 12, .inl f268)), (o9, .inl (cI, 12, .inl fw10)), (o2, .inl (cI, 12, .inl f251))]) := hD
              refine lv_aload_n hx hb dX7_paints_58 rfl (lv_at hl 1 rfl) ?_
              refine va_get (D := (dC, dI)) (ci := 7) (v := .ref o2) (C := RX7) (T := TX7) (N := 4) hx hb hts iw_X7_paints_X7 hown hK hP 1 rfl rfl 0 (by decide) (hts (.fieldLink RX7 9 "HolelessHouse$Paint" "hues" "[I") hm_X7_paints_3) (fun _ h9 => h9) rfl dX7_paints_59 ?_
              refine lv_iload_n hx hb dX7_paints_62 rfl (lv_at hl 3 rfl) ?_
              refine lv_iload hx hb dX7_paints_63 (lv_at hl 0 rfl) ?_
              refine k_iast hx hb hK hP hD hS 4 0 rfl rfl (vin_iv ik_5 (by decide)) dX7_paints_65 (fun f269 H locs f269_e hP hD hS => ?_)
              have hP : va_P (dC, dI) vwCl ([(o8, .inr (4, [.ref o9, .int v11, .int v12])), (o1, .inr (7, [.ref o2, .ref o4, .int v6, .int v7])), (o4, .inl (cI, 12, .inl f268)), (o9, .inl (cI, 12, .inl fw10)), (o2, .inl (cI, 12, .inl f269))]) H := hP
              have hD : va_D A ([(o8, .inr (4, [.ref o9, .int v11, .int v12])), (o1, .inr (7, [.ref o2, .ref o4, .int v6, .int v7])), (o4, .inl (cI, 12, .inl f268)), (o9, .inl (cI, 12, .inl fw10)), (o2, .inl (cI, 12, .inl f269))]) := hD
              refine lv_aload_n hx hb dX7_paints_66 rfl (lv_at hl 1 rfl) ?_
              refine lv_aload_n hx hb dX7_paints_67 rfl (lv_at hl 2 rfl) ?_
              refine lv_iload_n hx hb dX7_paints_68 rfl (lv_at hl 3 rfl) ?_
              refine lv_iconst (v := 1) hx hb dX7_paints_69 (by decide) ?_
              refine lv_iadd hx hb dX7_paints_70 (tk_i (v := 6) (by decide +kernel) ?_)
              refine lv_iload_n hx hb dX7_paints_71 rfl (lv_at hl 4 rfl) ?_
              refine lv_iload hx hb dX7_paints_72 (lv_at hl 0 rfl) ?_
              refine lv_iconst (v := 1) hx hb dX7_paints_74 (by decide) ?_
              refine lv_iadd hx hb dX7_paints_75 (lv_topi (fun x270 x270_e => ?_))
              have x270_h : Iv 1 12 x270 := iv_e x270_e (iv_add j257 ik_1 (by decide))
              refine va_mmax hx hb (hml.trans hl.1.symm) hown (hts (.methodLink RX7 46 Lib.Math.max.name) hm_X7_paints_4) (hts (.static Lib.Math.max.name) hm_X7_paints_5) (hts (.initialized "java/lang/Math") hm_X7_paints_6) (hts (.code Lib.Math.max.name Lib.Math.max.code 2 (some .int)) hm_X7_paints_7) (Nat.le_of_ble_eq_true rfl) (Nat.le_of_ble_eq_true rfl) (Nat.le_of_ble_eq_true rfl) (Nat.le_of_ble_eq_true rfl) dX7_paints_76 (lv_topi (fun x271 x271_e => ?_))
              have x271_h : Iv 0 12 x271 := iv_e x271_e (iv_max a3_h x270_h (by decide))
              refine kc_i (D := (dC, dI)) (S := (Nat → Int32) × (Nat → Int32)) (wc := [(o8, .inr (4, [.ref o9, .int v11, .int v12])), (o1, .inr (7, [.ref o2, .ref o4, .int v6, .int v7])), (o4, .inl (cI, 12, .inl f268)), (o9, .inl (cI, 12, .inl fw10)), (o2, .inl (cI, 12, .inl f269))]) (wr := []) (w1 := fun u => [(o8, .inr (4, [.ref o9, .int v11, .int v12])), (o1, .inr (7, [.ref o2, .ref o4, .int v6, .int v7])), (o4, .inl (cI, 12, .inl u.1)), (o9, .inl (cI, 12, .inl fw10)), (o2, .inl (cI, 12, .inl u.2))]) (wn := fun u => [(o8, .inr (4, [.ref o9, .int v11, .int v12])), (o1, .inr (7, [.ref o2, .ref o4, .int v6, .int v7])), (o4, .inl (cI, 12, .inl u.1)), (o9, .inl (cI, 12, .inl fw10)), (o2, .inl (cI, 12, .inl u.2))]) (fun hPc hDc => va_runS (As := [.ref o1, .ref o8, .int 6, .int x271]) (rest := []) ⟨hx, hb, hml, hown, hts⟩ (kX7_paints_7 l dC dI cI c2 cZ o1 o8 o9 o2 o4 f269 f268 v6 v7 fw10 v11 v12 x271 H.size (iv_w j258 (by decide)) fw10_b (iv_w j2 (by decide)) x271_h) (va_cwS 4 hts gX7_paints_X7_paints rfl rfl rfl (by decide +kernel) ⟨Nat.le_of_ble_eq_true rfl, Nat.le_of_ble_eq_true rfl⟩) (pre_S hPc hK hDc hN) rfl rfl hl.1 rfl (lv_room (Nat.le_of_ble_eq_true rfl)) dX7_paints_79 ⟨Nat.le_of_ble_eq_true rfl, Nat.le_of_ble_eq_true rfl⟩) hP hD hS hA [0, 1, 2, 3, 4] [] [0, 1, 2, 3, 4] rfl rfl (by decide +kernel) (by decide +kernel) (by decide +kernel) (by decide +kernel) (fun _ => rfl) (fun x274 u H locs hq hP hD hS => ?_)
              obtain ⟨f272, f273⟩ := u
              have x274_h := hq
              have hP : va_P (dC, dI) vwCl ([(o8, .inr (4, [.ref o9, .int v11, .int v12])), (o1, .inr (7, [.ref o2, .ref o4, .int v6, .int v7])), (o4, .inl (cI, 12, .inl f272)), (o9, .inl (cI, 12, .inl fw10)), (o2, .inl (cI, 12, .inl f273))]) H := hP
              have hD : va_D A ([(o8, .inr (4, [.ref o9, .int v11, .int v12])), (o1, .inr (7, [.ref o2, .ref o4, .int v6, .int v7])), (o4, .inl (cI, 12, .inl f272)), (o9, .inl (cI, 12, .inl fw10)), (o2, .inl (cI, 12, .inl f273))]) := hD
              refine lv_if_eq (tgt := 87) hx hb dX7_paints_82 (by decide) (fun h275 => ?_) (fun h275 => ?_)
              ·
                have j276 : Iv 0 0 x274 := r_eq h275 ik_0
                refine lv_aload_n hx hb dX7_paints_87 rfl (lv_at hl 1 rfl) ?_
                refine va_get (D := (dC, dI)) (ci := 7) (v := .ref o4) (C := RX7) (T := TX7) (N := 4) hx hb hts iw_X7_paints_X7 hown hK hP 1 rfl rfl 1 (by decide) (hts (.fieldLink RX7 15 "HolelessHouse$Paint" "worn" "[I") hm_X7_paints_2) (fun _ h9 => h9) rfl dX7_paints_88 ?_
                refine lv_iload hx hb dX7_paints_91 (lv_at hl 0 rfl) ?_
                refine lv_dup2_11 hx hb dX7_paints_93 rfl rfl ?_
                refine va_iald hx hb hK hP 2 0 rfl rfl (vin_iv j257 (by decide)) dX7_paints_94 (lv_topi (fun x277 x277_e => ?_))
                refine lv_iconst (v := 1) hx hb dX7_paints_95 (by decide) ?_
                refine lv_iload_n hx hb dX7_paints_96 rfl (lv_at hl 3 rfl) ?_
                refine lv_ishl hx hb dX7_paints_97 (tk_i (v := 32) (by decide +kernel) ?_)
                refine lv_iconst (v := (-1)) hx hb dX7_paints_98 (by decide) ?_
                refine lv_ixor hx hb dX7_paints_99 (tk_i (v := (-33)) (by decide +kernel) ?_)
                refine lv_iand hx hb dX7_paints_100 (lv_topi (fun x278 x278_e => ?_))
                refine k_iast hx hb hK hP hD hS 2 0 rfl rfl (vin_iv j257 (by decide)) dX7_paints_101 (fun f279 H locs f279_e hP hD hS => ?_)
                have hP : va_P (dC, dI) vwCl ([(o8, .inr (4, [.ref o9, .int v11, .int v12])), (o1, .inr (7, [.ref o2, .ref o4, .int v6, .int v7])), (o4, .inl (cI, 12, .inl f279)), (o9, .inl (cI, 12, .inl fw10)), (o2, .inl (cI, 12, .inl f273))]) H := hP
                have hD : va_D A ([(o8, .inr (4, [.ref o9, .int v11, .int v12])), (o1, .inr (7, [.ref o2, .ref o4, .int v6, .int v7])), (o4, .inl (cI, 12, .inl f279)), (o9, .inl (cI, 12, .inl fw10)), (o2, .inl (cI, 12, .inl f273))]) := hD
                obtain ⟨x280, x280_e⟩ : ∃ z : Int32, z = x250 + 1 := ⟨_, rfl⟩
                have x280_h : Iv 1 12 x280 := iv_e x280_e (iv_add j257 ik_1 (by decide))
                refine lv_iinc (v := x280) (lv' := [(4, .int x280), (0, .ref o1), (1, .ref o8), (2, .int 5), (3, .int a3)]) hx hb dX7_paints_102 hl (k := 0) rfl (incN (by decide +kernel) x280_e) (by decide) rfl (fun ls hl => ?_)
                refine lv_goto (tgt := 13) hx hb dX7_paints_105 (by decide) ?_
                exact ih1 x280 f273 f279 _ _ _ (ms_up x280_e j257 (by decide) hM1) (iv_w x280_h (by decide)) hP hD hS hl
              ·
                have j281 : Iv 1 1 x274 := r_nelo h275 x274_h ik_0 (by decide)
                refine lv_iconst (v := 1) hx hb dX7_paints_85 (by decide) ?_
                rw [hQ]
                exact W.zret (v := 1) (ty := .boolean) hx hb hr rfl (fun t ht hW => ⟨⟨1, (f272, f273), rfl, (iv_w ik_1 (by decide)), by rw [ht]; exact hP, va_K.moved hW.alike hK, hD⟩, hS.F ht⟩) hS.2.2 dX7_paints_86
    exact L1 _ 0 fw3 fw5 _ _ _ (Nat.lt_succ_self _) (iv_w ik_0 (by decide)) hP hD hS hl
  ·
    have qh1 := nlt_i h1
    have j282 : Iv 0 5 v11 := r_lel qh1 v11_h ik_5 (by decide)
    refine lv_iconst (v := 1) hx hb dX7_paints_8 (by decide) ?_
    rw [hQ]
    exact W.zret (v := 1) (ty := .boolean) hx hb hr rfl (fun t ht hW => ⟨⟨1, (fw5, fw3), rfl, (iv_w ik_1 (by decide)), by rw [ht]; exact hP, va_K.moved hW.alike hK, hD⟩, hS.F ht⟩) hS.2.2 dX7_paints_9
set_option maxHeartbeats 4000000 in
set_option maxRecDepth 100000 in
theorem kX7_paints_9 (l : Launch) (dC : Nat → ClassId) (dI : Nat → Nat → Nat) (cI c2 cZ : ClassId) (o1 : Nat) (o8 : Nat) (o9 : Nat) (o2 : Nat) (o4 : Nat) (fw3 : Nat → Int32) (fw5 : Nat → Int32) (v6 : Int32) (v7 : Int32) (fw10 : Nat → Int32) (v11 : Int32) (v12 : Int32) (a3 : Int32) (sz : Nat) (v6_h : Iv (-2147483648) 12 v6) (fw10_b : Bd 12 0 4095 fw10) (v11_h : Iv 0 12 v11) (a3_h : Iv 0 12 a3) : Met l yX7_paints wsX7_paints ({ frames := 8, cells := 0, slots := 0, locals := 192 }) (va_Pc [.ref o1, .ref o8, .int 4, .int a3] (wPre (dC, dI) [(cI, .int), (c2, .array .int), (cZ, .boolean)] ([(o8, .inr (4, [.ref o9, .int v11, .int v12])), (o1, .inr (7, [.ref o2, .ref o4, .int v6, .int v7])), (o4, .inl (cI, 12, .inl fw5)), (o9, .inl (cI, 12, .inl fw10)), (o2, .inl (cI, 12, .inl fw3))]) sz)) (va_Qi (fun (r : Int32) (u : (Nat → Int32) × (Nat → Int32)) => Iv 0 1 r) (fun u t => wPost (dC, dI) [(cI, .int), (c2, .array .int), (cZ, .boolean)] (va_A ([(o8, .inr (4, [.ref o9, .int v11, .int v12])), (o1, .inr (7, [.ref o2, .ref o4, .int v6, .int v7])), (o4, .inl (cI, 12, .inl fw5)), (o9, .inl (cI, 12, .inl fw10)), (o2, .inl (cI, 12, .inl fw3))]) sz) ([(o8, .inr (4, [.ref o9, .int v11, .int v12])), (o1, .inr (7, [.ref o2, .ref o4, .int v6, .int v7])), (o4, .inl (cI, 12, .inl u.1)), (o9, .inl (cI, 12, .inl fw10)), (o2, .inl (cI, 12, .inl u.2))]) t) (va_A ([(o8, .inr (4, [.ref o9, .int v11, .int v12])), (o1, .inr (7, [.ref o2, .ref o4, .int v6, .int v7])), (o4, .inl (cI, 12, .inl fw5)), (o9, .inl (cI, 12, .inl fw10)), (o2, .inl (cI, 12, .inl fw3))]) sz)) 0 0 (va_A ([(o8, .inr (4, [.ref o9, .int v11, .int v12])), (o1, .inr (7, [.ref o2, .ref o4, .int v6, .int v7])), (o4, .inl (cI, 12, .inl fw5)), (o9, .inl (cI, 12, .inl fw10)), (o2, .inl (cI, 12, .inl fw3))]) sz) := by
  refine Met.ofW (cc := cX7_paints) (maxL := 5) (ret := (some .boolean)) (by decide) rfl ?_
  intro p e s m args below meth c s₁ B hml hv
  obtain ⟨rfl, hsz, hP, hK, hD0, hN⟩ := hv
  have hx := B.exec
  have hb := B.bytes
  have hr := B.returns
  have hts := atoms_spec (ws := wsX7_paints) B.pre
  have hown : s.vm.findClass RX7 = some m.cls := findClass_of_methodNamed B.named
  have hlocks := B.notSynchronized
  subst hsz
  have hD := hD0.self (sz := s.heap.size)
  generalize hAe : va_A ([(o8, .inr (4, [.ref o9, .int v11, .int v12])), (o1, .inr (7, [.ref o2, .ref o4, .int v6, .int v7])), (o4, .inl (cI, 12, .inl fw5)), (o9, .inl (cI, 12, .inl fw10)), (o2, .inl (cI, 12, .inl fw3))]) s.heap.size = A at hD ⊢
  have hA : ∀ q : Nat, s.heap.size ≤ q → A q := fun q h => by rw [← hAe]; exact Or.inr h
  have hS : va_S A s.heap s.heap [] := va_S.rf
  have hP : va_P (dC, dI) vwCl ([(o8, .inr (4, [.ref o9, .int v11, .int v12])), (o1, .inr (7, [.ref o2, .ref o4, .int v6, .int v7])), (o4, .inl (cI, 12, .inl fw5)), (o9, .inl (cI, 12, .inl fw10)), (o2, .inl (cI, 12, .inl fw3))]) s.heap := hP
  have hl := lv_entry ([.ref o1, .ref o8, .int 4, .int a3]) (n := 5) (Nat.le_of_ble_eq_true rfl)
  rw [lg_entry_eq]
  generalize (lg_sl ([.ref o1, .ref o8, .int 4, .int a3]) ++ List.replicate (5 - (lg_sl ([.ref o1, .ref o8, .int 4, .int a3])).length) Slot.unset).toArray = ls at hl ⊢
  have hl : lv_has ls 5 [(0, .ref o1), (1, .ref o8), (2, .int 4), (3, .int a3)] := hl
  refine gen_Q (fun Q hQ => ?_)
  refine lv_iload_n hx hb dX7_paints_0 rfl (lv_at hl 2 rfl) ?_
  refine lv_aload_n hx hb dX7_paints_1 rfl (lv_at hl 1 rfl) ?_
  refine va_getN (D := (dC, dI)) (ci := 4) (v := .int v11) (C := RX4) (T := TX4) (N := 3) hx hb hts iw_X7_paints_X4 hown hK hP 0 rfl rfl 1 (by decide) (hN.use ns_8) (fun _ h9 => h9) rfl dX7_paints_2 ?_
  refine lv_icmp_lt (tgt := 10) hx hb dX7_paints_5 (by decide) (fun h1 => ?_) (fun h1 => ?_)
  ·
    have qh1 := lt_i h1
    have j2 : Iv 5 12 v11 := r_ltr qh1 ik_4 v11_h (by decide)
    refine lv_iconst (v := 0) hx hb dX7_paints_10 (by decide) ?_
    refine lv_istore (lv' := [(4, .int 0), (0, .ref o1), (1, .ref o8), (2, .int 4), (3, .int a3)]) hx hb dX7_paints_11 hl (by decide) rfl (fun ls hl => ?_)
    have L1 : ∀ (N : Nat) (x250 : Int32) (f251 : Nat → Int32) (f252 : Nat → Int32) (H : Heap) (locs : List Loc) (ls : Array Slot), (12 - x250.toInt).toNat < N → Iv 0 12 x250 → va_P (dC, dI) vwCl ([(o8, .inr (4, [.ref o9, .int v11, .int v12])), (o1, .inr (7, [.ref o2, .ref o4, .int v6, .int v7])), (o4, .inl (cI, 12, .inl f252)), (o9, .inl (cI, 12, .inl fw10)), (o2, .inl (cI, 12, .inl f251))]) H → va_D A ([(o8, .inr (4, [.ref o9, .int v11, .int v12])), (o1, .inr (7, [.ref o2, .ref o4, .int v6, .int v7])), (o4, .inl (cI, 12, .inl f252)), (o9, .inl (cI, 12, .inl fw10)), (o2, .inl (cI, 12, .inl f251))]) → va_S A s.heap H locs → lv_has ls 5 [(4, .int x250), (0, .ref o1), (1, .ref o8), (2, .int 4), (3, .int a3)] → W p l e ({ frames := 8, cells := 0, slots := 0, locals := 192 }) s m ([.ref o1, .ref o8, .int 4, .int a3] : List Value).toArray below meth c H locs 0 0 Q (F0 m 13 ls []) := by
      intro N
      induction N with
      | zero =>
        intro x250 f251 f252 H locs ls hM
        exact absurd hM (Nat.not_lt_zero _)
      | succ N ih1 =>
        intro x250 f251 f252 H locs ls hM1 x250_h hP hD hS hl
        refine lv_iload hx hb dX7_paints_13 (lv_at hl 0 rfl) ?_
        refine lv_iload_n hx hb dX7_paints_15 rfl (lv_at hl 4 rfl) ?_
        refine lv_icmp_gt (tgt := 108) hx hb dX7_paints_16 (by decide) (fun h253 => ?_) (fun h253 => ?_)
        ·
          have qh253 := lt_i h253
          have j254 : Iv 0 11 a3 := r_ltl qh253 a3_h x250_h (by decide)
          have j255 : Iv 1 12 x250 := r_ltr qh253 a3_h x250_h (by decide)
          refine lv_iconst (v := 0) hx hb dX7_paints_108 (by decide) ?_
          rw [hQ]
          exact W.zret (v := 0) (ty := .boolean) hx hb hr rfl (fun t ht hW => ⟨⟨0, (f252, f251), rfl, (iv_w ik_0 (by decide)), by rw [ht]; exact hP, va_K.moved hW.alike hK, hD⟩, hS.F ht⟩) hS.2.2 dX7_paints_109
        ·
          have qh253 := nlt_i h253
          refine lv_iload hx hb dX7_paints_19 (lv_at hl 0 rfl) ?_
          refine lv_aload_n hx hb dX7_paints_21 rfl (lv_at hl 1 rfl) ?_
          refine va_get (D := (dC, dI)) (ci := 7) (v := .int v6) (C := RX7) (T := TX7) (N := 4) hx hb hts iw_X7_paints_X7 hown hK hP 1 rfl rfl 2 (by decide) (hts (.fieldLink RX7 18 "HolelessHouse$Paint" "most" "I") hm_X7_paints_1) (fun _ h9 => h9) rfl dX7_paints_22 ?_
          refine lv_icmp_ge (tgt := 108) hx hb dX7_paints_25 (by decide) (fun h256 => ?_) (fun h256 => ?_)
          ·
            have qh256 := le_i h256
            refine lv_iconst (v := 0) hx hb dX7_paints_108 (by decide) ?_
            rw [hQ]
            exact W.zret (v := 0) (ty := .boolean) hx hb hr rfl (fun t ht hW => ⟨⟨0, (f252, f251), rfl, (iv_w ik_0 (by decide)), by rw [ht]; exact hP, va_K.moved hW.alike hK, hD⟩, hS.F ht⟩) hS.2.2 dX7_paints_109
          ·
            have qh256 := nle_i h256
            have j257 : Iv 0 11 x250 := r_ltl qh256 x250_h v6_h (by decide)
            have j258 : Iv 1 12 v6 := r_ltr qh256 x250_h v6_h (by decide)
            refine lv_aload_n hx hb dX7_paints_28 rfl (lv_at hl 1 rfl) ?_
            refine va_get (D := (dC, dI)) (ci := 7) (v := .ref o4) (C := RX7) (T := TX7) (N := 4) hx hb hts iw_X7_paints_X7 hown hK hP 1 rfl rfl 1 (by decide) (hts (.fieldLink RX7 15 "HolelessHouse$Paint" "worn" "[I") hm_X7_paints_2) (fun _ h9 => h9) rfl dX7_paints_29 ?_
            refine lv_iload hx hb dX7_paints_32 (lv_at hl 0 rfl) ?_
            refine va_iald hx hb hK hP 2 0 rfl rfl (vin_iv j257 (by decide)) dX7_paints_34 (lv_topi (fun x259 x259_e => ?_))
            refine lv_aload_n hx hb dX7_paints_35 rfl (lv_at hl 2 rfl) ?_
            refine va_getN (D := (dC, dI)) (ci := 4) (v := .ref o9) (C := RX4) (T := TX4) (N := 3) hx hb hts iw_X7_paints_X4 hown hK hP 0 rfl rfl 0 (by decide) (hN.use ns_3) (fun _ h9 => h9) rfl dX7_paints_36 ?_
            refine lv_iload_n hx hb dX7_paints_39 rfl (lv_at hl 3 rfl) ?_
            refine va_iald hx hb hK hP 3 0 rfl rfl (vin_iv ik_4 (by decide)) dX7_paints_40 (lv_topi (fun x260 x260_e => ?_))
            have x260_h : Iv 0 4095 x260 := iv_e x260_e (bd_at fw10_b (vin_iv ik_4 (by decide)))
            refine lv_iand hx hb dX7_paints_41 (lv_topi (fun x261 x261_e => ?_))
            have x261_h : Iv 0 4095 x261 := iv_e x261_e (iv_andR _ x260_h (by decide))
            refine lv_if_ne (tgt := 102) hx hb dX7_paints_42 (by decide) (fun h262 => ?_) (fun h262 => ?_)
            ·
              have j263 : Iv 1 4095 x261 := r_nelo h262 x261_h ik_0 (by decide)
              obtain ⟨x264, x264_e⟩ : ∃ z : Int32, z = x250 + 1 := ⟨_, rfl⟩
              have x264_h : Iv 1 12 x264 := iv_e x264_e (iv_add j257 ik_1 (by decide))
              refine lv_iinc (v := x264) (lv' := [(4, .int x264), (0, .ref o1), (1, .ref o8), (2, .int 4), (3, .int a3)]) hx hb dX7_paints_102 hl (k := 0) rfl (incN (by decide +kernel) x264_e) (by decide) rfl (fun ls hl => ?_)
              refine lv_goto (tgt := 13) hx hb dX7_paints_105 (by decide) ?_
              exact ih1 x264 f251 f252 _ _ _ (ms_up x264_e j257 (by decide) hM1) (iv_w x264_h (by decide)) hP hD hS hl
            ·
              have j265 : Iv 0 0 x261 := r_eq h262 ik_0
              refine lv_aload_n hx hb dX7_paints_45 rfl (lv_at hl 1 rfl) ?_
              refine va_get (D := (dC, dI)) (ci := 7) (v := .ref o4) (C := RX7) (T := TX7) (N := 4) hx hb hts iw_X7_paints_X7 hown hK hP 1 rfl rfl 1 (by decide) (hts (.fieldLink RX7 15 "HolelessHouse$Paint" "worn" "[I") hm_X7_paints_2) (fun _ h9 => h9) rfl dX7_paints_46 ?_
              refine lv_iload hx hb dX7_paints_49 (lv_at hl 0 rfl) ?_
              refine lv_dup2_11 hx hb dX7_paints_51 rfl rfl ?_
              refine va_iald hx hb hK hP 2 0 rfl rfl (vin_iv j257 (by decide)) dX7_paints_52 (lv_topi (fun x266 x266_e => ?_))
              refine lv_iconst (v := 1) hx hb dX7_paints_53 (by decide) ?_
              refine lv_iload_n hx hb dX7_paints_54 rfl (lv_at hl 3 rfl) ?_
              refine lv_ishl hx hb dX7_paints_55 (tk_i (v := 16) (by decide +kernel) ?_)
              refine lv_ior hx hb dX7_paints_56 (lv_topi (fun x267 x267_e => ?_))
              refine k_iast hx hb hK hP hD hS 2 0 rfl rfl (vin_iv j257 (by decide)) dX7_paints_57 (fun f268 H locs f268_e hP hD hS => ?_)
              have hP : va_P (dC, dI) vwCl ([(o8, .inr (4, [.ref o9, .int v11, .int v12])), (o1, .inr (7, [.ref o2, .ref o4, .int v6, .int v7])), (o4, .inl (cI, 12, .inl f268)), (o9, .inl (cI, 12, .inl fw10)), (o2, .inl (cI, 12, .inl f251))]) H := hP
              have hD : va_D A ([(o8, .inr (4, [.ref o9, .int v11, .int v12])), (o1, .inr (7, [.ref o2, .ref o4, .int v6, .int v7])), (o4, .inl (cI, 12, .inl f268)), (o9, .inl (cI, 12, .inl fw10)), (o2, .inl (cI, 12, .inl f251))]) := hD
              refine lv_aload_n hx hb dX7_paints_58 rfl (lv_at hl 1 rfl) ?_
              refine va_get (D := (dC, dI)) (ci := 7) (v := .ref o2) (C := RX7) (T := TX7) (N := 4) hx hb hts iw_X7_paints_X7 hown hK hP 1 rfl rfl 0 (by decide) (hts (.fieldLink RX7 9 "HolelessHouse$Paint" "hues" "[I") hm_X7_paints_3) (fun _ h9 => h9) rfl dX7_paints_59 ?_
              refine lv_iload_n hx hb dX7_paints_62 rfl (lv_at hl 3 rfl) ?_
              refine lv_iload hx hb dX7_paints_63 (lv_at hl 0 rfl) ?_
              refine k_iast hx hb hK hP hD hS 4 0 rfl rfl (vin_iv ik_4 (by decide)) dX7_paints_65 (fun f269 H locs f269_e hP hD hS => ?_)
              have hP : va_P (dC, dI) vwCl ([(o8, .inr (4, [.ref o9, .int v11, .int v12])), (o1, .inr (7, [.ref o2, .ref o4, .int v6, .int v7])), (o4, .inl (cI, 12, .inl f268)), (o9, .inl (cI, 12, .inl fw10)), (o2, .inl (cI, 12, .inl f269))]) H := hP
              have hD : va_D A ([(o8, .inr (4, [.ref o9, .int v11, .int v12])), (o1, .inr (7, [.ref o2, .ref o4, .int v6, .int v7])), (o4, .inl (cI, 12, .inl f268)), (o9, .inl (cI, 12, .inl fw10)), (o2, .inl (cI, 12, .inl f269))]) := hD
              refine lv_aload_n hx hb dX7_paints_66 rfl (lv_at hl 1 rfl) ?_
              refine lv_aload_n hx hb dX7_paints_67 rfl (lv_at hl 2 rfl) ?_
              refine lv_iload_n hx hb dX7_paints_68 rfl (lv_at hl 3 rfl) ?_
              refine lv_iconst (v := 1) hx hb dX7_paints_69 (by decide) ?_
              refine lv_iadd hx hb dX7_paints_70 (tk_i (v := 5) (by decide +kernel) ?_)
              refine lv_iload_n hx hb dX7_paints_71 rfl (lv_at hl 4 rfl) ?_
              refine lv_iload hx hb dX7_paints_72 (lv_at hl 0 rfl) ?_
              refine lv_iconst (v := 1) hx hb dX7_paints_74 (by decide) ?_
              refine lv_iadd hx hb dX7_paints_75 (lv_topi (fun x270 x270_e => ?_))
              have x270_h : Iv 1 12 x270 := iv_e x270_e (iv_add j257 ik_1 (by decide))
              refine va_mmax hx hb (hml.trans hl.1.symm) hown (hts (.methodLink RX7 46 Lib.Math.max.name) hm_X7_paints_4) (hts (.static Lib.Math.max.name) hm_X7_paints_5) (hts (.initialized "java/lang/Math") hm_X7_paints_6) (hts (.code Lib.Math.max.name Lib.Math.max.code 2 (some .int)) hm_X7_paints_7) (Nat.le_of_ble_eq_true rfl) (Nat.le_of_ble_eq_true rfl) (Nat.le_of_ble_eq_true rfl) (Nat.le_of_ble_eq_true rfl) dX7_paints_76 (lv_topi (fun x271 x271_e => ?_))
              have x271_h : Iv 0 12 x271 := iv_e x271_e (iv_max a3_h x270_h (by decide))
              refine kc_i (D := (dC, dI)) (S := (Nat → Int32) × (Nat → Int32)) (wc := [(o8, .inr (4, [.ref o9, .int v11, .int v12])), (o1, .inr (7, [.ref o2, .ref o4, .int v6, .int v7])), (o4, .inl (cI, 12, .inl f268)), (o9, .inl (cI, 12, .inl fw10)), (o2, .inl (cI, 12, .inl f269))]) (wr := []) (w1 := fun u => [(o8, .inr (4, [.ref o9, .int v11, .int v12])), (o1, .inr (7, [.ref o2, .ref o4, .int v6, .int v7])), (o4, .inl (cI, 12, .inl u.1)), (o9, .inl (cI, 12, .inl fw10)), (o2, .inl (cI, 12, .inl u.2))]) (wn := fun u => [(o8, .inr (4, [.ref o9, .int v11, .int v12])), (o1, .inr (7, [.ref o2, .ref o4, .int v6, .int v7])), (o4, .inl (cI, 12, .inl u.1)), (o9, .inl (cI, 12, .inl fw10)), (o2, .inl (cI, 12, .inl u.2))]) (fun hPc hDc => va_runS (As := [.ref o1, .ref o8, .int 5, .int x271]) (rest := []) ⟨hx, hb, hml, hown, hts⟩ (kX7_paints_8 l dC dI cI c2 cZ o1 o8 o9 o2 o4 f269 f268 v6 v7 fw10 v11 v12 x271 H.size (iv_w j258 (by decide)) fw10_b (iv_w j2 (by decide)) x271_h) (va_cwS 4 hts gX7_paints_X7_paints rfl rfl rfl (by decide +kernel) ⟨Nat.le_of_ble_eq_true rfl, Nat.le_of_ble_eq_true rfl⟩) (pre_S hPc hK hDc hN) rfl rfl hl.1 rfl (lv_room (Nat.le_of_ble_eq_true rfl)) dX7_paints_79 ⟨Nat.le_of_ble_eq_true rfl, Nat.le_of_ble_eq_true rfl⟩) hP hD hS hA [0, 1, 2, 3, 4] [] [0, 1, 2, 3, 4] rfl rfl (by decide +kernel) (by decide +kernel) (by decide +kernel) (by decide +kernel) (fun _ => rfl) (fun x274 u H locs hq hP hD hS => ?_)
              obtain ⟨f272, f273⟩ := u
              have x274_h := hq
              have hP : va_P (dC, dI) vwCl ([(o8, .inr (4, [.ref o9, .int v11, .int v12])), (o1, .inr (7, [.ref o2, .ref o4, .int v6, .int v7])), (o4, .inl (cI, 12, .inl f272)), (o9, .inl (cI, 12, .inl fw10)), (o2, .inl (cI, 12, .inl f273))]) H := hP
              have hD : va_D A ([(o8, .inr (4, [.ref o9, .int v11, .int v12])), (o1, .inr (7, [.ref o2, .ref o4, .int v6, .int v7])), (o4, .inl (cI, 12, .inl f272)), (o9, .inl (cI, 12, .inl fw10)), (o2, .inl (cI, 12, .inl f273))]) := hD
              refine lv_if_eq (tgt := 87) hx hb dX7_paints_82 (by decide) (fun h275 => ?_) (fun h275 => ?_)
              ·
                have j276 : Iv 0 0 x274 := r_eq h275 ik_0
                refine lv_aload_n hx hb dX7_paints_87 rfl (lv_at hl 1 rfl) ?_
                refine va_get (D := (dC, dI)) (ci := 7) (v := .ref o4) (C := RX7) (T := TX7) (N := 4) hx hb hts iw_X7_paints_X7 hown hK hP 1 rfl rfl 1 (by decide) (hts (.fieldLink RX7 15 "HolelessHouse$Paint" "worn" "[I") hm_X7_paints_2) (fun _ h9 => h9) rfl dX7_paints_88 ?_
                refine lv_iload hx hb dX7_paints_91 (lv_at hl 0 rfl) ?_
                refine lv_dup2_11 hx hb dX7_paints_93 rfl rfl ?_
                refine va_iald hx hb hK hP 2 0 rfl rfl (vin_iv j257 (by decide)) dX7_paints_94 (lv_topi (fun x277 x277_e => ?_))
                refine lv_iconst (v := 1) hx hb dX7_paints_95 (by decide) ?_
                refine lv_iload_n hx hb dX7_paints_96 rfl (lv_at hl 3 rfl) ?_
                refine lv_ishl hx hb dX7_paints_97 (tk_i (v := 16) (by decide +kernel) ?_)
                refine lv_iconst (v := (-1)) hx hb dX7_paints_98 (by decide) ?_
                refine lv_ixor hx hb dX7_paints_99 (tk_i (v := (-17)) (by decide +kernel) ?_)
                refine lv_iand hx hb dX7_paints_100 (lv_topi (fun x278 x278_e => ?_))
                refine k_iast hx hb hK hP hD hS 2 0 rfl rfl (vin_iv j257 (by decide)) dX7_paints_101 (fun f279 H locs f279_e hP hD hS => ?_)
                have hP : va_P (dC, dI) vwCl ([(o8, .inr (4, [.ref o9, .int v11, .int v12])), (o1, .inr (7, [.ref o2, .ref o4, .int v6, .int v7])), (o4, .inl (cI, 12, .inl f279)), (o9, .inl (cI, 12, .inl fw10)), (o2, .inl (cI, 12, .inl f273))]) H := hP
                have hD : va_D A ([(o8, .inr (4, [.ref o9, .int v11, .int v12])), (o1, .inr (7, [.ref o2, .ref o4, .int v6, .int v7])), (o4, .inl (cI, 12, .inl f279)), (o9, .inl (cI, 12, .inl fw10)), (o2, .inl (cI, 12, .inl f273))]) := hD
                obtain ⟨x280, x280_e⟩ : ∃ z : Int32, z = x250 + 1 := ⟨_, rfl⟩
                have x280_h : Iv 1 12 x280 := iv_e x280_e (iv_add j257 ik_1 (by decide))
                refine lv_iinc (v := x280) (lv' := [(4, .int x280), (0, .ref o1), (1, .ref o8), (2, .int 4), (3, .int a3)]) hx hb dX7_paints_102 hl (k := 0) rfl (incN (by decide +kernel) x280_e) (by decide) rfl (fun ls hl => ?_)
                refine lv_goto (tgt := 13) hx hb dX7_paints_105 (by decide) ?_
                exact ih1 x280 f273 f279 _ _ _ (ms_up x280_e j257 (by decide) hM1) (iv_w x280_h (by decide)) hP hD hS hl
              ·
                have j281 : Iv 1 1 x274 := r_nelo h275 x274_h ik_0 (by decide)
                refine lv_iconst (v := 1) hx hb dX7_paints_85 (by decide) ?_
                rw [hQ]
                exact W.zret (v := 1) (ty := .boolean) hx hb hr rfl (fun t ht hW => ⟨⟨1, (f272, f273), rfl, (iv_w ik_1 (by decide)), by rw [ht]; exact hP, va_K.moved hW.alike hK, hD⟩, hS.F ht⟩) hS.2.2 dX7_paints_86
    exact L1 _ 0 fw3 fw5 _ _ _ (Nat.lt_succ_self _) (iv_w ik_0 (by decide)) hP hD hS hl
  ·
    have qh1 := nlt_i h1
    have j282 : Iv 0 4 v11 := r_lel qh1 v11_h ik_4 (by decide)
    refine lv_iconst (v := 1) hx hb dX7_paints_8 (by decide) ?_
    rw [hQ]
    exact W.zret (v := 1) (ty := .boolean) hx hb hr rfl (fun t ht hW => ⟨⟨1, (fw5, fw3), rfl, (iv_w ik_1 (by decide)), by rw [ht]; exact hP, va_K.moved hW.alike hK, hD⟩, hS.F ht⟩) hS.2.2 dX7_paints_9
set_option maxHeartbeats 4000000 in
set_option maxRecDepth 100000 in
theorem kX7_paints_10 (l : Launch) (dC : Nat → ClassId) (dI : Nat → Nat → Nat) (cI c2 cZ : ClassId) (o1 : Nat) (o8 : Nat) (o9 : Nat) (o2 : Nat) (o4 : Nat) (fw3 : Nat → Int32) (fw5 : Nat → Int32) (v6 : Int32) (v7 : Int32) (fw10 : Nat → Int32) (v11 : Int32) (v12 : Int32) (a3 : Int32) (sz : Nat) (v6_h : Iv (-2147483648) 12 v6) (fw10_b : Bd 12 0 4095 fw10) (v11_h : Iv 0 12 v11) (a3_h : Iv 0 12 a3) : Met l yX7_paints wsX7_paints ({ frames := 9, cells := 0, slots := 0, locals := 216 }) (va_Pc [.ref o1, .ref o8, .int 3, .int a3] (wPre (dC, dI) [(cI, .int), (c2, .array .int), (cZ, .boolean)] ([(o8, .inr (4, [.ref o9, .int v11, .int v12])), (o1, .inr (7, [.ref o2, .ref o4, .int v6, .int v7])), (o4, .inl (cI, 12, .inl fw5)), (o9, .inl (cI, 12, .inl fw10)), (o2, .inl (cI, 12, .inl fw3))]) sz)) (va_Qi (fun (r : Int32) (u : (Nat → Int32) × (Nat → Int32)) => Iv 0 1 r) (fun u t => wPost (dC, dI) [(cI, .int), (c2, .array .int), (cZ, .boolean)] (va_A ([(o8, .inr (4, [.ref o9, .int v11, .int v12])), (o1, .inr (7, [.ref o2, .ref o4, .int v6, .int v7])), (o4, .inl (cI, 12, .inl fw5)), (o9, .inl (cI, 12, .inl fw10)), (o2, .inl (cI, 12, .inl fw3))]) sz) ([(o8, .inr (4, [.ref o9, .int v11, .int v12])), (o1, .inr (7, [.ref o2, .ref o4, .int v6, .int v7])), (o4, .inl (cI, 12, .inl u.1)), (o9, .inl (cI, 12, .inl fw10)), (o2, .inl (cI, 12, .inl u.2))]) t) (va_A ([(o8, .inr (4, [.ref o9, .int v11, .int v12])), (o1, .inr (7, [.ref o2, .ref o4, .int v6, .int v7])), (o4, .inl (cI, 12, .inl fw5)), (o9, .inl (cI, 12, .inl fw10)), (o2, .inl (cI, 12, .inl fw3))]) sz)) 0 0 (va_A ([(o8, .inr (4, [.ref o9, .int v11, .int v12])), (o1, .inr (7, [.ref o2, .ref o4, .int v6, .int v7])), (o4, .inl (cI, 12, .inl fw5)), (o9, .inl (cI, 12, .inl fw10)), (o2, .inl (cI, 12, .inl fw3))]) sz) := by
  refine Met.ofW (cc := cX7_paints) (maxL := 5) (ret := (some .boolean)) (by decide) rfl ?_
  intro p e s m args below meth c s₁ B hml hv
  obtain ⟨rfl, hsz, hP, hK, hD0, hN⟩ := hv
  have hx := B.exec
  have hb := B.bytes
  have hr := B.returns
  have hts := atoms_spec (ws := wsX7_paints) B.pre
  have hown : s.vm.findClass RX7 = some m.cls := findClass_of_methodNamed B.named
  have hlocks := B.notSynchronized
  subst hsz
  have hD := hD0.self (sz := s.heap.size)
  generalize hAe : va_A ([(o8, .inr (4, [.ref o9, .int v11, .int v12])), (o1, .inr (7, [.ref o2, .ref o4, .int v6, .int v7])), (o4, .inl (cI, 12, .inl fw5)), (o9, .inl (cI, 12, .inl fw10)), (o2, .inl (cI, 12, .inl fw3))]) s.heap.size = A at hD ⊢
  have hA : ∀ q : Nat, s.heap.size ≤ q → A q := fun q h => by rw [← hAe]; exact Or.inr h
  have hS : va_S A s.heap s.heap [] := va_S.rf
  have hP : va_P (dC, dI) vwCl ([(o8, .inr (4, [.ref o9, .int v11, .int v12])), (o1, .inr (7, [.ref o2, .ref o4, .int v6, .int v7])), (o4, .inl (cI, 12, .inl fw5)), (o9, .inl (cI, 12, .inl fw10)), (o2, .inl (cI, 12, .inl fw3))]) s.heap := hP
  have hl := lv_entry ([.ref o1, .ref o8, .int 3, .int a3]) (n := 5) (Nat.le_of_ble_eq_true rfl)
  rw [lg_entry_eq]
  generalize (lg_sl ([.ref o1, .ref o8, .int 3, .int a3]) ++ List.replicate (5 - (lg_sl ([.ref o1, .ref o8, .int 3, .int a3])).length) Slot.unset).toArray = ls at hl ⊢
  have hl : lv_has ls 5 [(0, .ref o1), (1, .ref o8), (2, .int 3), (3, .int a3)] := hl
  refine gen_Q (fun Q hQ => ?_)
  refine lv_iload_n hx hb dX7_paints_0 rfl (lv_at hl 2 rfl) ?_
  refine lv_aload_n hx hb dX7_paints_1 rfl (lv_at hl 1 rfl) ?_
  refine va_getN (D := (dC, dI)) (ci := 4) (v := .int v11) (C := RX4) (T := TX4) (N := 3) hx hb hts iw_X7_paints_X4 hown hK hP 0 rfl rfl 1 (by decide) (hN.use ns_8) (fun _ h9 => h9) rfl dX7_paints_2 ?_
  refine lv_icmp_lt (tgt := 10) hx hb dX7_paints_5 (by decide) (fun h1 => ?_) (fun h1 => ?_)
  ·
    have qh1 := lt_i h1
    have j2 : Iv 4 12 v11 := r_ltr qh1 ik_3 v11_h (by decide)
    refine lv_iconst (v := 0) hx hb dX7_paints_10 (by decide) ?_
    refine lv_istore (lv' := [(4, .int 0), (0, .ref o1), (1, .ref o8), (2, .int 3), (3, .int a3)]) hx hb dX7_paints_11 hl (by decide) rfl (fun ls hl => ?_)
    have L1 : ∀ (N : Nat) (x250 : Int32) (f251 : Nat → Int32) (f252 : Nat → Int32) (H : Heap) (locs : List Loc) (ls : Array Slot), (12 - x250.toInt).toNat < N → Iv 0 12 x250 → va_P (dC, dI) vwCl ([(o8, .inr (4, [.ref o9, .int v11, .int v12])), (o1, .inr (7, [.ref o2, .ref o4, .int v6, .int v7])), (o4, .inl (cI, 12, .inl f252)), (o9, .inl (cI, 12, .inl fw10)), (o2, .inl (cI, 12, .inl f251))]) H → va_D A ([(o8, .inr (4, [.ref o9, .int v11, .int v12])), (o1, .inr (7, [.ref o2, .ref o4, .int v6, .int v7])), (o4, .inl (cI, 12, .inl f252)), (o9, .inl (cI, 12, .inl fw10)), (o2, .inl (cI, 12, .inl f251))]) → va_S A s.heap H locs → lv_has ls 5 [(4, .int x250), (0, .ref o1), (1, .ref o8), (2, .int 3), (3, .int a3)] → W p l e ({ frames := 9, cells := 0, slots := 0, locals := 216 }) s m ([.ref o1, .ref o8, .int 3, .int a3] : List Value).toArray below meth c H locs 0 0 Q (F0 m 13 ls []) := by
      intro N
      induction N with
      | zero =>
        intro x250 f251 f252 H locs ls hM
        exact absurd hM (Nat.not_lt_zero _)
      | succ N ih1 =>
        intro x250 f251 f252 H locs ls hM1 x250_h hP hD hS hl
        refine lv_iload hx hb dX7_paints_13 (lv_at hl 0 rfl) ?_
        refine lv_iload_n hx hb dX7_paints_15 rfl (lv_at hl 4 rfl) ?_
        refine lv_icmp_gt (tgt := 108) hx hb dX7_paints_16 (by decide) (fun h253 => ?_) (fun h253 => ?_)
        ·
          have qh253 := lt_i h253
          have j254 : Iv 0 11 a3 := r_ltl qh253 a3_h x250_h (by decide)
          have j255 : Iv 1 12 x250 := r_ltr qh253 a3_h x250_h (by decide)
          refine lv_iconst (v := 0) hx hb dX7_paints_108 (by decide) ?_
          rw [hQ]
          exact W.zret (v := 0) (ty := .boolean) hx hb hr rfl (fun t ht hW => ⟨⟨0, (f252, f251), rfl, (iv_w ik_0 (by decide)), by rw [ht]; exact hP, va_K.moved hW.alike hK, hD⟩, hS.F ht⟩) hS.2.2 dX7_paints_109
        ·
          have qh253 := nlt_i h253
          refine lv_iload hx hb dX7_paints_19 (lv_at hl 0 rfl) ?_
          refine lv_aload_n hx hb dX7_paints_21 rfl (lv_at hl 1 rfl) ?_
          refine va_get (D := (dC, dI)) (ci := 7) (v := .int v6) (C := RX7) (T := TX7) (N := 4) hx hb hts iw_X7_paints_X7 hown hK hP 1 rfl rfl 2 (by decide) (hts (.fieldLink RX7 18 "HolelessHouse$Paint" "most" "I") hm_X7_paints_1) (fun _ h9 => h9) rfl dX7_paints_22 ?_
          refine lv_icmp_ge (tgt := 108) hx hb dX7_paints_25 (by decide) (fun h256 => ?_) (fun h256 => ?_)
          ·
            have qh256 := le_i h256
            refine lv_iconst (v := 0) hx hb dX7_paints_108 (by decide) ?_
            rw [hQ]
            exact W.zret (v := 0) (ty := .boolean) hx hb hr rfl (fun t ht hW => ⟨⟨0, (f252, f251), rfl, (iv_w ik_0 (by decide)), by rw [ht]; exact hP, va_K.moved hW.alike hK, hD⟩, hS.F ht⟩) hS.2.2 dX7_paints_109
          ·
            have qh256 := nle_i h256
            have j257 : Iv 0 11 x250 := r_ltl qh256 x250_h v6_h (by decide)
            have j258 : Iv 1 12 v6 := r_ltr qh256 x250_h v6_h (by decide)
            refine lv_aload_n hx hb dX7_paints_28 rfl (lv_at hl 1 rfl) ?_
            refine va_get (D := (dC, dI)) (ci := 7) (v := .ref o4) (C := RX7) (T := TX7) (N := 4) hx hb hts iw_X7_paints_X7 hown hK hP 1 rfl rfl 1 (by decide) (hts (.fieldLink RX7 15 "HolelessHouse$Paint" "worn" "[I") hm_X7_paints_2) (fun _ h9 => h9) rfl dX7_paints_29 ?_
            refine lv_iload hx hb dX7_paints_32 (lv_at hl 0 rfl) ?_
            refine va_iald hx hb hK hP 2 0 rfl rfl (vin_iv j257 (by decide)) dX7_paints_34 (lv_topi (fun x259 x259_e => ?_))
            refine lv_aload_n hx hb dX7_paints_35 rfl (lv_at hl 2 rfl) ?_
            refine va_getN (D := (dC, dI)) (ci := 4) (v := .ref o9) (C := RX4) (T := TX4) (N := 3) hx hb hts iw_X7_paints_X4 hown hK hP 0 rfl rfl 0 (by decide) (hN.use ns_3) (fun _ h9 => h9) rfl dX7_paints_36 ?_
            refine lv_iload_n hx hb dX7_paints_39 rfl (lv_at hl 3 rfl) ?_
            refine va_iald hx hb hK hP 3 0 rfl rfl (vin_iv ik_3 (by decide)) dX7_paints_40 (lv_topi (fun x260 x260_e => ?_))
            have x260_h : Iv 0 4095 x260 := iv_e x260_e (bd_at fw10_b (vin_iv ik_3 (by decide)))
            refine lv_iand hx hb dX7_paints_41 (lv_topi (fun x261 x261_e => ?_))
            have x261_h : Iv 0 4095 x261 := iv_e x261_e (iv_andR _ x260_h (by decide))
            refine lv_if_ne (tgt := 102) hx hb dX7_paints_42 (by decide) (fun h262 => ?_) (fun h262 => ?_)
            ·
              have j263 : Iv 1 4095 x261 := r_nelo h262 x261_h ik_0 (by decide)
              obtain ⟨x264, x264_e⟩ : ∃ z : Int32, z = x250 + 1 := ⟨_, rfl⟩
              have x264_h : Iv 1 12 x264 := iv_e x264_e (iv_add j257 ik_1 (by decide))
              refine lv_iinc (v := x264) (lv' := [(4, .int x264), (0, .ref o1), (1, .ref o8), (2, .int 3), (3, .int a3)]) hx hb dX7_paints_102 hl (k := 0) rfl (incN (by decide +kernel) x264_e) (by decide) rfl (fun ls hl => ?_)
              refine lv_goto (tgt := 13) hx hb dX7_paints_105 (by decide) ?_
              exact ih1 x264 f251 f252 _ _ _ (ms_up x264_e j257 (by decide) hM1) (iv_w x264_h (by decide)) hP hD hS hl
            ·
              have j265 : Iv 0 0 x261 := r_eq h262 ik_0
              refine lv_aload_n hx hb dX7_paints_45 rfl (lv_at hl 1 rfl) ?_
              refine va_get (D := (dC, dI)) (ci := 7) (v := .ref o4) (C := RX7) (T := TX7) (N := 4) hx hb hts iw_X7_paints_X7 hown hK hP 1 rfl rfl 1 (by decide) (hts (.fieldLink RX7 15 "HolelessHouse$Paint" "worn" "[I") hm_X7_paints_2) (fun _ h9 => h9) rfl dX7_paints_46 ?_
              refine lv_iload hx hb dX7_paints_49 (lv_at hl 0 rfl) ?_
              refine lv_dup2_11 hx hb dX7_paints_51 rfl rfl ?_
              refine va_iald hx hb hK hP 2 0 rfl rfl (vin_iv j257 (by decide)) dX7_paints_52 (lv_topi (fun x266 x266_e => ?_))
              refine lv_iconst (v := 1) hx hb dX7_paints_53 (by decide) ?_
              refine lv_iload_n hx hb dX7_paints_54 rfl (lv_at hl 3 rfl) ?_
              refine lv_ishl hx hb dX7_paints_55 (tk_i (v := 8) (by decide +kernel) ?_)
              refine lv_ior hx hb dX7_paints_56 (lv_topi (fun x267 x267_e => ?_))
              refine k_iast hx hb hK hP hD hS 2 0 rfl rfl (vin_iv j257 (by decide)) dX7_paints_57 (fun f268 H locs f268_e hP hD hS => ?_)
              have hP : va_P (dC, dI) vwCl ([(o8, .inr (4, [.ref o9, .int v11, .int v12])), (o1, .inr (7, [.ref o2, .ref o4, .int v6, .int v7])), (o4, .inl (cI, 12, .inl f268)), (o9, .inl (cI, 12, .inl fw10)), (o2, .inl (cI, 12, .inl f251))]) H := hP
              have hD : va_D A ([(o8, .inr (4, [.ref o9, .int v11, .int v12])), (o1, .inr (7, [.ref o2, .ref o4, .int v6, .int v7])), (o4, .inl (cI, 12, .inl f268)), (o9, .inl (cI, 12, .inl fw10)), (o2, .inl (cI, 12, .inl f251))]) := hD
              refine lv_aload_n hx hb dX7_paints_58 rfl (lv_at hl 1 rfl) ?_
              refine va_get (D := (dC, dI)) (ci := 7) (v := .ref o2) (C := RX7) (T := TX7) (N := 4) hx hb hts iw_X7_paints_X7 hown hK hP 1 rfl rfl 0 (by decide) (hts (.fieldLink RX7 9 "HolelessHouse$Paint" "hues" "[I") hm_X7_paints_3) (fun _ h9 => h9) rfl dX7_paints_59 ?_
              refine lv_iload_n hx hb dX7_paints_62 rfl (lv_at hl 3 rfl) ?_
              refine lv_iload hx hb dX7_paints_63 (lv_at hl 0 rfl) ?_
              refine k_iast hx hb hK hP hD hS 4 0 rfl rfl (vin_iv ik_3 (by decide)) dX7_paints_65 (fun f269 H locs f269_e hP hD hS => ?_)
              have hP : va_P (dC, dI) vwCl ([(o8, .inr (4, [.ref o9, .int v11, .int v12])), (o1, .inr (7, [.ref o2, .ref o4, .int v6, .int v7])), (o4, .inl (cI, 12, .inl f268)), (o9, .inl (cI, 12, .inl fw10)), (o2, .inl (cI, 12, .inl f269))]) H := hP
              have hD : va_D A ([(o8, .inr (4, [.ref o9, .int v11, .int v12])), (o1, .inr (7, [.ref o2, .ref o4, .int v6, .int v7])), (o4, .inl (cI, 12, .inl f268)), (o9, .inl (cI, 12, .inl fw10)), (o2, .inl (cI, 12, .inl f269))]) := hD
              refine lv_aload_n hx hb dX7_paints_66 rfl (lv_at hl 1 rfl) ?_
              refine lv_aload_n hx hb dX7_paints_67 rfl (lv_at hl 2 rfl) ?_
              refine lv_iload_n hx hb dX7_paints_68 rfl (lv_at hl 3 rfl) ?_
              refine lv_iconst (v := 1) hx hb dX7_paints_69 (by decide) ?_
              refine lv_iadd hx hb dX7_paints_70 (tk_i (v := 4) (by decide +kernel) ?_)
              refine lv_iload_n hx hb dX7_paints_71 rfl (lv_at hl 4 rfl) ?_
              refine lv_iload hx hb dX7_paints_72 (lv_at hl 0 rfl) ?_
              refine lv_iconst (v := 1) hx hb dX7_paints_74 (by decide) ?_
              refine lv_iadd hx hb dX7_paints_75 (lv_topi (fun x270 x270_e => ?_))
              have x270_h : Iv 1 12 x270 := iv_e x270_e (iv_add j257 ik_1 (by decide))
              refine va_mmax hx hb (hml.trans hl.1.symm) hown (hts (.methodLink RX7 46 Lib.Math.max.name) hm_X7_paints_4) (hts (.static Lib.Math.max.name) hm_X7_paints_5) (hts (.initialized "java/lang/Math") hm_X7_paints_6) (hts (.code Lib.Math.max.name Lib.Math.max.code 2 (some .int)) hm_X7_paints_7) (Nat.le_of_ble_eq_true rfl) (Nat.le_of_ble_eq_true rfl) (Nat.le_of_ble_eq_true rfl) (Nat.le_of_ble_eq_true rfl) dX7_paints_76 (lv_topi (fun x271 x271_e => ?_))
              have x271_h : Iv 0 12 x271 := iv_e x271_e (iv_max a3_h x270_h (by decide))
              refine kc_i (D := (dC, dI)) (S := (Nat → Int32) × (Nat → Int32)) (wc := [(o8, .inr (4, [.ref o9, .int v11, .int v12])), (o1, .inr (7, [.ref o2, .ref o4, .int v6, .int v7])), (o4, .inl (cI, 12, .inl f268)), (o9, .inl (cI, 12, .inl fw10)), (o2, .inl (cI, 12, .inl f269))]) (wr := []) (w1 := fun u => [(o8, .inr (4, [.ref o9, .int v11, .int v12])), (o1, .inr (7, [.ref o2, .ref o4, .int v6, .int v7])), (o4, .inl (cI, 12, .inl u.1)), (o9, .inl (cI, 12, .inl fw10)), (o2, .inl (cI, 12, .inl u.2))]) (wn := fun u => [(o8, .inr (4, [.ref o9, .int v11, .int v12])), (o1, .inr (7, [.ref o2, .ref o4, .int v6, .int v7])), (o4, .inl (cI, 12, .inl u.1)), (o9, .inl (cI, 12, .inl fw10)), (o2, .inl (cI, 12, .inl u.2))]) (fun hPc hDc => va_runS (As := [.ref o1, .ref o8, .int 4, .int x271]) (rest := []) ⟨hx, hb, hml, hown, hts⟩ (kX7_paints_9 l dC dI cI c2 cZ o1 o8 o9 o2 o4 f269 f268 v6 v7 fw10 v11 v12 x271 H.size (iv_w j258 (by decide)) fw10_b (iv_w j2 (by decide)) x271_h) (va_cwS 4 hts gX7_paints_X7_paints rfl rfl rfl (by decide +kernel) ⟨Nat.le_of_ble_eq_true rfl, Nat.le_of_ble_eq_true rfl⟩) (pre_S hPc hK hDc hN) rfl rfl hl.1 rfl (lv_room (Nat.le_of_ble_eq_true rfl)) dX7_paints_79 ⟨Nat.le_of_ble_eq_true rfl, Nat.le_of_ble_eq_true rfl⟩) hP hD hS hA [0, 1, 2, 3, 4] [] [0, 1, 2, 3, 4] rfl rfl (by decide +kernel) (by decide +kernel) (by decide +kernel) (by decide +kernel) (fun _ => rfl) (fun x274 u H locs hq hP hD hS => ?_)
              obtain ⟨f272, f273⟩ := u
              have x274_h := hq
              have hP : va_P (dC, dI) vwCl ([(o8, .inr (4, [.ref o9, .int v11, .int v12])), (o1, .inr (7, [.ref o2, .ref o4, .int v6, .int v7])), (o4, .inl (cI, 12, .inl f272)), (o9, .inl (cI, 12, .inl fw10)), (o2, .inl (cI, 12, .inl f273))]) H := hP
              have hD : va_D A ([(o8, .inr (4, [.ref o9, .int v11, .int v12])), (o1, .inr (7, [.ref o2, .ref o4, .int v6, .int v7])), (o4, .inl (cI, 12, .inl f272)), (o9, .inl (cI, 12, .inl fw10)), (o2, .inl (cI, 12, .inl f273))]) := hD
              refine lv_if_eq (tgt := 87) hx hb dX7_paints_82 (by decide) (fun h275 => ?_) (fun h275 => ?_)
              ·
                have j276 : Iv 0 0 x274 := r_eq h275 ik_0
                refine lv_aload_n hx hb dX7_paints_87 rfl (lv_at hl 1 rfl) ?_
                refine va_get (D := (dC, dI)) (ci := 7) (v := .ref o4) (C := RX7) (T := TX7) (N := 4) hx hb hts iw_X7_paints_X7 hown hK hP 1 rfl rfl 1 (by decide) (hts (.fieldLink RX7 15 "HolelessHouse$Paint" "worn" "[I") hm_X7_paints_2) (fun _ h9 => h9) rfl dX7_paints_88 ?_
                refine lv_iload hx hb dX7_paints_91 (lv_at hl 0 rfl) ?_
                refine lv_dup2_11 hx hb dX7_paints_93 rfl rfl ?_
                refine va_iald hx hb hK hP 2 0 rfl rfl (vin_iv j257 (by decide)) dX7_paints_94 (lv_topi (fun x277 x277_e => ?_))
                refine lv_iconst (v := 1) hx hb dX7_paints_95 (by decide) ?_
                refine lv_iload_n hx hb dX7_paints_96 rfl (lv_at hl 3 rfl) ?_
                refine lv_ishl hx hb dX7_paints_97 (tk_i (v := 8) (by decide +kernel) ?_)
                refine lv_iconst (v := (-1)) hx hb dX7_paints_98 (by decide) ?_
                refine lv_ixor hx hb dX7_paints_99 (tk_i (v := (-9)) (by decide +kernel) ?_)
                refine lv_iand hx hb dX7_paints_100 (lv_topi (fun x278 x278_e => ?_))
                refine k_iast hx hb hK hP hD hS 2 0 rfl rfl (vin_iv j257 (by decide)) dX7_paints_101 (fun f279 H locs f279_e hP hD hS => ?_)
                have hP : va_P (dC, dI) vwCl ([(o8, .inr (4, [.ref o9, .int v11, .int v12])), (o1, .inr (7, [.ref o2, .ref o4, .int v6, .int v7])), (o4, .inl (cI, 12, .inl f279)), (o9, .inl (cI, 12, .inl fw10)), (o2, .inl (cI, 12, .inl f273))]) H := hP
                have hD : va_D A ([(o8, .inr (4, [.ref o9, .int v11, .int v12])), (o1, .inr (7, [.ref o2, .ref o4, .int v6, .int v7])), (o4, .inl (cI, 12, .inl f279)), (o9, .inl (cI, 12, .inl fw10)), (o2, .inl (cI, 12, .inl f273))]) := hD
                obtain ⟨x280, x280_e⟩ : ∃ z : Int32, z = x250 + 1 := ⟨_, rfl⟩
                have x280_h : Iv 1 12 x280 := iv_e x280_e (iv_add j257 ik_1 (by decide))
                refine lv_iinc (v := x280) (lv' := [(4, .int x280), (0, .ref o1), (1, .ref o8), (2, .int 3), (3, .int a3)]) hx hb dX7_paints_102 hl (k := 0) rfl (incN (by decide +kernel) x280_e) (by decide) rfl (fun ls hl => ?_)
                refine lv_goto (tgt := 13) hx hb dX7_paints_105 (by decide) ?_
                exact ih1 x280 f273 f279 _ _ _ (ms_up x280_e j257 (by decide) hM1) (iv_w x280_h (by decide)) hP hD hS hl
              ·
                have j281 : Iv 1 1 x274 := r_nelo h275 x274_h ik_0 (by decide)
                refine lv_iconst (v := 1) hx hb dX7_paints_85 (by decide) ?_
                rw [hQ]
                exact W.zret (v := 1) (ty := .boolean) hx hb hr rfl (fun t ht hW => ⟨⟨1, (f272, f273), rfl, (iv_w ik_1 (by decide)), by rw [ht]; exact hP, va_K.moved hW.alike hK, hD⟩, hS.F ht⟩) hS.2.2 dX7_paints_86
    exact L1 _ 0 fw3 fw5 _ _ _ (Nat.lt_succ_self _) (iv_w ik_0 (by decide)) hP hD hS hl
  ·
    have qh1 := nlt_i h1
    have j282 : Iv 0 3 v11 := r_lel qh1 v11_h ik_3 (by decide)
    refine lv_iconst (v := 1) hx hb dX7_paints_8 (by decide) ?_
    rw [hQ]
    exact W.zret (v := 1) (ty := .boolean) hx hb hr rfl (fun t ht hW => ⟨⟨1, (fw5, fw3), rfl, (iv_w ik_1 (by decide)), by rw [ht]; exact hP, va_K.moved hW.alike hK, hD⟩, hS.F ht⟩) hS.2.2 dX7_paints_9
set_option maxHeartbeats 4000000 in
set_option maxRecDepth 100000 in
theorem kX7_paints_11 (l : Launch) (dC : Nat → ClassId) (dI : Nat → Nat → Nat) (cI c2 cZ : ClassId) (o1 : Nat) (o8 : Nat) (o9 : Nat) (o2 : Nat) (o4 : Nat) (fw3 : Nat → Int32) (fw5 : Nat → Int32) (v6 : Int32) (v7 : Int32) (fw10 : Nat → Int32) (v11 : Int32) (v12 : Int32) (a3 : Int32) (sz : Nat) (v6_h : Iv (-2147483648) 12 v6) (fw10_b : Bd 12 0 4095 fw10) (v11_h : Iv 0 12 v11) (a3_h : Iv 0 12 a3) : Met l yX7_paints wsX7_paints ({ frames := 10, cells := 0, slots := 0, locals := 240 }) (va_Pc [.ref o1, .ref o8, .int 2, .int a3] (wPre (dC, dI) [(cI, .int), (c2, .array .int), (cZ, .boolean)] ([(o8, .inr (4, [.ref o9, .int v11, .int v12])), (o1, .inr (7, [.ref o2, .ref o4, .int v6, .int v7])), (o4, .inl (cI, 12, .inl fw5)), (o9, .inl (cI, 12, .inl fw10)), (o2, .inl (cI, 12, .inl fw3))]) sz)) (va_Qi (fun (r : Int32) (u : (Nat → Int32) × (Nat → Int32)) => Iv 0 1 r) (fun u t => wPost (dC, dI) [(cI, .int), (c2, .array .int), (cZ, .boolean)] (va_A ([(o8, .inr (4, [.ref o9, .int v11, .int v12])), (o1, .inr (7, [.ref o2, .ref o4, .int v6, .int v7])), (o4, .inl (cI, 12, .inl fw5)), (o9, .inl (cI, 12, .inl fw10)), (o2, .inl (cI, 12, .inl fw3))]) sz) ([(o8, .inr (4, [.ref o9, .int v11, .int v12])), (o1, .inr (7, [.ref o2, .ref o4, .int v6, .int v7])), (o4, .inl (cI, 12, .inl u.1)), (o9, .inl (cI, 12, .inl fw10)), (o2, .inl (cI, 12, .inl u.2))]) t) (va_A ([(o8, .inr (4, [.ref o9, .int v11, .int v12])), (o1, .inr (7, [.ref o2, .ref o4, .int v6, .int v7])), (o4, .inl (cI, 12, .inl fw5)), (o9, .inl (cI, 12, .inl fw10)), (o2, .inl (cI, 12, .inl fw3))]) sz)) 0 0 (va_A ([(o8, .inr (4, [.ref o9, .int v11, .int v12])), (o1, .inr (7, [.ref o2, .ref o4, .int v6, .int v7])), (o4, .inl (cI, 12, .inl fw5)), (o9, .inl (cI, 12, .inl fw10)), (o2, .inl (cI, 12, .inl fw3))]) sz) := by
  refine Met.ofW (cc := cX7_paints) (maxL := 5) (ret := (some .boolean)) (by decide) rfl ?_
  intro p e s m args below meth c s₁ B hml hv
  obtain ⟨rfl, hsz, hP, hK, hD0, hN⟩ := hv
  have hx := B.exec
  have hb := B.bytes
  have hr := B.returns
  have hts := atoms_spec (ws := wsX7_paints) B.pre
  have hown : s.vm.findClass RX7 = some m.cls := findClass_of_methodNamed B.named
  have hlocks := B.notSynchronized
  subst hsz
  have hD := hD0.self (sz := s.heap.size)
  generalize hAe : va_A ([(o8, .inr (4, [.ref o9, .int v11, .int v12])), (o1, .inr (7, [.ref o2, .ref o4, .int v6, .int v7])), (o4, .inl (cI, 12, .inl fw5)), (o9, .inl (cI, 12, .inl fw10)), (o2, .inl (cI, 12, .inl fw3))]) s.heap.size = A at hD ⊢
  have hA : ∀ q : Nat, s.heap.size ≤ q → A q := fun q h => by rw [← hAe]; exact Or.inr h
  have hS : va_S A s.heap s.heap [] := va_S.rf
  have hP : va_P (dC, dI) vwCl ([(o8, .inr (4, [.ref o9, .int v11, .int v12])), (o1, .inr (7, [.ref o2, .ref o4, .int v6, .int v7])), (o4, .inl (cI, 12, .inl fw5)), (o9, .inl (cI, 12, .inl fw10)), (o2, .inl (cI, 12, .inl fw3))]) s.heap := hP
  have hl := lv_entry ([.ref o1, .ref o8, .int 2, .int a3]) (n := 5) (Nat.le_of_ble_eq_true rfl)
  rw [lg_entry_eq]
  generalize (lg_sl ([.ref o1, .ref o8, .int 2, .int a3]) ++ List.replicate (5 - (lg_sl ([.ref o1, .ref o8, .int 2, .int a3])).length) Slot.unset).toArray = ls at hl ⊢
  have hl : lv_has ls 5 [(0, .ref o1), (1, .ref o8), (2, .int 2), (3, .int a3)] := hl
  refine gen_Q (fun Q hQ => ?_)
  refine lv_iload_n hx hb dX7_paints_0 rfl (lv_at hl 2 rfl) ?_
  refine lv_aload_n hx hb dX7_paints_1 rfl (lv_at hl 1 rfl) ?_
  refine va_getN (D := (dC, dI)) (ci := 4) (v := .int v11) (C := RX4) (T := TX4) (N := 3) hx hb hts iw_X7_paints_X4 hown hK hP 0 rfl rfl 1 (by decide) (hN.use ns_8) (fun _ h9 => h9) rfl dX7_paints_2 ?_
  refine lv_icmp_lt (tgt := 10) hx hb dX7_paints_5 (by decide) (fun h1 => ?_) (fun h1 => ?_)
  ·
    have qh1 := lt_i h1
    have j2 : Iv 3 12 v11 := r_ltr qh1 ik_2 v11_h (by decide)
    refine lv_iconst (v := 0) hx hb dX7_paints_10 (by decide) ?_
    refine lv_istore (lv' := [(4, .int 0), (0, .ref o1), (1, .ref o8), (2, .int 2), (3, .int a3)]) hx hb dX7_paints_11 hl (by decide) rfl (fun ls hl => ?_)
    have L1 : ∀ (N : Nat) (x250 : Int32) (f251 : Nat → Int32) (f252 : Nat → Int32) (H : Heap) (locs : List Loc) (ls : Array Slot), (12 - x250.toInt).toNat < N → Iv 0 12 x250 → va_P (dC, dI) vwCl ([(o8, .inr (4, [.ref o9, .int v11, .int v12])), (o1, .inr (7, [.ref o2, .ref o4, .int v6, .int v7])), (o4, .inl (cI, 12, .inl f252)), (o9, .inl (cI, 12, .inl fw10)), (o2, .inl (cI, 12, .inl f251))]) H → va_D A ([(o8, .inr (4, [.ref o9, .int v11, .int v12])), (o1, .inr (7, [.ref o2, .ref o4, .int v6, .int v7])), (o4, .inl (cI, 12, .inl f252)), (o9, .inl (cI, 12, .inl fw10)), (o2, .inl (cI, 12, .inl f251))]) → va_S A s.heap H locs → lv_has ls 5 [(4, .int x250), (0, .ref o1), (1, .ref o8), (2, .int 2), (3, .int a3)] → W p l e ({ frames := 10, cells := 0, slots := 0, locals := 240 }) s m ([.ref o1, .ref o8, .int 2, .int a3] : List Value).toArray below meth c H locs 0 0 Q (F0 m 13 ls []) := by
      intro N
      induction N with
      | zero =>
        intro x250 f251 f252 H locs ls hM
        exact absurd hM (Nat.not_lt_zero _)
      | succ N ih1 =>
        intro x250 f251 f252 H locs ls hM1 x250_h hP hD hS hl
        refine lv_iload hx hb dX7_paints_13 (lv_at hl 0 rfl) ?_
        refine lv_iload_n hx hb dX7_paints_15 rfl (lv_at hl 4 rfl) ?_
        refine lv_icmp_gt (tgt := 108) hx hb dX7_paints_16 (by decide) (fun h253 => ?_) (fun h253 => ?_)
        ·
          have qh253 := lt_i h253
          have j254 : Iv 0 11 a3 := r_ltl qh253 a3_h x250_h (by decide)
          have j255 : Iv 1 12 x250 := r_ltr qh253 a3_h x250_h (by decide)
          refine lv_iconst (v := 0) hx hb dX7_paints_108 (by decide) ?_
          rw [hQ]
          exact W.zret (v := 0) (ty := .boolean) hx hb hr rfl (fun t ht hW => ⟨⟨0, (f252, f251), rfl, (iv_w ik_0 (by decide)), by rw [ht]; exact hP, va_K.moved hW.alike hK, hD⟩, hS.F ht⟩) hS.2.2 dX7_paints_109
        ·
          have qh253 := nlt_i h253
          refine lv_iload hx hb dX7_paints_19 (lv_at hl 0 rfl) ?_
          refine lv_aload_n hx hb dX7_paints_21 rfl (lv_at hl 1 rfl) ?_
          refine va_get (D := (dC, dI)) (ci := 7) (v := .int v6) (C := RX7) (T := TX7) (N := 4) hx hb hts iw_X7_paints_X7 hown hK hP 1 rfl rfl 2 (by decide) (hts (.fieldLink RX7 18 "HolelessHouse$Paint" "most" "I") hm_X7_paints_1) (fun _ h9 => h9) rfl dX7_paints_22 ?_
          refine lv_icmp_ge (tgt := 108) hx hb dX7_paints_25 (by decide) (fun h256 => ?_) (fun h256 => ?_)
          ·
            have qh256 := le_i h256
            refine lv_iconst (v := 0) hx hb dX7_paints_108 (by decide) ?_
            rw [hQ]
            exact W.zret (v := 0) (ty := .boolean) hx hb hr rfl (fun t ht hW => ⟨⟨0, (f252, f251), rfl, (iv_w ik_0 (by decide)), by rw [ht]; exact hP, va_K.moved hW.alike hK, hD⟩, hS.F ht⟩) hS.2.2 dX7_paints_109
          ·
            have qh256 := nle_i h256
            have j257 : Iv 0 11 x250 := r_ltl qh256 x250_h v6_h (by decide)
            have j258 : Iv 1 12 v6 := r_ltr qh256 x250_h v6_h (by decide)
            refine lv_aload_n hx hb dX7_paints_28 rfl (lv_at hl 1 rfl) ?_
            refine va_get (D := (dC, dI)) (ci := 7) (v := .ref o4) (C := RX7) (T := TX7) (N := 4) hx hb hts iw_X7_paints_X7 hown hK hP 1 rfl rfl 1 (by decide) (hts (.fieldLink RX7 15 "HolelessHouse$Paint" "worn" "[I") hm_X7_paints_2) (fun _ h9 => h9) rfl dX7_paints_29 ?_
            refine lv_iload hx hb dX7_paints_32 (lv_at hl 0 rfl) ?_
            refine va_iald hx hb hK hP 2 0 rfl rfl (vin_iv j257 (by decide)) dX7_paints_34 (lv_topi (fun x259 x259_e => ?_))
            refine lv_aload_n hx hb dX7_paints_35 rfl (lv_at hl 2 rfl) ?_
            refine va_getN (D := (dC, dI)) (ci := 4) (v := .ref o9) (C := RX4) (T := TX4) (N := 3) hx hb hts iw_X7_paints_X4 hown hK hP 0 rfl rfl 0 (by decide) (hN.use ns_3) (fun _ h9 => h9) rfl dX7_paints_36 ?_
            refine lv_iload_n hx hb dX7_paints_39 rfl (lv_at hl 3 rfl) ?_
            refine va_iald hx hb hK hP 3 0 rfl rfl (vin_iv ik_2 (by decide)) dX7_paints_40 (lv_topi (fun x260 x260_e => ?_))
            have x260_h : Iv 0 4095 x260 := iv_e x260_e (bd_at fw10_b (vin_iv ik_2 (by decide)))
            refine lv_iand hx hb dX7_paints_41 (lv_topi (fun x261 x261_e => ?_))
            have x261_h : Iv 0 4095 x261 := iv_e x261_e (iv_andR _ x260_h (by decide))
            refine lv_if_ne (tgt := 102) hx hb dX7_paints_42 (by decide) (fun h262 => ?_) (fun h262 => ?_)
            ·
              have j263 : Iv 1 4095 x261 := r_nelo h262 x261_h ik_0 (by decide)
              obtain ⟨x264, x264_e⟩ : ∃ z : Int32, z = x250 + 1 := ⟨_, rfl⟩
              have x264_h : Iv 1 12 x264 := iv_e x264_e (iv_add j257 ik_1 (by decide))
              refine lv_iinc (v := x264) (lv' := [(4, .int x264), (0, .ref o1), (1, .ref o8), (2, .int 2), (3, .int a3)]) hx hb dX7_paints_102 hl (k := 0) rfl (incN (by decide +kernel) x264_e) (by decide) rfl (fun ls hl => ?_)
              refine lv_goto (tgt := 13) hx hb dX7_paints_105 (by decide) ?_
              exact ih1 x264 f251 f252 _ _ _ (ms_up x264_e j257 (by decide) hM1) (iv_w x264_h (by decide)) hP hD hS hl
            ·
              have j265 : Iv 0 0 x261 := r_eq h262 ik_0
              refine lv_aload_n hx hb dX7_paints_45 rfl (lv_at hl 1 rfl) ?_
              refine va_get (D := (dC, dI)) (ci := 7) (v := .ref o4) (C := RX7) (T := TX7) (N := 4) hx hb hts iw_X7_paints_X7 hown hK hP 1 rfl rfl 1 (by decide) (hts (.fieldLink RX7 15 "HolelessHouse$Paint" "worn" "[I") hm_X7_paints_2) (fun _ h9 => h9) rfl dX7_paints_46 ?_
              refine lv_iload hx hb dX7_paints_49 (lv_at hl 0 rfl) ?_
              refine lv_dup2_11 hx hb dX7_paints_51 rfl rfl ?_
              refine va_iald hx hb hK hP 2 0 rfl rfl (vin_iv j257 (by decide)) dX7_paints_52 (lv_topi (fun x266 x266_e => ?_))
              refine lv_iconst (v := 1) hx hb dX7_paints_53 (by decide) ?_
              refine lv_iload_n hx hb dX7_paints_54 rfl (lv_at hl 3 rfl) ?_
              refine lv_ishl hx hb dX7_paints_55 (tk_i (v := 4) (by decide +kernel) ?_)
              refine lv_ior hx hb dX7_paints_56 (lv_topi (fun x267 x267_e => ?_))
              refine k_iast hx hb hK hP hD hS 2 0 rfl rfl (vin_iv j257 (by decide)) dX7_paints_57 (fun f268 H locs f268_e hP hD hS => ?_)
              have hP : va_P (dC, dI) vwCl ([(o8, .inr (4, [.ref o9, .int v11, .int v12])), (o1, .inr (7, [.ref o2, .ref o4, .int v6, .int v7])), (o4, .inl (cI, 12, .inl f268)), (o9, .inl (cI, 12, .inl fw10)), (o2, .inl (cI, 12, .inl f251))]) H := hP
              have hD : va_D A ([(o8, .inr (4, [.ref o9, .int v11, .int v12])), (o1, .inr (7, [.ref o2, .ref o4, .int v6, .int v7])), (o4, .inl (cI, 12, .inl f268)), (o9, .inl (cI, 12, .inl fw10)), (o2, .inl (cI, 12, .inl f251))]) := hD
              refine lv_aload_n hx hb dX7_paints_58 rfl (lv_at hl 1 rfl) ?_
              refine va_get (D := (dC, dI)) (ci := 7) (v := .ref o2) (C := RX7) (T := TX7) (N := 4) hx hb hts iw_X7_paints_X7 hown hK hP 1 rfl rfl 0 (by decide) (hts (.fieldLink RX7 9 "HolelessHouse$Paint" "hues" "[I") hm_X7_paints_3) (fun _ h9 => h9) rfl dX7_paints_59 ?_
              refine lv_iload_n hx hb dX7_paints_62 rfl (lv_at hl 3 rfl) ?_
              refine lv_iload hx hb dX7_paints_63 (lv_at hl 0 rfl) ?_
              refine k_iast hx hb hK hP hD hS 4 0 rfl rfl (vin_iv ik_2 (by decide)) dX7_paints_65 (fun f269 H locs f269_e hP hD hS => ?_)
              have hP : va_P (dC, dI) vwCl ([(o8, .inr (4, [.ref o9, .int v11, .int v12])), (o1, .inr (7, [.ref o2, .ref o4, .int v6, .int v7])), (o4, .inl (cI, 12, .inl f268)), (o9, .inl (cI, 12, .inl fw10)), (o2, .inl (cI, 12, .inl f269))]) H := hP
              have hD : va_D A ([(o8, .inr (4, [.ref o9, .int v11, .int v12])), (o1, .inr (7, [.ref o2, .ref o4, .int v6, .int v7])), (o4, .inl (cI, 12, .inl f268)), (o9, .inl (cI, 12, .inl fw10)), (o2, .inl (cI, 12, .inl f269))]) := hD
              refine lv_aload_n hx hb dX7_paints_66 rfl (lv_at hl 1 rfl) ?_
              refine lv_aload_n hx hb dX7_paints_67 rfl (lv_at hl 2 rfl) ?_
              refine lv_iload_n hx hb dX7_paints_68 rfl (lv_at hl 3 rfl) ?_
              refine lv_iconst (v := 1) hx hb dX7_paints_69 (by decide) ?_
              refine lv_iadd hx hb dX7_paints_70 (tk_i (v := 3) (by decide +kernel) ?_)
              refine lv_iload_n hx hb dX7_paints_71 rfl (lv_at hl 4 rfl) ?_
              refine lv_iload hx hb dX7_paints_72 (lv_at hl 0 rfl) ?_
              refine lv_iconst (v := 1) hx hb dX7_paints_74 (by decide) ?_
              refine lv_iadd hx hb dX7_paints_75 (lv_topi (fun x270 x270_e => ?_))
              have x270_h : Iv 1 12 x270 := iv_e x270_e (iv_add j257 ik_1 (by decide))
              refine va_mmax hx hb (hml.trans hl.1.symm) hown (hts (.methodLink RX7 46 Lib.Math.max.name) hm_X7_paints_4) (hts (.static Lib.Math.max.name) hm_X7_paints_5) (hts (.initialized "java/lang/Math") hm_X7_paints_6) (hts (.code Lib.Math.max.name Lib.Math.max.code 2 (some .int)) hm_X7_paints_7) (Nat.le_of_ble_eq_true rfl) (Nat.le_of_ble_eq_true rfl) (Nat.le_of_ble_eq_true rfl) (Nat.le_of_ble_eq_true rfl) dX7_paints_76 (lv_topi (fun x271 x271_e => ?_))
              have x271_h : Iv 0 12 x271 := iv_e x271_e (iv_max a3_h x270_h (by decide))
              refine kc_i (D := (dC, dI)) (S := (Nat → Int32) × (Nat → Int32)) (wc := [(o8, .inr (4, [.ref o9, .int v11, .int v12])), (o1, .inr (7, [.ref o2, .ref o4, .int v6, .int v7])), (o4, .inl (cI, 12, .inl f268)), (o9, .inl (cI, 12, .inl fw10)), (o2, .inl (cI, 12, .inl f269))]) (wr := []) (w1 := fun u => [(o8, .inr (4, [.ref o9, .int v11, .int v12])), (o1, .inr (7, [.ref o2, .ref o4, .int v6, .int v7])), (o4, .inl (cI, 12, .inl u.1)), (o9, .inl (cI, 12, .inl fw10)), (o2, .inl (cI, 12, .inl u.2))]) (wn := fun u => [(o8, .inr (4, [.ref o9, .int v11, .int v12])), (o1, .inr (7, [.ref o2, .ref o4, .int v6, .int v7])), (o4, .inl (cI, 12, .inl u.1)), (o9, .inl (cI, 12, .inl fw10)), (o2, .inl (cI, 12, .inl u.2))]) (fun hPc hDc => va_runS (As := [.ref o1, .ref o8, .int 3, .int x271]) (rest := []) ⟨hx, hb, hml, hown, hts⟩ (kX7_paints_10 l dC dI cI c2 cZ o1 o8 o9 o2 o4 f269 f268 v6 v7 fw10 v11 v12 x271 H.size (iv_w j258 (by decide)) fw10_b (iv_w j2 (by decide)) x271_h) (va_cwS 4 hts gX7_paints_X7_paints rfl rfl rfl (by decide +kernel) ⟨Nat.le_of_ble_eq_true rfl, Nat.le_of_ble_eq_true rfl⟩) (pre_S hPc hK hDc hN) rfl rfl hl.1 rfl (lv_room (Nat.le_of_ble_eq_true rfl)) dX7_paints_79 ⟨Nat.le_of_ble_eq_true rfl, Nat.le_of_ble_eq_true rfl⟩) hP hD hS hA [0, 1, 2, 3, 4] [] [0, 1, 2, 3, 4] rfl rfl (by decide +kernel) (by decide +kernel) (by decide +kernel) (by decide +kernel) (fun _ => rfl) (fun x274 u H locs hq hP hD hS => ?_)
              obtain ⟨f272, f273⟩ := u
              have x274_h := hq
              have hP : va_P (dC, dI) vwCl ([(o8, .inr (4, [.ref o9, .int v11, .int v12])), (o1, .inr (7, [.ref o2, .ref o4, .int v6, .int v7])), (o4, .inl (cI, 12, .inl f272)), (o9, .inl (cI, 12, .inl fw10)), (o2, .inl (cI, 12, .inl f273))]) H := hP
              have hD : va_D A ([(o8, .inr (4, [.ref o9, .int v11, .int v12])), (o1, .inr (7, [.ref o2, .ref o4, .int v6, .int v7])), (o4, .inl (cI, 12, .inl f272)), (o9, .inl (cI, 12, .inl fw10)), (o2, .inl (cI, 12, .inl f273))]) := hD
              refine lv_if_eq (tgt := 87) hx hb dX7_paints_82 (by decide) (fun h275 => ?_) (fun h275 => ?_)
              ·
                have j276 : Iv 0 0 x274 := r_eq h275 ik_0
                refine lv_aload_n hx hb dX7_paints_87 rfl (lv_at hl 1 rfl) ?_
                refine va_get (D := (dC, dI)) (ci := 7) (v := .ref o4) (C := RX7) (T := TX7) (N := 4) hx hb hts iw_X7_paints_X7 hown hK hP 1 rfl rfl 1 (by decide) (hts (.fieldLink RX7 15 "HolelessHouse$Paint" "worn" "[I") hm_X7_paints_2) (fun _ h9 => h9) rfl dX7_paints_88 ?_
                refine lv_iload hx hb dX7_paints_91 (lv_at hl 0 rfl) ?_
                refine lv_dup2_11 hx hb dX7_paints_93 rfl rfl ?_
                refine va_iald hx hb hK hP 2 0 rfl rfl (vin_iv j257 (by decide)) dX7_paints_94 (lv_topi (fun x277 x277_e => ?_))
                refine lv_iconst (v := 1) hx hb dX7_paints_95 (by decide) ?_
                refine lv_iload_n hx hb dX7_paints_96 rfl (lv_at hl 3 rfl) ?_
                refine lv_ishl hx hb dX7_paints_97 (tk_i (v := 4) (by decide +kernel) ?_)
                refine lv_iconst (v := (-1)) hx hb dX7_paints_98 (by decide) ?_
                refine lv_ixor hx hb dX7_paints_99 (tk_i (v := (-5)) (by decide +kernel) ?_)
                refine lv_iand hx hb dX7_paints_100 (lv_topi (fun x278 x278_e => ?_))
                refine k_iast hx hb hK hP hD hS 2 0 rfl rfl (vin_iv j257 (by decide)) dX7_paints_101 (fun f279 H locs f279_e hP hD hS => ?_)
                have hP : va_P (dC, dI) vwCl ([(o8, .inr (4, [.ref o9, .int v11, .int v12])), (o1, .inr (7, [.ref o2, .ref o4, .int v6, .int v7])), (o4, .inl (cI, 12, .inl f279)), (o9, .inl (cI, 12, .inl fw10)), (o2, .inl (cI, 12, .inl f273))]) H := hP
                have hD : va_D A ([(o8, .inr (4, [.ref o9, .int v11, .int v12])), (o1, .inr (7, [.ref o2, .ref o4, .int v6, .int v7])), (o4, .inl (cI, 12, .inl f279)), (o9, .inl (cI, 12, .inl fw10)), (o2, .inl (cI, 12, .inl f273))]) := hD
                obtain ⟨x280, x280_e⟩ : ∃ z : Int32, z = x250 + 1 := ⟨_, rfl⟩
                have x280_h : Iv 1 12 x280 := iv_e x280_e (iv_add j257 ik_1 (by decide))
                refine lv_iinc (v := x280) (lv' := [(4, .int x280), (0, .ref o1), (1, .ref o8), (2, .int 2), (3, .int a3)]) hx hb dX7_paints_102 hl (k := 0) rfl (incN (by decide +kernel) x280_e) (by decide) rfl (fun ls hl => ?_)
                refine lv_goto (tgt := 13) hx hb dX7_paints_105 (by decide) ?_
                exact ih1 x280 f273 f279 _ _ _ (ms_up x280_e j257 (by decide) hM1) (iv_w x280_h (by decide)) hP hD hS hl
              ·
                have j281 : Iv 1 1 x274 := r_nelo h275 x274_h ik_0 (by decide)
                refine lv_iconst (v := 1) hx hb dX7_paints_85 (by decide) ?_
                rw [hQ]
                exact W.zret (v := 1) (ty := .boolean) hx hb hr rfl (fun t ht hW => ⟨⟨1, (f272, f273), rfl, (iv_w ik_1 (by decide)), by rw [ht]; exact hP, va_K.moved hW.alike hK, hD⟩, hS.F ht⟩) hS.2.2 dX7_paints_86
    exact L1 _ 0 fw3 fw5 _ _ _ (Nat.lt_succ_self _) (iv_w ik_0 (by decide)) hP hD hS hl
  ·
    have qh1 := nlt_i h1
    have j282 : Iv 0 2 v11 := r_lel qh1 v11_h ik_2 (by decide)
    refine lv_iconst (v := 1) hx hb dX7_paints_8 (by decide) ?_
    rw [hQ]
    exact W.zret (v := 1) (ty := .boolean) hx hb hr rfl (fun t ht hW => ⟨⟨1, (fw5, fw3), rfl, (iv_w ik_1 (by decide)), by rw [ht]; exact hP, va_K.moved hW.alike hK, hD⟩, hS.F ht⟩) hS.2.2 dX7_paints_9
set_option maxHeartbeats 4000000 in
set_option maxRecDepth 100000 in
theorem kX7_paints_12 (l : Launch) (dC : Nat → ClassId) (dI : Nat → Nat → Nat) (cI c2 cZ : ClassId) (o1 : Nat) (o8 : Nat) (o9 : Nat) (o2 : Nat) (o4 : Nat) (fw3 : Nat → Int32) (fw5 : Nat → Int32) (v6 : Int32) (v7 : Int32) (fw10 : Nat → Int32) (v11 : Int32) (v12 : Int32) (a3 : Int32) (sz : Nat) (v6_h : Iv (-2147483648) 12 v6) (fw10_b : Bd 12 0 4095 fw10) (v11_h : Iv 0 12 v11) (a3_h : Iv 0 12 a3) : Met l yX7_paints wsX7_paints ({ frames := 11, cells := 0, slots := 0, locals := 264 }) (va_Pc [.ref o1, .ref o8, .int 1, .int a3] (wPre (dC, dI) [(cI, .int), (c2, .array .int), (cZ, .boolean)] ([(o8, .inr (4, [.ref o9, .int v11, .int v12])), (o1, .inr (7, [.ref o2, .ref o4, .int v6, .int v7])), (o4, .inl (cI, 12, .inl fw5)), (o9, .inl (cI, 12, .inl fw10)), (o2, .inl (cI, 12, .inl fw3))]) sz)) (va_Qi (fun (r : Int32) (u : (Nat → Int32) × (Nat → Int32)) => Iv 0 1 r) (fun u t => wPost (dC, dI) [(cI, .int), (c2, .array .int), (cZ, .boolean)] (va_A ([(o8, .inr (4, [.ref o9, .int v11, .int v12])), (o1, .inr (7, [.ref o2, .ref o4, .int v6, .int v7])), (o4, .inl (cI, 12, .inl fw5)), (o9, .inl (cI, 12, .inl fw10)), (o2, .inl (cI, 12, .inl fw3))]) sz) ([(o8, .inr (4, [.ref o9, .int v11, .int v12])), (o1, .inr (7, [.ref o2, .ref o4, .int v6, .int v7])), (o4, .inl (cI, 12, .inl u.1)), (o9, .inl (cI, 12, .inl fw10)), (o2, .inl (cI, 12, .inl u.2))]) t) (va_A ([(o8, .inr (4, [.ref o9, .int v11, .int v12])), (o1, .inr (7, [.ref o2, .ref o4, .int v6, .int v7])), (o4, .inl (cI, 12, .inl fw5)), (o9, .inl (cI, 12, .inl fw10)), (o2, .inl (cI, 12, .inl fw3))]) sz)) 0 0 (va_A ([(o8, .inr (4, [.ref o9, .int v11, .int v12])), (o1, .inr (7, [.ref o2, .ref o4, .int v6, .int v7])), (o4, .inl (cI, 12, .inl fw5)), (o9, .inl (cI, 12, .inl fw10)), (o2, .inl (cI, 12, .inl fw3))]) sz) := by
  refine Met.ofW (cc := cX7_paints) (maxL := 5) (ret := (some .boolean)) (by decide) rfl ?_
  intro p e s m args below meth c s₁ B hml hv
  obtain ⟨rfl, hsz, hP, hK, hD0, hN⟩ := hv
  have hx := B.exec
  have hb := B.bytes
  have hr := B.returns
  have hts := atoms_spec (ws := wsX7_paints) B.pre
  have hown : s.vm.findClass RX7 = some m.cls := findClass_of_methodNamed B.named
  have hlocks := B.notSynchronized
  subst hsz
  have hD := hD0.self (sz := s.heap.size)
  generalize hAe : va_A ([(o8, .inr (4, [.ref o9, .int v11, .int v12])), (o1, .inr (7, [.ref o2, .ref o4, .int v6, .int v7])), (o4, .inl (cI, 12, .inl fw5)), (o9, .inl (cI, 12, .inl fw10)), (o2, .inl (cI, 12, .inl fw3))]) s.heap.size = A at hD ⊢
  have hA : ∀ q : Nat, s.heap.size ≤ q → A q := fun q h => by rw [← hAe]; exact Or.inr h
  have hS : va_S A s.heap s.heap [] := va_S.rf
  have hP : va_P (dC, dI) vwCl ([(o8, .inr (4, [.ref o9, .int v11, .int v12])), (o1, .inr (7, [.ref o2, .ref o4, .int v6, .int v7])), (o4, .inl (cI, 12, .inl fw5)), (o9, .inl (cI, 12, .inl fw10)), (o2, .inl (cI, 12, .inl fw3))]) s.heap := hP
  have hl := lv_entry ([.ref o1, .ref o8, .int 1, .int a3]) (n := 5) (Nat.le_of_ble_eq_true rfl)
  rw [lg_entry_eq]
  generalize (lg_sl ([.ref o1, .ref o8, .int 1, .int a3]) ++ List.replicate (5 - (lg_sl ([.ref o1, .ref o8, .int 1, .int a3])).length) Slot.unset).toArray = ls at hl ⊢
  have hl : lv_has ls 5 [(0, .ref o1), (1, .ref o8), (2, .int 1), (3, .int a3)] := hl
  refine gen_Q (fun Q hQ => ?_)
  refine lv_iload_n hx hb dX7_paints_0 rfl (lv_at hl 2 rfl) ?_
  refine lv_aload_n hx hb dX7_paints_1 rfl (lv_at hl 1 rfl) ?_
  refine va_getN (D := (dC, dI)) (ci := 4) (v := .int v11) (C := RX4) (T := TX4) (N := 3) hx hb hts iw_X7_paints_X4 hown hK hP 0 rfl rfl 1 (by decide) (hN.use ns_8) (fun _ h9 => h9) rfl dX7_paints_2 ?_
  refine lv_icmp_lt (tgt := 10) hx hb dX7_paints_5 (by decide) (fun h1 => ?_) (fun h1 => ?_)
  ·
    have qh1 := lt_i h1
    have j2 : Iv 2 12 v11 := r_ltr qh1 ik_1 v11_h (by decide)
    refine lv_iconst (v := 0) hx hb dX7_paints_10 (by decide) ?_
    refine lv_istore (lv' := [(4, .int 0), (0, .ref o1), (1, .ref o8), (2, .int 1), (3, .int a3)]) hx hb dX7_paints_11 hl (by decide) rfl (fun ls hl => ?_)
    have L1 : ∀ (N : Nat) (x250 : Int32) (f251 : Nat → Int32) (f252 : Nat → Int32) (H : Heap) (locs : List Loc) (ls : Array Slot), (12 - x250.toInt).toNat < N → Iv 0 12 x250 → va_P (dC, dI) vwCl ([(o8, .inr (4, [.ref o9, .int v11, .int v12])), (o1, .inr (7, [.ref o2, .ref o4, .int v6, .int v7])), (o4, .inl (cI, 12, .inl f252)), (o9, .inl (cI, 12, .inl fw10)), (o2, .inl (cI, 12, .inl f251))]) H → va_D A ([(o8, .inr (4, [.ref o9, .int v11, .int v12])), (o1, .inr (7, [.ref o2, .ref o4, .int v6, .int v7])), (o4, .inl (cI, 12, .inl f252)), (o9, .inl (cI, 12, .inl fw10)), (o2, .inl (cI, 12, .inl f251))]) → va_S A s.heap H locs → lv_has ls 5 [(4, .int x250), (0, .ref o1), (1, .ref o8), (2, .int 1), (3, .int a3)] → W p l e ({ frames := 11, cells := 0, slots := 0, locals := 264 }) s m ([.ref o1, .ref o8, .int 1, .int a3] : List Value).toArray below meth c H locs 0 0 Q (F0 m 13 ls []) := by
      intro N
      induction N with
      | zero =>
        intro x250 f251 f252 H locs ls hM
        exact absurd hM (Nat.not_lt_zero _)
      | succ N ih1 =>
        intro x250 f251 f252 H locs ls hM1 x250_h hP hD hS hl
        refine lv_iload hx hb dX7_paints_13 (lv_at hl 0 rfl) ?_
        refine lv_iload_n hx hb dX7_paints_15 rfl (lv_at hl 4 rfl) ?_
        refine lv_icmp_gt (tgt := 108) hx hb dX7_paints_16 (by decide) (fun h253 => ?_) (fun h253 => ?_)
        ·
          have qh253 := lt_i h253
          have j254 : Iv 0 11 a3 := r_ltl qh253 a3_h x250_h (by decide)
          have j255 : Iv 1 12 x250 := r_ltr qh253 a3_h x250_h (by decide)
          refine lv_iconst (v := 0) hx hb dX7_paints_108 (by decide) ?_
          rw [hQ]
          exact W.zret (v := 0) (ty := .boolean) hx hb hr rfl (fun t ht hW => ⟨⟨0, (f252, f251), rfl, (iv_w ik_0 (by decide)), by rw [ht]; exact hP, va_K.moved hW.alike hK, hD⟩, hS.F ht⟩) hS.2.2 dX7_paints_109
        ·
          have qh253 := nlt_i h253
          refine lv_iload hx hb dX7_paints_19 (lv_at hl 0 rfl) ?_
          refine lv_aload_n hx hb dX7_paints_21 rfl (lv_at hl 1 rfl) ?_
          refine va_get (D := (dC, dI)) (ci := 7) (v := .int v6) (C := RX7) (T := TX7) (N := 4) hx hb hts iw_X7_paints_X7 hown hK hP 1 rfl rfl 2 (by decide) (hts (.fieldLink RX7 18 "HolelessHouse$Paint" "most" "I") hm_X7_paints_1) (fun _ h9 => h9) rfl dX7_paints_22 ?_
          refine lv_icmp_ge (tgt := 108) hx hb dX7_paints_25 (by decide) (fun h256 => ?_) (fun h256 => ?_)
          ·
            have qh256 := le_i h256
            refine lv_iconst (v := 0) hx hb dX7_paints_108 (by decide) ?_
            rw [hQ]
            exact W.zret (v := 0) (ty := .boolean) hx hb hr rfl (fun t ht hW => ⟨⟨0, (f252, f251), rfl, (iv_w ik_0 (by decide)), by rw [ht]; exact hP, va_K.moved hW.alike hK, hD⟩, hS.F ht⟩) hS.2.2 dX7_paints_109
          ·
            have qh256 := nle_i h256
            have j257 : Iv 0 11 x250 := r_ltl qh256 x250_h v6_h (by decide)
            have j258 : Iv 1 12 v6 := r_ltr qh256 x250_h v6_h (by decide)
            refine lv_aload_n hx hb dX7_paints_28 rfl (lv_at hl 1 rfl) ?_
            refine va_get (D := (dC, dI)) (ci := 7) (v := .ref o4) (C := RX7) (T := TX7) (N := 4) hx hb hts iw_X7_paints_X7 hown hK hP 1 rfl rfl 1 (by decide) (hts (.fieldLink RX7 15 "HolelessHouse$Paint" "worn" "[I") hm_X7_paints_2) (fun _ h9 => h9) rfl dX7_paints_29 ?_
            refine lv_iload hx hb dX7_paints_32 (lv_at hl 0 rfl) ?_
            refine va_iald hx hb hK hP 2 0 rfl rfl (vin_iv j257 (by decide)) dX7_paints_34 (lv_topi (fun x259 x259_e => ?_))
            refine lv_aload_n hx hb dX7_paints_35 rfl (lv_at hl 2 rfl) ?_
            refine va_getN (D := (dC, dI)) (ci := 4) (v := .ref o9) (C := RX4) (T := TX4) (N := 3) hx hb hts iw_X7_paints_X4 hown hK hP 0 rfl rfl 0 (by decide) (hN.use ns_3) (fun _ h9 => h9) rfl dX7_paints_36 ?_
            refine lv_iload_n hx hb dX7_paints_39 rfl (lv_at hl 3 rfl) ?_
            refine va_iald hx hb hK hP 3 0 rfl rfl (vin_iv ik_1 (by decide)) dX7_paints_40 (lv_topi (fun x260 x260_e => ?_))
            have x260_h : Iv 0 4095 x260 := iv_e x260_e (bd_at fw10_b (vin_iv ik_1 (by decide)))
            refine lv_iand hx hb dX7_paints_41 (lv_topi (fun x261 x261_e => ?_))
            have x261_h : Iv 0 4095 x261 := iv_e x261_e (iv_andR _ x260_h (by decide))
            refine lv_if_ne (tgt := 102) hx hb dX7_paints_42 (by decide) (fun h262 => ?_) (fun h262 => ?_)
            ·
              have j263 : Iv 1 4095 x261 := r_nelo h262 x261_h ik_0 (by decide)
              obtain ⟨x264, x264_e⟩ : ∃ z : Int32, z = x250 + 1 := ⟨_, rfl⟩
              have x264_h : Iv 1 12 x264 := iv_e x264_e (iv_add j257 ik_1 (by decide))
              refine lv_iinc (v := x264) (lv' := [(4, .int x264), (0, .ref o1), (1, .ref o8), (2, .int 1), (3, .int a3)]) hx hb dX7_paints_102 hl (k := 0) rfl (incN (by decide +kernel) x264_e) (by decide) rfl (fun ls hl => ?_)
              refine lv_goto (tgt := 13) hx hb dX7_paints_105 (by decide) ?_
              exact ih1 x264 f251 f252 _ _ _ (ms_up x264_e j257 (by decide) hM1) (iv_w x264_h (by decide)) hP hD hS hl
            ·
              have j265 : Iv 0 0 x261 := r_eq h262 ik_0
              refine lv_aload_n hx hb dX7_paints_45 rfl (lv_at hl 1 rfl) ?_
              refine va_get (D := (dC, dI)) (ci := 7) (v := .ref o4) (C := RX7) (T := TX7) (N := 4) hx hb hts iw_X7_paints_X7 hown hK hP 1 rfl rfl 1 (by decide) (hts (.fieldLink RX7 15 "HolelessHouse$Paint" "worn" "[I") hm_X7_paints_2) (fun _ h9 => h9) rfl dX7_paints_46 ?_
              refine lv_iload hx hb dX7_paints_49 (lv_at hl 0 rfl) ?_
              refine lv_dup2_11 hx hb dX7_paints_51 rfl rfl ?_
              refine va_iald hx hb hK hP 2 0 rfl rfl (vin_iv j257 (by decide)) dX7_paints_52 (lv_topi (fun x266 x266_e => ?_))
              refine lv_iconst (v := 1) hx hb dX7_paints_53 (by decide) ?_
              refine lv_iload_n hx hb dX7_paints_54 rfl (lv_at hl 3 rfl) ?_
              refine lv_ishl hx hb dX7_paints_55 (tk_i (v := 2) (by decide +kernel) ?_)
              refine lv_ior hx hb dX7_paints_56 (lv_topi (fun x267 x267_e => ?_))
              refine k_iast hx hb hK hP hD hS 2 0 rfl rfl (vin_iv j257 (by decide)) dX7_paints_57 (fun f268 H locs f268_e hP hD hS => ?_)
              have hP : va_P (dC, dI) vwCl ([(o8, .inr (4, [.ref o9, .int v11, .int v12])), (o1, .inr (7, [.ref o2, .ref o4, .int v6, .int v7])), (o4, .inl (cI, 12, .inl f268)), (o9, .inl (cI, 12, .inl fw10)), (o2, .inl (cI, 12, .inl f251))]) H := hP
              have hD : va_D A ([(o8, .inr (4, [.ref o9, .int v11, .int v12])), (o1, .inr (7, [.ref o2, .ref o4, .int v6, .int v7])), (o4, .inl (cI, 12, .inl f268)), (o9, .inl (cI, 12, .inl fw10)), (o2, .inl (cI, 12, .inl f251))]) := hD
              refine lv_aload_n hx hb dX7_paints_58 rfl (lv_at hl 1 rfl) ?_
              refine va_get (D := (dC, dI)) (ci := 7) (v := .ref o2) (C := RX7) (T := TX7) (N := 4) hx hb hts iw_X7_paints_X7 hown hK hP 1 rfl rfl 0 (by decide) (hts (.fieldLink RX7 9 "HolelessHouse$Paint" "hues" "[I") hm_X7_paints_3) (fun _ h9 => h9) rfl dX7_paints_59 ?_
              refine lv_iload_n hx hb dX7_paints_62 rfl (lv_at hl 3 rfl) ?_
              refine lv_iload hx hb dX7_paints_63 (lv_at hl 0 rfl) ?_
              refine k_iast hx hb hK hP hD hS 4 0 rfl rfl (vin_iv ik_1 (by decide)) dX7_paints_65 (fun f269 H locs f269_e hP hD hS => ?_)
              have hP : va_P (dC, dI) vwCl ([(o8, .inr (4, [.ref o9, .int v11, .int v12])), (o1, .inr (7, [.ref o2, .ref o4, .int v6, .int v7])), (o4, .inl (cI, 12, .inl f268)), (o9, .inl (cI, 12, .inl fw10)), (o2, .inl (cI, 12, .inl f269))]) H := hP
              have hD : va_D A ([(o8, .inr (4, [.ref o9, .int v11, .int v12])), (o1, .inr (7, [.ref o2, .ref o4, .int v6, .int v7])), (o4, .inl (cI, 12, .inl f268)), (o9, .inl (cI, 12, .inl fw10)), (o2, .inl (cI, 12, .inl f269))]) := hD
              refine lv_aload_n hx hb dX7_paints_66 rfl (lv_at hl 1 rfl) ?_
              refine lv_aload_n hx hb dX7_paints_67 rfl (lv_at hl 2 rfl) ?_
              refine lv_iload_n hx hb dX7_paints_68 rfl (lv_at hl 3 rfl) ?_
              refine lv_iconst (v := 1) hx hb dX7_paints_69 (by decide) ?_
              refine lv_iadd hx hb dX7_paints_70 (tk_i (v := 2) (by decide +kernel) ?_)
              refine lv_iload_n hx hb dX7_paints_71 rfl (lv_at hl 4 rfl) ?_
              refine lv_iload hx hb dX7_paints_72 (lv_at hl 0 rfl) ?_
              refine lv_iconst (v := 1) hx hb dX7_paints_74 (by decide) ?_
              refine lv_iadd hx hb dX7_paints_75 (lv_topi (fun x270 x270_e => ?_))
              have x270_h : Iv 1 12 x270 := iv_e x270_e (iv_add j257 ik_1 (by decide))
              refine va_mmax hx hb (hml.trans hl.1.symm) hown (hts (.methodLink RX7 46 Lib.Math.max.name) hm_X7_paints_4) (hts (.static Lib.Math.max.name) hm_X7_paints_5) (hts (.initialized "java/lang/Math") hm_X7_paints_6) (hts (.code Lib.Math.max.name Lib.Math.max.code 2 (some .int)) hm_X7_paints_7) (Nat.le_of_ble_eq_true rfl) (Nat.le_of_ble_eq_true rfl) (Nat.le_of_ble_eq_true rfl) (Nat.le_of_ble_eq_true rfl) dX7_paints_76 (lv_topi (fun x271 x271_e => ?_))
              have x271_h : Iv 0 12 x271 := iv_e x271_e (iv_max a3_h x270_h (by decide))
              refine kc_i (D := (dC, dI)) (S := (Nat → Int32) × (Nat → Int32)) (wc := [(o8, .inr (4, [.ref o9, .int v11, .int v12])), (o1, .inr (7, [.ref o2, .ref o4, .int v6, .int v7])), (o4, .inl (cI, 12, .inl f268)), (o9, .inl (cI, 12, .inl fw10)), (o2, .inl (cI, 12, .inl f269))]) (wr := []) (w1 := fun u => [(o8, .inr (4, [.ref o9, .int v11, .int v12])), (o1, .inr (7, [.ref o2, .ref o4, .int v6, .int v7])), (o4, .inl (cI, 12, .inl u.1)), (o9, .inl (cI, 12, .inl fw10)), (o2, .inl (cI, 12, .inl u.2))]) (wn := fun u => [(o8, .inr (4, [.ref o9, .int v11, .int v12])), (o1, .inr (7, [.ref o2, .ref o4, .int v6, .int v7])), (o4, .inl (cI, 12, .inl u.1)), (o9, .inl (cI, 12, .inl fw10)), (o2, .inl (cI, 12, .inl u.2))]) (fun hPc hDc => va_runS (As := [.ref o1, .ref o8, .int 2, .int x271]) (rest := []) ⟨hx, hb, hml, hown, hts⟩ (kX7_paints_11 l dC dI cI c2 cZ o1 o8 o9 o2 o4 f269 f268 v6 v7 fw10 v11 v12 x271 H.size (iv_w j258 (by decide)) fw10_b (iv_w j2 (by decide)) x271_h) (va_cwS 4 hts gX7_paints_X7_paints rfl rfl rfl (by decide +kernel) ⟨Nat.le_of_ble_eq_true rfl, Nat.le_of_ble_eq_true rfl⟩) (pre_S hPc hK hDc hN) rfl rfl hl.1 rfl (lv_room (Nat.le_of_ble_eq_true rfl)) dX7_paints_79 ⟨Nat.le_of_ble_eq_true rfl, Nat.le_of_ble_eq_true rfl⟩) hP hD hS hA [0, 1, 2, 3, 4] [] [0, 1, 2, 3, 4] rfl rfl (by decide +kernel) (by decide +kernel) (by decide +kernel) (by decide +kernel) (fun _ => rfl) (fun x274 u H locs hq hP hD hS => ?_)
              obtain ⟨f272, f273⟩ := u
              have x274_h := hq
              have hP : va_P (dC, dI) vwCl ([(o8, .inr (4, [.ref o9, .int v11, .int v12])), (o1, .inr (7, [.ref o2, .ref o4, .int v6, .int v7])), (o4, .inl (cI, 12, .inl f272)), (o9, .inl (cI, 12, .inl fw10)), (o2, .inl (cI, 12, .inl f273))]) H := hP
              have hD : va_D A ([(o8, .inr (4, [.ref o9, .int v11, .int v12])), (o1, .inr (7, [.ref o2, .ref o4, .int v6, .int v7])), (o4, .inl (cI, 12, .inl f272)), (o9, .inl (cI, 12, .inl fw10)), (o2, .inl (cI, 12, .inl f273))]) := hD
              refine lv_if_eq (tgt := 87) hx hb dX7_paints_82 (by decide) (fun h275 => ?_) (fun h275 => ?_)
              ·
                have j276 : Iv 0 0 x274 := r_eq h275 ik_0
                refine lv_aload_n hx hb dX7_paints_87 rfl (lv_at hl 1 rfl) ?_
                refine va_get (D := (dC, dI)) (ci := 7) (v := .ref o4) (C := RX7) (T := TX7) (N := 4) hx hb hts iw_X7_paints_X7 hown hK hP 1 rfl rfl 1 (by decide) (hts (.fieldLink RX7 15 "HolelessHouse$Paint" "worn" "[I") hm_X7_paints_2) (fun _ h9 => h9) rfl dX7_paints_88 ?_
                refine lv_iload hx hb dX7_paints_91 (lv_at hl 0 rfl) ?_
                refine lv_dup2_11 hx hb dX7_paints_93 rfl rfl ?_
                refine va_iald hx hb hK hP 2 0 rfl rfl (vin_iv j257 (by decide)) dX7_paints_94 (lv_topi (fun x277 x277_e => ?_))
                refine lv_iconst (v := 1) hx hb dX7_paints_95 (by decide) ?_
                refine lv_iload_n hx hb dX7_paints_96 rfl (lv_at hl 3 rfl) ?_
                refine lv_ishl hx hb dX7_paints_97 (tk_i (v := 2) (by decide +kernel) ?_)
                refine lv_iconst (v := (-1)) hx hb dX7_paints_98 (by decide) ?_
                refine lv_ixor hx hb dX7_paints_99 (tk_i (v := (-3)) (by decide +kernel) ?_)
                refine lv_iand hx hb dX7_paints_100 (lv_topi (fun x278 x278_e => ?_))
                refine k_iast hx hb hK hP hD hS 2 0 rfl rfl (vin_iv j257 (by decide)) dX7_paints_101 (fun f279 H locs f279_e hP hD hS => ?_)
                have hP : va_P (dC, dI) vwCl ([(o8, .inr (4, [.ref o9, .int v11, .int v12])), (o1, .inr (7, [.ref o2, .ref o4, .int v6, .int v7])), (o4, .inl (cI, 12, .inl f279)), (o9, .inl (cI, 12, .inl fw10)), (o2, .inl (cI, 12, .inl f273))]) H := hP
                have hD : va_D A ([(o8, .inr (4, [.ref o9, .int v11, .int v12])), (o1, .inr (7, [.ref o2, .ref o4, .int v6, .int v7])), (o4, .inl (cI, 12, .inl f279)), (o9, .inl (cI, 12, .inl fw10)), (o2, .inl (cI, 12, .inl f273))]) := hD
                obtain ⟨x280, x280_e⟩ : ∃ z : Int32, z = x250 + 1 := ⟨_, rfl⟩
                have x280_h : Iv 1 12 x280 := iv_e x280_e (iv_add j257 ik_1 (by decide))
                refine lv_iinc (v := x280) (lv' := [(4, .int x280), (0, .ref o1), (1, .ref o8), (2, .int 1), (3, .int a3)]) hx hb dX7_paints_102 hl (k := 0) rfl (incN (by decide +kernel) x280_e) (by decide) rfl (fun ls hl => ?_)
                refine lv_goto (tgt := 13) hx hb dX7_paints_105 (by decide) ?_
                exact ih1 x280 f273 f279 _ _ _ (ms_up x280_e j257 (by decide) hM1) (iv_w x280_h (by decide)) hP hD hS hl
              ·
                have j281 : Iv 1 1 x274 := r_nelo h275 x274_h ik_0 (by decide)
                refine lv_iconst (v := 1) hx hb dX7_paints_85 (by decide) ?_
                rw [hQ]
                exact W.zret (v := 1) (ty := .boolean) hx hb hr rfl (fun t ht hW => ⟨⟨1, (f272, f273), rfl, (iv_w ik_1 (by decide)), by rw [ht]; exact hP, va_K.moved hW.alike hK, hD⟩, hS.F ht⟩) hS.2.2 dX7_paints_86
    exact L1 _ 0 fw3 fw5 _ _ _ (Nat.lt_succ_self _) (iv_w ik_0 (by decide)) hP hD hS hl
  ·
    have qh1 := nlt_i h1
    have j282 : Iv 0 1 v11 := r_lel qh1 v11_h ik_1 (by decide)
    refine lv_iconst (v := 1) hx hb dX7_paints_8 (by decide) ?_
    rw [hQ]
    exact W.zret (v := 1) (ty := .boolean) hx hb hr rfl (fun t ht hW => ⟨⟨1, (fw5, fw3), rfl, (iv_w ik_1 (by decide)), by rw [ht]; exact hP, va_K.moved hW.alike hK, hD⟩, hS.F ht⟩) hS.2.2 dX7_paints_9
