set_option maxHeartbeats 4000000 in
set_option maxRecDepth 100000 in
theorem kX9_closes_3 (l : Launch) (dC : Nat → ClassId) (dI : Nat → Nat → Nat) (cI c2 cZ : ClassId) (o1 : Nat) (o11 : Nat) (o2 : Nat) (o7 : Nat) (o12 : Nat) (fw8 : Nat → Int32) (v9 : Int32) (v10 : Int32) (fw13 : Nat → Int32) (v14 : Int32) (v15 : Int32) (a2 : Int32) (a4 : Int32) (sz : Nat) (fw8_b : Bd 12 0 11 fw8) (v9_h : Iv 0 12 v9) (fw13_b : Bd 12 0 4095 fw13) (v14_h : Iv 0 12 v14) (a2_h : Iv 4 12 a2) : Met l yX9_closes wsX9_closes ({ frames := 3, cells := 0, slots := 0, locals := 72 }) (va_Pc [.ref o1, .ref o11, .int a2, .int 10, .int a4] (wPre (dC, dI) [(cI, .int), (c2, .array .int), (cZ, .boolean)] ([(o1, .inr (9, [.ref o2, .ref o7, .int v9, .int v10])), (o7, .inl (cI, 12, .inl fw8)), (o11, .inr (4, [.ref o12, .int v14, .int v15])), (o12, .inl (cI, 12, .inl fw13))]) sz)) (va_Qi (fun (r : Int32) (u : (Nat → Int32)) => Iv 0 1 r ∧ (r = 0 → Iv 11 12 a2) ∧ Bd 12 0 11 u) (fun u t => wPost (dC, dI) [(cI, .int), (c2, .array .int), (cZ, .boolean)] (va_A ([(o1, .inr (9, [.ref o2, .ref o7, .int v9, .int v10])), (o7, .inl (cI, 12, .inl fw8)), (o11, .inr (4, [.ref o12, .int v14, .int v15])), (o12, .inl (cI, 12, .inl fw13))]) sz) ([(o1, .inr (9, [.ref o2, .ref o7, .int v9, .int v10])), (o7, .inl (cI, 12, .inl u)), (o11, .inr (4, [.ref o12, .int v14, .int v15])), (o12, .inl (cI, 12, .inl fw13))]) t) (va_A ([(o1, .inr (9, [.ref o2, .ref o7, .int v9, .int v10])), (o7, .inl (cI, 12, .inl fw8)), (o11, .inr (4, [.ref o12, .int v14, .int v15])), (o12, .inl (cI, 12, .inl fw13))]) sz)) 0 0 (va_A ([(o1, .inr (9, [.ref o2, .ref o7, .int v9, .int v10])), (o7, .inl (cI, 12, .inl fw8)), (o11, .inr (4, [.ref o12, .int v14, .int v15])), (o12, .inl (cI, 12, .inl fw13))]) sz) := by
  refine Met.ofW (cc := cX9_closes) (maxL := 8) (ret := (some .boolean)) (by decide) rfl ?_
  intro p e s m args below meth c s₁ B hml hv
  obtain ⟨rfl, hsz, hP, hK, hD0, hN⟩ := hv
  have hx := B.exec
  have hb := B.bytes
  have hr := B.returns
  have hts := atoms_spec (ws := wsX9_closes) B.pre
  have hown : s.vm.findClass RX9 = some m.cls := findClass_of_methodNamed B.named
  have hlocks := B.notSynchronized
  subst hsz
  have hD := hD0.self (sz := s.heap.size)
  generalize hAe : va_A ([(o1, .inr (9, [.ref o2, .ref o7, .int v9, .int v10])), (o7, .inl (cI, 12, .inl fw8)), (o11, .inr (4, [.ref o12, .int v14, .int v15])), (o12, .inl (cI, 12, .inl fw13))]) s.heap.size = A at hD ⊢
  have hA : ∀ q : Nat, s.heap.size ≤ q → A q := fun q h => by rw [← hAe]; exact Or.inr h
  have hS : va_S A s.heap s.heap [] := va_S.rf
  have hP : va_P (dC, dI) vwCl ([(o1, .inr (9, [.ref o2, .ref o7, .int v9, .int v10])), (o7, .inl (cI, 12, .inl fw8)), (o11, .inr (4, [.ref o12, .int v14, .int v15])), (o12, .inl (cI, 12, .inl fw13))]) s.heap := hP
  have hl := lv_entry ([.ref o1, .ref o11, .int a2, .int 10, .int a4]) (n := 8) (Nat.le_of_ble_eq_true rfl)
  rw [lg_entry_eq]
  generalize (lg_sl ([.ref o1, .ref o11, .int a2, .int 10, .int a4]) ++ List.replicate (8 - (lg_sl ([.ref o1, .ref o11, .int a2, .int 10, .int a4])).length) Slot.unset).toArray = ls at hl ⊢
  have hl : lv_has ls 8 [(0, .ref o1), (1, .ref o11), (2, .int a2), (3, .int 10), (4, .int a4)] := hl
  refine gen_Q (fun Q hQ => ?_)
  refine lv_iload_n hx hb dX9_closes_0 rfl (lv_at hl 3 rfl) ?_
  refine lv_iload_n hx hb dX9_closes_1 rfl (lv_at hl 2 rfl) ?_
  refine lv_icmp_lt (tgt := 7) hx hb dX9_closes_2 (by decide) (fun h1 => ?_) (fun h1 => ?_)
  ·
    have qh1 := lt_i h1
    have j2 : Iv 11 12 a2 := r_ltr qh1 ik_10 a2_h (by decide)
    refine lv_aload_n hx hb dX9_closes_7 rfl (lv_at hl 0 rfl) ?_
    refine lv_aload_n hx hb dX9_closes_8 rfl (lv_at hl 1 rfl) ?_
    refine lv_iload_n hx hb dX9_closes_9 rfl (lv_at hl 2 rfl) ?_
    refine lv_iload_n hx hb dX9_closes_10 rfl (lv_at hl 3 rfl) ?_
    refine kc_i (D := (dC, dI)) (S := Unit) (wc := [(o1, .inr (9, [.ref o2, .ref o7, .int v9, .int v10])), (o7, .inl (cI, 12, .inl fw8)), (o11, .inr (4, [.ref o12, .int v14, .int v15])), (o12, .inl (cI, 12, .inl fw13))]) (wr := []) (w1 := fun _ => [(o1, .inr (9, [.ref o2, .ref o7, .int v9, .int v10])), (o7, .inl (cI, 12, .inl fw8)), (o11, .inr (4, [.ref o12, .int v14, .int v15])), (o12, .inl (cI, 12, .inl fw13))]) (wn := fun _ => [(o1, .inr (9, [.ref o2, .ref o7, .int v9, .int v10])), (o7, .inl (cI, 12, .inl fw8)), (o11, .inr (4, [.ref o12, .int v14, .int v15])), (o12, .inl (cI, 12, .inl fw13))]) (fun hPc hDc => va_runV (As := [.ref o11, .int a2, .int 10]) (rest := []) ⟨hx, hb, hml, hown, hts⟩ (kX9_nextOnes_1 l dC dI cI c2 cZ o1 o11 o2 o7 o12 fw8 v9 v10 fw13 v14 v15 a2 10 s.heap.size fw8_b v9_h fw13_b v14_h (iv_w j2 (by decide)) (iv_w ik_10 (by decide))) (cwV 3 hts gX9_closes_X9_nextOnes rfl rfl rfl (by decide +kernel) ⟨Nat.le_of_ble_eq_true rfl, Nat.le_of_ble_eq_true rfl⟩) (pre_V hPc hK hDc hN (ci := 9) (q0 := 0) rfl rfl) rfl rfl hl.1 rfl (lv_room (Nat.le_of_ble_eq_true rfl)) dX9_closes_11 ⟨Nat.le_of_ble_eq_true rfl, Nat.le_of_ble_eq_true rfl⟩) hP hD hS hA [0, 1, 2, 3] [] [0, 1, 2, 3] rfl rfl (by decide +kernel) (by decide +kernel) (by decide +kernel) (by decide +kernel) (fun _ => rfl) (fun x3 _ H locs hq hP hD hS => ?_)
    have x3_h := hq
    have hP : va_P (dC, dI) vwCl ([(o1, .inr (9, [.ref o2, .ref o7, .int v9, .int v10])), (o7, .inl (cI, 12, .inl fw8)), (o11, .inr (4, [.ref o12, .int v14, .int v15])), (o12, .inl (cI, 12, .inl fw13))]) H := hP
    have hD : va_D A ([(o1, .inr (9, [.ref o2, .ref o7, .int v9, .int v10])), (o7, .inl (cI, 12, .inl fw8)), (o11, .inr (4, [.ref o12, .int v14, .int v15])), (o12, .inl (cI, 12, .inl fw13))]) := hD
    refine lv_iload hx hb dX9_closes_14 (lv_at hl 4 rfl) ?_
    refine lv_iconst (v := (-1)) hx hb dX9_closes_16 (by decide) ?_
    refine lv_ixor hx hb dX9_closes_17 (lv_topi (fun x4 x4_e => ?_))
    refine lv_iand hx hb dX9_closes_18 (lv_topi (fun x5 x5_e => ?_))
    have x5_h : Iv 0 4095 x5 := iv_e x5_e (iv_andL _ x3_h (by decide))
    refine lv_istore (lv' := [(5, .int x5), (0, .ref o1), (1, .ref o11), (2, .int a2), (3, .int 10), (4, .int a4)]) hx hb dX9_closes_19 hl (by decide) rfl (fun ls hl => ?_)
    refine lv_iload_n hx hb dX9_closes_21 rfl (lv_at hl 4 rfl) ?_
    refine lv_iconst (v := 1) hx hb dX9_closes_22 (by decide) ?_
    refine lv_icmp_ne (tgt := 30) hx hb dX9_closes_23 (by decide) (fun _ => ?_) (fun h9 => absurd h9 (by decide +kernel))
    refine lv_aload_n hx hb dX9_closes_30 rfl (lv_at hl 2 rfl) ?_
    refine va_getN (D := (dC, dI)) (ci := 4) (v := .ref o12) (C := RX4) (T := TX4) (N := 3) hx hb hts iw_X9_closes_X4 hown hK hP 2 rfl rfl 0 (by decide) (hN.use ns_6) (fun _ h9 => h9) rfl dX9_closes_31 ?_
    refine lv_aload_n hx hb dX9_closes_34 rfl (lv_at hl 1 rfl) ?_
    refine va_get (D := (dC, dI)) (ci := 9) (v := .ref o7) (C := RX9) (T := TX9) (N := 4) hx hb hts iw_X9_closes_X9 hown hK hP 0 rfl rfl 1 (by decide) (hts (.fieldLink RX9 18 "HolelessHouse$Ring" "path" "[I") hm_X9_closes_1) (fun _ h9 => h9) rfl dX9_closes_35 ?_
    refine lv_iload_n hx hb dX9_closes_38 rfl (lv_at hl 4 rfl) ?_
    refine lv_iconst (v := 1) hx hb dX9_closes_39 (by decide) ?_
    refine lv_isub hx hb dX9_closes_40 (tk_i (v := 9) (by decide +kernel) ?_)
    refine va_iald hx hb hK hP 1 0 rfl rfl (vin_iv ik_9 (by decide)) dX9_closes_41 (lv_topi (fun x6 x6_e => ?_))
    have x6_h : Iv 0 11 x6 := iv_e x6_e (bd_at fw8_b (vin_iv ik_9 (by decide)))
    refine va_iald hx hb hK hP 3 0 rfl rfl (vin_iv x6_h (by decide)) dX9_closes_42 (lv_topi (fun x7 x7_e => ?_))
    have x7_h : Iv 0 4095 x7 := iv_e x7_e (bd_at fw13_b (vin_iv x6_h (by decide)))
    refine lv_istore (lv' := [(6, .int x7), (5, .int x5), (0, .ref o1), (1, .ref o11), (2, .int a2), (3, .int 10), (4, .int a4)]) hx hb dX9_closes_43 hl (by decide) rfl (fun ls hl => ?_)
    refine lv_iconst (v := 0) hx hb dX9_closes_45 (by decide) ?_
    refine lv_istore (lv' := [(7, .int 0), (6, .int x7), (5, .int x5), (0, .ref o1), (1, .ref o11), (2, .int a2), (3, .int 10), (4, .int a4)]) hx hb dX9_closes_46 hl (by decide) rfl (fun ls hl => ?_)
    have L1 : ∀ (N : Nat) (x179 : Int32) (f180 : Nat → Int32) (H : Heap) (locs : List Loc) (ls : Array Slot), (12 - x179.toInt).toNat < N → Iv 0 12 x179 → Bd 12 0 11 f180 → va_P (dC, dI) vwCl ([(o1, .inr (9, [.ref o2, .ref o7, .int v9, .int v10])), (o7, .inl (cI, 12, .inl f180)), (o11, .inr (4, [.ref o12, .int v14, .int v15])), (o12, .inl (cI, 12, .inl fw13))]) H → va_D A ([(o1, .inr (9, [.ref o2, .ref o7, .int v9, .int v10])), (o7, .inl (cI, 12, .inl f180)), (o11, .inr (4, [.ref o12, .int v14, .int v15])), (o12, .inl (cI, 12, .inl fw13))]) → va_S A s.heap H locs → lv_has ls 8 [(7, .int x179), (6, .int x7), (5, .int x5), (0, .ref o1), (1, .ref o11), (2, .int a2), (3, .int 10), (4, .int a4)] → W p l e ({ frames := 3, cells := 0, slots := 0, locals := 72 }) s m ([.ref o1, .ref o11, .int a2, .int 10, .int a4] : List Value).toArray below meth c H locs 0 0 Q (F0 m 48 ls []) := by
      intro N
      induction N with
      | zero =>
        intro x179 f180 H locs ls hM
        exact absurd hM (Nat.not_lt_zero _)
      | succ N ih1 =>
        intro x179 f180 H locs ls hM1 x179_h f180_b hP hD hS hl
        refine lv_iload hx hb dX9_closes_48 (lv_at hl 0 rfl) ?_
        refine lv_aload_n hx hb dX9_closes_50 rfl (lv_at hl 4 rfl) ?_
        refine va_getN (D := (dC, dI)) (ci := 4) (v := .int v14) (C := RX4) (T := TX4) (N := 3) hx hb hts iw_X9_closes_X4 hown hK hP 2 rfl rfl 1 (by decide) (hN.use ns_11) (fun _ h9 => h9) rfl dX9_closes_51 ?_
        refine lv_icmp_ge (tgt := 105) hx hb dX9_closes_54 (by decide) (fun h181 => ?_) (fun h181 => ?_)
        ·
          have qh181 := le_i h181
          refine lv_iconst (v := 0) hx hb dX9_closes_105 (by decide) ?_
          rw [hQ]
          exact W.zret (v := 0) (ty := .boolean) hx hb hr rfl (fun t ht hW => ⟨⟨0, f180, rfl, ⟨(iv_w ik_0 (by decide)), (fun _ => j2), f180_b⟩, by rw [ht]; exact hP, va_K.moved hW.alike hK, hD⟩, hS.F ht⟩) hS.2.2 dX9_closes_106
        ·
          have qh181 := nle_i h181
          have j182 : Iv 0 11 x179 := r_ltl qh181 x179_h v14_h (by decide)
          have j183 : Iv 1 12 v14 := r_ltr qh181 x179_h v14_h (by decide)
          refine lv_iload hx hb dX9_closes_57 (lv_at hl 2 rfl) ?_
          refine lv_iload hx hb dX9_closes_59 (lv_at hl 0 rfl) ?_
          refine kc_i (D := (dC, dI)) (S := Unit) (wc := []) (wr := [(o1, .inr (9, [.ref o2, .ref o7, .int v9, .int v10])), (o7, .inl (cI, 12, .inl f180)), (o11, .inr (4, [.ref o12, .int v14, .int v15])), (o12, .inl (cI, 12, .inl fw13))]) (w1 := fun _ => []) (wn := fun _ => [(o1, .inr (9, [.ref o2, .ref o7, .int v9, .int v10])), (o7, .inl (cI, 12, .inl f180)), (o11, .inr (4, [.ref o12, .int v14, .int v15])), (o12, .inl (cI, 12, .inl fw13))]) (fun hPc hDc => va_runSN (As := [.int x5, .int x179]) (rest := []) ⟨hx, hb, hml, hown, hts⟩ (kX11_in_1 l dC dI cI c2 cZ x5 x179 H.size) ⟨va_cnB 2 hts gX9_closes_X11_in_n56 rfl rfl rfl (hN.1 _ ns_76) (hts (.initialized RX11) hm_X9_closes_11) (by decide +kernel) ⟨Nat.le_of_ble_eq_true rfl, Nat.le_of_ble_eq_true rfl⟩, (hts (.static yX11_in) hm_X9_closes_10), trivial⟩ (pre_S hPc hK hDc hN) rfl rfl hl.1 rfl (lv_room (Nat.le_of_ble_eq_true rfl)) dX9_closes_61 ⟨Nat.le_of_ble_eq_true rfl, Nat.le_of_ble_eq_true rfl⟩) hP hD hS hA [] [0, 1, 2, 3] [0, 1, 2, 3] rfl rfl (by decide +kernel) (by decide +kernel) (by decide +kernel) (by decide +kernel) (fun _ => rfl) (fun x184 _ H locs hq hP hD hS => ?_)
          have x184_h := hq
          have hP : va_P (dC, dI) vwCl ([(o1, .inr (9, [.ref o2, .ref o7, .int v9, .int v10])), (o7, .inl (cI, 12, .inl f180)), (o11, .inr (4, [.ref o12, .int v14, .int v15])), (o12, .inl (cI, 12, .inl fw13))]) H := hP
          have hD : va_D A ([(o1, .inr (9, [.ref o2, .ref o7, .int v9, .int v10])), (o7, .inl (cI, 12, .inl f180)), (o11, .inr (4, [.ref o12, .int v14, .int v15])), (o12, .inl (cI, 12, .inl fw13))]) := hD
          refine lv_if_eq (tgt := 99) hx hb dX9_closes_64 (by decide) (fun h185 => ?_) (fun h185 => ?_)
          ·
            have j186 : Iv 0 0 x184 := r_eq h185 ik_0
            obtain ⟨x187, x187_e⟩ : ∃ z : Int32, z = x179 + 1 := ⟨_, rfl⟩
            have x187_h : Iv 1 12 x187 := iv_e x187_e (iv_add j182 ik_1 (by decide))
            refine lv_iinc (v := x187) (lv' := [(7, .int x187), (6, .int x7), (5, .int x5), (0, .ref o1), (1, .ref o11), (2, .int a2), (3, .int 10), (4, .int a4)]) hx hb dX9_closes_99 hl (k := 0) rfl (incN (by decide +kernel) x187_e) (by decide) rfl (fun ls hl => ?_)
            refine lv_goto (tgt := 48) hx hb dX9_closes_102 (by decide) ?_
            exact ih1 x187 f180 _ _ _ (ms_up x187_e j182 (by decide) hM1) (iv_w x187_h (by decide)) f180_b hP hD hS hl
          ·
            have j188 : Iv 1 1 x184 := r_nelo h185 x184_h ik_0 (by decide)
            refine lv_aload_n hx hb dX9_closes_67 rfl (lv_at hl 3 rfl) ?_
            refine va_get (D := (dC, dI)) (ci := 9) (v := .ref o7) (C := RX9) (T := TX9) (N := 4) hx hb hts iw_X9_closes_X9 hown hK hP 0 rfl rfl 1 (by decide) (hts (.fieldLink RX9 18 "HolelessHouse$Ring" "path" "[I") hm_X9_closes_1) (fun _ h9 => h9) rfl dX9_closes_68 ?_
            refine lv_iload_n hx hb dX9_closes_71 rfl (lv_at hl 6 rfl) ?_
            refine lv_iload hx hb dX9_closes_72 (lv_at hl 0 rfl) ?_
            refine k_iast hx hb hK hP hD hS 1 0 rfl rfl (vin_iv ik_10 (by decide)) dX9_closes_74 (fun f189 H locs f189_e hP hD hS => ?_)
            have f189_b : Bd 12 0 11 f189 := bd_upd f189_e f180_b j182 (by decide)
            have hP : va_P (dC, dI) vwCl ([(o1, .inr (9, [.ref o2, .ref o7, .int v9, .int v10])), (o7, .inl (cI, 12, .inl f189)), (o11, .inr (4, [.ref o12, .int v14, .int v15])), (o12, .inl (cI, 12, .inl fw13))]) H := hP
            have hD : va_D A ([(o1, .inr (9, [.ref o2, .ref o7, .int v9, .int v10])), (o7, .inl (cI, 12, .inl f189)), (o11, .inr (4, [.ref o12, .int v14, .int v15])), (o12, .inl (cI, 12, .inl fw13))]) := hD
            refine lv_aload_n hx hb dX9_closes_75 rfl (lv_at hl 3 rfl) ?_
            refine lv_aload_n hx hb dX9_closes_76 rfl (lv_at hl 4 rfl) ?_
            refine lv_iload_n hx hb dX9_closes_77 rfl (lv_at hl 5 rfl) ?_
            refine lv_iload_n hx hb dX9_closes_78 rfl (lv_at hl 6 rfl) ?_
            refine lv_iconst (v := 1) hx hb dX9_closes_79 (by decide) ?_
            refine lv_iadd hx hb dX9_closes_80 (tk_i (v := 11) (by decide +kernel) ?_)
            refine lv_iload hx hb dX9_closes_81 (lv_at hl 7 rfl) ?_
            refine lv_iload hx hb dX9_closes_83 (lv_at hl 1 rfl) ?_
            refine lv_ior hx hb dX9_closes_85 (lv_topi (fun x190 x190_e => ?_))
            refine lv_iconst (v := 1) hx hb dX9_closes_86 (by decide) ?_
            refine lv_iload hx hb dX9_closes_87 (lv_at hl 0 rfl) ?_
            refine lv_ishl hx hb dX9_closes_89 (lv_topi (fun x191 x191_e => ?_))
            have x191_h : Iv 1 2048 x191 := iv_e x191_e (iv_shl1 j182 (by decide))
            refine lv_ior hx hb dX9_closes_90 (lv_topi (fun x192 x192_e => ?_))
            refine kc_i (D := (dC, dI)) (S := (Nat → Int32)) (wc := [(o1, .inr (9, [.ref o2, .ref o7, .int v9, .int v10])), (o7, .inl (cI, 12, .inl f189)), (o11, .inr (4, [.ref o12, .int v14, .int v15])), (o12, .inl (cI, 12, .inl fw13))]) (wr := []) (w1 := fun u => [(o1, .inr (9, [.ref o2, .ref o7, .int v9, .int v10])), (o7, .inl (cI, 12, .inl u)), (o11, .inr (4, [.ref o12, .int v14, .int v15])), (o12, .inl (cI, 12, .inl fw13))]) (wn := fun u => [(o1, .inr (9, [.ref o2, .ref o7, .int v9, .int v10])), (o7, .inl (cI, 12, .inl u)), (o11, .inr (4, [.ref o12, .int v14, .int v15])), (o12, .inl (cI, 12, .inl fw13))]) (fun hPc hDc => va_runS (As := [.ref o1, .ref o11, .int a2, .int 11, .int x192]) (rest := []) ⟨hx, hb, hml, hown, hts⟩ (kX9_closes_2 l dC dI cI c2 cZ o1 o11 o2 o7 o12 f189 v9 v10 fw13 v14 v15 a2 x192 H.size f189_b v9_h fw13_b (iv_w j183 (by decide)) (iv_w j2 (by decide))) (va_cwS 5 hts gX9_closes_X9_closes rfl rfl rfl (by decide +kernel) ⟨Nat.le_of_ble_eq_true rfl, Nat.le_of_ble_eq_true rfl⟩) (pre_S hPc hK hDc hN) rfl rfl hl.1 rfl (lv_room (Nat.le_of_ble_eq_true rfl)) dX9_closes_91 ⟨Nat.le_of_ble_eq_true rfl, Nat.le_of_ble_eq_true rfl⟩) hP hD hS hA [0, 1, 2, 3] [] [0, 1, 2, 3] rfl rfl (by decide +kernel) (by decide +kernel) (by decide +kernel) (by decide +kernel) (fun _ => rfl) (fun x194 f193 H locs hq hP hD hS => ?_)
            obtain ⟨x194_h, i195, f193_b⟩ := hq
            have hP : va_P (dC, dI) vwCl ([(o1, .inr (9, [.ref o2, .ref o7, .int v9, .int v10])), (o7, .inl (cI, 12, .inl f193)), (o11, .inr (4, [.ref o12, .int v14, .int v15])), (o12, .inl (cI, 12, .inl fw13))]) H := hP
            have hD : va_D A ([(o1, .inr (9, [.ref o2, .ref o7, .int v9, .int v10])), (o7, .inl (cI, 12, .inl f193)), (o11, .inr (4, [.ref o12, .int v14, .int v15])), (o12, .inl (cI, 12, .inl fw13))]) := hD
            refine lv_if_eq (tgt := 99) hx hb dX9_closes_94 (by decide) (fun h196 => ?_) (fun h196 => ?_)
            ·
              have j197 : Iv 0 0 x194 := r_eq h196 ik_0
              have j198 : Iv 12 12 a2 := i195 h196
              obtain ⟨x199, x199_e⟩ : ∃ z : Int32, z = x179 + 1 := ⟨_, rfl⟩
              have x199_h : Iv 1 12 x199 := iv_e x199_e (iv_add j182 ik_1 (by decide))
              refine lv_iinc (v := x199) (lv' := [(7, .int x199), (6, .int x7), (5, .int x5), (0, .ref o1), (1, .ref o11), (2, .int a2), (3, .int 10), (4, .int a4)]) hx hb dX9_closes_99 hl (k := 0) rfl (incN (by decide +kernel) x199_e) (by decide) rfl (fun ls hl => ?_)
              refine lv_goto (tgt := 48) hx hb dX9_closes_102 (by decide) ?_
              exact ih1 x199 f193 _ _ _ (ms_up x199_e j182 (by decide) hM1) (iv_w x199_h (by decide)) f193_b hP hD hS hl
            ·
              have j200 : Iv 1 1 x194 := r_nelo h196 x194_h ik_0 (by decide)
              refine lv_iconst (v := 1) hx hb dX9_closes_97 (by decide) ?_
              rw [hQ]
              exact W.zret (v := 1) (ty := .boolean) hx hb hr rfl (fun t ht hW => ⟨⟨1, f193, rfl, ⟨(iv_w ik_1 (by decide)), (fun h8 => absurd h8 (by decide +kernel)), f193_b⟩, by rw [ht]; exact hP, va_K.moved hW.alike hK, hD⟩, hS.F ht⟩) hS.2.2 dX9_closes_98
    exact L1 _ 0 fw8 _ _ _ (Nat.lt_succ_self _) (iv_w ik_0 (by decide)) fw8_b hP hD hS hl
  ·
    have qh1 := nlt_i h1
    have j201 : Iv 4 10 a2 := r_lel qh1 a2_h ik_10 (by decide)
    refine lv_iconst (v := 1) hx hb dX9_closes_5 (by decide) ?_
    rw [hQ]
    exact W.zret (v := 1) (ty := .boolean) hx hb hr rfl (fun t ht hW => ⟨⟨1, fw8, rfl, ⟨(iv_w ik_1 (by decide)), (fun h8 => absurd h8 (by decide +kernel)), fw8_b⟩, by rw [ht]; exact hP, va_K.moved hW.alike hK, hD⟩, hS.F ht⟩) hS.2.2 dX9_closes_6
set_option maxHeartbeats 4000000 in
set_option maxRecDepth 100000 in
theorem kX9_closes_4 (l : Launch) (dC : Nat → ClassId) (dI : Nat → Nat → Nat) (cI c2 cZ : ClassId) (o1 : Nat) (o11 : Nat) (o2 : Nat) (o7 : Nat) (o12 : Nat) (fw8 : Nat → Int32) (v9 : Int32) (v10 : Int32) (fw13 : Nat → Int32) (v14 : Int32) (v15 : Int32) (a2 : Int32) (a4 : Int32) (sz : Nat) (fw8_b : Bd 12 0 11 fw8) (v9_h : Iv 0 12 v9) (fw13_b : Bd 12 0 4095 fw13) (v14_h : Iv 0 12 v14) (a2_h : Iv 4 12 a2) : Met l yX9_closes wsX9_closes ({ frames := 4, cells := 0, slots := 0, locals := 99 }) (va_Pc [.ref o1, .ref o11, .int a2, .int 9, .int a4] (wPre (dC, dI) [(cI, .int), (c2, .array .int), (cZ, .boolean)] ([(o1, .inr (9, [.ref o2, .ref o7, .int v9, .int v10])), (o7, .inl (cI, 12, .inl fw8)), (o11, .inr (4, [.ref o12, .int v14, .int v15])), (o12, .inl (cI, 12, .inl fw13))]) sz)) (va_Qi (fun (r : Int32) (u : (Nat → Int32)) => Iv 0 1 r ∧ (r = 0 → Iv 10 12 a2) ∧ Bd 12 0 11 u) (fun u t => wPost (dC, dI) [(cI, .int), (c2, .array .int), (cZ, .boolean)] (va_A ([(o1, .inr (9, [.ref o2, .ref o7, .int v9, .int v10])), (o7, .inl (cI, 12, .inl fw8)), (o11, .inr (4, [.ref o12, .int v14, .int v15])), (o12, .inl (cI, 12, .inl fw13))]) sz) ([(o1, .inr (9, [.ref o2, .ref o7, .int v9, .int v10])), (o7, .inl (cI, 12, .inl u)), (o11, .inr (4, [.ref o12, .int v14, .int v15])), (o12, .inl (cI, 12, .inl fw13))]) t) (va_A ([(o1, .inr (9, [.ref o2, .ref o7, .int v9, .int v10])), (o7, .inl (cI, 12, .inl fw8)), (o11, .inr (4, [.ref o12, .int v14, .int v15])), (o12, .inl (cI, 12, .inl fw13))]) sz)) 0 0 (va_A ([(o1, .inr (9, [.ref o2, .ref o7, .int v9, .int v10])), (o7, .inl (cI, 12, .inl fw8)), (o11, .inr (4, [.ref o12, .int v14, .int v15])), (o12, .inl (cI, 12, .inl fw13))]) sz) := by
  refine Met.ofW (cc := cX9_closes) (maxL := 8) (ret := (some .boolean)) (by decide) rfl ?_
  intro p e s m args below meth c s₁ B hml hv
  obtain ⟨rfl, hsz, hP, hK, hD0, hN⟩ := hv
  have hx := B.exec
  have hb := B.bytes
  have hr := B.returns
  have hts := atoms_spec (ws := wsX9_closes) B.pre
  have hown : s.vm.findClass RX9 = some m.cls := findClass_of_methodNamed B.named
  have hlocks := B.notSynchronized
  subst hsz
  have hD := hD0.self (sz := s.heap.size)
  generalize hAe : va_A ([(o1, .inr (9, [.ref o2, .ref o7, .int v9, .int v10])), (o7, .inl (cI, 12, .inl fw8)), (o11, .inr (4, [.ref o12, .int v14, .int v15])), (o12, .inl (cI, 12, .inl fw13))]) s.heap.size = A at hD ⊢
  have hA : ∀ q : Nat, s.heap.size ≤ q → A q := fun q h => by rw [← hAe]; exact Or.inr h
  have hS : va_S A s.heap s.heap [] := va_S.rf
  have hP : va_P (dC, dI) vwCl ([(o1, .inr (9, [.ref o2, .ref o7, .int v9, .int v10])), (o7, .inl (cI, 12, .inl fw8)), (o11, .inr (4, [.ref o12, .int v14, .int v15])), (o12, .inl (cI, 12, .inl fw13))]) s.heap := hP
  have hl := lv_entry ([.ref o1, .ref o11, .int a2, .int 9, .int a4]) (n := 8) (Nat.le_of_ble_eq_true rfl)
  rw [lg_entry_eq]
  generalize (lg_sl ([.ref o1, .ref o11, .int a2, .int 9, .int a4]) ++ List.replicate (8 - (lg_sl ([.ref o1, .ref o11, .int a2, .int 9, .int a4])).length) Slot.unset).toArray = ls at hl ⊢
  have hl : lv_has ls 8 [(0, .ref o1), (1, .ref o11), (2, .int a2), (3, .int 9), (4, .int a4)] := hl
  refine gen_Q (fun Q hQ => ?_)
  refine lv_iload_n hx hb dX9_closes_0 rfl (lv_at hl 3 rfl) ?_
  refine lv_iload_n hx hb dX9_closes_1 rfl (lv_at hl 2 rfl) ?_
  refine lv_icmp_lt (tgt := 7) hx hb dX9_closes_2 (by decide) (fun h1 => ?_) (fun h1 => ?_)
  ·
    have qh1 := lt_i h1
    have j2 : Iv 10 12 a2 := r_ltr qh1 ik_9 a2_h (by decide)
    refine lv_aload_n hx hb dX9_closes_7 rfl (lv_at hl 0 rfl) ?_
    refine lv_aload_n hx hb dX9_closes_8 rfl (lv_at hl 1 rfl) ?_
    refine lv_iload_n hx hb dX9_closes_9 rfl (lv_at hl 2 rfl) ?_
    refine lv_iload_n hx hb dX9_closes_10 rfl (lv_at hl 3 rfl) ?_
    refine kc_i (D := (dC, dI)) (S := Unit) (wc := [(o1, .inr (9, [.ref o2, .ref o7, .int v9, .int v10])), (o7, .inl (cI, 12, .inl fw8)), (o11, .inr (4, [.ref o12, .int v14, .int v15])), (o12, .inl (cI, 12, .inl fw13))]) (wr := []) (w1 := fun _ => [(o1, .inr (9, [.ref o2, .ref o7, .int v9, .int v10])), (o7, .inl (cI, 12, .inl fw8)), (o11, .inr (4, [.ref o12, .int v14, .int v15])), (o12, .inl (cI, 12, .inl fw13))]) (wn := fun _ => [(o1, .inr (9, [.ref o2, .ref o7, .int v9, .int v10])), (o7, .inl (cI, 12, .inl fw8)), (o11, .inr (4, [.ref o12, .int v14, .int v15])), (o12, .inl (cI, 12, .inl fw13))]) (fun hPc hDc => va_runV (As := [.ref o11, .int a2, .int 9]) (rest := []) ⟨hx, hb, hml, hown, hts⟩ (kX9_nextOnes_1 l dC dI cI c2 cZ o1 o11 o2 o7 o12 fw8 v9 v10 fw13 v14 v15 a2 9 s.heap.size fw8_b v9_h fw13_b v14_h (iv_w j2 (by decide)) (iv_w ik_9 (by decide))) (cwV 3 hts gX9_closes_X9_nextOnes rfl rfl rfl (by decide +kernel) ⟨Nat.le_of_ble_eq_true rfl, Nat.le_of_ble_eq_true rfl⟩) (pre_V hPc hK hDc hN (ci := 9) (q0 := 0) rfl rfl) rfl rfl hl.1 rfl (lv_room (Nat.le_of_ble_eq_true rfl)) dX9_closes_11 ⟨Nat.le_of_ble_eq_true rfl, Nat.le_of_ble_eq_true rfl⟩) hP hD hS hA [0, 1, 2, 3] [] [0, 1, 2, 3] rfl rfl (by decide +kernel) (by decide +kernel) (by decide +kernel) (by decide +kernel) (fun _ => rfl) (fun x3 _ H locs hq hP hD hS => ?_)
    have x3_h := hq
    have hP : va_P (dC, dI) vwCl ([(o1, .inr (9, [.ref o2, .ref o7, .int v9, .int v10])), (o7, .inl (cI, 12, .inl fw8)), (o11, .inr (4, [.ref o12, .int v14, .int v15])), (o12, .inl (cI, 12, .inl fw13))]) H := hP
    have hD : va_D A ([(o1, .inr (9, [.ref o2, .ref o7, .int v9, .int v10])), (o7, .inl (cI, 12, .inl fw8)), (o11, .inr (4, [.ref o12, .int v14, .int v15])), (o12, .inl (cI, 12, .inl fw13))]) := hD
    refine lv_iload hx hb dX9_closes_14 (lv_at hl 4 rfl) ?_
    refine lv_iconst (v := (-1)) hx hb dX9_closes_16 (by decide) ?_
    refine lv_ixor hx hb dX9_closes_17 (lv_topi (fun x4 x4_e => ?_))
    refine lv_iand hx hb dX9_closes_18 (lv_topi (fun x5 x5_e => ?_))
    have x5_h : Iv 0 4095 x5 := iv_e x5_e (iv_andL _ x3_h (by decide))
    refine lv_istore (lv' := [(5, .int x5), (0, .ref o1), (1, .ref o11), (2, .int a2), (3, .int 9), (4, .int a4)]) hx hb dX9_closes_19 hl (by decide) rfl (fun ls hl => ?_)
    refine lv_iload_n hx hb dX9_closes_21 rfl (lv_at hl 4 rfl) ?_
    refine lv_iconst (v := 1) hx hb dX9_closes_22 (by decide) ?_
    refine lv_icmp_ne (tgt := 30) hx hb dX9_closes_23 (by decide) (fun _ => ?_) (fun h9 => absurd h9 (by decide +kernel))
    refine lv_aload_n hx hb dX9_closes_30 rfl (lv_at hl 2 rfl) ?_
    refine va_getN (D := (dC, dI)) (ci := 4) (v := .ref o12) (C := RX4) (T := TX4) (N := 3) hx hb hts iw_X9_closes_X4 hown hK hP 2 rfl rfl 0 (by decide) (hN.use ns_6) (fun _ h9 => h9) rfl dX9_closes_31 ?_
    refine lv_aload_n hx hb dX9_closes_34 rfl (lv_at hl 1 rfl) ?_
    refine va_get (D := (dC, dI)) (ci := 9) (v := .ref o7) (C := RX9) (T := TX9) (N := 4) hx hb hts iw_X9_closes_X9 hown hK hP 0 rfl rfl 1 (by decide) (hts (.fieldLink RX9 18 "HolelessHouse$Ring" "path" "[I") hm_X9_closes_1) (fun _ h9 => h9) rfl dX9_closes_35 ?_
    refine lv_iload_n hx hb dX9_closes_38 rfl (lv_at hl 4 rfl) ?_
    refine lv_iconst (v := 1) hx hb dX9_closes_39 (by decide) ?_
    refine lv_isub hx hb dX9_closes_40 (tk_i (v := 8) (by decide +kernel) ?_)
    refine va_iald hx hb hK hP 1 0 rfl rfl (vin_iv ik_8 (by decide)) dX9_closes_41 (lv_topi (fun x6 x6_e => ?_))
    have x6_h : Iv 0 11 x6 := iv_e x6_e (bd_at fw8_b (vin_iv ik_8 (by decide)))
    refine va_iald hx hb hK hP 3 0 rfl rfl (vin_iv x6_h (by decide)) dX9_closes_42 (lv_topi (fun x7 x7_e => ?_))
    have x7_h : Iv 0 4095 x7 := iv_e x7_e (bd_at fw13_b (vin_iv x6_h (by decide)))
    refine lv_istore (lv' := [(6, .int x7), (5, .int x5), (0, .ref o1), (1, .ref o11), (2, .int a2), (3, .int 9), (4, .int a4)]) hx hb dX9_closes_43 hl (by decide) rfl (fun ls hl => ?_)
    refine lv_iconst (v := 0) hx hb dX9_closes_45 (by decide) ?_
    refine lv_istore (lv' := [(7, .int 0), (6, .int x7), (5, .int x5), (0, .ref o1), (1, .ref o11), (2, .int a2), (3, .int 9), (4, .int a4)]) hx hb dX9_closes_46 hl (by decide) rfl (fun ls hl => ?_)
    have L1 : ∀ (N : Nat) (x179 : Int32) (f180 : Nat → Int32) (H : Heap) (locs : List Loc) (ls : Array Slot), (12 - x179.toInt).toNat < N → Iv 0 12 x179 → Bd 12 0 11 f180 → va_P (dC, dI) vwCl ([(o1, .inr (9, [.ref o2, .ref o7, .int v9, .int v10])), (o7, .inl (cI, 12, .inl f180)), (o11, .inr (4, [.ref o12, .int v14, .int v15])), (o12, .inl (cI, 12, .inl fw13))]) H → va_D A ([(o1, .inr (9, [.ref o2, .ref o7, .int v9, .int v10])), (o7, .inl (cI, 12, .inl f180)), (o11, .inr (4, [.ref o12, .int v14, .int v15])), (o12, .inl (cI, 12, .inl fw13))]) → va_S A s.heap H locs → lv_has ls 8 [(7, .int x179), (6, .int x7), (5, .int x5), (0, .ref o1), (1, .ref o11), (2, .int a2), (3, .int 9), (4, .int a4)] → W p l e ({ frames := 4, cells := 0, slots := 0, locals := 99 }) s m ([.ref o1, .ref o11, .int a2, .int 9, .int a4] : List Value).toArray below meth c H locs 0 0 Q (F0 m 48 ls []) := by
      intro N
      induction N with
      | zero =>
        intro x179 f180 H locs ls hM
        exact absurd hM (Nat.not_lt_zero _)
      | succ N ih1 =>
        intro x179 f180 H locs ls hM1 x179_h f180_b hP hD hS hl
        refine lv_iload hx hb dX9_closes_48 (lv_at hl 0 rfl) ?_
        refine lv_aload_n hx hb dX9_closes_50 rfl (lv_at hl 4 rfl) ?_
        refine va_getN (D := (dC, dI)) (ci := 4) (v := .int v14) (C := RX4) (T := TX4) (N := 3) hx hb hts iw_X9_closes_X4 hown hK hP 2 rfl rfl 1 (by decide) (hN.use ns_11) (fun _ h9 => h9) rfl dX9_closes_51 ?_
        refine lv_icmp_ge (tgt := 105) hx hb dX9_closes_54 (by decide) (fun h181 => ?_) (fun h181 => ?_)
        ·
          have qh181 := le_i h181
          refine lv_iconst (v := 0) hx hb dX9_closes_105 (by decide) ?_
          rw [hQ]
          exact W.zret (v := 0) (ty := .boolean) hx hb hr rfl (fun t ht hW => ⟨⟨0, f180, rfl, ⟨(iv_w ik_0 (by decide)), (fun _ => j2), f180_b⟩, by rw [ht]; exact hP, va_K.moved hW.alike hK, hD⟩, hS.F ht⟩) hS.2.2 dX9_closes_106
        ·
          have qh181 := nle_i h181
          have j182 : Iv 0 11 x179 := r_ltl qh181 x179_h v14_h (by decide)
          have j183 : Iv 1 12 v14 := r_ltr qh181 x179_h v14_h (by decide)
          refine lv_iload hx hb dX9_closes_57 (lv_at hl 2 rfl) ?_
          refine lv_iload hx hb dX9_closes_59 (lv_at hl 0 rfl) ?_
          refine kc_i (D := (dC, dI)) (S := Unit) (wc := []) (wr := [(o1, .inr (9, [.ref o2, .ref o7, .int v9, .int v10])), (o7, .inl (cI, 12, .inl f180)), (o11, .inr (4, [.ref o12, .int v14, .int v15])), (o12, .inl (cI, 12, .inl fw13))]) (w1 := fun _ => []) (wn := fun _ => [(o1, .inr (9, [.ref o2, .ref o7, .int v9, .int v10])), (o7, .inl (cI, 12, .inl f180)), (o11, .inr (4, [.ref o12, .int v14, .int v15])), (o12, .inl (cI, 12, .inl fw13))]) (fun hPc hDc => va_runSN (As := [.int x5, .int x179]) (rest := []) ⟨hx, hb, hml, hown, hts⟩ (kX11_in_1 l dC dI cI c2 cZ x5 x179 H.size) ⟨va_cnB 2 hts gX9_closes_X11_in_n56 rfl rfl rfl (hN.1 _ ns_76) (hts (.initialized RX11) hm_X9_closes_11) (by decide +kernel) ⟨Nat.le_of_ble_eq_true rfl, Nat.le_of_ble_eq_true rfl⟩, (hts (.static yX11_in) hm_X9_closes_10), trivial⟩ (pre_S hPc hK hDc hN) rfl rfl hl.1 rfl (lv_room (Nat.le_of_ble_eq_true rfl)) dX9_closes_61 ⟨Nat.le_of_ble_eq_true rfl, Nat.le_of_ble_eq_true rfl⟩) hP hD hS hA [] [0, 1, 2, 3] [0, 1, 2, 3] rfl rfl (by decide +kernel) (by decide +kernel) (by decide +kernel) (by decide +kernel) (fun _ => rfl) (fun x184 _ H locs hq hP hD hS => ?_)
          have x184_h := hq
          have hP : va_P (dC, dI) vwCl ([(o1, .inr (9, [.ref o2, .ref o7, .int v9, .int v10])), (o7, .inl (cI, 12, .inl f180)), (o11, .inr (4, [.ref o12, .int v14, .int v15])), (o12, .inl (cI, 12, .inl fw13))]) H := hP
          have hD : va_D A ([(o1, .inr (9, [.ref o2, .ref o7, .int v9, .int v10])), (o7, .inl (cI, 12, .inl f180)), (o11, .inr (4, [.ref o12, .int v14, .int v15])), (o12, .inl (cI, 12, .inl fw13))]) := hD
          refine lv_if_eq (tgt := 99) hx hb dX9_closes_64 (by decide) (fun h185 => ?_) (fun h185 => ?_)
          ·
            have j186 : Iv 0 0 x184 := r_eq h185 ik_0
            obtain ⟨x187, x187_e⟩ : ∃ z : Int32, z = x179 + 1 := ⟨_, rfl⟩
            have x187_h : Iv 1 12 x187 := iv_e x187_e (iv_add j182 ik_1 (by decide))
            refine lv_iinc (v := x187) (lv' := [(7, .int x187), (6, .int x7), (5, .int x5), (0, .ref o1), (1, .ref o11), (2, .int a2), (3, .int 9), (4, .int a4)]) hx hb dX9_closes_99 hl (k := 0) rfl (incN (by decide +kernel) x187_e) (by decide) rfl (fun ls hl => ?_)
            refine lv_goto (tgt := 48) hx hb dX9_closes_102 (by decide) ?_
            exact ih1 x187 f180 _ _ _ (ms_up x187_e j182 (by decide) hM1) (iv_w x187_h (by decide)) f180_b hP hD hS hl
          ·
            have j188 : Iv 1 1 x184 := r_nelo h185 x184_h ik_0 (by decide)
            refine lv_aload_n hx hb dX9_closes_67 rfl (lv_at hl 3 rfl) ?_
            refine va_get (D := (dC, dI)) (ci := 9) (v := .ref o7) (C := RX9) (T := TX9) (N := 4) hx hb hts iw_X9_closes_X9 hown hK hP 0 rfl rfl 1 (by decide) (hts (.fieldLink RX9 18 "HolelessHouse$Ring" "path" "[I") hm_X9_closes_1) (fun _ h9 => h9) rfl dX9_closes_68 ?_
            refine lv_iload_n hx hb dX9_closes_71 rfl (lv_at hl 6 rfl) ?_
            refine lv_iload hx hb dX9_closes_72 (lv_at hl 0 rfl) ?_
            refine k_iast hx hb hK hP hD hS 1 0 rfl rfl (vin_iv ik_9 (by decide)) dX9_closes_74 (fun f189 H locs f189_e hP hD hS => ?_)
            have f189_b : Bd 12 0 11 f189 := bd_upd f189_e f180_b j182 (by decide)
            have hP : va_P (dC, dI) vwCl ([(o1, .inr (9, [.ref o2, .ref o7, .int v9, .int v10])), (o7, .inl (cI, 12, .inl f189)), (o11, .inr (4, [.ref o12, .int v14, .int v15])), (o12, .inl (cI, 12, .inl fw13))]) H := hP
            have hD : va_D A ([(o1, .inr (9, [.ref o2, .ref o7, .int v9, .int v10])), (o7, .inl (cI, 12, .inl f189)), (o11, .inr (4, [.ref o12, .int v14, .int v15])), (o12, .inl (cI, 12, .inl fw13))]) := hD
            refine lv_aload_n hx hb dX9_closes_75 rfl (lv_at hl 3 rfl) ?_
            refine lv_aload_n hx hb dX9_closes_76 rfl (lv_at hl 4 rfl) ?_
            refine lv_iload_n hx hb dX9_closes_77 rfl (lv_at hl 5 rfl) ?_
            refine lv_iload_n hx hb dX9_closes_78 rfl (lv_at hl 6 rfl) ?_
            refine lv_iconst (v := 1) hx hb dX9_closes_79 (by decide) ?_
            refine lv_iadd hx hb dX9_closes_80 (tk_i (v := 10) (by decide +kernel) ?_)
            refine lv_iload hx hb dX9_closes_81 (lv_at hl 7 rfl) ?_
            refine lv_iload hx hb dX9_closes_83 (lv_at hl 1 rfl) ?_
            refine lv_ior hx hb dX9_closes_85 (lv_topi (fun x190 x190_e => ?_))
            refine lv_iconst (v := 1) hx hb dX9_closes_86 (by decide) ?_
            refine lv_iload hx hb dX9_closes_87 (lv_at hl 0 rfl) ?_
            refine lv_ishl hx hb dX9_closes_89 (lv_topi (fun x191 x191_e => ?_))
            have x191_h : Iv 1 2048 x191 := iv_e x191_e (iv_shl1 j182 (by decide))
            refine lv_ior hx hb dX9_closes_90 (lv_topi (fun x192 x192_e => ?_))
            refine kc_i (D := (dC, dI)) (S := (Nat → Int32)) (wc := [(o1, .inr (9, [.ref o2, .ref o7, .int v9, .int v10])), (o7, .inl (cI, 12, .inl f189)), (o11, .inr (4, [.ref o12, .int v14, .int v15])), (o12, .inl (cI, 12, .inl fw13))]) (wr := []) (w1 := fun u => [(o1, .inr (9, [.ref o2, .ref o7, .int v9, .int v10])), (o7, .inl (cI, 12, .inl u)), (o11, .inr (4, [.ref o12, .int v14, .int v15])), (o12, .inl (cI, 12, .inl fw13))]) (wn := fun u => [(o1, .inr (9, [.ref o2, .ref o7, .int v9, .int v10])), (o7, .inl (cI, 12, .inl u)), (o11, .inr (4, [.ref o12, .int v14, .int v15])), (o12, .inl (cI, 12, .inl fw13))]) (fun hPc hDc => va_runS (As := [.ref o1, .ref o11, .int a2, .int 10, .int x192]) (rest := []) ⟨hx, hb, hml, hown, hts⟩ (kX9_closes_3 l dC dI cI c2 cZ o1 o11 o2 o7 o12 f189 v9 v10 fw13 v14 v15 a2 x192 H.size f189_b v9_h fw13_b (iv_w j183 (by decide)) (iv_w j2 (by decide))) (va_cwS 5 hts gX9_closes_X9_closes rfl rfl rfl (by decide +kernel) ⟨Nat.le_of_ble_eq_true rfl, Nat.le_of_ble_eq_true rfl⟩) (pre_S hPc hK hDc hN) rfl rfl hl.1 rfl (lv_room (Nat.le_of_ble_eq_true rfl)) dX9_closes_91 ⟨Nat.le_of_ble_eq_true rfl, Nat.le_of_ble_eq_true rfl⟩) hP hD hS hA [0, 1, 2, 3] [] [0, 1, 2, 3] rfl rfl (by decide +kernel) (by decide +kernel) (by decide +kernel) (by decide +kernel) (fun _ => rfl) (fun x194 f193 H locs hq hP hD hS => ?_)
            obtain ⟨x194_h, i195, f193_b⟩ := hq
            have hP : va_P (dC, dI) vwCl ([(o1, .inr (9, [.ref o2, .ref o7, .int v9, .int v10])), (o7, .inl (cI, 12, .inl f193)), (o11, .inr (4, [.ref o12, .int v14, .int v15])), (o12, .inl (cI, 12, .inl fw13))]) H := hP
            have hD : va_D A ([(o1, .inr (9, [.ref o2, .ref o7, .int v9, .int v10])), (o7, .inl (cI, 12, .inl f193)), (o11, .inr (4, [.ref o12, .int v14, .int v15])), (o12, .inl (cI, 12, .inl fw13))]) := hD
            refine lv_if_eq (tgt := 99) hx hb dX9_closes_94 (by decide) (fun h196 => ?_) (fun h196 => ?_)
            ·
              have j197 : Iv 0 0 x194 := r_eq h196 ik_0
              have j198 : Iv 11 12 a2 := i195 h196
              obtain ⟨x199, x199_e⟩ : ∃ z : Int32, z = x179 + 1 := ⟨_, rfl⟩
              have x199_h : Iv 1 12 x199 := iv_e x199_e (iv_add j182 ik_1 (by decide))
              refine lv_iinc (v := x199) (lv' := [(7, .int x199), (6, .int x7), (5, .int x5), (0, .ref o1), (1, .ref o11), (2, .int a2), (3, .int 9), (4, .int a4)]) hx hb dX9_closes_99 hl (k := 0) rfl (incN (by decide +kernel) x199_e) (by decide) rfl (fun ls hl => ?_)
              refine lv_goto (tgt := 48) hx hb dX9_closes_102 (by decide) ?_
              exact ih1 x199 f193 _ _ _ (ms_up x199_e j182 (by decide) hM1) (iv_w x199_h (by decide)) f193_b hP hD hS hl
            ·
              have j200 : Iv 1 1 x194 := r_nelo h196 x194_h ik_0 (by decide)
              refine lv_iconst (v := 1) hx hb dX9_closes_97 (by decide) ?_
              rw [hQ]
              exact W.zret (v := 1) (ty := .boolean) hx hb hr rfl (fun t ht hW => ⟨⟨1, f193, rfl, ⟨(iv_w ik_1 (by decide)), (fun h8 => absurd h8 (by decide +kernel)), f193_b⟩, by rw [ht]; exact hP, va_K.moved hW.alike hK, hD⟩, hS.F ht⟩) hS.2.2 dX9_closes_98
    exact L1 _ 0 fw8 _ _ _ (Nat.lt_succ_self _) (iv_w ik_0 (by decide)) fw8_b hP hD hS hl
  ·
    have qh1 := nlt_i h1
    have j201 : Iv 4 9 a2 := r_lel qh1 a2_h ik_9 (by decide)
    refine lv_iconst (v := 1) hx hb dX9_closes_5 (by decide) ?_
    rw [hQ]
    exact W.zret (v := 1) (ty := .boolean) hx hb hr rfl (fun t ht hW => ⟨⟨1, fw8, rfl, ⟨(iv_w ik_1 (by decide)), (fun h8 => absurd h8 (by decide +kernel)), fw8_b⟩, by rw [ht]; exact hP, va_K.moved hW.alike hK, hD⟩, hS.F ht⟩) hS.2.2 dX9_closes_6
set_option maxHeartbeats 4000000 in
set_option maxRecDepth 100000 in
theorem kX9_closes_5 (l : Launch) (dC : Nat → ClassId) (dI : Nat → Nat → Nat) (cI c2 cZ : ClassId) (o1 : Nat) (o11 : Nat) (o2 : Nat) (o7 : Nat) (o12 : Nat) (fw8 : Nat → Int32) (v9 : Int32) (v10 : Int32) (fw13 : Nat → Int32) (v14 : Int32) (v15 : Int32) (a2 : Int32) (a4 : Int32) (sz : Nat) (fw8_b : Bd 12 0 11 fw8) (v9_h : Iv 0 12 v9) (fw13_b : Bd 12 0 4095 fw13) (v14_h : Iv 0 12 v14) (a2_h : Iv 4 12 a2) : Met l yX9_closes wsX9_closes ({ frames := 5, cells := 0, slots := 0, locals := 126 }) (va_Pc [.ref o1, .ref o11, .int a2, .int 8, .int a4] (wPre (dC, dI) [(cI, .int), (c2, .array .int), (cZ, .boolean)] ([(o1, .inr (9, [.ref o2, .ref o7, .int v9, .int v10])), (o7, .inl (cI, 12, .inl fw8)), (o11, .inr (4, [.ref o12, .int v14, .int v15])), (o12, .inl (cI, 12, .inl fw13))]) sz)) (va_Qi (fun (r : Int32) (u : (Nat → Int32)) => Iv 0 1 r ∧ (r = 0 → Iv 9 12 a2) ∧ Bd 12 0 11 u) (fun u t => wPost (dC, dI) [(cI, .int), (c2, .array .int), (cZ, .boolean)] (va_A ([(o1, .inr (9, [.ref o2, .ref o7, .int v9, .int v10])), (o7, .inl (cI, 12, .inl fw8)), (o11, .inr (4, [.ref o12, .int v14, .int v15])), (o12, .inl (cI, 12, .inl fw13))]) sz) ([(o1, .inr (9, [.ref o2, .ref o7, .int v9, .int v10])), (o7, .inl (cI, 12, .inl u)), (o11, .inr (4, [.ref o12, .int v14, .int v15])), (o12, .inl (cI, 12, .inl fw13))]) t) (va_A ([(o1, .inr (9, [.ref o2, .ref o7, .int v9, .int v10])), (o7, .inl (cI, 12, .inl fw8)), (o11, .inr (4, [.ref o12, .int v14, .int v15])), (o12, .inl (cI, 12, .inl fw13))]) sz)) 0 0 (va_A ([(o1, .inr (9, [.ref o2, .ref o7, .int v9, .int v10])), (o7, .inl (cI, 12, .inl fw8)), (o11, .inr (4, [.ref o12, .int v14, .int v15])), (o12, .inl (cI, 12, .inl fw13))]) sz) := by
  refine Met.ofW (cc := cX9_closes) (maxL := 8) (ret := (some .boolean)) (by decide) rfl ?_
  intro p e s m args below meth c s₁ B hml hv
  obtain ⟨rfl, hsz, hP, hK, hD0, hN⟩ := hv
  have hx := B.exec
  have hb := B.bytes
  have hr := B.returns
  have hts := atoms_spec (ws := wsX9_closes) B.pre
  have hown : s.vm.findClass RX9 = some m.cls := findClass_of_methodNamed B.named
  have hlocks := B.notSynchronized
  subst hsz
  have hD := hD0.self (sz := s.heap.size)
  generalize hAe : va_A ([(o1, .inr (9, [.ref o2, .ref o7, .int v9, .int v10])), (o7, .inl (cI, 12, .inl fw8)), (o11, .inr (4, [.ref o12, .int v14, .int v15])), (o12, .inl (cI, 12, .inl fw13))]) s.heap.size = A at hD ⊢
  have hA : ∀ q : Nat, s.heap.size ≤ q → A q := fun q h => by rw [← hAe]; exact Or.inr h
  have hS : va_S A s.heap s.heap [] := va_S.rf
  have hP : va_P (dC, dI) vwCl ([(o1, .inr (9, [.ref o2, .ref o7, .int v9, .int v10])), (o7, .inl (cI, 12, .inl fw8)), (o11, .inr (4, [.ref o12, .int v14, .int v15])), (o12, .inl (cI, 12, .inl fw13))]) s.heap := hP
  have hl := lv_entry ([.ref o1, .ref o11, .int a2, .int 8, .int a4]) (n := 8) (Nat.le_of_ble_eq_true rfl)
  rw [lg_entry_eq]
  generalize (lg_sl ([.ref o1, .ref o11, .int a2, .int 8, .int a4]) ++ List.replicate (8 - (lg_sl ([.ref o1, .ref o11, .int a2, .int 8, .int a4])).length) Slot.unset).toArray = ls at hl ⊢
  have hl : lv_has ls 8 [(0, .ref o1), (1, .ref o11), (2, .int a2), (3, .int 8), (4, .int a4)] := hl
  refine gen_Q (fun Q hQ => ?_)
  refine lv_iload_n hx hb dX9_closes_0 rfl (lv_at hl 3 rfl) ?_
  refine lv_iload_n hx hb dX9_closes_1 rfl (lv_at hl 2 rfl) ?_
  refine lv_icmp_lt (tgt := 7) hx hb dX9_closes_2 (by decide) (fun h1 => ?_) (fun h1 => ?_)
  ·
    have qh1 := lt_i h1
    have j2 : Iv 9 12 a2 := r_ltr qh1 ik_8 a2_h (by decide)
    refine lv_aload_n hx hb dX9_closes_7 rfl (lv_at hl 0 rfl) ?_
    refine lv_aload_n hx hb dX9_closes_8 rfl (lv_at hl 1 rfl) ?_
    refine lv_iload_n hx hb dX9_closes_9 rfl (lv_at hl 2 rfl) ?_
    refine lv_iload_n hx hb dX9_closes_10 rfl (lv_at hl 3 rfl) ?_
    refine kc_i (D := (dC, dI)) (S := Unit) (wc := [(o1, .inr (9, [.ref o2, .ref o7, .int v9, .int v10])), (o7, .inl (cI, 12, .inl fw8)), (o11, .inr (4, [.ref o12, .int v14, .int v15])), (o12, .inl (cI, 12, .inl fw13))]) (wr := []) (w1 := fun _ => [(o1, .inr (9, [.ref o2, .ref o7, .int v9, .int v10])), (o7, .inl (cI, 12, .inl fw8)), (o11, .inr (4, [.ref o12, .int v14, .int v15])), (o12, .inl (cI, 12, .inl fw13))]) (wn := fun _ => [(o1, .inr (9, [.ref o2, .ref o7, .int v9, .int v10])), (o7, .inl (cI, 12, .inl fw8)), (o11, .inr (4, [.ref o12, .int v14, .int v15])), (o12, .inl (cI, 12, .inl fw13))]) (fun hPc hDc => va_runV (As := [.ref o11, .int a2, .int 8]) (rest := []) ⟨hx, hb, hml, hown, hts⟩ (kX9_nextOnes_1 l dC dI cI c2 cZ o1 o11 o2 o7 o12 fw8 v9 v10 fw13 v14 v15 a2 8 s.heap.size fw8_b v9_h fw13_b v14_h (iv_w j2 (by decide)) (iv_w ik_8 (by decide))) (cwV 3 hts gX9_closes_X9_nextOnes rfl rfl rfl (by decide +kernel) ⟨Nat.le_of_ble_eq_true rfl, Nat.le_of_ble_eq_true rfl⟩) (pre_V hPc hK hDc hN (ci := 9) (q0 := 0) rfl rfl) rfl rfl hl.1 rfl (lv_room (Nat.le_of_ble_eq_true rfl)) dX9_closes_11 ⟨Nat.le_of_ble_eq_true rfl, Nat.le_of_ble_eq_true rfl⟩) hP hD hS hA [0, 1, 2, 3] [] [0, 1, 2, 3] rfl rfl (by decide +kernel) (by decide +kernel) (by decide +kernel) (by decide +kernel) (fun _ => rfl) (fun x3 _ H locs hq hP hD hS => ?_)
    have x3_h := hq
    have hP : va_P (dC, dI) vwCl ([(o1, .inr (9, [.ref o2, .ref o7, .int v9, .int v10])), (o7, .inl (cI, 12, .inl fw8)), (o11, .inr (4, [.ref o12, .int v14, .int v15])), (o12, .inl (cI, 12, .inl fw13))]) H := hP
    have hD : va_D A ([(o1, .inr (9, [.ref o2, .ref o7, .int v9, .int v10])), (o7, .inl (cI, 12, .inl fw8)), (o11, .inr (4, [.ref o12, .int v14, .int v15])), (o12, .inl (cI, 12, .inl fw13))]) := hD
    refine lv_iload hx hb dX9_closes_14 (lv_at hl 4 rfl) ?_
    refine lv_iconst (v := (-1)) hx hb dX9_closes_16 (by decide) ?_
    refine lv_ixor hx hb dX9_closes_17 (lv_topi (fun x4 x4_e => ?_))
    refine lv_iand hx hb dX9_closes_18 (lv_topi (fun x5 x5_e => ?_))
    have x5_h : Iv 0 4095 x5 := iv_e x5_e (iv_andL _ x3_h (by decide))
    refine lv_istore (lv' := [(5, .int x5), (0, .ref o1), (1, .ref o11), (2, .int a2), (3, .int 8), (4, .int a4)]) hx hb dX9_closes_19 hl (by decide) rfl (fun ls hl => ?_)
    refine lv_iload_n hx hb dX9_closes_21 rfl (lv_at hl 4 rfl) ?_
    refine lv_iconst (v := 1) hx hb dX9_closes_22 (by decide) ?_
    refine lv_icmp_ne (tgt := 30) hx hb dX9_closes_23 (by decide) (fun _ => ?_) (fun h9 => absurd h9 (by decide +kernel))
    refine lv_aload_n hx hb dX9_closes_30 rfl (lv_at hl 2 rfl) ?_
    refine va_getN (D := (dC, dI)) (ci := 4) (v := .ref o12) (C := RX4) (T := TX4) (N := 3) hx hb hts iw_X9_closes_X4 hown hK hP 2 rfl rfl 0 (by decide) (hN.use ns_6) (fun _ h9 => h9) rfl dX9_closes_31 ?_
    refine lv_aload_n hx hb dX9_closes_34 rfl (lv_at hl 1 rfl) ?_
    refine va_get (D := (dC, dI)) (ci := 9) (v := .ref o7) (C := RX9) (T := TX9) (N := 4) hx hb hts iw_X9_closes_X9 hown hK hP 0 rfl rfl 1 (by decide) (hts (.fieldLink RX9 18 "HolelessHouse$Ring" "path" "[I") hm_X9_closes_1) (fun _ h9 => h9) rfl dX9_closes_35 ?_
    refine lv_iload_n hx hb dX9_closes_38 rfl (lv_at hl 4 rfl) ?_
    refine lv_iconst (v := 1) hx hb dX9_closes_39 (by decide) ?_
    refine lv_isub hx hb dX9_closes_40 (tk_i (v := 7) (by decide +kernel) ?_)
    refine va_iald hx hb hK hP 1 0 rfl rfl (vin_iv ik_7 (by decide)) dX9_closes_41 (lv_topi (fun x6 x6_e => ?_))
    have x6_h : Iv 0 11 x6 := iv_e x6_e (bd_at fw8_b (vin_iv ik_7 (by decide)))
    refine va_iald hx hb hK hP 3 0 rfl rfl (vin_iv x6_h (by decide)) dX9_closes_42 (lv_topi (fun x7 x7_e => ?_))
    have x7_h : Iv 0 4095 x7 := iv_e x7_e (bd_at fw13_b (vin_iv x6_h (by decide)))
    refine lv_istore (lv' := [(6, .int x7), (5, .int x5), (0, .ref o1), (1, .ref o11), (2, .int a2), (3, .int 8), (4, .int a4)]) hx hb dX9_closes_43 hl (by decide) rfl (fun ls hl => ?_)
    refine lv_iconst (v := 0) hx hb dX9_closes_45 (by decide) ?_
    refine lv_istore (lv' := [(7, .int 0), (6, .int x7), (5, .int x5), (0, .ref o1), (1, .ref o11), (2, .int a2), (3, .int 8), (4, .int a4)]) hx hb dX9_closes_46 hl (by decide) rfl (fun ls hl => ?_)
    have L1 : ∀ (N : Nat) (x179 : Int32) (f180 : Nat → Int32) (H : Heap) (locs : List Loc) (ls : Array Slot), (12 - x179.toInt).toNat < N → Iv 0 12 x179 → Bd 12 0 11 f180 → va_P (dC, dI) vwCl ([(o1, .inr (9, [.ref o2, .ref o7, .int v9, .int v10])), (o7, .inl (cI, 12, .inl f180)), (o11, .inr (4, [.ref o12, .int v14, .int v15])), (o12, .inl (cI, 12, .inl fw13))]) H → va_D A ([(o1, .inr (9, [.ref o2, .ref o7, .int v9, .int v10])), (o7, .inl (cI, 12, .inl f180)), (o11, .inr (4, [.ref o12, .int v14, .int v15])), (o12, .inl (cI, 12, .inl fw13))]) → va_S A s.heap H locs → lv_has ls 8 [(7, .int x179), (6, .int x7), (5, .int x5), (0, .ref o1), (1, .ref o11), (2, .int a2), (3, .int 8), (4, .int a4)] → W p l e ({ frames := 5, cells := 0, slots := 0, locals := 126 }) s m ([.ref o1, .ref o11, .int a2, .int 8, .int a4] : List Value).toArray below meth c H locs 0 0 Q (F0 m 48 ls []) := by
      intro N
      induction N with
      | zero =>
        intro x179 f180 H locs ls hM
        exact absurd hM (Nat.not_lt_zero _)
      | succ N ih1 =>
        intro x179 f180 H locs ls hM1 x179_h f180_b hP hD hS hl
        refine lv_iload hx hb dX9_closes_48 (lv_at hl 0 rfl) ?_
        refine lv_aload_n hx hb dX9_closes_50 rfl (lv_at hl 4 rfl) ?_
        refine va_getN (D := (dC, dI)) (ci := 4) (v := .int v14) (C := RX4) (T := TX4) (N := 3) hx hb hts iw_X9_closes_X4 hown hK hP 2 rfl rfl 1 (by decide) (hN.use ns_11) (fun _ h9 => h9) rfl dX9_closes_51 ?_
        refine lv_icmp_ge (tgt := 105) hx hb dX9_closes_54 (by decide) (fun h181 => ?_) (fun h181 => ?_)
        ·
          have qh181 := le_i h181
          refine lv_iconst (v := 0) hx hb dX9_closes_105 (by decide) ?_
          rw [hQ]
          exact W.zret (v := 0) (ty := .boolean) hx hb hr rfl (fun t ht hW => ⟨⟨0, f180, rfl, ⟨(iv_w ik_0 (by decide)), (fun _ => j2), f180_b⟩, by rw [ht]; exact hP, va_K.moved hW.alike hK, hD⟩, hS.F ht⟩) hS.2.2 dX9_closes_106
        ·
          have qh181 := nle_i h181
          have j182 : Iv 0 11 x179 := r_ltl qh181 x179_h v14_h (by decide)
          have j183 : Iv 1 12 v14 := r_ltr qh181 x179_h v14_h (by decide)
          refine lv_iload hx hb dX9_closes_57 (lv_at hl 2 rfl) ?_
          refine lv_iload hx hb dX9_closes_59 (lv_at hl 0 rfl) ?_
          refine kc_i (D := (dC, dI)) (S := Unit) (wc := []) (wr := [(o1, .inr (9, [.ref o2, .ref o7, .int v9, .int v10])), (o7, .inl (cI, 12, .inl f180)), (o11, .inr (4, [.ref o12, .int v14, .int v15])), (o12, .inl (cI, 12, .inl fw13))]) (w1 := fun _ => []) (wn := fun _ => [(o1, .inr (9, [.ref o2, .ref o7, .int v9, .int v10])), (o7, .inl (cI, 12, .inl f180)), (o11, .inr (4, [.ref o12, .int v14, .int v15])), (o12, .inl (cI, 12, .inl fw13))]) (fun hPc hDc => va_runSN (As := [.int x5, .int x179]) (rest := []) ⟨hx, hb, hml, hown, hts⟩ (kX11_in_1 l dC dI cI c2 cZ x5 x179 H.size) ⟨va_cnB 2 hts gX9_closes_X11_in_n56 rfl rfl rfl (hN.1 _ ns_76) (hts (.initialized RX11) hm_X9_closes_11) (by decide +kernel) ⟨Nat.le_of_ble_eq_true rfl, Nat.le_of_ble_eq_true rfl⟩, (hts (.static yX11_in) hm_X9_closes_10), trivial⟩ (pre_S hPc hK hDc hN) rfl rfl hl.1 rfl (lv_room (Nat.le_of_ble_eq_true rfl)) dX9_closes_61 ⟨Nat.le_of_ble_eq_true rfl, Nat.le_of_ble_eq_true rfl⟩) hP hD hS hA [] [0, 1, 2, 3] [0, 1, 2, 3] rfl rfl (by decide +kernel) (by decide +kernel) (by decide +kernel) (by decide +kernel) (fun _ => rfl) (fun x184 _ H locs hq hP hD hS => ?_)
          have x184_h := hq
          have hP : va_P (dC, dI) vwCl ([(o1, .inr (9, [.ref o2, .ref o7, .int v9, .int v10])), (o7, .inl (cI, 12, .inl f180)), (o11, .inr (4, [.ref o12, .int v14, .int v15])), (o12, .inl (cI, 12, .inl fw13))]) H := hP
          have hD : va_D A ([(o1, .inr (9, [.ref o2, .ref o7, .int v9, .int v10])), (o7, .inl (cI, 12, .inl f180)), (o11, .inr (4, [.ref o12, .int v14, .int v15])), (o12, .inl (cI, 12, .inl fw13))]) := hD
          refine lv_if_eq (tgt := 99) hx hb dX9_closes_64 (by decide) (fun h185 => ?_) (fun h185 => ?_)
          ·
            have j186 : Iv 0 0 x184 := r_eq h185 ik_0
            obtain ⟨x187, x187_e⟩ : ∃ z : Int32, z = x179 + 1 := ⟨_, rfl⟩
            have x187_h : Iv 1 12 x187 := iv_e x187_e (iv_add j182 ik_1 (by decide))
            refine lv_iinc (v := x187) (lv' := [(7, .int x187), (6, .int x7), (5, .int x5), (0, .ref o1), (1, .ref o11), (2, .int a2), (3, .int 8), (4, .int a4)]) hx hb dX9_closes_99 hl (k := 0) rfl (incN (by decide +kernel) x187_e) (by decide) rfl (fun ls hl => ?_)
            refine lv_goto (tgt := 48) hx hb dX9_closes_102 (by decide) ?_
            exact ih1 x187 f180 _ _ _ (ms_up x187_e j182 (by decide) hM1) (iv_w x187_h (by decide)) f180_b hP hD hS hl
          ·
            have j188 : Iv 1 1 x184 := r_nelo h185 x184_h ik_0 (by decide)
            refine lv_aload_n hx hb dX9_closes_67 rfl (lv_at hl 3 rfl) ?_
            refine va_get (D := (dC, dI)) (ci := 9) (v := .ref o7) (C := RX9) (T := TX9) (N := 4) hx hb hts iw_X9_closes_X9 hown hK hP 0 rfl rfl 1 (by decide) (hts (.fieldLink RX9 18 "HolelessHouse$Ring" "path" "[I") hm_X9_closes_1) (fun _ h9 => h9) rfl dX9_closes_68 ?_
            refine lv_iload_n hx hb dX9_closes_71 rfl (lv_at hl 6 rfl) ?_
            refine lv_iload hx hb dX9_closes_72 (lv_at hl 0 rfl) ?_
            refine k_iast hx hb hK hP hD hS 1 0 rfl rfl (vin_iv ik_8 (by decide)) dX9_closes_74 (fun f189 H locs f189_e hP hD hS => ?_)
            have f189_b : Bd 12 0 11 f189 := bd_upd f189_e f180_b j182 (by decide)
            have hP : va_P (dC, dI) vwCl ([(o1, .inr (9, [.ref o2, .ref o7, .int v9, .int v10])), (o7, .inl (cI, 12, .inl f189)), (o11, .inr (4, [.ref o12, .int v14, .int v15])), (o12, .inl (cI, 12, .inl fw13))]) H := hP
            have hD : va_D A ([(o1, .inr (9, [.ref o2, .ref o7, .int v9, .int v10])), (o7, .inl (cI, 12, .inl f189)), (o11, .inr (4, [.ref o12, .int v14, .int v15])), (o12, .inl (cI, 12, .inl fw13))]) := hD
            refine lv_aload_n hx hb dX9_closes_75 rfl (lv_at hl 3 rfl) ?_
            refine lv_aload_n hx hb dX9_closes_76 rfl (lv_at hl 4 rfl) ?_
            refine lv_iload_n hx hb dX9_closes_77 rfl (lv_at hl 5 rfl) ?_
            refine lv_iload_n hx hb dX9_closes_78 rfl (lv_at hl 6 rfl) ?_
            refine lv_iconst (v := 1) hx hb dX9_closes_79 (by decide) ?_
            refine lv_iadd hx hb dX9_closes_80 (tk_i (v := 9) (by decide +kernel) ?_)
            refine lv_iload hx hb dX9_closes_81 (lv_at hl 7 rfl) ?_
            refine lv_iload hx hb dX9_closes_83 (lv_at hl 1 rfl) ?_
            refine lv_ior hx hb dX9_closes_85 (lv_topi (fun x190 x190_e => ?_))
            refine lv_iconst (v := 1) hx hb dX9_closes_86 (by decide) ?_
            refine lv_iload hx hb dX9_closes_87 (lv_at hl 0 rfl) ?_
            refine lv_ishl hx hb dX9_closes_89 (lv_topi (fun x191 x191_e => ?_))
            have x191_h : Iv 1 2048 x191 := iv_e x191_e (iv_shl1 j182 (by decide))
            refine lv_ior hx hb dX9_closes_90 (lv_topi (fun x192 x192_e => ?_))
            refine kc_i (D := (dC, dI)) (S := (Nat → Int32)) (wc := [(o1, .inr (9, [.ref o2, .ref o7, .int v9, .int v10])), (o7, .inl (cI, 12, .inl f189)), (o11, .inr (4, [.ref o12, .int v14, .int v15])), (o12, .inl (cI, 12, .inl fw13))]) (wr := []) (w1 := fun u => [(o1, .inr (9, [.ref o2, .ref o7, .int v9, .int v10])), (o7, .inl (cI, 12, .inl u)), (o11, .inr (4, [.ref o12, .int v14, .int v15])), (o12, .inl (cI, 12, .inl fw13))]) (wn := fun u => [(o1, .inr (9, [.ref o2, .ref o7, .int v9, .int v10])), (o7, .inl (cI, 12, .inl u)), (o11, .inr (4, [.ref o12, .int v14, .int v15])), (o12, .inl (cI, 12, .inl fw13))]) (fun hPc hDc => va_runS (As := [.ref o1, .ref o11, .int a2, .int 9, .int x192]) (rest := []) ⟨hx, hb, hml, hown, hts⟩ (kX9_closes_4 l dC dI cI c2 cZ o1 o11 o2 o7 o12 f189 v9 v10 fw13 v14 v15 a2 x192 H.size f189_b v9_h fw13_b (iv_w j183 (by decide)) (iv_w j2 (by decide))) (va_cwS 5 hts gX9_closes_X9_closes rfl rfl rfl (by decide +kernel) ⟨Nat.le_of_ble_eq_true rfl, Nat.le_of_ble_eq_true rfl⟩) (pre_S hPc hK hDc hN) rfl rfl hl.1 rfl (lv_room (Nat.le_of_ble_eq_true rfl)) dX9_closes_91 ⟨Nat.le_of_ble_eq_true rfl, Nat.le_of_ble_eq_true rfl⟩) hP hD hS hA [0, 1, 2, 3] [] [0, 1, 2, 3] rfl rfl (by decide +kernel) (by decide +kernel) (by decide +kernel) (by decide +kernel) (fun _ => rfl) (fun x194 f193 H locs hq hP hD hS => ?_)
            obtain ⟨x194_h, i195, f193_b⟩ := hq
            have hP : va_P (dC, dI) vwCl ([(o1, .inr (9, [.ref o2, .ref o7, .int v9, .int v10])), (o7, .inl (cI, 12, .inl f193)), (o11, .inr (4, [.ref o12, .int v14, .int v15])), (o12, .inl (cI, 12, .inl fw13))]) H := hP
            have hD : va_D A ([(o1, .inr (9, [.ref o2, .ref o7, .int v9, .int v10])), (o7, .inl (cI, 12, .inl f193)), (o11, .inr (4, [.ref o12, .int v14, .int v15])), (o12, .inl (cI, 12, .inl fw13))]) := hD
            refine lv_if_eq (tgt := 99) hx hb dX9_closes_94 (by decide) (fun h196 => ?_) (fun h196 => ?_)
            ·
              have j197 : Iv 0 0 x194 := r_eq h196 ik_0
              have j198 : Iv 10 12 a2 := i195 h196
              obtain ⟨x199, x199_e⟩ : ∃ z : Int32, z = x179 + 1 := ⟨_, rfl⟩
              have x199_h : Iv 1 12 x199 := iv_e x199_e (iv_add j182 ik_1 (by decide))
              refine lv_iinc (v := x199) (lv' := [(7, .int x199), (6, .int x7), (5, .int x5), (0, .ref o1), (1, .ref o11), (2, .int a2), (3, .int 8), (4, .int a4)]) hx hb dX9_closes_99 hl (k := 0) rfl (incN (by decide +kernel) x199_e) (by decide) rfl (fun ls hl => ?_)
              refine lv_goto (tgt := 48) hx hb dX9_closes_102 (by decide) ?_
              exact ih1 x199 f193 _ _ _ (ms_up x199_e j182 (by decide) hM1) (iv_w x199_h (by decide)) f193_b hP hD hS hl
            ·
              have j200 : Iv 1 1 x194 := r_nelo h196 x194_h ik_0 (by decide)
              refine lv_iconst (v := 1) hx hb dX9_closes_97 (by decide) ?_
              rw [hQ]
              exact W.zret (v := 1) (ty := .boolean) hx hb hr rfl (fun t ht hW => ⟨⟨1, f193, rfl, ⟨(iv_w ik_1 (by decide)), (fun h8 => absurd h8 (by decide +kernel)), f193_b⟩, by rw [ht]; exact hP, va_K.moved hW.alike hK, hD⟩, hS.F ht⟩) hS.2.2 dX9_closes_98
    exact L1 _ 0 fw8 _ _ _ (Nat.lt_succ_self _) (iv_w ik_0 (by decide)) fw8_b hP hD hS hl
  ·
    have qh1 := nlt_i h1
    have j201 : Iv 4 8 a2 := r_lel qh1 a2_h ik_8 (by decide)
    refine lv_iconst (v := 1) hx hb dX9_closes_5 (by decide) ?_
    rw [hQ]
    exact W.zret (v := 1) (ty := .boolean) hx hb hr rfl (fun t ht hW => ⟨⟨1, fw8, rfl, ⟨(iv_w ik_1 (by decide)), (fun h8 => absurd h8 (by decide +kernel)), fw8_b⟩, by rw [ht]; exact hP, va_K.moved hW.alike hK, hD⟩, hS.F ht⟩) hS.2.2 dX9_closes_6
set_option maxHeartbeats 4000000 in
set_option maxRecDepth 100000 in
theorem kX9_closes_6 (l : Launch) (dC : Nat → ClassId) (dI : Nat → Nat → Nat) (cI c2 cZ : ClassId) (o1 : Nat) (o11 : Nat) (o2 : Nat) (o7 : Nat) (o12 : Nat) (fw8 : Nat → Int32) (v9 : Int32) (v10 : Int32) (fw13 : Nat → Int32) (v14 : Int32) (v15 : Int32) (a2 : Int32) (a4 : Int32) (sz : Nat) (fw8_b : Bd 12 0 11 fw8) (v9_h : Iv 0 12 v9) (fw13_b : Bd 12 0 4095 fw13) (v14_h : Iv 0 12 v14) (a2_h : Iv 4 12 a2) : Met l yX9_closes wsX9_closes ({ frames := 6, cells := 0, slots := 0, locals := 153 }) (va_Pc [.ref o1, .ref o11, .int a2, .int 7, .int a4] (wPre (dC, dI) [(cI, .int), (c2, .array .int), (cZ, .boolean)] ([(o1, .inr (9, [.ref o2, .ref o7, .int v9, .int v10])), (o7, .inl (cI, 12, .inl fw8)), (o11, .inr (4, [.ref o12, .int v14, .int v15])), (o12, .inl (cI, 12, .inl fw13))]) sz)) (va_Qi (fun (r : Int32) (u : (Nat → Int32)) => Iv 0 1 r ∧ (r = 0 → Iv 8 12 a2) ∧ Bd 12 0 11 u) (fun u t => wPost (dC, dI) [(cI, .int), (c2, .array .int), (cZ, .boolean)] (va_A ([(o1, .inr (9, [.ref o2, .ref o7, .int v9, .int v10])), (o7, .inl (cI, 12, .inl fw8)), (o11, .inr (4, [.ref o12, .int v14, .int v15])), (o12, .inl (cI, 12, .inl fw13))]) sz) ([(o1, .inr (9, [.ref o2, .ref o7, .int v9, .int v10])), (o7, .inl (cI, 12, .inl u)), (o11, .inr (4, [.ref o12, .int v14, .int v15])), (o12, .inl (cI, 12, .inl fw13))]) t) (va_A ([(o1, .inr (9, [.ref o2, .ref o7, .int v9, .int v10])), (o7, .inl (cI, 12, .inl fw8)), (o11, .inr (4, [.ref o12, .int v14, .int v15])), (o12, .inl (cI, 12, .inl fw13))]) sz)) 0 0 (va_A ([(o1, .inr (9, [.ref o2, .ref o7, .int v9, .int v10])), (o7, .inl (cI, 12, .inl fw8)), (o11, .inr (4, [.ref o12, .int v14, .int v15])), (o12, .inl (cI, 12, .inl fw13))]) sz) := by
  refine Met.ofW (cc := cX9_closes) (maxL := 8) (ret := (some .boolean)) (by decide) rfl ?_
  intro p e s m args below meth c s₁ B hml hv
  obtain ⟨rfl, hsz, hP, hK, hD0, hN⟩ := hv
  have hx := B.exec
  have hb := B.bytes
  have hr := B.returns
  have hts := atoms_spec (ws := wsX9_closes) B.pre
  have hown : s.vm.findClass RX9 = some m.cls := findClass_of_methodNamed B.named
  have hlocks := B.notSynchronized
  subst hsz
  have hD := hD0.self (sz := s.heap.size)
  generalize hAe : va_A ([(o1, .inr (9, [.ref o2, .ref o7, .int v9, .int v10])), (o7, .inl (cI, 12, .inl fw8)), (o11, .inr (4, [.ref o12, .int v14, .int v15])), (o12, .inl (cI, 12, .inl fw13))]) s.heap.size = A at hD ⊢
  have hA : ∀ q : Nat, s.heap.size ≤ q → A q := fun q h => by rw [← hAe]; exact Or.inr h
  have hS : va_S A s.heap s.heap [] := va_S.rf
  have hP : va_P (dC, dI) vwCl ([(o1, .inr (9, [.ref o2, .ref o7, .int v9, .int v10])), (o7, .inl (cI, 12, .inl fw8)), (o11, .inr (4, [.ref o12, .int v14, .int v15])), (o12, .inl (cI, 12, .inl fw13))]) s.heap := hP
  have hl := lv_entry ([.ref o1, .ref o11, .int a2, .int 7, .int a4]) (n := 8) (Nat.le_of_ble_eq_true rfl)
  rw [lg_entry_eq]
  generalize (lg_sl ([.ref o1, .ref o11, .int a2, .int 7, .int a4]) ++ List.replicate (8 - (lg_sl ([.ref o1, .ref o11, .int a2, .int 7, .int a4])).length) Slot.unset).toArray = ls at hl ⊢
  have hl : lv_has ls 8 [(0, .ref o1), (1, .ref o11), (2, .int a2), (3, .int 7), (4, .int a4)] := hl
  refine gen_Q (fun Q hQ => ?_)
  refine lv_iload_n hx hb dX9_closes_0 rfl (lv_at hl 3 rfl) ?_
  refine lv_iload_n hx hb dX9_closes_1 rfl (lv_at hl 2 rfl) ?_
  refine lv_icmp_lt (tgt := 7) hx hb dX9_closes_2 (by decide) (fun h1 => ?_) (fun h1 => ?_)
  ·
    have qh1 := lt_i h1
    have j2 : Iv 8 12 a2 := r_ltr qh1 ik_7 a2_h (by decide)
    refine lv_aload_n hx hb dX9_closes_7 rfl (lv_at hl 0 rfl) ?_
    refine lv_aload_n hx hb dX9_closes_8 rfl (lv_at hl 1 rfl) ?_
    refine lv_iload_n hx hb dX9_closes_9 rfl (lv_at hl 2 rfl) ?_
    refine lv_iload_n hx hb dX9_closes_10 rfl (lv_at hl 3 rfl) ?_
    refine kc_i (D := (dC, dI)) (S := Unit) (wc := [(o1, .inr (9, [.ref o2, .ref o7, .int v9, .int v10])), (o7, .inl (cI, 12, .inl fw8)), (o11, .inr (4, [.ref o12, .int v14, .int v15])), (o12, .inl (cI, 12, .inl fw13))]) (wr := []) (w1 := fun _ => [(o1, .inr (9, [.ref o2, .ref o7, .int v9, .int v10])), (o7, .inl (cI, 12, .inl fw8)), (o11, .inr (4, [.ref o12, .int v14, .int v15])), (o12, .inl (cI, 12, .inl fw13))]) (wn := fun _ => [(o1, .inr (9, [.ref o2, .ref o7, .int v9, .int v10])), (o7, .inl (cI, 12, .inl fw8)), (o11, .inr (4, [.ref o12, .int v14, .int v15])), (o12, .inl (cI, 12, .inl fw13))]) (fun hPc hDc => va_runV (As := [.ref o11, .int a2, .int 7]) (rest := []) ⟨hx, hb, hml, hown, hts⟩ (kX9_nextOnes_1 l dC dI cI c2 cZ o1 o11 o2 o7 o12 fw8 v9 v10 fw13 v14 v15 a2 7 s.heap.size fw8_b v9_h fw13_b v14_h (iv_w j2 (by decide)) (iv_w ik_7 (by decide))) (cwV 3 hts gX9_closes_X9_nextOnes rfl rfl rfl (by decide +kernel) ⟨Nat.le_of_ble_eq_true rfl, Nat.le_of_ble_eq_true rfl⟩) (pre_V hPc hK hDc hN (ci := 9) (q0 := 0) rfl rfl) rfl rfl hl.1 rfl (lv_room (Nat.le_of_ble_eq_true rfl)) dX9_closes_11 ⟨Nat.le_of_ble_eq_true rfl, Nat.le_of_ble_eq_true rfl⟩) hP hD hS hA [0, 1, 2, 3] [] [0, 1, 2, 3] rfl rfl (by decide +kernel) (by decide +kernel) (by decide +kernel) (by decide +kernel) (fun _ => rfl) (fun x3 _ H locs hq hP hD hS => ?_)
    have x3_h := hq
    have hP : va_P (dC, dI) vwCl ([(o1, .inr (9, [.ref o2, .ref o7, .int v9, .int v10])), (o7, .inl (cI, 12, .inl fw8)), (o11, .inr (4, [.ref o12, .int v14, .int v15])), (o12, .inl (cI, 12, .inl fw13))]) H := hP
    have hD : va_D A ([(o1, .inr (9, [.ref o2, .ref o7, .int v9, .int v10])), (o7, .inl (cI, 12, .inl fw8)), (o11, .inr (4, [.ref o12, .int v14, .int v15])), (o12, .inl (cI, 12, .inl fw13))]) := hD
    refine lv_iload hx hb dX9_closes_14 (lv_at hl 4 rfl) ?_
    refine lv_iconst (v := (-1)) hx hb dX9_closes_16 (by decide) ?_
    refine lv_ixor hx hb dX9_closes_17 (lv_topi (fun x4 x4_e => ?_))
    refine lv_iand hx hb dX9_closes_18 (lv_topi (fun x5 x5_e => ?_))
    have x5_h : Iv 0 4095 x5 := iv_e x5_e (iv_andL _ x3_h (by decide))
    refine lv_istore (lv' := [(5, .int x5), (0, .ref o1), (1, .ref o11), (2, .int a2), (3, .int 7), (4, .int a4)]) hx hb dX9_closes_19 hl (by decide) rfl (fun ls hl => ?_)
    refine lv_iload_n hx hb dX9_closes_21 rfl (lv_at hl 4 rfl) ?_
    refine lv_iconst (v := 1) hx hb dX9_closes_22 (by decide) ?_
    refine lv_icmp_ne (tgt := 30) hx hb dX9_closes_23 (by decide) (fun _ => ?_) (fun h9 => absurd h9 (by decide +kernel))
    refine lv_aload_n hx hb dX9_closes_30 rfl (lv_at hl 2 rfl) ?_
    refine va_getN (D := (dC, dI)) (ci := 4) (v := .ref o12) (C := RX4) (T := TX4) (N := 3) hx hb hts iw_X9_closes_X4 hown hK hP 2 rfl rfl 0 (by decide) (hN.use ns_6) (fun _ h9 => h9) rfl dX9_closes_31 ?_
    refine lv_aload_n hx hb dX9_closes_34 rfl (lv_at hl 1 rfl) ?_
    refine va_get (D := (dC, dI)) (ci := 9) (v := .ref o7) (C := RX9) (T := TX9) (N := 4) hx hb hts iw_X9_closes_X9 hown hK hP 0 rfl rfl 1 (by decide) (hts (.fieldLink RX9 18 "HolelessHouse$Ring" "path" "[I") hm_X9_closes_1) (fun _ h9 => h9) rfl dX9_closes_35 ?_
    refine lv_iload_n hx hb dX9_closes_38 rfl (lv_at hl 4 rfl) ?_
    refine lv_iconst (v := 1) hx hb dX9_closes_39 (by decide) ?_
    refine lv_isub hx hb dX9_closes_40 (tk_i (v := 6) (by decide +kernel) ?_)
    refine va_iald hx hb hK hP 1 0 rfl rfl (vin_iv ik_6 (by decide)) dX9_closes_41 (lv_topi (fun x6 x6_e => ?_))
    have x6_h : Iv 0 11 x6 := iv_e x6_e (bd_at fw8_b (vin_iv ik_6 (by decide)))
    refine va_iald hx hb hK hP 3 0 rfl rfl (vin_iv x6_h (by decide)) dX9_closes_42 (lv_topi (fun x7 x7_e => ?_))
    have x7_h : Iv 0 4095 x7 := iv_e x7_e (bd_at fw13_b (vin_iv x6_h (by decide)))
    refine lv_istore (lv' := [(6, .int x7), (5, .int x5), (0, .ref o1), (1, .ref o11), (2, .int a2), (3, .int 7), (4, .int a4)]) hx hb dX9_closes_43 hl (by decide) rfl (fun ls hl => ?_)
    refine lv_iconst (v := 0) hx hb dX9_closes_45 (by decide) ?_
    refine lv_istore (lv' := [(7, .int 0), (6, .int x7), (5, .int x5), (0, .ref o1), (1, .ref o11), (2, .int a2), (3, .int 7), (4, .int a4)]) hx hb dX9_closes_46 hl (by decide) rfl (fun ls hl => ?_)
    have L1 : ∀ (N : Nat) (x179 : Int32) (f180 : Nat → Int32) (H : Heap) (locs : List Loc) (ls : Array Slot), (12 - x179.toInt).toNat < N → Iv 0 12 x179 → Bd 12 0 11 f180 → va_P (dC, dI) vwCl ([(o1, .inr (9, [.ref o2, .ref o7, .int v9, .int v10])), (o7, .inl (cI, 12, .inl f180)), (o11, .inr (4, [.ref o12, .int v14, .int v15])), (o12, .inl (cI, 12, .inl fw13))]) H → va_D A ([(o1, .inr (9, [.ref o2, .ref o7, .int v9, .int v10])), (o7, .inl (cI, 12, .inl f180)), (o11, .inr (4, [.ref o12, .int v14, .int v15])), (o12, .inl (cI, 12, .inl fw13))]) → va_S A s.heap H locs → lv_has ls 8 [(7, .int x179), (6, .int x7), (5, .int x5), (0, .ref o1), (1, .ref o11), (2, .int a2), (3, .int 7), (4, .int a4)] → W p l e ({ frames := 6, cells := 0, slots := 0, locals := 153 }) s m ([.ref o1, .ref o11, .int a2, .int 7, .int a4] : List Value).toArray below meth c H locs 0 0 Q (F0 m 48 ls []) := by
      intro N
      induction N with
      | zero =>
        intro x179 f180 H locs ls hM
        exact absurd hM (Nat.not_lt_zero _)
      | succ N ih1 =>
        intro x179 f180 H locs ls hM1 x179_h f180_b hP hD hS hl
        refine lv_iload hx hb dX9_closes_48 (lv_at hl 0 rfl) ?_
        refine lv_aload_n hx hb dX9_closes_50 rfl (lv_at hl 4 rfl) ?_
        refine va_getN (D := (dC, dI)) (ci := 4) (v := .int v14) (C := RX4) (T := TX4) (N := 3) hx hb hts iw_X9_closes_X4 hown hK hP 2 rfl rfl 1 (by decide) (hN.use ns_11) (fun _ h9 => h9) rfl dX9_closes_51 ?_
        refine lv_icmp_ge (tgt := 105) hx hb dX9_closes_54 (by decide) (fun h181 => ?_) (fun h181 => ?_)
        ·
          have qh181 := le_i h181
          refine lv_iconst (v := 0) hx hb dX9_closes_105 (by decide) ?_
          rw [hQ]
          exact W.zret (v := 0) (ty := .boolean) hx hb hr rfl (fun t ht hW => ⟨⟨0, f180, rfl, ⟨(iv_w ik_0 (by decide)), (fun _ => j2), f180_b⟩, by rw [ht]; exact hP, va_K.moved hW.alike hK, hD⟩, hS.F ht⟩) hS.2.2 dX9_closes_106
        ·
          have qh181 := nle_i h181
          have j182 : Iv 0 11 x179 := r_ltl qh181 x179_h v14_h (by decide)
          have j183 : Iv 1 12 v14 := r_ltr qh181 x179_h v14_h (by decide)
          refine lv_iload hx hb dX9_closes_57 (lv_at hl 2 rfl) ?_
          refine lv_iload hx hb dX9_closes_59 (lv_at hl 0 rfl) ?_
          refine kc_i (D := (dC, dI)) (S := Unit) (wc := []) (wr := [(o1, .inr (9, [.ref o2, .ref o7, .int v9, .int v10])), (o7, .inl (cI, 12, .inl f180)), (o11, .inr (4, [.ref o12, .int v14, .int v15])), (o12, .inl (cI, 12, .inl fw13))]) (w1 := fun _ => []) (wn := fun _ => [(o1, .inr (9, [.ref o2, .ref o7, .int v9, .int v10])), (o7, .inl (cI, 12, .inl f180)), (o11, .inr (4, [.ref o12, .int v14, .int v15])), (o12, .inl (cI, 12, .inl fw13))]) (fun hPc hDc => va_runSN (As := [.int x5, .int x179]) (rest := []) ⟨hx, hb, hml, hown, hts⟩ (kX11_in_1 l dC dI cI c2 cZ x5 x179 H.size) ⟨va_cnB 2 hts gX9_closes_X11_in_n56 rfl rfl rfl (hN.1 _ ns_76) (hts (.initialized RX11) hm_X9_closes_11) (by decide +kernel) ⟨Nat.le_of_ble_eq_true rfl, Nat.le_of_ble_eq_true rfl⟩, (hts (.static yX11_in) hm_X9_closes_10), trivial⟩ (pre_S hPc hK hDc hN) rfl rfl hl.1 rfl (lv_room (Nat.le_of_ble_eq_true rfl)) dX9_closes_61 ⟨Nat.le_of_ble_eq_true rfl, Nat.le_of_ble_eq_true rfl⟩) hP hD hS hA [] [0, 1, 2, 3] [0, 1, 2, 3] rfl rfl (by decide +kernel) (by decide +kernel) (by decide +kernel) (by decide +kernel) (fun _ => rfl) (fun x184 _ H locs hq hP hD hS => ?_)
          have x184_h := hq
          have hP : va_P (dC, dI) vwCl ([(o1, .inr (9, [.ref o2, .ref o7, .int v9, .int v10])), (o7, .inl (cI, 12, .inl f180)), (o11, .inr (4, [.ref o12, .int v14, .int v15])), (o12, .inl (cI, 12, .inl fw13))]) H := hP
          have hD : va_D A ([(o1, .inr (9, [.ref o2, .ref o7, .int v9, .int v10])), (o7, .inl (cI, 12, .inl f180)), (o11, .inr (4, [.ref o12, .int v14, .int v15])), (o12, .inl (cI, 12, .inl fw13))]) := hD
          refine lv_if_eq (tgt := 99) hx hb dX9_closes_64 (by decide) (fun h185 => ?_) (fun h185 => ?_)
          ·
            have j186 : Iv 0 0 x184 := r_eq h185 ik_0
            obtain ⟨x187, x187_e⟩ : ∃ z : Int32, z = x179 + 1 := ⟨_, rfl⟩
            have x187_h : Iv 1 12 x187 := iv_e x187_e (iv_add j182 ik_1 (by decide))
            refine lv_iinc (v := x187) (lv' := [(7, .int x187), (6, .int x7), (5, .int x5), (0, .ref o1), (1, .ref o11), (2, .int a2), (3, .int 7), (4, .int a4)]) hx hb dX9_closes_99 hl (k := 0) rfl (incN (by decide +kernel) x187_e) (by decide) rfl (fun ls hl => ?_)
            refine lv_goto (tgt := 48) hx hb dX9_closes_102 (by decide) ?_
            exact ih1 x187 f180 _ _ _ (ms_up x187_e j182 (by decide) hM1) (iv_w x187_h (by decide)) f180_b hP hD hS hl
          ·
            have j188 : Iv 1 1 x184 := r_nelo h185 x184_h ik_0 (by decide)
            refine lv_aload_n hx hb dX9_closes_67 rfl (lv_at hl 3 rfl) ?_
            refine va_get (D := (dC, dI)) (ci := 9) (v := .ref o7) (C := RX9) (T := TX9) (N := 4) hx hb hts iw_X9_closes_X9 hown hK hP 0 rfl rfl 1 (by decide) (hts (.fieldLink RX9 18 "HolelessHouse$Ring" "path" "[I") hm_X9_closes_1) (fun _ h9 => h9) rfl dX9_closes_68 ?_
            refine lv_iload_n hx hb dX9_closes_71 rfl (lv_at hl 6 rfl) ?_
            refine lv_iload hx hb dX9_closes_72 (lv_at hl 0 rfl) ?_
            refine k_iast hx hb hK hP hD hS 1 0 rfl rfl (vin_iv ik_7 (by decide)) dX9_closes_74 (fun f189 H locs f189_e hP hD hS => ?_)
            have f189_b : Bd 12 0 11 f189 := bd_upd f189_e f180_b j182 (by decide)
            have hP : va_P (dC, dI) vwCl ([(o1, .inr (9, [.ref o2, .ref o7, .int v9, .int v10])), (o7, .inl (cI, 12, .inl f189)), (o11, .inr (4, [.ref o12, .int v14, .int v15])), (o12, .inl (cI, 12, .inl fw13))]) H := hP
            have hD : va_D A ([(o1, .inr (9, [.ref o2, .ref o7, .int v9, .int v10])), (o7, .inl (cI, 12, .inl f189)), (o11, .inr (4, [.ref o12, .int v14, .int v15])), (o12, .inl (cI, 12, .inl fw13))]) := hD
            refine lv_aload_n hx hb dX9_closes_75 rfl (lv_at hl 3 rfl) ?_
            refine lv_aload_n hx hb dX9_closes_76 rfl (lv_at hl 4 rfl) ?_
            refine lv_iload_n hx hb dX9_closes_77 rfl (lv_at hl 5 rfl) ?_
            refine lv_iload_n hx hb dX9_closes_78 rfl (lv_at hl 6 rfl) ?_
            refine lv_iconst (v := 1) hx hb dX9_closes_79 (by decide) ?_
            refine lv_iadd hx hb dX9_closes_80 (tk_i (v := 8) (by decide +kernel) ?_)
            refine lv_iload hx hb dX9_closes_81 (lv_at hl 7 rfl) ?_
            refine lv_iload hx hb dX9_closes_83 (lv_at hl 1 rfl) ?_
            refine lv_ior hx hb dX9_closes_85 (lv_topi (fun x190 x190_e => ?_))
            refine lv_iconst (v := 1) hx hb dX9_closes_86 (by decide) ?_
            refine lv_iload hx hb dX9_closes_87 (lv_at hl 0 rfl) ?_
            refine lv_ishl hx hb dX9_closes_89 (lv_topi (fun x191 x191_e => ?_))
            have x191_h : Iv 1 2048 x191 := iv_e x191_e (iv_shl1 j182 (by decide))
            refine lv_ior hx hb dX9_closes_90 (lv_topi (fun x192 x192_e => ?_))
            refine kc_i (D := (dC, dI)) (S := (Nat → Int32)) (wc := [(o1, .inr (9, [.ref o2, .ref o7, .int v9, .int v10])), (o7, .inl (cI, 12, .inl f189)), (o11, .inr (4, [.ref o12, .int v14, .int v15])), (o12, .inl (cI, 12, .inl fw13))]) (wr := []) (w1 := fun u => [(o1, .inr (9, [.ref o2, .ref o7, .int v9, .int v10])), (o7, .inl (cI, 12, .inl u)), (o11, .inr (4, [.ref o12, .int v14, .int v15])), (o12, .inl (cI, 12, .inl fw13))]) (wn := fun u => [(o1, .inr (9, [.ref o2, .ref o7, .int v9, .int v10])), (o7, .inl (cI, 12, .inl u)), (o11, .inr (4, [.ref o12, .int v14, .int v15])), (o12, .inl (cI, 12, .inl fw13))]) (fun hPc hDc => va_runS (As := [.ref o1, .ref o11, .int a2, .int 8, .int x192]) (rest := []) ⟨hx, hb, hml, hown, hts⟩ (kX9_closes_5 l dC dI cI c2 cZ o1 o11 o2 o7 o12 f189 v9 v10 fw13 v14 v15 a2 x192 H.size f189_b v9_h fw13_b (iv_w j183 (by decide)) (iv_w j2 (by decide))) (va_cwS 5 hts gX9_closes_X9_closes rfl rfl rfl (by decide +kernel) ⟨Nat.le_of_ble_eq_true rfl, Nat.le_of_ble_eq_true rfl⟩) (pre_S hPc hK hDc hN) rfl rfl hl.1 rfl (lv_room (Nat.le_of_ble_eq_true rfl)) dX9_closes_91 ⟨Nat.le_of_ble_eq_true rfl, Nat.le_of_ble_eq_true rfl⟩) hP hD hS hA [0, 1, 2, 3] [] [0, 1, 2, 3] rfl rfl (by decide +kernel) (by decide +kernel) (by decide +kernel) (by decide +kernel) (fun _ => rfl) (fun x194 f193 H locs hq hP hD hS => ?_)
            obtain ⟨x194_h, i195, f193_b⟩ := hq
            have hP : va_P (dC, dI) vwCl ([(o1, .inr (9, [.ref o2, .ref o7, .int v9, .int v10])), (o7, .inl (cI, 12, .inl f193)), (o11, .inr (4, [.ref o12, .int v14, .int v15])), (o12, .inl (cI, 12, .inl fw13))]) H := hP
            have hD : va_D A ([(o1, .inr (9, [.ref o2, .ref o7, .int v9, .int v10])), (o7, .inl (cI, 12, .inl f193)), (o11, .inr (4, [.ref o12, .int v14, .int v15])), (o12, .inl (cI, 12, .inl fw13))]) := hD
            refine lv_if_eq (tgt := 99) hx hb dX9_closes_94 (by decide) (fun h196 => ?_) (fun h196 => ?_)
            ·
              have j197 : Iv 0 0 x194 := r_eq h196 ik_0
              have j198 : Iv 9 12 a2 := i195 h196
              obtain ⟨x199, x199_e⟩ : ∃ z : Int32, z = x179 + 1 := ⟨_, rfl⟩
              have x199_h : Iv 1 12 x199 := iv_e x199_e (iv_add j182 ik_1 (by decide))
              refine lv_iinc (v := x199) (lv' := [(7, .int x199), (6, .int x7), (5, .int x5), (0, .ref o1), (1, .ref o11), (2, .int a2), (3, .int 7), (4, .int a4)]) hx hb dX9_closes_99 hl (k := 0) rfl (incN (by decide +kernel) x199_e) (by decide) rfl (fun ls hl => ?_)
              refine lv_goto (tgt := 48) hx hb dX9_closes_102 (by decide) ?_
              exact ih1 x199 f193 _ _ _ (ms_up x199_e j182 (by decide) hM1) (iv_w x199_h (by decide)) f193_b hP hD hS hl
            ·
              have j200 : Iv 1 1 x194 := r_nelo h196 x194_h ik_0 (by decide)
              refine lv_iconst (v := 1) hx hb dX9_closes_97 (by decide) ?_
              rw [hQ]
              exact W.zret (v := 1) (ty := .boolean) hx hb hr rfl (fun t ht hW => ⟨⟨1, f193, rfl, ⟨(iv_w ik_1 (by decide)), (fun h8 => absurd h8 (by decide +kernel)), f193_b⟩, by rw [ht]; exact hP, va_K.moved hW.alike hK, hD⟩, hS.F ht⟩) hS.2.2 dX9_closes_98
    exact L1 _ 0 fw8 _ _ _ (Nat.lt_succ_self _) (iv_w ik_0 (by decide)) fw8_b hP hD hS hl
  ·
    have qh1 := nlt_i h1
    have j201 : Iv 4 7 a2 := r_lel qh1 a2_h ik_7 (by decide)
    refine lv_iconst (v := 1) hx hb dX9_closes_5 (by decide) ?_
    rw [hQ]
    exact W.zret (v := 1) (ty := .boolean) hx hb hr rfl (fun t ht hW => ⟨⟨1, fw8, rfl, ⟨(iv_w ik_1 (by decide)), (fun h8 => absurd h8 (by decide +kernel)), fw8_b⟩, by rw [ht]; exact hP, va_K.moved hW.alike hK, hD⟩, hS.F ht⟩) hS.2.2 dX9_closes_6
set_option maxHeartbeats 4000000 in
set_option maxRecDepth 100000 in
theorem kX9_closes_7 (l : Launch) (dC : Nat → ClassId) (dI : Nat → Nat → Nat) (cI c2 cZ : ClassId) (o1 : Nat) (o11 : Nat) (o2 : Nat) (o7 : Nat) (o12 : Nat) (fw8 : Nat → Int32) (v9 : Int32) (v10 : Int32) (fw13 : Nat → Int32) (v14 : Int32) (v15 : Int32) (a2 : Int32) (a4 : Int32) (sz : Nat) (fw8_b : Bd 12 0 11 fw8) (v9_h : Iv 0 12 v9) (fw13_b : Bd 12 0 4095 fw13) (v14_h : Iv 0 12 v14) (a2_h : Iv 4 12 a2) : Met l yX9_closes wsX9_closes ({ frames := 7, cells := 0, slots := 0, locals := 180 }) (va_Pc [.ref o1, .ref o11, .int a2, .int 6, .int a4] (wPre (dC, dI) [(cI, .int), (c2, .array .int), (cZ, .boolean)] ([(o1, .inr (9, [.ref o2, .ref o7, .int v9, .int v10])), (o7, .inl (cI, 12, .inl fw8)), (o11, .inr (4, [.ref o12, .int v14, .int v15])), (o12, .inl (cI, 12, .inl fw13))]) sz)) (va_Qi (fun (r : Int32) (u : (Nat → Int32)) => Iv 0 1 r ∧ (r = 0 → Iv 7 12 a2) ∧ Bd 12 0 11 u) (fun u t => wPost (dC, dI) [(cI, .int), (c2, .array .int), (cZ, .boolean)] (va_A ([(o1, .inr (9, [.ref o2, .ref o7, .int v9, .int v10])), (o7, .inl (cI, 12, .inl fw8)), (o11, .inr (4, [.ref o12, .int v14, .int v15])), (o12, .inl (cI, 12, .inl fw13))]) sz) ([(o1, .inr (9, [.ref o2, .ref o7, .int v9, .int v10])), (o7, .inl (cI, 12, .inl u)), (o11, .inr (4, [.ref o12, .int v14, .int v15])), (o12, .inl (cI, 12, .inl fw13))]) t) (va_A ([(o1, .inr (9, [.ref o2, .ref o7, .int v9, .int v10])), (o7, .inl (cI, 12, .inl fw8)), (o11, .inr (4, [.ref o12, .int v14, .int v15])), (o12, .inl (cI, 12, .inl fw13))]) sz)) 0 0 (va_A ([(o1, .inr (9, [.ref o2, .ref o7, .int v9, .int v10])), (o7, .inl (cI, 12, .inl fw8)), (o11, .inr (4, [.ref o12, .int v14, .int v15])), (o12, .inl (cI, 12, .inl fw13))]) sz) := by
  refine Met.ofW (cc := cX9_closes) (maxL := 8) (ret := (some .boolean)) (by decide) rfl ?_
  intro p e s m args below meth c s₁ B hml hv
  obtain ⟨rfl, hsz, hP, hK, hD0, hN⟩ := hv
  have hx := B.exec
  have hb := B.bytes
  have hr := B.returns
  have hts := atoms_spec (ws := wsX9_closes) B.pre
  have hown : s.vm.findClass RX9 = some m.cls := findClass_of_methodNamed B.named
  have hlocks := B.notSynchronized
  subst hsz
  have hD := hD0.self (sz := s.heap.size)
  generalize hAe : va_A ([(o1, .inr (9, [.ref o2, .ref o7, .int v9, .int v10])), (o7, .inl (cI, 12, .inl fw8)), (o11, .inr (4, [.ref o12, .int v14, .int v15])), (o12, .inl (cI, 12, .inl fw13))]) s.heap.size = A at hD ⊢
  have hA : ∀ q : Nat, s.heap.size ≤ q → A q := fun q h => by rw [← hAe]; exact Or.inr h
  have hS : va_S A s.heap s.heap [] := va_S.rf
  have hP : va_P (dC, dI) vwCl ([(o1, .inr (9, [.ref o2, .ref o7, .int v9, .int v10])), (o7, .inl (cI, 12, .inl fw8)), (o11, .inr (4, [.ref o12, .int v14, .int v15])), (o12, .inl (cI, 12, .inl fw13))]) s.heap := hP
  have hl := lv_entry ([.ref o1, .ref o11, .int a2, .int 6, .int a4]) (n := 8) (Nat.le_of_ble_eq_true rfl)
  rw [lg_entry_eq]
  generalize (lg_sl ([.ref o1, .ref o11, .int a2, .int 6, .int a4]) ++ List.replicate (8 - (lg_sl ([.ref o1, .ref o11, .int a2, .int 6, .int a4])).length) Slot.unset).toArray = ls at hl ⊢
  have hl : lv_has ls 8 [(0, .ref o1), (1, .ref o11), (2, .int a2), (3, .int 6), (4, .int a4)] := hl
  refine gen_Q (fun Q hQ => ?_)
  refine lv_iload_n hx hb dX9_closes_0 rfl (lv_at hl 3 rfl) ?_
  refine lv_iload_n hx hb dX9_closes_1 rfl (lv_at hl 2 rfl) ?_
  refine lv_icmp_lt (tgt := 7) hx hb dX9_closes_2 (by decide) (fun h1 => ?_) (fun h1 => ?_)
  ·
    have qh1 := lt_i h1
    have j2 : Iv 7 12 a2 := r_ltr qh1 ik_6 a2_h (by decide)
    refine lv_aload_n hx hb dX9_closes_7 rfl (lv_at hl 0 rfl) ?_
    refine lv_aload_n hx hb dX9_closes_8 rfl (lv_at hl 1 rfl) ?_
    refine lv_iload_n hx hb dX9_closes_9 rfl (lv_at hl 2 rfl) ?_
    refine lv_iload_n hx hb dX9_closes_10 rfl (lv_at hl 3 rfl) ?_
    refine kc_i (D := (dC, dI)) (S := Unit) (wc := [(o1, .inr (9, [.ref o2, .ref o7, .int v9, .int v10])), (o7, .inl (cI, 12, .inl fw8)), (o11, .inr (4, [.ref o12, .int v14, .int v15])), (o12, .inl (cI, 12, .inl fw13))]) (wr := []) (w1 := fun _ => [(o1, .inr (9, [.ref o2, .ref o7, .int v9, .int v10])), (o7, .inl (cI, 12, .inl fw8)), (o11, .inr (4, [.ref o12, .int v14, .int v15])), (o12, .inl (cI, 12, .inl fw13))]) (wn := fun _ => [(o1, .inr (9, [.ref o2, .ref o7, .int v9, .int v10])), (o7, .inl (cI, 12, .inl fw8)), (o11, .inr (4, [.ref o12, .int v14, .int v15])), (o12, .inl (cI, 12, .inl fw13))]) (fun hPc hDc => va_runV (As := [.ref o11, .int a2, .int 6]) (rest := []) ⟨hx, hb, hml, hown, hts⟩ (kX9_nextOnes_1 l dC dI cI c2 cZ o1 o11 o2 o7 o12 fw8 v9 v10 fw13 v14 v15 a2 6 s.heap.size fw8_b v9_h fw13_b v14_h (iv_w j2 (by decide)) (iv_w ik_6 (by decide))) (cwV 3 hts gX9_closes_X9_nextOnes rfl rfl rfl (by decide +kernel) ⟨Nat.le_of_ble_eq_true rfl, Nat.le_of_ble_eq_true rfl⟩) (pre_V hPc hK hDc hN (ci := 9) (q0 := 0) rfl rfl) rfl rfl hl.1 rfl (lv_room (Nat.le_of_ble_eq_true rfl)) dX9_closes_11 ⟨Nat.le_of_ble_eq_true rfl, Nat.le_of_ble_eq_true rfl⟩) hP hD hS hA [0, 1, 2, 3] [] [0, 1, 2, 3] rfl rfl (by decide +kernel) (by decide +kernel) (by decide +kernel) (by decide +kernel) (fun _ => rfl) (fun x3 _ H locs hq hP hD hS => ?_)
    have x3_h := hq
    have hP : va_P (dC, dI) vwCl ([(o1, .inr (9, [.ref o2, .ref o7, .int v9, .int v10])), (o7, .inl (cI, 12, .inl fw8)), (o11, .inr (4, [.ref o12, .int v14, .int v15])), (o12, .inl (cI, 12, .inl fw13))]) H := hP
    have hD : va_D A ([(o1, .inr (9, [.ref o2, .ref o7, .int v9, .int v10])), (o7, .inl (cI, 12, .inl fw8)), (o11, .inr (4, [.ref o12, .int v14, .int v15])), (o12, .inl (cI, 12, .inl fw13))]) := hD
    refine lv_iload hx hb dX9_closes_14 (lv_at hl 4 rfl) ?_
    refine lv_iconst (v := (-1)) hx hb dX9_closes_16 (by decide) ?_
    refine lv_ixor hx hb dX9_closes_17 (lv_topi (fun x4 x4_e => ?_))
    refine lv_iand hx hb dX9_closes_18 (lv_topi (fun x5 x5_e => ?_))
    have x5_h : Iv 0 4095 x5 := iv_e x5_e (iv_andL _ x3_h (by decide))
    refine lv_istore (lv' := [(5, .int x5), (0, .ref o1), (1, .ref o11), (2, .int a2), (3, .int 6), (4, .int a4)]) hx hb dX9_closes_19 hl (by decide) rfl (fun ls hl => ?_)
    refine lv_iload_n hx hb dX9_closes_21 rfl (lv_at hl 4 rfl) ?_
    refine lv_iconst (v := 1) hx hb dX9_closes_22 (by decide) ?_
    refine lv_icmp_ne (tgt := 30) hx hb dX9_closes_23 (by decide) (fun _ => ?_) (fun h9 => absurd h9 (by decide +kernel))
    refine lv_aload_n hx hb dX9_closes_30 rfl (lv_at hl 2 rfl) ?_
    refine va_getN (D := (dC, dI)) (ci := 4) (v := .ref o12) (C := RX4) (T := TX4) (N := 3) hx hb hts iw_X9_closes_X4 hown hK hP 2 rfl rfl 0 (by decide) (hN.use ns_6) (fun _ h9 => h9) rfl dX9_closes_31 ?_
    refine lv_aload_n hx hb dX9_closes_34 rfl (lv_at hl 1 rfl) ?_
    refine va_get (D := (dC, dI)) (ci := 9) (v := .ref o7) (C := RX9) (T := TX9) (N := 4) hx hb hts iw_X9_closes_X9 hown hK hP 0 rfl rfl 1 (by decide) (hts (.fieldLink RX9 18 "HolelessHouse$Ring" "path" "[I") hm_X9_closes_1) (fun _ h9 => h9) rfl dX9_closes_35 ?_
    refine lv_iload_n hx hb dX9_closes_38 rfl (lv_at hl 4 rfl) ?_
    refine lv_iconst (v := 1) hx hb dX9_closes_39 (by decide) ?_
    refine lv_isub hx hb dX9_closes_40 (tk_i (v := 5) (by decide +kernel) ?_)
    refine va_iald hx hb hK hP 1 0 rfl rfl (vin_iv ik_5 (by decide)) dX9_closes_41 (lv_topi (fun x6 x6_e => ?_))
    have x6_h : Iv 0 11 x6 := iv_e x6_e (bd_at fw8_b (vin_iv ik_5 (by decide)))
    refine va_iald hx hb hK hP 3 0 rfl rfl (vin_iv x6_h (by decide)) dX9_closes_42 (lv_topi (fun x7 x7_e => ?_))
    have x7_h : Iv 0 4095 x7 := iv_e x7_e (bd_at fw13_b (vin_iv x6_h (by decide)))
    refine lv_istore (lv' := [(6, .int x7), (5, .int x5), (0, .ref o1), (1, .ref o11), (2, .int a2), (3, .int 6), (4, .int a4)]) hx hb dX9_closes_43 hl (by decide) rfl (fun ls hl => ?_)
    refine lv_iconst (v := 0) hx hb dX9_closes_45 (by decide) ?_
    refine lv_istore (lv' := [(7, .int 0), (6, .int x7), (5, .int x5), (0, .ref o1), (1, .ref o11), (2, .int a2), (3, .int 6), (4, .int a4)]) hx hb dX9_closes_46 hl (by decide) rfl (fun ls hl => ?_)
    have L1 : ∀ (N : Nat) (x179 : Int32) (f180 : Nat → Int32) (H : Heap) (locs : List Loc) (ls : Array Slot), (12 - x179.toInt).toNat < N → Iv 0 12 x179 → Bd 12 0 11 f180 → va_P (dC, dI) vwCl ([(o1, .inr (9, [.ref o2, .ref o7, .int v9, .int v10])), (o7, .inl (cI, 12, .inl f180)), (o11, .inr (4, [.ref o12, .int v14, .int v15])), (o12, .inl (cI, 12, .inl fw13))]) H → va_D A ([(o1, .inr (9, [.ref o2, .ref o7, .int v9, .int v10])), (o7, .inl (cI, 12, .inl f180)), (o11, .inr (4, [.ref o12, .int v14, .int v15])), (o12, .inl (cI, 12, .inl fw13))]) → va_S A s.heap H locs → lv_has ls 8 [(7, .int x179), (6, .int x7), (5, .int x5), (0, .ref o1), (1, .ref o11), (2, .int a2), (3, .int 6), (4, .int a4)] → W p l e ({ frames := 7, cells := 0, slots := 0, locals := 180 }) s m ([.ref o1, .ref o11, .int a2, .int 6, .int a4] : List Value).toArray below meth c H locs 0 0 Q (F0 m 48 ls []) := by
      intro N
      induction N with
      | zero =>
        intro x179 f180 H locs ls hM
        exact absurd hM (Nat.not_lt_zero _)
      | succ N ih1 =>
        intro x179 f180 H locs ls hM1 x179_h f180_b hP hD hS hl
        refine lv_iload hx hb dX9_closes_48 (lv_at hl 0 rfl) ?_
        refine lv_aload_n hx hb dX9_closes_50 rfl (lv_at hl 4 rfl) ?_
        refine va_getN (D := (dC, dI)) (ci := 4) (v := .int v14) (C := RX4) (T := TX4) (N := 3) hx hb hts iw_X9_closes_X4 hown hK hP 2 rfl rfl 1 (by decide) (hN.use ns_11) (fun _ h9 => h9) rfl dX9_closes_51 ?_
        refine lv_icmp_ge (tgt := 105) hx hb dX9_closes_54 (by decide) (fun h181 => ?_) (fun h181 => ?_)
        ·
          have qh181 := le_i h181
          refine lv_iconst (v := 0) hx hb dX9_closes_105 (by decide) ?_
          rw [hQ]
          exact W.zret (v := 0) (ty := .boolean) hx hb hr rfl (fun t ht hW => ⟨⟨0, f180, rfl, ⟨(iv_w ik_0 (by decide)), (fun _ => j2), f180_b⟩, by rw [ht]; exact hP, va_K.moved hW.alike hK, hD⟩, hS.F ht⟩) hS.2.2 dX9_closes_106
        ·
          have qh181 := nle_i h181
          have j182 : Iv 0 11 x179 := r_ltl qh181 x179_h v14_h (by decide)
          have j183 : Iv 1 12 v14 := r_ltr qh181 x179_h v14_h (by decide)
          refine lv_iload hx hb dX9_closes_57 (lv_at hl 2 rfl) ?_
          refine lv_iload hx hb dX9_closes_59 (lv_at hl 0 rfl) ?_
          refine kc_i (D := (dC, dI)) (S := Unit) (wc := []) (wr := [(o1, .inr (9, [.ref o2, .ref o7, .int v9, .int v10])), (o7, .inl (cI, 12, .inl f180)), (o11, .inr (4, [.ref o12, .int v14, .int v15])), (o12, .inl (cI, 12, .inl fw13))]) (w1 := fun _ => []) (wn := fun _ => [(o1, .inr (9, [.ref o2, .ref o7, .int v9, .int v10])), (o7, .inl (cI, 12, .inl f180)), (o11, .inr (4, [.ref o12, .int v14, .int v15])), (o12, .inl (cI, 12, .inl fw13))]) (fun hPc hDc => va_runSN (As := [.int x5, .int x179]) (rest := []) ⟨hx, hb, hml, hown, hts⟩ (kX11_in_1 l dC dI cI c2 cZ x5 x179 H.size) ⟨va_cnB 2 hts gX9_closes_X11_in_n56 rfl rfl rfl (hN.1 _ ns_76) (hts (.initialized RX11) hm_X9_closes_11) (by decide +kernel) ⟨Nat.le_of_ble_eq_true rfl, Nat.le_of_ble_eq_true rfl⟩, (hts (.static yX11_in) hm_X9_closes_10), trivial⟩ (pre_S hPc hK hDc hN) rfl rfl hl.1 rfl (lv_room (Nat.le_of_ble_eq_true rfl)) dX9_closes_61 ⟨Nat.le_of_ble_eq_true rfl, Nat.le_of_ble_eq_true rfl⟩) hP hD hS hA [] [0, 1, 2, 3] [0, 1, 2, 3] rfl rfl (by decide +kernel) (by decide +kernel) (by decide +kernel) (by decide +kernel) (fun _ => rfl) (fun x184 _ H locs hq hP hD hS => ?_)
          have x184_h := hq
          have hP : va_P (dC, dI) vwCl ([(o1, .inr (9, [.ref o2, .ref o7, .int v9, .int v10])), (o7, .inl (cI, 12, .inl f180)), (o11, .inr (4, [.ref o12, .int v14, .int v15])), (o12, .inl (cI, 12, .inl fw13))]) H := hP
          have hD : va_D A ([(o1, .inr (9, [.ref o2, .ref o7, .int v9, .int v10])), (o7, .inl (cI, 12, .inl f180)), (o11, .inr (4, [.ref o12, .int v14, .int v15])), (o12, .inl (cI, 12, .inl fw13))]) := hD
          refine lv_if_eq (tgt := 99) hx hb dX9_closes_64 (by decide) (fun h185 => ?_) (fun h185 => ?_)
          ·
            have j186 : Iv 0 0 x184 := r_eq h185 ik_0
            obtain ⟨x187, x187_e⟩ : ∃ z : Int32, z = x179 + 1 := ⟨_, rfl⟩
            have x187_h : Iv 1 12 x187 := iv_e x187_e (iv_add j182 ik_1 (by decide))
            refine lv_iinc (v := x187) (lv' := [(7, .int x187), (6, .int x7), (5, .int x5), (0, .ref o1), (1, .ref o11), (2, .int a2), (3, .int 6), (4, .int a4)]) hx hb dX9_closes_99 hl (k := 0) rfl (incN (by decide +kernel) x187_e) (by decide) rfl (fun ls hl => ?_)
            refine lv_goto (tgt := 48) hx hb dX9_closes_102 (by decide) ?_
            exact ih1 x187 f180 _ _ _ (ms_up x187_e j182 (by decide) hM1) (iv_w x187_h (by decide)) f180_b hP hD hS hl
          ·
            have j188 : Iv 1 1 x184 := r_nelo h185 x184_h ik_0 (by decide)
            refine lv_aload_n hx hb dX9_closes_67 rfl (lv_at hl 3 rfl) ?_
            refine va_get (D := (dC, dI)) (ci := 9) (v := .ref o7) (C := RX9) (T := TX9) (N := 4) hx hb hts iw_X9_closes_X9 hown hK hP 0 rfl rfl 1 (by decide) (hts (.fieldLink RX9 18 "HolelessHouse$Ring" "path" "[I") hm_X9_closes_1) (fun _ h9 => h9) rfl dX9_closes_68 ?_
            refine lv_iload_n hx hb dX9_closes_71 rfl (lv_at hl 6 rfl) ?_
            refine lv_iload hx hb dX9_closes_72 (lv_at hl 0 rfl) ?_
            refine k_iast hx hb hK hP hD hS 1 0 rfl rfl (vin_iv ik_6 (by decide)) dX9_closes_74 (fun f189 H locs f189_e hP hD hS => ?_)
            have f189_b : Bd 12 0 11 f189 := bd_upd f189_e f180_b j182 (by decide)
            have hP : va_P (dC, dI) vwCl ([(o1, .inr (9, [.ref o2, .ref o7, .int v9, .int v10])), (o7, .inl (cI, 12, .inl f189)), (o11, .inr (4, [.ref o12, .int v14, .int v15])), (o12, .inl (cI, 12, .inl fw13))]) H := hP
            have hD : va_D A ([(o1, .inr (9, [.ref o2, .ref o7, .int v9, .int v10])), (o7, .inl (cI, 12, .inl f189)), (o11, .inr (4, [.ref o12, .int v14, .int v15])), (o12, .inl (cI, 12, .inl fw13))]) := hD
            refine lv_aload_n hx hb dX9_closes_75 rfl (lv_at hl 3 rfl) ?_
            refine lv_aload_n hx hb dX9_closes_76 rfl (lv_at hl 4 rfl) ?_
            refine lv_iload_n hx hb dX9_closes_77 rfl (lv_at hl 5 rfl) ?_
            refine lv_iload_n hx hb dX9_closes_78 rfl (lv_at hl 6 rfl) ?_
            refine lv_iconst (v := 1) hx hb dX9_closes_79 (by decide) ?_
            refine lv_iadd hx hb dX9_closes_80 (tk_i (v := 7) (by decide +kernel) ?_)
            refine lv_iload hx hb dX9_closes_81 (lv_at hl 7 rfl) ?_
            refine lv_iload hx hb dX9_closes_83 (lv_at hl 1 rfl) ?_
            refine lv_ior hx hb dX9_closes_85 (lv_topi (fun x190 x190_e => ?_))
            refine lv_iconst (v := 1) hx hb dX9_closes_86 (by decide) ?_
            refine lv_iload hx hb dX9_closes_87 (lv_at hl 0 rfl) ?_
            refine lv_ishl hx hb dX9_closes_89 (lv_topi (fun x191 x191_e => ?_))
            have x191_h : Iv 1 2048 x191 := iv_e x191_e (iv_shl1 j182 (by decide))
            refine lv_ior hx hb dX9_closes_90 (lv_topi (fun x192 x192_e => ?_))
            refine kc_i (D := (dC, dI)) (S := (Nat → Int32)) (wc := [(o1, .inr (9, [.ref o2, .ref o7, .int v9, .int v10])), (o7, .inl (cI, 12, .inl f189)), (o11, .inr (4, [.ref o12, .int v14, .int v15])), (o12, .inl (cI, 12, .inl fw13))]) (wr := []) (w1 := fun u => [(o1, .inr (9, [.ref o2, .ref o7, .int v9, .int v10])), (o7, .inl (cI, 12, .inl u)), (o11, .inr (4, [.ref o12, .int v14, .int v15])), (o12, .inl (cI, 12, .inl fw13))]) (wn := fun u => [(o1, .inr (9, [.ref o2, .ref o7, .int v9, .int v10])), (o7, .inl (cI, 12, .inl u)), (o11, .inr (4, [.ref o12, .int v14, .int v15])), (o12, .inl (cI, 12, .inl fw13))]) (fun hPc hDc => va_runS (As := [.ref o1, .ref o11, .int a2, .int 7, .int x192]) (rest := []) ⟨hx, hb, hml, hown, hts⟩ (kX9_closes_6 l dC dI cI c2 cZ o1 o11 o2 o7 o12 f189 v9 v10 fw13 v14 v15 a2 x192 H.size f189_b v9_h fw13_b (iv_w j183 (by decide)) (iv_w j2 (by decide))) (va_cwS 5 hts gX9_closes_X9_closes rfl rfl rfl (by decide +kernel) ⟨Nat.le_of_ble_eq_true rfl, Nat.le_of_ble_eq_true rfl⟩) (pre_S hPc hK hDc hN) rfl rfl hl.1 rfl (lv_room (Nat.le_of_ble_eq_true rfl)) dX9_closes_91 ⟨Nat.le_of_ble_eq_true rfl, Nat.le_of_ble_eq_true rfl⟩) hP hD hS hA [0, 1, 2, 3] [] [0, 1, 2, 3] rfl rfl (by decide +kernel) (by decide +kernel) (by decide +kernel) (by decide +kernel) (fun _ => rfl) (fun x194 f193 H locs hq hP hD hS => ?_)
            obtain ⟨x194_h, i195, f193_b⟩ := hq
            have hP : va_P (dC, dI) vwCl ([(o1, .inr (9, [.ref o2, .ref o7, .int v9, .int v10])), (o7, .inl (cI, 12, .inl f193)), (o11, .inr (4, [.ref o12, .int v14, .int v15])), (o12, .inl (cI, 12, .inl fw13))]) H := hP
            have hD : va_D A ([(o1, .inr (9, [.ref o2, .ref o7, .int v9, .int v10])), (o7, .inl (cI, 12, .inl f193)), (o11, .inr (4, [.ref o12, .int v14, .int v15])), (o12, .inl (cI, 12, .inl fw13))]) := hD
            refine lv_if_eq (tgt := 99) hx hb dX9_closes_94 (by decide) (fun h196 => ?_) (fun h196 => ?_)
            ·
              have j197 : Iv 0 0 x194 := r_eq h196 ik_0
              have j198 : Iv 8 12 a2 := i195 h196
              obtain ⟨x199, x199_e⟩ : ∃ z : Int32, z = x179 + 1 := ⟨_, rfl⟩
              have x199_h : Iv 1 12 x199 := iv_e x199_e (iv_add j182 ik_1 (by decide))
              refine lv_iinc (v := x199) (lv' := [(7, .int x199), (6, .int x7), (5, .int x5), (0, .ref o1), (1, .ref o11), (2, .int a2), (3, .int 6), (4, .int a4)]) hx hb dX9_closes_99 hl (k := 0) rfl (incN (by decide +kernel) x199_e) (by decide) rfl (fun ls hl => ?_)
              refine lv_goto (tgt := 48) hx hb dX9_closes_102 (by decide) ?_
              exact ih1 x199 f193 _ _ _ (ms_up x199_e j182 (by decide) hM1) (iv_w x199_h (by decide)) f193_b hP hD hS hl
            ·
              have j200 : Iv 1 1 x194 := r_nelo h196 x194_h ik_0 (by decide)
              refine lv_iconst (v := 1) hx hb dX9_closes_97 (by decide) ?_
              rw [hQ]
              exact W.zret (v := 1) (ty := .boolean) hx hb hr rfl (fun t ht hW => ⟨⟨1, f193, rfl, ⟨(iv_w ik_1 (by decide)), (fun h8 => absurd h8 (by decide +kernel)), f193_b⟩, by rw [ht]; exact hP, va_K.moved hW.alike hK, hD⟩, hS.F ht⟩) hS.2.2 dX9_closes_98
    exact L1 _ 0 fw8 _ _ _ (Nat.lt_succ_self _) (iv_w ik_0 (by decide)) fw8_b hP hD hS hl
  ·
    have qh1 := nlt_i h1
    have j201 : Iv 4 6 a2 := r_lel qh1 a2_h ik_6 (by decide)
    refine lv_iconst (v := 1) hx hb dX9_closes_5 (by decide) ?_
    rw [hQ]
    exact W.zret (v := 1) (ty := .boolean) hx hb hr rfl (fun t ht hW => ⟨⟨1, fw8, rfl, ⟨(iv_w ik_1 (by decide)), (fun h8 => absurd h8 (by decide +kernel)), fw8_b⟩, by rw [ht]; exact hP, va_K.moved hW.alike hK, hD⟩, hS.F ht⟩) hS.2.2 dX9_closes_6
set_option maxHeartbeats 4000000 in
set_option maxRecDepth 100000 in
theorem kX9_closes_8 (l : Launch) (dC : Nat → ClassId) (dI : Nat → Nat → Nat) (cI c2 cZ : ClassId) (o1 : Nat) (o11 : Nat) (o2 : Nat) (o7 : Nat) (o12 : Nat) (fw8 : Nat → Int32) (v9 : Int32) (v10 : Int32) (fw13 : Nat → Int32) (v14 : Int32) (v15 : Int32) (a2 : Int32) (a4 : Int32) (sz : Nat) (fw8_b : Bd 12 0 11 fw8) (v9_h : Iv 0 12 v9) (fw13_b : Bd 12 0 4095 fw13) (v14_h : Iv 0 12 v14) (a2_h : Iv 4 12 a2) : Met l yX9_closes wsX9_closes ({ frames := 8, cells := 0, slots := 0, locals := 207 }) (va_Pc [.ref o1, .ref o11, .int a2, .int 5, .int a4] (wPre (dC, dI) [(cI, .int), (c2, .array .int), (cZ, .boolean)] ([(o1, .inr (9, [.ref o2, .ref o7, .int v9, .int v10])), (o7, .inl (cI, 12, .inl fw8)), (o11, .inr (4, [.ref o12, .int v14, .int v15])), (o12, .inl (cI, 12, .inl fw13))]) sz)) (va_Qi (fun (r : Int32) (u : (Nat → Int32)) => Iv 0 1 r ∧ (r = 0 → Iv 6 12 a2) ∧ Bd 12 0 11 u) (fun u t => wPost (dC, dI) [(cI, .int), (c2, .array .int), (cZ, .boolean)] (va_A ([(o1, .inr (9, [.ref o2, .ref o7, .int v9, .int v10])), (o7, .inl (cI, 12, .inl fw8)), (o11, .inr (4, [.ref o12, .int v14, .int v15])), (o12, .inl (cI, 12, .inl fw13))]) sz) ([(o1, .inr (9, [.ref o2, .ref o7, .int v9, .int v10])), (o7, .inl (cI, 12, .inl u)), (o11, .inr (4, [.ref o12, .int v14, .int v15])), (o12, .inl (cI, 12, .inl fw13))]) t) (va_A ([(o1, .inr (9, [.ref o2, .ref o7, .int v9, .int v10])), (o7, .inl (cI, 12, .inl fw8)), (o11, .inr (4, [.ref o12, .int v14, .int v15])), (o12, .inl (cI, 12, .inl fw13))]) sz)) 0 0 (va_A ([(o1, .inr (9, [.ref o2, .ref o7, .int v9, .int v10])), (o7, .inl (cI, 12, .inl fw8)), (o11, .inr (4, [.ref o12, .int v14, .int v15])), (o12, .inl (cI, 12, .inl fw13))]) sz) := by
  refine Met.ofW (cc := cX9_closes) (maxL := 8) (ret := (some .boolean)) (by decide) rfl ?_
  intro p e s m args below meth c s₁ B hml hv
  obtain ⟨rfl, hsz, hP, hK, hD0, hN⟩ := hv
  have hx := B.exec
  have hb := B.bytes
  have hr := B.returns
  have hts := atoms_spec (ws := wsX9_closes) B.pre
  have hown : s.vm.findClass RX9 = some m.cls := findClass_of_methodNamed B.named
  have hlocks := B.notSynchronized
  subst hsz
  have hD := hD0.self (sz := s.heap.size)
  generalize hAe : va_A ([(o1, .inr (9, [.ref o2, .ref o7, .int v9, .int v10])), (o7, .inl (cI, 12, .inl fw8)), (o11, .inr (4, [.ref o12, .int v14, .int v15])), (o12, .inl (cI, 12, .inl fw13))]) s.heap.size = A at hD ⊢
  have hA : ∀ q : Nat, s.heap.size ≤ q → A q := fun q h => by rw [← hAe]; exact Or.inr h
  have hS : va_S A s.heap s.heap [] := va_S.rf
  have hP : va_P (dC, dI) vwCl ([(o1, .inr (9, [.ref o2, .ref o7, .int v9, .int v10])), (o7, .inl (cI, 12, .inl fw8)), (o11, .inr (4, [.ref o12, .int v14, .int v15])), (o12, .inl (cI, 12, .inl fw13))]) s.heap := hP
  have hl := lv_entry ([.ref o1, .ref o11, .int a2, .int 5, .int a4]) (n := 8) (Nat.le_of_ble_eq_true rfl)
  rw [lg_entry_eq]
  generalize (lg_sl ([.ref o1, .ref o11, .int a2, .int 5, .int a4]) ++ List.replicate (8 - (lg_sl ([.ref o1, .ref o11, .int a2, .int 5, .int a4])).length) Slot.unset).toArray = ls at hl ⊢
  have hl : lv_has ls 8 [(0, .ref o1), (1, .ref o11), (2, .int a2), (3, .int 5), (4, .int a4)] := hl
  refine gen_Q (fun Q hQ => ?_)
  refine lv_iload_n hx hb dX9_closes_0 rfl (lv_at hl 3 rfl) ?_
  refine lv_iload_n hx hb dX9_closes_1 rfl (lv_at hl 2 rfl) ?_
  refine lv_icmp_lt (tgt := 7) hx hb dX9_closes_2 (by decide) (fun h1 => ?_) (fun h1 => ?_)
  ·
    have qh1 := lt_i h1
    have j2 : Iv 6 12 a2 := r_ltr qh1 ik_5 a2_h (by decide)
    refine lv_aload_n hx hb dX9_closes_7 rfl (lv_at hl 0 rfl) ?_
    refine lv_aload_n hx hb dX9_closes_8 rfl (lv_at hl 1 rfl) ?_
    refine lv_iload_n hx hb dX9_closes_9 rfl (lv_at hl 2 rfl) ?_
    refine lv_iload_n hx hb dX9_closes_10 rfl (lv_at hl 3 rfl) ?_
    refine kc_i (D := (dC, dI)) (S := Unit) (wc := [(o1, .inr (9, [.ref o2, .ref o7, .int v9, .int v10])), (o7, .inl (cI, 12, .inl fw8)), (o11, .inr (4, [.ref o12, .int v14, .int v15])), (o12, .inl (cI, 12, .inl fw13))]) (wr := []) (w1 := fun _ => [(o1, .inr (9, [.ref o2, .ref o7, .int v9, .int v10])), (o7, .inl (cI, 12, .inl fw8)), (o11, .inr (4, [.ref o12, .int v14, .int v15])), (o12, .inl (cI, 12, .inl fw13))]) (wn := fun _ => [(o1, .inr (9, [.ref o2, .ref o7, .int v9, .int v10])), (o7, .inl (cI, 12, .inl fw8)), (o11, .inr (4, [.ref o12, .int v14, .int v15])), (o12, .inl (cI, 12, .inl fw13))]) (fun hPc hDc => va_runV (As := [.ref o11, .int a2, .int 5]) (rest := []) ⟨hx, hb, hml, hown, hts⟩ (kX9_nextOnes_1 l dC dI cI c2 cZ o1 o11 o2 o7 o12 fw8 v9 v10 fw13 v14 v15 a2 5 s.heap.size fw8_b v9_h fw13_b v14_h (iv_w j2 (by decide)) (iv_w ik_5 (by decide))) (cwV 3 hts gX9_closes_X9_nextOnes rfl rfl rfl (by decide +kernel) ⟨Nat.le_of_ble_eq_true rfl, Nat.le_of_ble_eq_true rfl⟩) (pre_V hPc hK hDc hN (ci := 9) (q0 := 0) rfl rfl) rfl rfl hl.1 rfl (lv_room (Nat.le_of_ble_eq_true rfl)) dX9_closes_11 ⟨Nat.le_of_ble_eq_true rfl, Nat.le_of_ble_eq_true rfl⟩) hP hD hS hA [0, 1, 2, 3] [] [0, 1, 2, 3] rfl rfl (by decide +kernel) (by decide +kernel) (by decide +kernel) (by decide +kernel) (fun _ => rfl) (fun x3 _ H locs hq hP hD hS => ?_)
    have x3_h := hq
    have hP : va_P (dC, dI) vwCl ([(o1, .inr (9, [.ref o2, .ref o7, .int v9, .int v10])), (o7, .inl (cI, 12, .inl fw8)), (o11, .inr (4, [.ref o12, .int v14, .int v15])), (o12, .inl (cI, 12, .inl fw13))]) H := hP
    have hD : va_D A ([(o1, .inr (9, [.ref o2, .ref o7, .int v9, .int v10])), (o7, .inl (cI, 12, .inl fw8)), (o11, .inr (4, [.ref o12, .int v14, .int v15])), (o12, .inl (cI, 12, .inl fw13))]) := hD
    refine lv_iload hx hb dX9_closes_14 (lv_at hl 4 rfl) ?_
    refine lv_iconst (v := (-1)) hx hb dX9_closes_16 (by decide) ?_
    refine lv_ixor hx hb dX9_closes_17 (lv_topi (fun x4 x4_e => ?_))
    refine lv_iand hx hb dX9_closes_18 (lv_topi (fun x5 x5_e => ?_))
    have x5_h : Iv 0 4095 x5 := iv_e x5_e (iv_andL _ x3_h (by decide))
    refine lv_istore (lv' := [(5, .int x5), (0, .ref o1), (1, .ref o11), (2, .int a2), (3, .int 5), (4, .int a4)]) hx hb dX9_closes_19 hl (by decide) rfl (fun ls hl => ?_)
    refine lv_iload_n hx hb dX9_closes_21 rfl (lv_at hl 4 rfl) ?_
    refine lv_iconst (v := 1) hx hb dX9_closes_22 (by decide) ?_
    refine lv_icmp_ne (tgt := 30) hx hb dX9_closes_23 (by decide) (fun _ => ?_) (fun h9 => absurd h9 (by decide +kernel))
    refine lv_aload_n hx hb dX9_closes_30 rfl (lv_at hl 2 rfl) ?_
    refine va_getN (D := (dC, dI)) (ci := 4) (v := .ref o12) (C := RX4) (T := TX4) (N := 3) hx hb hts iw_X9_closes_X4 hown hK hP 2 rfl rfl 0 (by decide) (hN.use ns_6) (fun _ h9 => h9) rfl dX9_closes_31 ?_
    refine lv_aload_n hx hb dX9_closes_34 rfl (lv_at hl 1 rfl) ?_
    refine va_get (D := (dC, dI)) (ci := 9) (v := .ref o7) (C := RX9) (T := TX9) (N := 4) hx hb hts iw_X9_closes_X9 hown hK hP 0 rfl rfl 1 (by decide) (hts (.fieldLink RX9 18 "HolelessHouse$Ring" "path" "[I") hm_X9_closes_1) (fun _ h9 => h9) rfl dX9_closes_35 ?_
    refine lv_iload_n hx hb dX9_closes_38 rfl (lv_at hl 4 rfl) ?_
    refine lv_iconst (v := 1) hx hb dX9_closes_39 (by decide) ?_
    refine lv_isub hx hb dX9_closes_40 (tk_i (v := 4) (by decide +kernel) ?_)
    refine va_iald hx hb hK hP 1 0 rfl rfl (vin_iv ik_4 (by decide)) dX9_closes_41 (lv_topi (fun x6 x6_e => ?_))
    have x6_h : Iv 0 11 x6 := iv_e x6_e (bd_at fw8_b (vin_iv ik_4 (by decide)))
    refine va_iald hx hb hK hP 3 0 rfl rfl (vin_iv x6_h (by decide)) dX9_closes_42 (lv_topi (fun x7 x7_e => ?_))
    have x7_h : Iv 0 4095 x7 := iv_e x7_e (bd_at fw13_b (vin_iv x6_h (by decide)))
    refine lv_istore (lv' := [(6, .int x7), (5, .int x5), (0, .ref o1), (1, .ref o11), (2, .int a2), (3, .int 5), (4, .int a4)]) hx hb dX9_closes_43 hl (by decide) rfl (fun ls hl => ?_)
    refine lv_iconst (v := 0) hx hb dX9_closes_45 (by decide) ?_
    refine lv_istore (lv' := [(7, .int 0), (6, .int x7), (5, .int x5), (0, .ref o1), (1, .ref o11), (2, .int a2), (3, .int 5), (4, .int a4)]) hx hb dX9_closes_46 hl (by decide) rfl (fun ls hl => ?_)
    have L1 : ∀ (N : Nat) (x179 : Int32) (f180 : Nat → Int32) (H : Heap) (locs : List Loc) (ls : Array Slot), (12 - x179.toInt).toNat < N → Iv 0 12 x179 → Bd 12 0 11 f180 → va_P (dC, dI) vwCl ([(o1, .inr (9, [.ref o2, .ref o7, .int v9, .int v10])), (o7, .inl (cI, 12, .inl f180)), (o11, .inr (4, [.ref o12, .int v14, .int v15])), (o12, .inl (cI, 12, .inl fw13))]) H → va_D A ([(o1, .inr (9, [.ref o2, .ref o7, .int v9, .int v10])), (o7, .inl (cI, 12, .inl f180)), (o11, .inr (4, [.ref o12, .int v14, .int v15])), (o12, .inl (cI, 12, .inl fw13))]) → va_S A s.heap H locs → lv_has ls 8 [(7, .int x179), (6, .int x7), (5, .int x5), (0, .ref o1), (1, .ref o11), (2, .int a2), (3, .int 5), (4, .int a4)] → W p l e ({ frames := 8, cells := 0, slots := 0, locals := 207 }) s m ([.ref o1, .ref o11, .int a2, .int 5, .int a4] : List Value).toArray below meth c H locs 0 0 Q (F0 m 48 ls []) := by
      intro N
      induction N with
      | zero =>
        intro x179 f180 H locs ls hM
        exact absurd hM (Nat.not_lt_zero _)
      | succ N ih1 =>
        intro x179 f180 H locs ls hM1 x179_h f180_b hP hD hS hl
        refine lv_iload hx hb dX9_closes_48 (lv_at hl 0 rfl) ?_
        refine lv_aload_n hx hb dX9_closes_50 rfl (lv_at hl 4 rfl) ?_
        refine va_getN (D := (dC, dI)) (ci := 4) (v := .int v14) (C := RX4) (T := TX4) (N := 3) hx hb hts iw_X9_closes_X4 hown hK hP 2 rfl rfl 1 (by decide) (hN.use ns_11) (fun _ h9 => h9) rfl dX9_closes_51 ?_
        refine lv_icmp_ge (tgt := 105) hx hb dX9_closes_54 (by decide) (fun h181 => ?_) (fun h181 => ?_)
        ·
          have qh181 := le_i h181
          refine lv_iconst (v := 0) hx hb dX9_closes_105 (by decide) ?_
          rw [hQ]
          exact W.zret (v := 0) (ty := .boolean) hx hb hr rfl (fun t ht hW => ⟨⟨0, f180, rfl, ⟨(iv_w ik_0 (by decide)), (fun _ => j2), f180_b⟩, by rw [ht]; exact hP, va_K.moved hW.alike hK, hD⟩, hS.F ht⟩) hS.2.2 dX9_closes_106
        ·
          have qh181 := nle_i h181
          have j182 : Iv 0 11 x179 := r_ltl qh181 x179_h v14_h (by decide)
          have j183 : Iv 1 12 v14 := r_ltr qh181 x179_h v14_h (by decide)
          refine lv_iload hx hb dX9_closes_57 (lv_at hl 2 rfl) ?_
          refine lv_iload hx hb dX9_closes_59 (lv_at hl 0 rfl) ?_
          refine kc_i (D := (dC, dI)) (S := Unit) (wc := []) (wr := [(o1, .inr (9, [.ref o2, .ref o7, .int v9, .int v10])), (o7, .inl (cI, 12, .inl f180)), (o11, .inr (4, [.ref o12, .int v14, .int v15])), (o12, .inl (cI, 12, .inl fw13))]) (w1 := fun _ => []) (wn := fun _ => [(o1, .inr (9, [.ref o2, .ref o7, .int v9, .int v10])), (o7, .inl (cI, 12, .inl f180)), (o11, .inr (4, [.ref o12, .int v14, .int v15])), (o12, .inl (cI, 12, .inl fw13))]) (fun hPc hDc => va_runSN (As := [.int x5, .int x179]) (rest := []) ⟨hx, hb, hml, hown, hts⟩ (kX11_in_1 l dC dI cI c2 cZ x5 x179 H.size) ⟨va_cnB 2 hts gX9_closes_X11_in_n56 rfl rfl rfl (hN.1 _ ns_76) (hts (.initialized RX11) hm_X9_closes_11) (by decide +kernel) ⟨Nat.le_of_ble_eq_true rfl, Nat.le_of_ble_eq_true rfl⟩, (hts (.static yX11_in) hm_X9_closes_10), trivial⟩ (pre_S hPc hK hDc hN) rfl rfl hl.1 rfl (lv_room (Nat.le_of_ble_eq_true rfl)) dX9_closes_61 ⟨Nat.le_of_ble_eq_true rfl, Nat.le_of_ble_eq_true rfl⟩) hP hD hS hA [] [0, 1, 2, 3] [0, 1, 2, 3] rfl rfl (by decide +kernel) (by decide +kernel) (by decide +kernel) (by decide +kernel) (fun _ => rfl) (fun x184 _ H locs hq hP hD hS => ?_)
          have x184_h := hq
          have hP : va_P (dC, dI) vwCl ([(o1, .inr (9, [.ref o2, .ref o7, .int v9, .int v10])), (o7, .inl (cI, 12, .inl f180)), (o11, .inr (4, [.ref o12, .int v14, .int v15])), (o12, .inl (cI, 12, .inl fw13))]) H := hP
          have hD : va_D A ([(o1, .inr (9, [.ref o2, .ref o7, .int v9, .int v10])), (o7, .inl (cI, 12, .inl f180)), (o11, .inr (4, [.ref o12, .int v14, .int v15])), (o12, .inl (cI, 12, .inl fw13))]) := hD
          refine lv_if_eq (tgt := 99) hx hb dX9_closes_64 (by decide) (fun h185 => ?_) (fun h185 => ?_)
          ·
            have j186 : Iv 0 0 x184 := r_eq h185 ik_0
            obtain ⟨x187, x187_e⟩ : ∃ z : Int32, z = x179 + 1 := ⟨_, rfl⟩
            have x187_h : Iv 1 12 x187 := iv_e x187_e (iv_add j182 ik_1 (by decide))
            refine lv_iinc (v := x187) (lv' := [(7, .int x187), (6, .int x7), (5, .int x5), (0, .ref o1), (1, .ref o11), (2, .int a2), (3, .int 5), (4, .int a4)]) hx hb dX9_closes_99 hl (k := 0) rfl (incN (by decide +kernel) x187_e) (by decide) rfl (fun ls hl => ?_)
            refine lv_goto (tgt := 48) hx hb dX9_closes_102 (by decide) ?_
            exact ih1 x187 f180 _ _ _ (ms_up x187_e j182 (by decide) hM1) (iv_w x187_h (by decide)) f180_b hP hD hS hl
          ·
            have j188 : Iv 1 1 x184 := r_nelo h185 x184_h ik_0 (by decide)
            refine lv_aload_n hx hb dX9_closes_67 rfl (lv_at hl 3 rfl) ?_
            refine va_get (D := (dC, dI)) (ci := 9) (v := .ref o7) (C := RX9) (T := TX9) (N := 4) hx hb hts iw_X9_closes_X9 hown hK hP 0 rfl rfl 1 (by decide) (hts (.fieldLink RX9 18 "HolelessHouse$Ring" "path" "[I") hm_X9_closes_1) (fun _ h9 => h9) rfl dX9_closes_68 ?_
            refine lv_iload_n hx hb dX9_closes_71 rfl (lv_at hl 6 rfl) ?_
            refine lv_iload hx hb dX9_closes_72 (lv_at hl 0 rfl) ?_
            refine k_iast hx hb hK hP hD hS 1 0 rfl rfl (vin_iv ik_5 (by decide)) dX9_closes_74 (fun f189 H locs f189_e hP hD hS => ?_)
            have f189_b : Bd 12 0 11 f189 := bd_upd f189_e f180_b j182 (by decide)
            have hP : va_P (dC, dI) vwCl ([(o1, .inr (9, [.ref o2, .ref o7, .int v9, .int v10])), (o7, .inl (cI, 12, .inl f189)), (o11, .inr (4, [.ref o12, .int v14, .int v15])), (o12, .inl (cI, 12, .inl fw13))]) H := hP
            have hD : va_D A ([(o1, .inr (9, [.ref o2, .ref o7, .int v9, .int v10])), (o7, .inl (cI, 12, .inl f189)), (o11, .inr (4, [.ref o12, .int v14, .int v15])), (o12, .inl (cI, 12, .inl fw13))]) := hD
            refine lv_aload_n hx hb dX9_closes_75 rfl (lv_at hl 3 rfl) ?_
            refine lv_aload_n hx hb dX9_closes_76 rfl (lv_at hl 4 rfl) ?_
            refine lv_iload_n hx hb dX9_closes_77 rfl (lv_at hl 5 rfl) ?_
            refine lv_iload_n hx hb dX9_closes_78 rfl (lv_at hl 6 rfl) ?_
            refine lv_iconst (v := 1) hx hb dX9_closes_79 (by decide) ?_
            refine lv_iadd hx hb dX9_closes_80 (tk_i (v := 6) (by decide +kernel) ?_)
            refine lv_iload hx hb dX9_closes_81 (lv_at hl 7 rfl) ?_
            refine lv_iload hx hb dX9_closes_83 (lv_at hl 1 rfl) ?_
            refine lv_ior hx hb dX9_closes_85 (lv_topi (fun x190 x190_e => ?_))
            refine lv_iconst (v := 1) hx hb dX9_closes_86 (by decide) ?_
            refine lv_iload hx hb dX9_closes_87 (lv_at hl 0 rfl) ?_
            refine lv_ishl hx hb dX9_closes_89 (lv_topi (fun x191 x191_e => ?_))
            have x191_h : Iv 1 2048 x191 := iv_e x191_e (iv_shl1 j182 (by decide))
            refine lv_ior hx hb dX9_closes_90 (lv_topi (fun x192 x192_e => ?_))
            refine kc_i (D := (dC, dI)) (S := (Nat → Int32)) (wc := [(o1, .inr (9, [.ref o2, .ref o7, .int v9, .int v10])), (o7, .inl (cI, 12, .inl f189)), (o11, .inr (4, [.ref o12, .int v14, .int v15])), (o12, .inl (cI, 12, .inl fw13))]) (wr := []) (w1 := fun u => [(o1, .inr (9, [.ref o2, .ref o7, .int v9, .int v10])), (o7, .inl (cI, 12, .inl u)), (o11, .inr (4, [.ref o12, .int v14, .int v15])), (o12, .inl (cI, 12, .inl fw13))]) (wn := fun u => [(o1, .inr (9, [.ref o2, .ref o7, .int v9, .int v10])), (o7, .inl (cI, 12, .inl u)), (o11, .inr (4, [.ref o12, .int v14, .int v15])), (o12, .inl (cI, 12, .inl fw13))]) (fun hPc hDc => va_runS (As := [.ref o1, .ref o11, .int a2, .int 6, .int x192]) (rest := []) ⟨hx, hb, hml, hown, hts⟩ (kX9_closes_7 l dC dI cI c2 cZ o1 o11 o2 o7 o12 f189 v9 v10 fw13 v14 v15 a2 x192 H.size f189_b v9_h fw13_b (iv_w j183 (by decide)) (iv_w j2 (by decide))) (va_cwS 5 hts gX9_closes_X9_closes rfl rfl rfl (by decide +kernel) ⟨Nat.le_of_ble_eq_true rfl, Nat.le_of_ble_eq_true rfl⟩) (pre_S hPc hK hDc hN) rfl rfl hl.1 rfl (lv_room (Nat.le_of_ble_eq_true rfl)) dX9_closes_91 ⟨Nat.le_of_ble_eq_true rfl, Nat.le_of_ble_eq_true rfl⟩) hP hD hS hA [0, 1, 2, 3] [] [0, 1, 2, 3] rfl rfl (by decide +kernel) (by decide +kernel) (by decide +kernel) (by decide +kernel) (fun _ => rfl) (fun x194 f193 H locs hq hP hD hS => ?_)
            obtain ⟨x194_h, i195, f193_b⟩ := hq
            have hP : va_P (dC, dI) vwCl ([(o1, .inr (9, [.ref o2, .ref o7, .int v9, .int v10])), (o7, .inl (cI, 12, .inl f193)), (o11, .inr (4, [.ref o12, .int v14, .int v15])), (o12, .inl (cI, 12, .inl fw13))]) H := hP
            have hD : va_D A ([(o1, .inr (9, [.ref o2, .ref o7, .int v9, .int v10])), (o7, .inl (cI, 12, .inl f193)), (o11, .inr (4, [.ref o12, .int v14, .int v15])), (o12, .inl (cI, 12, .inl fw13))]) := hD
            refine lv_if_eq (tgt := 99) hx hb dX9_closes_94 (by decide) (fun h196 => ?_) (fun h196 => ?_)
            ·
              have j197 : Iv 0 0 x194 := r_eq h196 ik_0
              have j198 : Iv 7 12 a2 := i195 h196
              obtain ⟨x199, x199_e⟩ : ∃ z : Int32, z = x179 + 1 := ⟨_, rfl⟩
              have x199_h : Iv 1 12 x199 := iv_e x199_e (iv_add j182 ik_1 (by decide))
              refine lv_iinc (v := x199) (lv' := [(7, .int x199), (6, .int x7), (5, .int x5), (0, .ref o1), (1, .ref o11), (2, .int a2), (3, .int 5), (4, .int a4)]) hx hb dX9_closes_99 hl (k := 0) rfl (incN (by decide +kernel) x199_e) (by decide) rfl (fun ls hl => ?_)
              refine lv_goto (tgt := 48) hx hb dX9_closes_102 (by decide) ?_
              exact ih1 x199 f193 _ _ _ (ms_up x199_e j182 (by decide) hM1) (iv_w x199_h (by decide)) f193_b hP hD hS hl
            ·
              have j200 : Iv 1 1 x194 := r_nelo h196 x194_h ik_0 (by decide)
              refine lv_iconst (v := 1) hx hb dX9_closes_97 (by decide) ?_
              rw [hQ]
              exact W.zret (v := 1) (ty := .boolean) hx hb hr rfl (fun t ht hW => ⟨⟨1, f193, rfl, ⟨(iv_w ik_1 (by decide)), (fun h8 => absurd h8 (by decide +kernel)), f193_b⟩, by rw [ht]; exact hP, va_K.moved hW.alike hK, hD⟩, hS.F ht⟩) hS.2.2 dX9_closes_98
    exact L1 _ 0 fw8 _ _ _ (Nat.lt_succ_self _) (iv_w ik_0 (by decide)) fw8_b hP hD hS hl
  ·
    have qh1 := nlt_i h1
    have j201 : Iv 4 5 a2 := r_lel qh1 a2_h ik_5 (by decide)
    refine lv_iconst (v := 1) hx hb dX9_closes_5 (by decide) ?_
    rw [hQ]
    exact W.zret (v := 1) (ty := .boolean) hx hb hr rfl (fun t ht hW => ⟨⟨1, fw8, rfl, ⟨(iv_w ik_1 (by decide)), (fun h8 => absurd h8 (by decide +kernel)), fw8_b⟩, by rw [ht]; exact hP, va_K.moved hW.alike hK, hD⟩, hS.F ht⟩) hS.2.2 dX9_closes_6
set_option maxHeartbeats 4000000 in
set_option maxRecDepth 100000 in
theorem kX9_closes_9 (l : Launch) (dC : Nat → ClassId) (dI : Nat → Nat → Nat) (cI c2 cZ : ClassId) (o1 : Nat) (o11 : Nat) (o2 : Nat) (o7 : Nat) (o12 : Nat) (fw8 : Nat → Int32) (v9 : Int32) (v10 : Int32) (fw13 : Nat → Int32) (v14 : Int32) (v15 : Int32) (a2 : Int32) (a4 : Int32) (sz : Nat) (fw8_b : Bd 12 0 11 fw8) (v9_h : Iv 0 12 v9) (fw13_b : Bd 12 0 4095 fw13) (v14_h : Iv 0 12 v14) (a2_h : Iv 4 12 a2) : Met l yX9_closes wsX9_closes ({ frames := 9, cells := 0, slots := 0, locals := 234 }) (va_Pc [.ref o1, .ref o11, .int a2, .int 4, .int a4] (wPre (dC, dI) [(cI, .int), (c2, .array .int), (cZ, .boolean)] ([(o1, .inr (9, [.ref o2, .ref o7, .int v9, .int v10])), (o7, .inl (cI, 12, .inl fw8)), (o11, .inr (4, [.ref o12, .int v14, .int v15])), (o12, .inl (cI, 12, .inl fw13))]) sz)) (va_Qi (fun (r : Int32) (u : (Nat → Int32)) => Iv 0 1 r ∧ (r = 0 → Iv 5 12 a2) ∧ Bd 12 0 11 u) (fun u t => wPost (dC, dI) [(cI, .int), (c2, .array .int), (cZ, .boolean)] (va_A ([(o1, .inr (9, [.ref o2, .ref o7, .int v9, .int v10])), (o7, .inl (cI, 12, .inl fw8)), (o11, .inr (4, [.ref o12, .int v14, .int v15])), (o12, .inl (cI, 12, .inl fw13))]) sz) ([(o1, .inr (9, [.ref o2, .ref o7, .int v9, .int v10])), (o7, .inl (cI, 12, .inl u)), (o11, .inr (4, [.ref o12, .int v14, .int v15])), (o12, .inl (cI, 12, .inl fw13))]) t) (va_A ([(o1, .inr (9, [.ref o2, .ref o7, .int v9, .int v10])), (o7, .inl (cI, 12, .inl fw8)), (o11, .inr (4, [.ref o12, .int v14, .int v15])), (o12, .inl (cI, 12, .inl fw13))]) sz)) 0 0 (va_A ([(o1, .inr (9, [.ref o2, .ref o7, .int v9, .int v10])), (o7, .inl (cI, 12, .inl fw8)), (o11, .inr (4, [.ref o12, .int v14, .int v15])), (o12, .inl (cI, 12, .inl fw13))]) sz) := by
  refine Met.ofW (cc := cX9_closes) (maxL := 8) (ret := (some .boolean)) (by decide) rfl ?_
  intro p e s m args below meth c s₁ B hml hv
  obtain ⟨rfl, hsz, hP, hK, hD0, hN⟩ := hv
  have hx := B.exec
  have hb := B.bytes
  have hr := B.returns
  have hts := atoms_spec (ws := wsX9_closes) B.pre
  have hown : s.vm.findClass RX9 = some m.cls := findClass_of_methodNamed B.named
  have hlocks := B.notSynchronized
  subst hsz
  have hD := hD0.self (sz := s.heap.size)
  generalize hAe : va_A ([(o1, .inr (9, [.ref o2, .ref o7, .int v9, .int v10])), (o7, .inl (cI, 12, .inl fw8)), (o11, .inr (4, [.ref o12, .int v14, .int v15])), (o12, .inl (cI, 12, .inl fw13))]) s.heap.size = A at hD ⊢
  have hA : ∀ q : Nat, s.heap.size ≤ q → A q := fun q h => by rw [← hAe]; exact Or.inr h
  have hS : va_S A s.heap s.heap [] := va_S.rf
  have hP : va_P (dC, dI) vwCl ([(o1, .inr (9, [.ref o2, .ref o7, .int v9, .int v10])), (o7, .inl (cI, 12, .inl fw8)), (o11, .inr (4, [.ref o12, .int v14, .int v15])), (o12, .inl (cI, 12, .inl fw13))]) s.heap := hP
  have hl := lv_entry ([.ref o1, .ref o11, .int a2, .int 4, .int a4]) (n := 8) (Nat.le_of_ble_eq_true rfl)
  rw [lg_entry_eq]
  generalize (lg_sl ([.ref o1, .ref o11, .int a2, .int 4, .int a4]) ++ List.replicate (8 - (lg_sl ([.ref o1, .ref o11, .int a2, .int 4, .int a4])).length) Slot.unset).toArray = ls at hl ⊢
  have hl : lv_has ls 8 [(0, .ref o1), (1, .ref o11), (2, .int a2), (3, .int 4), (4, .int a4)] := hl
  refine gen_Q (fun Q hQ => ?_)
  refine lv_iload_n hx hb dX9_closes_0 rfl (lv_at hl 3 rfl) ?_
  refine lv_iload_n hx hb dX9_closes_1 rfl (lv_at hl 2 rfl) ?_
  refine lv_icmp_lt (tgt := 7) hx hb dX9_closes_2 (by decide) (fun h1 => ?_) (fun h1 => ?_)
  ·
    have qh1 := lt_i h1
    have j2 : Iv 5 12 a2 := r_ltr qh1 ik_4 a2_h (by decide)
    refine lv_aload_n hx hb dX9_closes_7 rfl (lv_at hl 0 rfl) ?_
    refine lv_aload_n hx hb dX9_closes_8 rfl (lv_at hl 1 rfl) ?_
    refine lv_iload_n hx hb dX9_closes_9 rfl (lv_at hl 2 rfl) ?_
    refine lv_iload_n hx hb dX9_closes_10 rfl (lv_at hl 3 rfl) ?_
    refine kc_i (D := (dC, dI)) (S := Unit) (wc := [(o1, .inr (9, [.ref o2, .ref o7, .int v9, .int v10])), (o7, .inl (cI, 12, .inl fw8)), (o11, .inr (4, [.ref o12, .int v14, .int v15])), (o12, .inl (cI, 12, .inl fw13))]) (wr := []) (w1 := fun _ => [(o1, .inr (9, [.ref o2, .ref o7, .int v9, .int v10])), (o7, .inl (cI, 12, .inl fw8)), (o11, .inr (4, [.ref o12, .int v14, .int v15])), (o12, .inl (cI, 12, .inl fw13))]) (wn := fun _ => [(o1, .inr (9, [.ref o2, .ref o7, .int v9, .int v10])), (o7, .inl (cI, 12, .inl fw8)), (o11, .inr (4, [.ref o12, .int v14, .int v15])), (o12, .inl (cI, 12, .inl fw13))]) (fun hPc hDc => va_runV (As := [.ref o11, .int a2, .int 4]) (rest := []) ⟨hx, hb, hml, hown, hts⟩ (kX9_nextOnes_1 l dC dI cI c2 cZ o1 o11 o2 o7 o12 fw8 v9 v10 fw13 v14 v15 a2 4 s.heap.size fw8_b v9_h fw13_b v14_h (iv_w j2 (by decide)) (iv_w ik_4 (by decide))) (cwV 3 hts gX9_closes_X9_nextOnes rfl rfl rfl (by decide +kernel) ⟨Nat.le_of_ble_eq_true rfl, Nat.le_of_ble_eq_true rfl⟩) (pre_V hPc hK hDc hN (ci := 9) (q0 := 0) rfl rfl) rfl rfl hl.1 rfl (lv_room (Nat.le_of_ble_eq_true rfl)) dX9_closes_11 ⟨Nat.le_of_ble_eq_true rfl, Nat.le_of_ble_eq_true rfl⟩) hP hD hS hA [0, 1, 2, 3] [] [0, 1, 2, 3] rfl rfl (by decide +kernel) (by decide +kernel) (by decide +kernel) (by decide +kernel) (fun _ => rfl) (fun x3 _ H locs hq hP hD hS => ?_)
    have x3_h := hq
    have hP : va_P (dC, dI) vwCl ([(o1, .inr (9, [.ref o2, .ref o7, .int v9, .int v10])), (o7, .inl (cI, 12, .inl fw8)), (o11, .inr (4, [.ref o12, .int v14, .int v15])), (o12, .inl (cI, 12, .inl fw13))]) H := hP
    have hD : va_D A ([(o1, .inr (9, [.ref o2, .ref o7, .int v9, .int v10])), (o7, .inl (cI, 12, .inl fw8)), (o11, .inr (4, [.ref o12, .int v14, .int v15])), (o12, .inl (cI, 12, .inl fw13))]) := hD
    refine lv_iload hx hb dX9_closes_14 (lv_at hl 4 rfl) ?_
    refine lv_iconst (v := (-1)) hx hb dX9_closes_16 (by decide) ?_
    refine lv_ixor hx hb dX9_closes_17 (lv_topi (fun x4 x4_e => ?_))
    refine lv_iand hx hb dX9_closes_18 (lv_topi (fun x5 x5_e => ?_))
    have x5_h : Iv 0 4095 x5 := iv_e x5_e (iv_andL _ x3_h (by decide))
    refine lv_istore (lv' := [(5, .int x5), (0, .ref o1), (1, .ref o11), (2, .int a2), (3, .int 4), (4, .int a4)]) hx hb dX9_closes_19 hl (by decide) rfl (fun ls hl => ?_)
    refine lv_iload_n hx hb dX9_closes_21 rfl (lv_at hl 4 rfl) ?_
    refine lv_iconst (v := 1) hx hb dX9_closes_22 (by decide) ?_
    refine lv_icmp_ne (tgt := 30) hx hb dX9_closes_23 (by decide) (fun _ => ?_) (fun h9 => absurd h9 (by decide +kernel))
    refine lv_aload_n hx hb dX9_closes_30 rfl (lv_at hl 2 rfl) ?_
    refine va_getN (D := (dC, dI)) (ci := 4) (v := .ref o12) (C := RX4) (T := TX4) (N := 3) hx hb hts iw_X9_closes_X4 hown hK hP 2 rfl rfl 0 (by decide) (hN.use ns_6) (fun _ h9 => h9) rfl dX9_closes_31 ?_
    refine lv_aload_n hx hb dX9_closes_34 rfl (lv_at hl 1 rfl) ?_
    refine va_get (D := (dC, dI)) (ci := 9) (v := .ref o7) (C := RX9) (T := TX9) (N := 4) hx hb hts iw_X9_closes_X9 hown hK hP 0 rfl rfl 1 (by decide) (hts (.fieldLink RX9 18 "HolelessHouse$Ring" "path" "[I") hm_X9_closes_1) (fun _ h9 => h9) rfl dX9_closes_35 ?_
    refine lv_iload_n hx hb dX9_closes_38 rfl (lv_at hl 4 rfl) ?_
    refine lv_iconst (v := 1) hx hb dX9_closes_39 (by decide) ?_
    refine lv_isub hx hb dX9_closes_40 (tk_i (v := 3) (by decide +kernel) ?_)
    refine va_iald hx hb hK hP 1 0 rfl rfl (vin_iv ik_3 (by decide)) dX9_closes_41 (lv_topi (fun x6 x6_e => ?_))
    have x6_h : Iv 0 11 x6 := iv_e x6_e (bd_at fw8_b (vin_iv ik_3 (by decide)))
    refine va_iald hx hb hK hP 3 0 rfl rfl (vin_iv x6_h (by decide)) dX9_closes_42 (lv_topi (fun x7 x7_e => ?_))
    have x7_h : Iv 0 4095 x7 := iv_e x7_e (bd_at fw13_b (vin_iv x6_h (by decide)))
    refine lv_istore (lv' := [(6, .int x7), (5, .int x5), (0, .ref o1), (1, .ref o11), (2, .int a2), (3, .int 4), (4, .int a4)]) hx hb dX9_closes_43 hl (by decide) rfl (fun ls hl => ?_)
    refine lv_iconst (v := 0) hx hb dX9_closes_45 (by decide) ?_
    refine lv_istore (lv' := [(7, .int 0), (6, .int x7), (5, .int x5), (0, .ref o1), (1, .ref o11), (2, .int a2), (3, .int 4), (4, .int a4)]) hx hb dX9_closes_46 hl (by decide) rfl (fun ls hl => ?_)
    have L1 : ∀ (N : Nat) (x179 : Int32) (f180 : Nat → Int32) (H : Heap) (locs : List Loc) (ls : Array Slot), (12 - x179.toInt).toNat < N → Iv 0 12 x179 → Bd 12 0 11 f180 → va_P (dC, dI) vwCl ([(o1, .inr (9, [.ref o2, .ref o7, .int v9, .int v10])), (o7, .inl (cI, 12, .inl f180)), (o11, .inr (4, [.ref o12, .int v14, .int v15])), (o12, .inl (cI, 12, .inl fw13))]) H → va_D A ([(o1, .inr (9, [.ref o2, .ref o7, .int v9, .int v10])), (o7, .inl (cI, 12, .inl f180)), (o11, .inr (4, [.ref o12, .int v14, .int v15])), (o12, .inl (cI, 12, .inl fw13))]) → va_S A s.heap H locs → lv_has ls 8 [(7, .int x179), (6, .int x7), (5, .int x5), (0, .ref o1), (1, .ref o11), (2, .int a2), (3, .int 4), (4, .int a4)] → W p l e ({ frames := 9, cells := 0, slots := 0, locals := 234 }) s m ([.ref o1, .ref o11, .int a2, .int 4, .int a4] : List Value).toArray below meth c H locs 0 0 Q (F0 m 48 ls []) := by
      intro N
      induction N with
      | zero =>
        intro x179 f180 H locs ls hM
        exact absurd hM (Nat.not_lt_zero _)
      | succ N ih1 =>
        intro x179 f180 H locs ls hM1 x179_h f180_b hP hD hS hl
        refine lv_iload hx hb dX9_closes_48 (lv_at hl 0 rfl) ?_
        refine lv_aload_n hx hb dX9_closes_50 rfl (lv_at hl 4 rfl) ?_
        refine va_getN (D := (dC, dI)) (ci := 4) (v := .int v14) (C := RX4) (T := TX4) (N := 3) hx hb hts iw_X9_closes_X4 hown hK hP 2 rfl rfl 1 (by decide) (hN.use ns_11) (fun _ h9 => h9) rfl dX9_closes_51 ?_
        refine lv_icmp_ge (tgt := 105) hx hb dX9_closes_54 (by decide) (fun h181 => ?_) (fun h181 => ?_)
        ·
          have qh181 := le_i h181
          refine lv_iconst (v := 0) hx hb dX9_closes_105 (by decide) ?_
          rw [hQ]
          exact W.zret (v := 0) (ty := .boolean) hx hb hr rfl (fun t ht hW => ⟨⟨0, f180, rfl, ⟨(iv_w ik_0 (by decide)), (fun _ => j2), f180_b⟩, by rw [ht]; exact hP, va_K.moved hW.alike hK, hD⟩, hS.F ht⟩) hS.2.2 dX9_closes_106
        ·
          have qh181 := nle_i h181
          have j182 : Iv 0 11 x179 := r_ltl qh181 x179_h v14_h (by decide)
          have j183 : Iv 1 12 v14 := r_ltr qh181 x179_h v14_h (by decide)
          refine lv_iload hx hb dX9_closes_57 (lv_at hl 2 rfl) ?_
          refine lv_iload hx hb dX9_closes_59 (lv_at hl 0 rfl) ?_
          refine kc_i (D := (dC, dI)) (S := Unit) (wc := []) (wr := [(o1, .inr (9, [.ref o2, .ref o7, .int v9, .int v10])), (o7, .inl (cI, 12, .inl f180)), (o11, .inr (4, [.ref o12, .int v14, .int v15])), (o12, .inl (cI, 12, .inl fw13))]) (w1 := fun _ => []) (wn := fun _ => [(o1, .inr (9, [.ref o2, .ref o7, .int v9, .int v10])), (o7, .inl (cI, 12, .inl f180)), (o11, .inr (4, [.ref o12, .int v14, .int v15])), (o12, .inl (cI, 12, .inl fw13))]) (fun hPc hDc => va_runSN (As := [.int x5, .int x179]) (rest := []) ⟨hx, hb, hml, hown, hts⟩ (kX11_in_1 l dC dI cI c2 cZ x5 x179 H.size) ⟨va_cnB 2 hts gX9_closes_X11_in_n56 rfl rfl rfl (hN.1 _ ns_76) (hts (.initialized RX11) hm_X9_closes_11) (by decide +kernel) ⟨Nat.le_of_ble_eq_true rfl, Nat.le_of_ble_eq_true rfl⟩, (hts (.static yX11_in) hm_X9_closes_10), trivial⟩ (pre_S hPc hK hDc hN) rfl rfl hl.1 rfl (lv_room (Nat.le_of_ble_eq_true rfl)) dX9_closes_61 ⟨Nat.le_of_ble_eq_true rfl, Nat.le_of_ble_eq_true rfl⟩) hP hD hS hA [] [0, 1, 2, 3] [0, 1, 2, 3] rfl rfl (by decide +kernel) (by decide +kernel) (by decide +kernel) (by decide +kernel) (fun _ => rfl) (fun x184 _ H locs hq hP hD hS => ?_)
          have x184_h := hq
          have hP : va_P (dC, dI) vwCl ([(o1, .inr (9, [.ref o2, .ref o7, .int v9, .int v10])), (o7, .inl (cI, 12, .inl f180)), (o11, .inr (4, [.ref o12, .int v14, .int v15])), (o12, .inl (cI, 12, .inl fw13))]) H := hP
          have hD : va_D A ([(o1, .inr (9, [.ref o2, .ref o7, .int v9, .int v10])), (o7, .inl (cI, 12, .inl f180)), (o11, .inr (4, [.ref o12, .int v14, .int v15])), (o12, .inl (cI, 12, .inl fw13))]) := hD
          refine lv_if_eq (tgt := 99) hx hb dX9_closes_64 (by decide) (fun h185 => ?_) (fun h185 => ?_)
          ·
            have j186 : Iv 0 0 x184 := r_eq h185 ik_0
            obtain ⟨x187, x187_e⟩ : ∃ z : Int32, z = x179 + 1 := ⟨_, rfl⟩
            have x187_h : Iv 1 12 x187 := iv_e x187_e (iv_add j182 ik_1 (by decide))
            refine lv_iinc (v := x187) (lv' := [(7, .int x187), (6, .int x7), (5, .int x5), (0, .ref o1), (1, .ref o11), (2, .int a2), (3, .int 4), (4, .int a4)]) hx hb dX9_closes_99 hl (k := 0) rfl (incN (by decide +kernel) x187_e) (by decide) rfl (fun ls hl => ?_)
            refine lv_goto (tgt := 48) hx hb dX9_closes_102 (by decide) ?_
            exact ih1 x187 f180 _ _ _ (ms_up x187_e j182 (by decide) hM1) (iv_w x187_h (by decide)) f180_b hP hD hS hl
          ·
            have j188 : Iv 1 1 x184 := r_nelo h185 x184_h ik_0 (by decide)
            refine lv_aload_n hx hb dX9_closes_67 rfl (lv_at hl 3 rfl) ?_
            refine va_get (D := (dC, dI)) (ci := 9) (v := .ref o7) (C := RX9) (T := TX9) (N := 4) hx hb hts iw_X9_closes_X9 hown hK hP 0 rfl rfl 1 (by decide) (hts (.fieldLink RX9 18 "HolelessHouse$Ring" "path" "[I") hm_X9_closes_1) (fun _ h9 => h9) rfl dX9_closes_68 ?_
            refine lv_iload_n hx hb dX9_closes_71 rfl (lv_at hl 6 rfl) ?_
            refine lv_iload hx hb dX9_closes_72 (lv_at hl 0 rfl) ?_
            refine k_iast hx hb hK hP hD hS 1 0 rfl rfl (vin_iv ik_4 (by decide)) dX9_closes_74 (fun f189 H locs f189_e hP hD hS => ?_)
            have f189_b : Bd 12 0 11 f189 := bd_upd f189_e f180_b j182 (by decide)
            have hP : va_P (dC, dI) vwCl ([(o1, .inr (9, [.ref o2, .ref o7, .int v9, .int v10])), (o7, .inl (cI, 12, .inl f189)), (o11, .inr (4, [.ref o12, .int v14, .int v15])), (o12, .inl (cI, 12, .inl fw13))]) H := hP
            have hD : va_D A ([(o1, .inr (9, [.ref o2, .ref o7, .int v9, .int v10])), (o7, .inl (cI, 12, .inl f189)), (o11, .inr (4, [.ref o12, .int v14, .int v15])), (o12, .inl (cI, 12, .inl fw13))]) := hD
            refine lv_aload_n hx hb dX9_closes_75 rfl (lv_at hl 3 rfl) ?_
            refine lv_aload_n hx hb dX9_closes_76 rfl (lv_at hl 4 rfl) ?_
            refine lv_iload_n hx hb dX9_closes_77 rfl (lv_at hl 5 rfl) ?_
            refine lv_iload_n hx hb dX9_closes_78 rfl (lv_at hl 6 rfl) ?_
            refine lv_iconst (v := 1) hx hb dX9_closes_79 (by decide) ?_
            refine lv_iadd hx hb dX9_closes_80 (tk_i (v := 5) (by decide +kernel) ?_)
            refine lv_iload hx hb dX9_closes_81 (lv_at hl 7 rfl) ?_
            refine lv_iload hx hb dX9_closes_83 (lv_at hl 1 rfl) ?_
            refine lv_ior hx hb dX9_closes_85 (lv_topi (fun x190 x190_e => ?_))
            refine lv_iconst (v := 1) hx hb dX9_closes_86 (by decide) ?_
            refine lv_iload hx hb dX9_closes_87 (lv_at hl 0 rfl) ?_
            refine lv_ishl hx hb dX9_closes_89 (lv_topi (fun x191 x191_e => ?_))
            have x191_h : Iv 1 2048 x191 := iv_e x191_e (iv_shl1 j182 (by decide))
            refine lv_ior hx hb dX9_closes_90 (lv_topi (fun x192 x192_e => ?_))
            refine kc_i (D := (dC, dI)) (S := (Nat → Int32)) (wc := [(o1, .inr (9, [.ref o2, .ref o7, .int v9, .int v10])), (o7, .inl (cI, 12, .inl f189)), (o11, .inr (4, [.ref o12, .int v14, .int v15])), (o12, .inl (cI, 12, .inl fw13))]) (wr := []) (w1 := fun u => [(o1, .inr (9, [.ref o2, .ref o7, .int v9, .int v10])), (o7, .inl (cI, 12, .inl u)), (o11, .inr (4, [.ref o12, .int v14, .int v15])), (o12, .inl (cI, 12, .inl fw13))]) (wn := fun u => [(o1, .inr (9, [.ref o2, .ref o7, .int v9, .int v10])), (o7, .inl (cI, 12, .inl u)), (o11, .inr (4, [.ref o12, .int v14, .int v15])), (o12, .inl (cI, 12, .inl fw13))]) (fun hPc hDc => va_runS (As := [.ref o1, .ref o11, .int a2, .int 5, .int x192]) (rest := []) ⟨hx, hb, hml, hown, hts⟩ (kX9_closes_8 l dC dI cI c2 cZ o1 o11 o2 o7 o12 f189 v9 v10 fw13 v14 v15 a2 x192 H.size f189_b v9_h fw13_b (iv_w j183 (by decide)) (iv_w j2 (by decide))) (va_cwS 5 hts gX9_closes_X9_closes rfl rfl rfl (by decide +kernel) ⟨Nat.le_of_ble_eq_true rfl, Nat.le_of_ble_eq_true rfl⟩) (pre_S hPc hK hDc hN) rfl rfl hl.1 rfl (lv_room (Nat.le_of_ble_eq_true rfl)) dX9_closes_91 ⟨Nat.le_of_ble_eq_true rfl, Nat.le_of_ble_eq_true rfl⟩) hP hD hS hA [0, 1, 2, 3] [] [0, 1, 2, 3] rfl rfl (by decide +kernel) (by decide +kernel) (by decide +kernel) (by decide +kernel) (fun _ => rfl) (fun x194 f193 H locs hq hP hD hS => ?_)
            obtain ⟨x194_h, i195, f193_b⟩ := hq
            have hP : va_P (dC, dI) vwCl ([(o1, .inr (9, [.ref o2, .ref o7, .int v9, .int v10])), (o7, .inl (cI, 12, .inl f193)), (o11, .inr (4, [.ref o12, .int v14, .int v15])), (o12, .inl (cI, 12, .inl fw13))]) H := hP
            have hD : va_D A ([(o1, .inr (9, [.ref o2, .ref o7, .int v9, .int v10])), (o7, .inl (cI, 12, .inl f193)), (o11, .inr (4, [.ref o12, .int v14, .int v15])), (o12, .inl (cI, 12, .inl fw13))]) := hD
            refine lv_if_eq (tgt := 99) hx hb dX9_closes_94 (by decide) (fun h196 => ?_) (fun h196 => ?_)
            ·
              have j197 : Iv 0 0 x194 := r_eq h196 ik_0
              have j198 : Iv 6 12 a2 := i195 h196
              obtain ⟨x199, x199_e⟩ : ∃ z : Int32, z = x179 + 1 := ⟨_, rfl⟩
              have x199_h : Iv 1 12 x199 := iv_e x199_e (iv_add j182 ik_1 (by decide))
              refine lv_iinc (v := x199) (lv' := [(7, .int x199), (6, .int x7), (5, .int x5), (0, .ref o1), (1, .ref o11), (2, .int a2), (3, .int 4), (4, .int a4)]) hx hb dX9_closes_99 hl (k := 0) rfl (incN (by decide +kernel) x199_e) (by decide) rfl (fun ls hl => ?_)
              refine lv_goto (tgt := 48) hx hb dX9_closes_102 (by decide) ?_
              exact ih1 x199 f193 _ _ _ (ms_up x199_e j182 (by decide) hM1) (iv_w x199_h (by decide)) f193_b hP hD hS hl
            ·
              have j200 : Iv 1 1 x194 := r_nelo h196 x194_h ik_0 (by decide)
              refine lv_iconst (v := 1) hx hb dX9_closes_97 (by decide) ?_
              rw [hQ]
              exact W.zret (v := 1) (ty := .boolean) hx hb hr rfl (fun t ht hW => ⟨⟨1, f193, rfl, ⟨(iv_w ik_1 (by decide)), (fun h8 => absurd h8 (by decide +kernel)), f193_b⟩, by rw [ht]; exact hP, va_K.moved hW.alike hK, hD⟩, hS.F ht⟩) hS.2.2 dX9_closes_98
    exact L1 _ 0 fw8 _ _ _ (Nat.lt_succ_self _) (iv_w ik_0 (by decide)) fw8_b hP hD hS hl
  ·
    have qh1 := nlt_i h1
    have j201 : Iv 4 4 a2 := r_lel qh1 a2_h ik_4 (by decide)
    refine lv_iconst (v := 1) hx hb dX9_closes_5 (by decide) ?_
    rw [hQ]
    exact W.zret (v := 1) (ty := .boolean) hx hb hr rfl (fun t ht hW => ⟨⟨1, fw8, rfl, ⟨(iv_w ik_1 (by decide)), (fun h8 => absurd h8 (by decide +kernel)), fw8_b⟩, by rw [ht]; exact hP, va_K.moved hW.alike hK, hD⟩, hS.F ht⟩) hS.2.2 dX9_closes_6
set_option maxHeartbeats 4000000 in
set_option maxRecDepth 100000 in
theorem kX9_closes_10 (l : Launch) (dC : Nat → ClassId) (dI : Nat → Nat → Nat) (cI c2 cZ : ClassId) (o1 : Nat) (o11 : Nat) (o2 : Nat) (o7 : Nat) (o12 : Nat) (fw8 : Nat → Int32) (v9 : Int32) (v10 : Int32) (fw13 : Nat → Int32) (v14 : Int32) (v15 : Int32) (a2 : Int32) (a4 : Int32) (sz : Nat) (fw8_b : Bd 12 0 11 fw8) (v9_h : Iv 0 12 v9) (fw13_b : Bd 12 0 4095 fw13) (v14_h : Iv 0 12 v14) (a2_h : Iv 4 12 a2) : Met l yX9_closes wsX9_closes ({ frames := 10, cells := 0, slots := 0, locals := 261 }) (va_Pc [.ref o1, .ref o11, .int a2, .int 3, .int a4] (wPre (dC, dI) [(cI, .int), (c2, .array .int), (cZ, .boolean)] ([(o1, .inr (9, [.ref o2, .ref o7, .int v9, .int v10])), (o7, .inl (cI, 12, .inl fw8)), (o11, .inr (4, [.ref o12, .int v14, .int v15])), (o12, .inl (cI, 12, .inl fw13))]) sz)) (va_Qi (fun (r : Int32) (u : (Nat → Int32)) => Iv 0 1 r ∧ Bd 12 0 11 u) (fun u t => wPost (dC, dI) [(cI, .int), (c2, .array .int), (cZ, .boolean)] (va_A ([(o1, .inr (9, [.ref o2, .ref o7, .int v9, .int v10])), (o7, .inl (cI, 12, .inl fw8)), (o11, .inr (4, [.ref o12, .int v14, .int v15])), (o12, .inl (cI, 12, .inl fw13))]) sz) ([(o1, .inr (9, [.ref o2, .ref o7, .int v9, .int v10])), (o7, .inl (cI, 12, .inl u)), (o11, .inr (4, [.ref o12, .int v14, .int v15])), (o12, .inl (cI, 12, .inl fw13))]) t) (va_A ([(o1, .inr (9, [.ref o2, .ref o7, .int v9, .int v10])), (o7, .inl (cI, 12, .inl fw8)), (o11, .inr (4, [.ref o12, .int v14, .int v15])), (o12, .inl (cI, 12, .inl fw13))]) sz)) 0 0 (va_A ([(o1, .inr (9, [.ref o2, .ref o7, .int v9, .int v10])), (o7, .inl (cI, 12, .inl fw8)), (o11, .inr (4, [.ref o12, .int v14, .int v15])), (o12, .inl (cI, 12, .inl fw13))]) sz) := by
  refine Met.ofW (cc := cX9_closes) (maxL := 8) (ret := (some .boolean)) (by decide) rfl ?_
  intro p e s m args below meth c s₁ B hml hv
  obtain ⟨rfl, hsz, hP, hK, hD0, hN⟩ := hv
  have hx := B.exec
  have hb := B.bytes
  have hr := B.returns
  have hts := atoms_spec (ws := wsX9_closes) B.pre
  have hown : s.vm.findClass RX9 = some m.cls := findClass_of_methodNamed B.named
  have hlocks := B.notSynchronized
  subst hsz
  have hD := hD0.self (sz := s.heap.size)
  generalize hAe : va_A ([(o1, .inr (9, [.ref o2, .ref o7, .int v9, .int v10])), (o7, .inl (cI, 12, .inl fw8)), (o11, .inr (4, [.ref o12, .int v14, .int v15])), (o12, .inl (cI, 12, .inl fw13))]) s.heap.size = A at hD ⊢
  have hA : ∀ q : Nat, s.heap.size ≤ q → A q := fun q h => by rw [← hAe]; exact Or.inr h
  have hS : va_S A s.heap s.heap [] := va_S.rf
  have hP : va_P (dC, dI) vwCl ([(o1, .inr (9, [.ref o2, .ref o7, .int v9, .int v10])), (o7, .inl (cI, 12, .inl fw8)), (o11, .inr (4, [.ref o12, .int v14, .int v15])), (o12, .inl (cI, 12, .inl fw13))]) s.heap := hP
  have hl := lv_entry ([.ref o1, .ref o11, .int a2, .int 3, .int a4]) (n := 8) (Nat.le_of_ble_eq_true rfl)
  rw [lg_entry_eq]
  generalize (lg_sl ([.ref o1, .ref o11, .int a2, .int 3, .int a4]) ++ List.replicate (8 - (lg_sl ([.ref o1, .ref o11, .int a2, .int 3, .int a4])).length) Slot.unset).toArray = ls at hl ⊢
  have hl : lv_has ls 8 [(0, .ref o1), (1, .ref o11), (2, .int a2), (3, .int 3), (4, .int a4)] := hl
  refine gen_Q (fun Q hQ => ?_)
  refine lv_iload_n hx hb dX9_closes_0 rfl (lv_at hl 3 rfl) ?_
  refine lv_iload_n hx hb dX9_closes_1 rfl (lv_at hl 2 rfl) ?_
  refine lv_icmp_lt (tgt := 7) hx hb dX9_closes_2 (by decide) (fun _ => ?_) (fun h9 => absurd (d_lt ik_3 a2_h (by decide)) h9)
  refine lv_aload_n hx hb dX9_closes_7 rfl (lv_at hl 0 rfl) ?_
  refine lv_aload_n hx hb dX9_closes_8 rfl (lv_at hl 1 rfl) ?_
  refine lv_iload_n hx hb dX9_closes_9 rfl (lv_at hl 2 rfl) ?_
  refine lv_iload_n hx hb dX9_closes_10 rfl (lv_at hl 3 rfl) ?_
  refine kc_i (D := (dC, dI)) (S := Unit) (wc := [(o1, .inr (9, [.ref o2, .ref o7, .int v9, .int v10])), (o7, .inl (cI, 12, .inl fw8)), (o11, .inr (4, [.ref o12, .int v14, .int v15])), (o12, .inl (cI, 12, .inl fw13))]) (wr := []) (w1 := fun _ => [(o1, .inr (9, [.ref o2, .ref o7, .int v9, .int v10])), (o7, .inl (cI, 12, .inl fw8)), (o11, .inr (4, [.ref o12, .int v14, .int v15])), (o12, .inl (cI, 12, .inl fw13))]) (wn := fun _ => [(o1, .inr (9, [.ref o2, .ref o7, .int v9, .int v10])), (o7, .inl (cI, 12, .inl fw8)), (o11, .inr (4, [.ref o12, .int v14, .int v15])), (o12, .inl (cI, 12, .inl fw13))]) (fun hPc hDc => va_runV (As := [.ref o11, .int a2, .int 3]) (rest := []) ⟨hx, hb, hml, hown, hts⟩ (kX9_nextOnes_1 l dC dI cI c2 cZ o1 o11 o2 o7 o12 fw8 v9 v10 fw13 v14 v15 a2 3 s.heap.size fw8_b v9_h fw13_b v14_h a2_h (iv_w ik_3 (by decide))) (cwV 3 hts gX9_closes_X9_nextOnes rfl rfl rfl (by decide +kernel) ⟨Nat.le_of_ble_eq_true rfl, Nat.le_of_ble_eq_true rfl⟩) (pre_V hPc hK hDc hN (ci := 9) (q0 := 0) rfl rfl) rfl rfl hl.1 rfl (lv_room (Nat.le_of_ble_eq_true rfl)) dX9_closes_11 ⟨Nat.le_of_ble_eq_true rfl, Nat.le_of_ble_eq_true rfl⟩) hP hD hS hA [0, 1, 2, 3] [] [0, 1, 2, 3] rfl rfl (by decide +kernel) (by decide +kernel) (by decide +kernel) (by decide +kernel) (fun _ => rfl) (fun x1 _ H locs hq hP hD hS => ?_)
  have x1_h := hq
  have hP : va_P (dC, dI) vwCl ([(o1, .inr (9, [.ref o2, .ref o7, .int v9, .int v10])), (o7, .inl (cI, 12, .inl fw8)), (o11, .inr (4, [.ref o12, .int v14, .int v15])), (o12, .inl (cI, 12, .inl fw13))]) H := hP
  have hD : va_D A ([(o1, .inr (9, [.ref o2, .ref o7, .int v9, .int v10])), (o7, .inl (cI, 12, .inl fw8)), (o11, .inr (4, [.ref o12, .int v14, .int v15])), (o12, .inl (cI, 12, .inl fw13))]) := hD
  refine lv_iload hx hb dX9_closes_14 (lv_at hl 4 rfl) ?_
  refine lv_iconst (v := (-1)) hx hb dX9_closes_16 (by decide) ?_
  refine lv_ixor hx hb dX9_closes_17 (lv_topi (fun x2 x2_e => ?_))
  refine lv_iand hx hb dX9_closes_18 (lv_topi (fun x3 x3_e => ?_))
  have x3_h : Iv 0 4095 x3 := iv_e x3_e (iv_andL _ x1_h (by decide))
  refine lv_istore (lv' := [(5, .int x3), (0, .ref o1), (1, .ref o11), (2, .int a2), (3, .int 3), (4, .int a4)]) hx hb dX9_closes_19 hl (by decide) rfl (fun ls hl => ?_)
  refine lv_iload_n hx hb dX9_closes_21 rfl (lv_at hl 4 rfl) ?_
  refine lv_iconst (v := 1) hx hb dX9_closes_22 (by decide) ?_
  refine lv_icmp_ne (tgt := 30) hx hb dX9_closes_23 (by decide) (fun _ => ?_) (fun h9 => absurd h9 (by decide +kernel))
  refine lv_aload_n hx hb dX9_closes_30 rfl (lv_at hl 2 rfl) ?_
  refine va_getN (D := (dC, dI)) (ci := 4) (v := .ref o12) (C := RX4) (T := TX4) (N := 3) hx hb hts iw_X9_closes_X4 hown hK hP 2 rfl rfl 0 (by decide) (hN.use ns_6) (fun _ h9 => h9) rfl dX9_closes_31 ?_
  refine lv_aload_n hx hb dX9_closes_34 rfl (lv_at hl 1 rfl) ?_
  refine va_get (D := (dC, dI)) (ci := 9) (v := .ref o7) (C := RX9) (T := TX9) (N := 4) hx hb hts iw_X9_closes_X9 hown hK hP 0 rfl rfl 1 (by decide) (hts (.fieldLink RX9 18 "HolelessHouse$Ring" "path" "[I") hm_X9_closes_1) (fun _ h9 => h9) rfl dX9_closes_35 ?_
  refine lv_iload_n hx hb dX9_closes_38 rfl (lv_at hl 4 rfl) ?_
  refine lv_iconst (v := 1) hx hb dX9_closes_39 (by decide) ?_
  refine lv_isub hx hb dX9_closes_40 (tk_i (v := 2) (by decide +kernel) ?_)
  refine va_iald hx hb hK hP 1 0 rfl rfl (vin_iv ik_2 (by decide)) dX9_closes_41 (lv_topi (fun x4 x4_e => ?_))
  have x4_h : Iv 0 11 x4 := iv_e x4_e (bd_at fw8_b (vin_iv ik_2 (by decide)))
  refine va_iald hx hb hK hP 3 0 rfl rfl (vin_iv x4_h (by decide)) dX9_closes_42 (lv_topi (fun x5 x5_e => ?_))
  have x5_h : Iv 0 4095 x5 := iv_e x5_e (bd_at fw13_b (vin_iv x4_h (by decide)))
  refine lv_istore (lv' := [(6, .int x5), (5, .int x3), (0, .ref o1), (1, .ref o11), (2, .int a2), (3, .int 3), (4, .int a4)]) hx hb dX9_closes_43 hl (by decide) rfl (fun ls hl => ?_)
  refine lv_iconst (v := 0) hx hb dX9_closes_45 (by decide) ?_
  refine lv_istore (lv' := [(7, .int 0), (6, .int x5), (5, .int x3), (0, .ref o1), (1, .ref o11), (2, .int a2), (3, .int 3), (4, .int a4)]) hx hb dX9_closes_46 hl (by decide) rfl (fun ls hl => ?_)
  have L1 : ∀ (N : Nat) (x177 : Int32) (f178 : Nat → Int32) (H : Heap) (locs : List Loc) (ls : Array Slot), (12 - x177.toInt).toNat < N → Iv 0 12 x177 → Bd 12 0 11 f178 → va_P (dC, dI) vwCl ([(o1, .inr (9, [.ref o2, .ref o7, .int v9, .int v10])), (o7, .inl (cI, 12, .inl f178)), (o11, .inr (4, [.ref o12, .int v14, .int v15])), (o12, .inl (cI, 12, .inl fw13))]) H → va_D A ([(o1, .inr (9, [.ref o2, .ref o7, .int v9, .int v10])), (o7, .inl (cI, 12, .inl f178)), (o11, .inr (4, [.ref o12, .int v14, .int v15])), (o12, .inl (cI, 12, .inl fw13))]) → va_S A s.heap H locs → lv_has ls 8 [(7, .int x177), (6, .int x5), (5, .int x3), (0, .ref o1), (1, .ref o11), (2, .int a2), (3, .int 3), (4, .int a4)] → W p l e ({ frames := 10, cells := 0, slots := 0, locals := 261 }) s m ([.ref o1, .ref o11, .int a2, .int 3, .int a4] : List Value).toArray below meth c H locs 0 0 Q (F0 m 48 ls []) := by
    intro N
    induction N with
    | zero =>
      intro x177 f178 H locs ls hM
      exact absurd hM (Nat.not_lt_zero _)
    | succ N ih1 =>
      intro x177 f178 H locs ls hM1 x177_h f178_b hP hD hS hl
      refine lv_iload hx hb dX9_closes_48 (lv_at hl 0 rfl) ?_
      refine lv_aload_n hx hb dX9_closes_50 rfl (lv_at hl 4 rfl) ?_
      refine va_getN (D := (dC, dI)) (ci := 4) (v := .int v14) (C := RX4) (T := TX4) (N := 3) hx hb hts iw_X9_closes_X4 hown hK hP 2 rfl rfl 1 (by decide) (hN.use ns_11) (fun _ h9 => h9) rfl dX9_closes_51 ?_
      refine lv_icmp_ge (tgt := 105) hx hb dX9_closes_54 (by decide) (fun h179 => ?_) (fun h179 => ?_)
      ·
        have qh179 := le_i h179
        refine lv_iconst (v := 0) hx hb dX9_closes_105 (by decide) ?_
        rw [hQ]
        exact W.zret (v := 0) (ty := .boolean) hx hb hr rfl (fun t ht hW => ⟨⟨0, f178, rfl, ⟨(iv_w ik_0 (by decide)), f178_b⟩, by rw [ht]; exact hP, va_K.moved hW.alike hK, hD⟩, hS.F ht⟩) hS.2.2 dX9_closes_106
      ·
        have qh179 := nle_i h179
        have j180 : Iv 0 11 x177 := r_ltl qh179 x177_h v14_h (by decide)
        have j181 : Iv 1 12 v14 := r_ltr qh179 x177_h v14_h (by decide)
        refine lv_iload hx hb dX9_closes_57 (lv_at hl 2 rfl) ?_
        refine lv_iload hx hb dX9_closes_59 (lv_at hl 0 rfl) ?_
        refine kc_i (D := (dC, dI)) (S := Unit) (wc := []) (wr := [(o1, .inr (9, [.ref o2, .ref o7, .int v9, .int v10])), (o7, .inl (cI, 12, .inl f178)), (o11, .inr (4, [.ref o12, .int v14, .int v15])), (o12, .inl (cI, 12, .inl fw13))]) (w1 := fun _ => []) (wn := fun _ => [(o1, .inr (9, [.ref o2, .ref o7, .int v9, .int v10])), (o7, .inl (cI, 12, .inl f178)), (o11, .inr (4, [.ref o12, .int v14, .int v15])), (o12, .inl (cI, 12, .inl fw13))]) (fun hPc hDc => va_runSN (As := [.int x3, .int x177]) (rest := []) ⟨hx, hb, hml, hown, hts⟩ (kX11_in_1 l dC dI cI c2 cZ x3 x177 H.size) ⟨va_cnB 2 hts gX9_closes_X11_in_n56 rfl rfl rfl (hN.1 _ ns_76) (hts (.initialized RX11) hm_X9_closes_11) (by decide +kernel) ⟨Nat.le_of_ble_eq_true rfl, Nat.le_of_ble_eq_true rfl⟩, (hts (.static yX11_in) hm_X9_closes_10), trivial⟩ (pre_S hPc hK hDc hN) rfl rfl hl.1 rfl (lv_room (Nat.le_of_ble_eq_true rfl)) dX9_closes_61 ⟨Nat.le_of_ble_eq_true rfl, Nat.le_of_ble_eq_true rfl⟩) hP hD hS hA [] [0, 1, 2, 3] [0, 1, 2, 3] rfl rfl (by decide +kernel) (by decide +kernel) (by decide +kernel) (by decide +kernel) (fun _ => rfl) (fun x182 _ H locs hq hP hD hS => ?_)
        have x182_h := hq
        have hP : va_P (dC, dI) vwCl ([(o1, .inr (9, [.ref o2, .ref o7, .int v9, .int v10])), (o7, .inl (cI, 12, .inl f178)), (o11, .inr (4, [.ref o12, .int v14, .int v15])), (o12, .inl (cI, 12, .inl fw13))]) H := hP
        have hD : va_D A ([(o1, .inr (9, [.ref o2, .ref o7, .int v9, .int v10])), (o7, .inl (cI, 12, .inl f178)), (o11, .inr (4, [.ref o12, .int v14, .int v15])), (o12, .inl (cI, 12, .inl fw13))]) := hD
        refine lv_if_eq (tgt := 99) hx hb dX9_closes_64 (by decide) (fun h183 => ?_) (fun h183 => ?_)
        ·
          have j184 : Iv 0 0 x182 := r_eq h183 ik_0
          obtain ⟨x185, x185_e⟩ : ∃ z : Int32, z = x177 + 1 := ⟨_, rfl⟩
          have x185_h : Iv 1 12 x185 := iv_e x185_e (iv_add j180 ik_1 (by decide))
          refine lv_iinc (v := x185) (lv' := [(7, .int x185), (6, .int x5), (5, .int x3), (0, .ref o1), (1, .ref o11), (2, .int a2), (3, .int 3), (4, .int a4)]) hx hb dX9_closes_99 hl (k := 0) rfl (incN (by decide +kernel) x185_e) (by decide) rfl (fun ls hl => ?_)
          refine lv_goto (tgt := 48) hx hb dX9_closes_102 (by decide) ?_
          exact ih1 x185 f178 _ _ _ (ms_up x185_e j180 (by decide) hM1) (iv_w x185_h (by decide)) f178_b hP hD hS hl
        ·
          have j186 : Iv 1 1 x182 := r_nelo h183 x182_h ik_0 (by decide)
          refine lv_aload_n hx hb dX9_closes_67 rfl (lv_at hl 3 rfl) ?_
          refine va_get (D := (dC, dI)) (ci := 9) (v := .ref o7) (C := RX9) (T := TX9) (N := 4) hx hb hts iw_X9_closes_X9 hown hK hP 0 rfl rfl 1 (by decide) (hts (.fieldLink RX9 18 "HolelessHouse$Ring" "path" "[I") hm_X9_closes_1) (fun _ h9 => h9) rfl dX9_closes_68 ?_
          refine lv_iload_n hx hb dX9_closes_71 rfl (lv_at hl 6 rfl) ?_
          refine lv_iload hx hb dX9_closes_72 (lv_at hl 0 rfl) ?_
          refine k_iast hx hb hK hP hD hS 1 0 rfl rfl (vin_iv ik_3 (by decide)) dX9_closes_74 (fun f187 H locs f187_e hP hD hS => ?_)
          have f187_b : Bd 12 0 11 f187 := bd_upd f187_e f178_b j180 (by decide)
          have hP : va_P (dC, dI) vwCl ([(o1, .inr (9, [.ref o2, .ref o7, .int v9, .int v10])), (o7, .inl (cI, 12, .inl f187)), (o11, .inr (4, [.ref o12, .int v14, .int v15])), (o12, .inl (cI, 12, .inl fw13))]) H := hP
          have hD : va_D A ([(o1, .inr (9, [.ref o2, .ref o7, .int v9, .int v10])), (o7, .inl (cI, 12, .inl f187)), (o11, .inr (4, [.ref o12, .int v14, .int v15])), (o12, .inl (cI, 12, .inl fw13))]) := hD
          refine lv_aload_n hx hb dX9_closes_75 rfl (lv_at hl 3 rfl) ?_
          refine lv_aload_n hx hb dX9_closes_76 rfl (lv_at hl 4 rfl) ?_
          refine lv_iload_n hx hb dX9_closes_77 rfl (lv_at hl 5 rfl) ?_
          refine lv_iload_n hx hb dX9_closes_78 rfl (lv_at hl 6 rfl) ?_
          refine lv_iconst (v := 1) hx hb dX9_closes_79 (by decide) ?_
          refine lv_iadd hx hb dX9_closes_80 (tk_i (v := 4) (by decide +kernel) ?_)
          refine lv_iload hx hb dX9_closes_81 (lv_at hl 7 rfl) ?_
          refine lv_iload hx hb dX9_closes_83 (lv_at hl 1 rfl) ?_
          refine lv_ior hx hb dX9_closes_85 (lv_topi (fun x188 x188_e => ?_))
          refine lv_iconst (v := 1) hx hb dX9_closes_86 (by decide) ?_
          refine lv_iload hx hb dX9_closes_87 (lv_at hl 0 rfl) ?_
          refine lv_ishl hx hb dX9_closes_89 (lv_topi (fun x189 x189_e => ?_))
          have x189_h : Iv 1 2048 x189 := iv_e x189_e (iv_shl1 j180 (by decide))
          refine lv_ior hx hb dX9_closes_90 (lv_topi (fun x190 x190_e => ?_))
          refine kc_i (D := (dC, dI)) (S := (Nat → Int32)) (wc := [(o1, .inr (9, [.ref o2, .ref o7, .int v9, .int v10])), (o7, .inl (cI, 12, .inl f187)), (o11, .inr (4, [.ref o12, .int v14, .int v15])), (o12, .inl (cI, 12, .inl fw13))]) (wr := []) (w1 := fun u => [(o1, .inr (9, [.ref o2, .ref o7, .int v9, .int v10])), (o7, .inl (cI, 12, .inl u)), (o11, .inr (4, [.ref o12, .int v14, .int v15])), (o12, .inl (cI, 12, .inl fw13))]) (wn := fun u => [(o1, .inr (9, [.ref o2, .ref o7, .int v9, .int v10])), (o7, .inl (cI, 12, .inl u)), (o11, .inr (4, [.ref o12, .int v14, .int v15])), (o12, .inl (cI, 12, .inl fw13))]) (fun hPc hDc => va_runS (As := [.ref o1, .ref o11, .int a2, .int 4, .int x190]) (rest := []) ⟨hx, hb, hml, hown, hts⟩ (kX9_closes_9 l dC dI cI c2 cZ o1 o11 o2 o7 o12 f187 v9 v10 fw13 v14 v15 a2 x190 H.size f187_b v9_h fw13_b (iv_w j181 (by decide)) a2_h) (va_cwS 5 hts gX9_closes_X9_closes rfl rfl rfl (by decide +kernel) ⟨Nat.le_of_ble_eq_true rfl, Nat.le_of_ble_eq_true rfl⟩) (pre_S hPc hK hDc hN) rfl rfl hl.1 rfl (lv_room (Nat.le_of_ble_eq_true rfl)) dX9_closes_91 ⟨Nat.le_of_ble_eq_true rfl, Nat.le_of_ble_eq_true rfl⟩) hP hD hS hA [0, 1, 2, 3] [] [0, 1, 2, 3] rfl rfl (by decide +kernel) (by decide +kernel) (by decide +kernel) (by decide +kernel) (fun _ => rfl) (fun x192 f191 H locs hq hP hD hS => ?_)
          obtain ⟨x192_h, i193, f191_b⟩ := hq
          have hP : va_P (dC, dI) vwCl ([(o1, .inr (9, [.ref o2, .ref o7, .int v9, .int v10])), (o7, .inl (cI, 12, .inl f191)), (o11, .inr (4, [.ref o12, .int v14, .int v15])), (o12, .inl (cI, 12, .inl fw13))]) H := hP
          have hD : va_D A ([(o1, .inr (9, [.ref o2, .ref o7, .int v9, .int v10])), (o7, .inl (cI, 12, .inl f191)), (o11, .inr (4, [.ref o12, .int v14, .int v15])), (o12, .inl (cI, 12, .inl fw13))]) := hD
          refine lv_if_eq (tgt := 99) hx hb dX9_closes_94 (by decide) (fun h194 => ?_) (fun h194 => ?_)
          ·
            have j195 : Iv 0 0 x192 := r_eq h194 ik_0
            have j196 : Iv 5 12 a2 := i193 h194
            obtain ⟨x197, x197_e⟩ : ∃ z : Int32, z = x177 + 1 := ⟨_, rfl⟩
            have x197_h : Iv 1 12 x197 := iv_e x197_e (iv_add j180 ik_1 (by decide))
            refine lv_iinc (v := x197) (lv' := [(7, .int x197), (6, .int x5), (5, .int x3), (0, .ref o1), (1, .ref o11), (2, .int a2), (3, .int 3), (4, .int a4)]) hx hb dX9_closes_99 hl (k := 0) rfl (incN (by decide +kernel) x197_e) (by decide) rfl (fun ls hl => ?_)
            refine lv_goto (tgt := 48) hx hb dX9_closes_102 (by decide) ?_
            exact ih1 x197 f191 _ _ _ (ms_up x197_e j180 (by decide) hM1) (iv_w x197_h (by decide)) f191_b hP hD hS hl
          ·
            have j198 : Iv 1 1 x192 := r_nelo h194 x192_h ik_0 (by decide)
            refine lv_iconst (v := 1) hx hb dX9_closes_97 (by decide) ?_
            rw [hQ]
            exact W.zret (v := 1) (ty := .boolean) hx hb hr rfl (fun t ht hW => ⟨⟨1, f191, rfl, ⟨(iv_w ik_1 (by decide)), f191_b⟩, by rw [ht]; exact hP, va_K.moved hW.alike hK, hD⟩, hS.F ht⟩) hS.2.2 dX9_closes_98
  exact L1 _ 0 fw8 _ _ _ (Nat.lt_succ_self _) (iv_w ik_0 (by decide)) fw8_b hP hD hS hl
set_option maxHeartbeats 4000000 in
set_option maxRecDepth 100000 in
theorem kX9_closes_11 (l : Launch) (dC : Nat → ClassId) (dI : Nat → Nat → Nat) (cI c2 cZ : ClassId) (o1 : Nat) (o11 : Nat) (o2 : Nat) (o7 : Nat) (o12 : Nat) (fw8 : Nat → Int32) (v9 : Int32) (v10 : Int32) (fw13 : Nat → Int32) (v14 : Int32) (v15 : Int32) (a2 : Int32) (a4 : Int32) (sz : Nat) (fw8_b : Bd 12 0 11 fw8) (v9_h : Iv 0 12 v9) (fw13_b : Bd 12 0 4095 fw13) (v14_h : Iv 0 12 v14) (a2_h : Iv 4 12 a2) : Met l yX9_closes wsX9_closes ({ frames := 11, cells := 0, slots := 0, locals := 288 }) (va_Pc [.ref o1, .ref o11, .int a2, .int 2, .int a4] (wPre (dC, dI) [(cI, .int), (c2, .array .int), (cZ, .boolean)] ([(o1, .inr (9, [.ref o2, .ref o7, .int v9, .int v10])), (o7, .inl (cI, 12, .inl fw8)), (o11, .inr (4, [.ref o12, .int v14, .int v15])), (o12, .inl (cI, 12, .inl fw13))]) sz)) (va_Qi (fun (r : Int32) (u : (Nat → Int32)) => Iv 0 1 r ∧ Bd 12 0 11 u) (fun u t => wPost (dC, dI) [(cI, .int), (c2, .array .int), (cZ, .boolean)] (va_A ([(o1, .inr (9, [.ref o2, .ref o7, .int v9, .int v10])), (o7, .inl (cI, 12, .inl fw8)), (o11, .inr (4, [.ref o12, .int v14, .int v15])), (o12, .inl (cI, 12, .inl fw13))]) sz) ([(o1, .inr (9, [.ref o2, .ref o7, .int v9, .int v10])), (o7, .inl (cI, 12, .inl u)), (o11, .inr (4, [.ref o12, .int v14, .int v15])), (o12, .inl (cI, 12, .inl fw13))]) t) (va_A ([(o1, .inr (9, [.ref o2, .ref o7, .int v9, .int v10])), (o7, .inl (cI, 12, .inl fw8)), (o11, .inr (4, [.ref o12, .int v14, .int v15])), (o12, .inl (cI, 12, .inl fw13))]) sz)) 0 0 (va_A ([(o1, .inr (9, [.ref o2, .ref o7, .int v9, .int v10])), (o7, .inl (cI, 12, .inl fw8)), (o11, .inr (4, [.ref o12, .int v14, .int v15])), (o12, .inl (cI, 12, .inl fw13))]) sz) := by
  refine Met.ofW (cc := cX9_closes) (maxL := 8) (ret := (some .boolean)) (by decide) rfl ?_
  intro p e s m args below meth c s₁ B hml hv
  obtain ⟨rfl, hsz, hP, hK, hD0, hN⟩ := hv
  have hx := B.exec
  have hb := B.bytes
  have hr := B.returns
  have hts := atoms_spec (ws := wsX9_closes) B.pre
  have hown : s.vm.findClass RX9 = some m.cls := findClass_of_methodNamed B.named
  have hlocks := B.notSynchronized
  subst hsz
  have hD := hD0.self (sz := s.heap.size)
  generalize hAe : va_A ([(o1, .inr (9, [.ref o2, .ref o7, .int v9, .int v10])), (o7, .inl (cI, 12, .inl fw8)), (o11, .inr (4, [.ref o12, .int v14, .int v15])), (o12, .inl (cI, 12, .inl fw13))]) s.heap.size = A at hD ⊢
  have hA : ∀ q : Nat, s.heap.size ≤ q → A q := fun q h => by rw [← hAe]; exact Or.inr h
  have hS : va_S A s.heap s.heap [] := va_S.rf
  have hP : va_P (dC, dI) vwCl ([(o1, .inr (9, [.ref o2, .ref o7, .int v9, .int v10])), (o7, .inl (cI, 12, .inl fw8)), (o11, .inr (4, [.ref o12, .int v14, .int v15])), (o12, .inl (cI, 12, .inl fw13))]) s.heap := hP
  have hl := lv_entry ([.ref o1, .ref o11, .int a2, .int 2, .int a4]) (n := 8) (Nat.le_of_ble_eq_true rfl)
  rw [lg_entry_eq]
  generalize (lg_sl ([.ref o1, .ref o11, .int a2, .int 2, .int a4]) ++ List.replicate (8 - (lg_sl ([.ref o1, .ref o11, .int a2, .int 2, .int a4])).length) Slot.unset).toArray = ls at hl ⊢
  have hl : lv_has ls 8 [(0, .ref o1), (1, .ref o11), (2, .int a2), (3, .int 2), (4, .int a4)] := hl
  refine gen_Q (fun Q hQ => ?_)
  refine lv_iload_n hx hb dX9_closes_0 rfl (lv_at hl 3 rfl) ?_
  refine lv_iload_n hx hb dX9_closes_1 rfl (lv_at hl 2 rfl) ?_
  refine lv_icmp_lt (tgt := 7) hx hb dX9_closes_2 (by decide) (fun _ => ?_) (fun h9 => absurd (d_lt ik_2 a2_h (by decide)) h9)
  refine lv_aload_n hx hb dX9_closes_7 rfl (lv_at hl 0 rfl) ?_
  refine lv_aload_n hx hb dX9_closes_8 rfl (lv_at hl 1 rfl) ?_
  refine lv_iload_n hx hb dX9_closes_9 rfl (lv_at hl 2 rfl) ?_
  refine lv_iload_n hx hb dX9_closes_10 rfl (lv_at hl 3 rfl) ?_
  refine kc_i (D := (dC, dI)) (S := Unit) (wc := [(o1, .inr (9, [.ref o2, .ref o7, .int v9, .int v10])), (o7, .inl (cI, 12, .inl fw8)), (o11, .inr (4, [.ref o12, .int v14, .int v15])), (o12, .inl (cI, 12, .inl fw13))]) (wr := []) (w1 := fun _ => [(o1, .inr (9, [.ref o2, .ref o7, .int v9, .int v10])), (o7, .inl (cI, 12, .inl fw8)), (o11, .inr (4, [.ref o12, .int v14, .int v15])), (o12, .inl (cI, 12, .inl fw13))]) (wn := fun _ => [(o1, .inr (9, [.ref o2, .ref o7, .int v9, .int v10])), (o7, .inl (cI, 12, .inl fw8)), (o11, .inr (4, [.ref o12, .int v14, .int v15])), (o12, .inl (cI, 12, .inl fw13))]) (fun hPc hDc => va_runV (As := [.ref o11, .int a2, .int 2]) (rest := []) ⟨hx, hb, hml, hown, hts⟩ (kX9_nextOnes_1 l dC dI cI c2 cZ o1 o11 o2 o7 o12 fw8 v9 v10 fw13 v14 v15 a2 2 s.heap.size fw8_b v9_h fw13_b v14_h a2_h (iv_w ik_2 (by decide))) (cwV 3 hts gX9_closes_X9_nextOnes rfl rfl rfl (by decide +kernel) ⟨Nat.le_of_ble_eq_true rfl, Nat.le_of_ble_eq_true rfl⟩) (pre_V hPc hK hDc hN (ci := 9) (q0 := 0) rfl rfl) rfl rfl hl.1 rfl (lv_room (Nat.le_of_ble_eq_true rfl)) dX9_closes_11 ⟨Nat.le_of_ble_eq_true rfl, Nat.le_of_ble_eq_true rfl⟩) hP hD hS hA [0, 1, 2, 3] [] [0, 1, 2, 3] rfl rfl (by decide +kernel) (by decide +kernel) (by decide +kernel) (by decide +kernel) (fun _ => rfl) (fun x1 _ H locs hq hP hD hS => ?_)
  have x1_h := hq
  have hP : va_P (dC, dI) vwCl ([(o1, .inr (9, [.ref o2, .ref o7, .int v9, .int v10])), (o7, .inl (cI, 12, .inl fw8)), (o11, .inr (4, [.ref o12, .int v14, .int v15])), (o12, .inl (cI, 12, .inl fw13))]) H := hP
  have hD : va_D A ([(o1, .inr (9, [.ref o2, .ref o7, .int v9, .int v10])), (o7, .inl (cI, 12, .inl fw8)), (o11, .inr (4, [.ref o12, .int v14, .int v15])), (o12, .inl (cI, 12, .inl fw13))]) := hD
  refine lv_iload hx hb dX9_closes_14 (lv_at hl 4 rfl) ?_
  refine lv_iconst (v := (-1)) hx hb dX9_closes_16 (by decide) ?_
  refine lv_ixor hx hb dX9_closes_17 (lv_topi (fun x2 x2_e => ?_))
  refine lv_iand hx hb dX9_closes_18 (lv_topi (fun x3 x3_e => ?_))
  have x3_h : Iv 0 4095 x3 := iv_e x3_e (iv_andL _ x1_h (by decide))
  refine lv_istore (lv' := [(5, .int x3), (0, .ref o1), (1, .ref o11), (2, .int a2), (3, .int 2), (4, .int a4)]) hx hb dX9_closes_19 hl (by decide) rfl (fun ls hl => ?_)
  refine lv_iload_n hx hb dX9_closes_21 rfl (lv_at hl 4 rfl) ?_
  refine lv_iconst (v := 1) hx hb dX9_closes_22 (by decide) ?_
  refine lv_icmp_ne (tgt := 30) hx hb dX9_closes_23 (by decide) (fun _ => ?_) (fun h9 => absurd h9 (by decide +kernel))
  refine lv_aload_n hx hb dX9_closes_30 rfl (lv_at hl 2 rfl) ?_
  refine va_getN (D := (dC, dI)) (ci := 4) (v := .ref o12) (C := RX4) (T := TX4) (N := 3) hx hb hts iw_X9_closes_X4 hown hK hP 2 rfl rfl 0 (by decide) (hN.use ns_6) (fun _ h9 => h9) rfl dX9_closes_31 ?_
  refine lv_aload_n hx hb dX9_closes_34 rfl (lv_at hl 1 rfl) ?_
  refine va_get (D := (dC, dI)) (ci := 9) (v := .ref o7) (C := RX9) (T := TX9) (N := 4) hx hb hts iw_X9_closes_X9 hown hK hP 0 rfl rfl 1 (by decide) (hts (.fieldLink RX9 18 "HolelessHouse$Ring" "path" "[I") hm_X9_closes_1) (fun _ h9 => h9) rfl dX9_closes_35 ?_
  refine lv_iload_n hx hb dX9_closes_38 rfl (lv_at hl 4 rfl) ?_
  refine lv_iconst (v := 1) hx hb dX9_closes_39 (by decide) ?_
  refine lv_isub hx hb dX9_closes_40 (tk_i (v := 1) (by decide +kernel) ?_)
  refine va_iald hx hb hK hP 1 0 rfl rfl (vin_iv ik_1 (by decide)) dX9_closes_41 (lv_topi (fun x4 x4_e => ?_))
  have x4_h : Iv 0 11 x4 := iv_e x4_e (bd_at fw8_b (vin_iv ik_1 (by decide)))
  refine va_iald hx hb hK hP 3 0 rfl rfl (vin_iv x4_h (by decide)) dX9_closes_42 (lv_topi (fun x5 x5_e => ?_))
  have x5_h : Iv 0 4095 x5 := iv_e x5_e (bd_at fw13_b (vin_iv x4_h (by decide)))
  refine lv_istore (lv' := [(6, .int x5), (5, .int x3), (0, .ref o1), (1, .ref o11), (2, .int a2), (3, .int 2), (4, .int a4)]) hx hb dX9_closes_43 hl (by decide) rfl (fun ls hl => ?_)
  refine lv_iconst (v := 0) hx hb dX9_closes_45 (by decide) ?_
  refine lv_istore (lv' := [(7, .int 0), (6, .int x5), (5, .int x3), (0, .ref o1), (1, .ref o11), (2, .int a2), (3, .int 2), (4, .int a4)]) hx hb dX9_closes_46 hl (by decide) rfl (fun ls hl => ?_)
  have L1 : ∀ (N : Nat) (x161 : Int32) (f162 : Nat → Int32) (H : Heap) (locs : List Loc) (ls : Array Slot), (12 - x161.toInt).toNat < N → Iv 0 12 x161 → Bd 12 0 11 f162 → va_P (dC, dI) vwCl ([(o1, .inr (9, [.ref o2, .ref o7, .int v9, .int v10])), (o7, .inl (cI, 12, .inl f162)), (o11, .inr (4, [.ref o12, .int v14, .int v15])), (o12, .inl (cI, 12, .inl fw13))]) H → va_D A ([(o1, .inr (9, [.ref o2, .ref o7, .int v9, .int v10])), (o7, .inl (cI, 12, .inl f162)), (o11, .inr (4, [.ref o12, .int v14, .int v15])), (o12, .inl (cI, 12, .inl fw13))]) → va_S A s.heap H locs → lv_has ls 8 [(7, .int x161), (6, .int x5), (5, .int x3), (0, .ref o1), (1, .ref o11), (2, .int a2), (3, .int 2), (4, .int a4)] → W p l e ({ frames := 11, cells := 0, slots := 0, locals := 288 }) s m ([.ref o1, .ref o11, .int a2, .int 2, .int a4] : List Value).toArray below meth c H locs 0 0 Q (F0 m 48 ls []) := by
    intro N
    induction N with
    | zero =>
      intro x161 f162 H locs ls hM
      exact absurd hM (Nat.not_lt_zero _)
    | succ N ih1 =>
      intro x161 f162 H locs ls hM1 x161_h f162_b hP hD hS hl
      refine lv_iload hx hb dX9_closes_48 (lv_at hl 0 rfl) ?_
      refine lv_aload_n hx hb dX9_closes_50 rfl (lv_at hl 4 rfl) ?_
      refine va_getN (D := (dC, dI)) (ci := 4) (v := .int v14) (C := RX4) (T := TX4) (N := 3) hx hb hts iw_X9_closes_X4 hown hK hP 2 rfl rfl 1 (by decide) (hN.use ns_11) (fun _ h9 => h9) rfl dX9_closes_51 ?_
      refine lv_icmp_ge (tgt := 105) hx hb dX9_closes_54 (by decide) (fun h163 => ?_) (fun h163 => ?_)
      ·
        have qh163 := le_i h163
        refine lv_iconst (v := 0) hx hb dX9_closes_105 (by decide) ?_
        rw [hQ]
        exact W.zret (v := 0) (ty := .boolean) hx hb hr rfl (fun t ht hW => ⟨⟨0, f162, rfl, ⟨(iv_w ik_0 (by decide)), f162_b⟩, by rw [ht]; exact hP, va_K.moved hW.alike hK, hD⟩, hS.F ht⟩) hS.2.2 dX9_closes_106
      ·
        have qh163 := nle_i h163
        have j164 : Iv 0 11 x161 := r_ltl qh163 x161_h v14_h (by decide)
        have j165 : Iv 1 12 v14 := r_ltr qh163 x161_h v14_h (by decide)
        refine lv_iload hx hb dX9_closes_57 (lv_at hl 2 rfl) ?_
        refine lv_iload hx hb dX9_closes_59 (lv_at hl 0 rfl) ?_
        refine kc_i (D := (dC, dI)) (S := Unit) (wc := []) (wr := [(o1, .inr (9, [.ref o2, .ref o7, .int v9, .int v10])), (o7, .inl (cI, 12, .inl f162)), (o11, .inr (4, [.ref o12, .int v14, .int v15])), (o12, .inl (cI, 12, .inl fw13))]) (w1 := fun _ => []) (wn := fun _ => [(o1, .inr (9, [.ref o2, .ref o7, .int v9, .int v10])), (o7, .inl (cI, 12, .inl f162)), (o11, .inr (4, [.ref o12, .int v14, .int v15])), (o12, .inl (cI, 12, .inl fw13))]) (fun hPc hDc => va_runSN (As := [.int x3, .int x161]) (rest := []) ⟨hx, hb, hml, hown, hts⟩ (kX11_in_1 l dC dI cI c2 cZ x3 x161 H.size) ⟨va_cnB 2 hts gX9_closes_X11_in_n56 rfl rfl rfl (hN.1 _ ns_76) (hts (.initialized RX11) hm_X9_closes_11) (by decide +kernel) ⟨Nat.le_of_ble_eq_true rfl, Nat.le_of_ble_eq_true rfl⟩, (hts (.static yX11_in) hm_X9_closes_10), trivial⟩ (pre_S hPc hK hDc hN) rfl rfl hl.1 rfl (lv_room (Nat.le_of_ble_eq_true rfl)) dX9_closes_61 ⟨Nat.le_of_ble_eq_true rfl, Nat.le_of_ble_eq_true rfl⟩) hP hD hS hA [] [0, 1, 2, 3] [0, 1, 2, 3] rfl rfl (by decide +kernel) (by decide +kernel) (by decide +kernel) (by decide +kernel) (fun _ => rfl) (fun x166 _ H locs hq hP hD hS => ?_)
        have x166_h := hq
        have hP : va_P (dC, dI) vwCl ([(o1, .inr (9, [.ref o2, .ref o7, .int v9, .int v10])), (o7, .inl (cI, 12, .inl f162)), (o11, .inr (4, [.ref o12, .int v14, .int v15])), (o12, .inl (cI, 12, .inl fw13))]) H := hP
        have hD : va_D A ([(o1, .inr (9, [.ref o2, .ref o7, .int v9, .int v10])), (o7, .inl (cI, 12, .inl f162)), (o11, .inr (4, [.ref o12, .int v14, .int v15])), (o12, .inl (cI, 12, .inl fw13))]) := hD
        refine lv_if_eq (tgt := 99) hx hb dX9_closes_64 (by decide) (fun h167 => ?_) (fun h167 => ?_)
        ·
          have j168 : Iv 0 0 x166 := r_eq h167 ik_0
          obtain ⟨x169, x169_e⟩ : ∃ z : Int32, z = x161 + 1 := ⟨_, rfl⟩
          have x169_h : Iv 1 12 x169 := iv_e x169_e (iv_add j164 ik_1 (by decide))
          refine lv_iinc (v := x169) (lv' := [(7, .int x169), (6, .int x5), (5, .int x3), (0, .ref o1), (1, .ref o11), (2, .int a2), (3, .int 2), (4, .int a4)]) hx hb dX9_closes_99 hl (k := 0) rfl (incN (by decide +kernel) x169_e) (by decide) rfl (fun ls hl => ?_)
          refine lv_goto (tgt := 48) hx hb dX9_closes_102 (by decide) ?_
          exact ih1 x169 f162 _ _ _ (ms_up x169_e j164 (by decide) hM1) (iv_w x169_h (by decide)) f162_b hP hD hS hl
        ·
          have j170 : Iv 1 1 x166 := r_nelo h167 x166_h ik_0 (by decide)
          refine lv_aload_n hx hb dX9_closes_67 rfl (lv_at hl 3 rfl) ?_
          refine va_get (D := (dC, dI)) (ci := 9) (v := .ref o7) (C := RX9) (T := TX9) (N := 4) hx hb hts iw_X9_closes_X9 hown hK hP 0 rfl rfl 1 (by decide) (hts (.fieldLink RX9 18 "HolelessHouse$Ring" "path" "[I") hm_X9_closes_1) (fun _ h9 => h9) rfl dX9_closes_68 ?_
          refine lv_iload_n hx hb dX9_closes_71 rfl (lv_at hl 6 rfl) ?_
          refine lv_iload hx hb dX9_closes_72 (lv_at hl 0 rfl) ?_
          refine k_iast hx hb hK hP hD hS 1 0 rfl rfl (vin_iv ik_2 (by decide)) dX9_closes_74 (fun f171 H locs f171_e hP hD hS => ?_)
          have f171_b : Bd 12 0 11 f171 := bd_upd f171_e f162_b j164 (by decide)
          have hP : va_P (dC, dI) vwCl ([(o1, .inr (9, [.ref o2, .ref o7, .int v9, .int v10])), (o7, .inl (cI, 12, .inl f171)), (o11, .inr (4, [.ref o12, .int v14, .int v15])), (o12, .inl (cI, 12, .inl fw13))]) H := hP
          have hD : va_D A ([(o1, .inr (9, [.ref o2, .ref o7, .int v9, .int v10])), (o7, .inl (cI, 12, .inl f171)), (o11, .inr (4, [.ref o12, .int v14, .int v15])), (o12, .inl (cI, 12, .inl fw13))]) := hD
          refine lv_aload_n hx hb dX9_closes_75 rfl (lv_at hl 3 rfl) ?_
          refine lv_aload_n hx hb dX9_closes_76 rfl (lv_at hl 4 rfl) ?_
          refine lv_iload_n hx hb dX9_closes_77 rfl (lv_at hl 5 rfl) ?_
          refine lv_iload_n hx hb dX9_closes_78 rfl (lv_at hl 6 rfl) ?_
          refine lv_iconst (v := 1) hx hb dX9_closes_79 (by decide) ?_
          refine lv_iadd hx hb dX9_closes_80 (tk_i (v := 3) (by decide +kernel) ?_)
          refine lv_iload hx hb dX9_closes_81 (lv_at hl 7 rfl) ?_
          refine lv_iload hx hb dX9_closes_83 (lv_at hl 1 rfl) ?_
          refine lv_ior hx hb dX9_closes_85 (lv_topi (fun x172 x172_e => ?_))
          refine lv_iconst (v := 1) hx hb dX9_closes_86 (by decide) ?_
          refine lv_iload hx hb dX9_closes_87 (lv_at hl 0 rfl) ?_
          refine lv_ishl hx hb dX9_closes_89 (lv_topi (fun x173 x173_e => ?_))
          have x173_h : Iv 1 2048 x173 := iv_e x173_e (iv_shl1 j164 (by decide))
          refine lv_ior hx hb dX9_closes_90 (lv_topi (fun x174 x174_e => ?_))
          refine kc_i (D := (dC, dI)) (S := (Nat → Int32)) (wc := [(o1, .inr (9, [.ref o2, .ref o7, .int v9, .int v10])), (o7, .inl (cI, 12, .inl f171)), (o11, .inr (4, [.ref o12, .int v14, .int v15])), (o12, .inl (cI, 12, .inl fw13))]) (wr := []) (w1 := fun u => [(o1, .inr (9, [.ref o2, .ref o7, .int v9, .int v10])), (o7, .inl (cI, 12, .inl u)), (o11, .inr (4, [.ref o12, .int v14, .int v15])), (o12, .inl (cI, 12, .inl fw13))]) (wn := fun u => [(o1, .inr (9, [.ref o2, .ref o7, .int v9, .int v10])), (o7, .inl (cI, 12, .inl u)), (o11, .inr (4, [.ref o12, .int v14, .int v15])), (o12, .inl (cI, 12, .inl fw13))]) (fun hPc hDc => va_runS (As := [.ref o1, .ref o11, .int a2, .int 3, .int x174]) (rest := []) ⟨hx, hb, hml, hown, hts⟩ (kX9_closes_10 l dC dI cI c2 cZ o1 o11 o2 o7 o12 f171 v9 v10 fw13 v14 v15 a2 x174 H.size f171_b v9_h fw13_b (iv_w j165 (by decide)) a2_h) (va_cwS 5 hts gX9_closes_X9_closes rfl rfl rfl (by decide +kernel) ⟨Nat.le_of_ble_eq_true rfl, Nat.le_of_ble_eq_true rfl⟩) (pre_S hPc hK hDc hN) rfl rfl hl.1 rfl (lv_room (Nat.le_of_ble_eq_true rfl)) dX9_closes_91 ⟨Nat.le_of_ble_eq_true rfl, Nat.le_of_ble_eq_true rfl⟩) hP hD hS hA [0, 1, 2, 3] [] [0, 1, 2, 3] rfl rfl (by decide +kernel) (by decide +kernel) (by decide +kernel) (by decide +kernel) (fun _ => rfl) (fun x176 f175 H locs hq hP hD hS => ?_)
          obtain ⟨x176_h, f175_b⟩ := hq
          have hP : va_P (dC, dI) vwCl ([(o1, .inr (9, [.ref o2, .ref o7, .int v9, .int v10])), (o7, .inl (cI, 12, .inl f175)), (o11, .inr (4, [.ref o12, .int v14, .int v15])), (o12, .inl (cI, 12, .inl fw13))]) H := hP
          have hD : va_D A ([(o1, .inr (9, [.ref o2, .ref o7, .int v9, .int v10])), (o7, .inl (cI, 12, .inl f175)), (o11, .inr (4, [.ref o12, .int v14, .int v15])), (o12, .inl (cI, 12, .inl fw13))]) := hD
          refine lv_if_eq (tgt := 99) hx hb dX9_closes_94 (by decide) (fun h177 => ?_) (fun h177 => ?_)
          ·
            have j178 : Iv 0 0 x176 := r_eq h177 ik_0
            obtain ⟨x179, x179_e⟩ : ∃ z : Int32, z = x161 + 1 := ⟨_, rfl⟩
            have x179_h : Iv 1 12 x179 := iv_e x179_e (iv_add j164 ik_1 (by decide))
            refine lv_iinc (v := x179) (lv' := [(7, .int x179), (6, .int x5), (5, .int x3), (0, .ref o1), (1, .ref o11), (2, .int a2), (3, .int 2), (4, .int a4)]) hx hb dX9_closes_99 hl (k := 0) rfl (incN (by decide +kernel) x179_e) (by decide) rfl (fun ls hl => ?_)
            refine lv_goto (tgt := 48) hx hb dX9_closes_102 (by decide) ?_
            exact ih1 x179 f175 _ _ _ (ms_up x179_e j164 (by decide) hM1) (iv_w x179_h (by decide)) f175_b hP hD hS hl
          ·
            have j180 : Iv 1 1 x176 := r_nelo h177 x176_h ik_0 (by decide)
            refine lv_iconst (v := 1) hx hb dX9_closes_97 (by decide) ?_
            rw [hQ]
            exact W.zret (v := 1) (ty := .boolean) hx hb hr rfl (fun t ht hW => ⟨⟨1, f175, rfl, ⟨(iv_w ik_1 (by decide)), f175_b⟩, by rw [ht]; exact hP, va_K.moved hW.alike hK, hD⟩, hS.F ht⟩) hS.2.2 dX9_closes_98
  exact L1 _ 0 fw8 _ _ _ (Nat.lt_succ_self _) (iv_w ik_0 (by decide)) fw8_b hP hD hS hl
