set_option maxHeartbeats 4000000 in
set_option maxRecDepth 100000 in
theorem kX12_goesOn_6 (l : Launch) (dC : Nat → ClassId) (dI : Nat → Nat → Nat) (cI c2 cZ : ClassId) (o1 : Nat) (o3 : Nat) (o6 : Nat) (o9 : Nat) (o11 : Nat) (o14 : Nat) (o17 : Nat) (o22 : Nat) (o24 : Nat) (o26 : Nat) (o28 : Nat) (o30 : Nat) (o33 : Nat) (o35 : Nat) (o37 : Nat) (o40 : Nat) (o42 : Nat) (o44 : Nat) (o47 : Nat) (v2 : Int32) (v5 : Int32) (fw7 : Nat → Int32) (v8 : Int32) (fw12 : Nat → Int32) (v13 : Int32) (v16 : Int32) (v19 : Int32) (v20 : Int32) (v21 : Int32) (v32 : Int32) (v39 : Int32) (v46 : Int32) (a2 : Int32) (sz : Nat) (v5_h : Iv 0 12 v5) (fw7_b : Bd 12 0 4095 fw7) (v8_h : Iv 0 8 v8) (fw12_b : Bd 12 0 11 fw12) (v13_h : Iv 0 12 v13) (v16_h : Iv 0 12 v16) (v19_h : Iv (-9) 12 v19) (v32_h : Iv 0 99 v32) (v39_h : Iv 0 12 v39) (v46_h : Iv 0 12 v46) (a2_h : Iv 7 12 a2) : Met l yX12_goesOn wsX12_goesOn ({ frames := 6, cells := 0, slots := 0, locals := 156 }) (va_Pc [.ref o1, .int 6, .int a2] (wPre (dC, dI) [(cI, .int), (c2, .array .int), (cZ, .boolean)] ([(o1, .inr (12, [.int v2, .ref o3, .int v5, .ref o6, .int v8, .ref o9, .ref o11, .int v13, .ref o14, .int v16, .ref o17, .int v19, .int v20, .int v21, .ref o22, .ref o24, .ref o26, .ref o28, .ref o30, .int v32, .ref o33, .ref o35, .ref o37, .int v39, .ref o40, .ref o42, .ref o44, .int v46, .ref o47])), (o11, .inl (cI, 12, .inl fw12)), (o6, .inl (cI, 12, .inl fw7))]) sz)) (va_Qi (fun (r : Int32) (u : (Nat → Int32)) => Iv 0 1 r ∧ Bd 12 0 11 u) (fun u t => wPost (dC, dI) [(cI, .int), (c2, .array .int), (cZ, .boolean)] (va_A ([(o1, .inr (12, [.int v2, .ref o3, .int v5, .ref o6, .int v8, .ref o9, .ref o11, .int v13, .ref o14, .int v16, .ref o17, .int v19, .int v20, .int v21, .ref o22, .ref o24, .ref o26, .ref o28, .ref o30, .int v32, .ref o33, .ref o35, .ref o37, .int v39, .ref o40, .ref o42, .ref o44, .int v46, .ref o47])), (o11, .inl (cI, 12, .inl fw12)), (o6, .inl (cI, 12, .inl fw7))]) sz) ([(o1, .inr (12, [.int v2, .ref o3, .int v5, .ref o6, .int v8, .ref o9, .ref o11, .int v13, .ref o14, .int v16, .ref o17, .int v19, .int v20, .int v21, .ref o22, .ref o24, .ref o26, .ref o28, .ref o30, .int v32, .ref o33, .ref o35, .ref o37, .int v39, .ref o40, .ref o42, .ref o44, .int v46, .ref o47])), (o11, .inl (cI, 12, .inl u)), (o6, .inl (cI, 12, .inl fw7))]) t) (va_A ([(o1, .inr (12, [.int v2, .ref o3, .int v5, .ref o6, .int v8, .ref o9, .ref o11, .int v13, .ref o14, .int v16, .ref o17, .int v19, .int v20, .int v21, .ref o22, .ref o24, .ref o26, .ref o28, .ref o30, .int v32, .ref o33, .ref o35, .ref o37, .int v39, .ref o40, .ref o42, .ref o44, .int v46, .ref o47])), (o11, .inl (cI, 12, .inl fw12)), (o6, .inl (cI, 12, .inl fw7))]) sz)) 0 0 (va_A ([(o1, .inr (12, [.int v2, .ref o3, .int v5, .ref o6, .int v8, .ref o9, .ref o11, .int v13, .ref o14, .int v16, .ref o17, .int v19, .int v20, .int v21, .ref o22, .ref o24, .ref o26, .ref o28, .ref o30, .int v32, .ref o33, .ref o35, .ref o37, .int v39, .ref o40, .ref o42, .ref o44, .int v46, .ref o47])), (o11, .inl (cI, 12, .inl fw12)), (o6, .inl (cI, 12, .inl fw7))]) sz) := by
  refine Met.ofW (cc := cX12_goesOn) (maxL := 8) (ret := (some .boolean)) (by decide) rfl ?_
  intro p e s m args below meth c s₁ B hml hv
  obtain ⟨rfl, hsz, hP, hK, hD0, hN⟩ := hv
  have hx := B.exec
  have hb := B.bytes
  have hr := B.returns
  have hts := atoms_spec (ws := wsX12_goesOn) B.pre
  have hown : s.vm.findClass RX12 = some m.cls := findClass_of_methodNamed B.named
  have hlocks := B.notSynchronized
  subst hsz
  have hD := hD0.self (sz := s.heap.size)
  generalize hAe : va_A ([(o1, .inr (12, [.int v2, .ref o3, .int v5, .ref o6, .int v8, .ref o9, .ref o11, .int v13, .ref o14, .int v16, .ref o17, .int v19, .int v20, .int v21, .ref o22, .ref o24, .ref o26, .ref o28, .ref o30, .int v32, .ref o33, .ref o35, .ref o37, .int v39, .ref o40, .ref o42, .ref o44, .int v46, .ref o47])), (o11, .inl (cI, 12, .inl fw12)), (o6, .inl (cI, 12, .inl fw7))]) s.heap.size = A at hD ⊢
  have hA : ∀ q : Nat, s.heap.size ≤ q → A q := fun q h => by rw [← hAe]; exact Or.inr h
  have hS : va_S A s.heap s.heap [] := va_S.rf
  have hP : va_P (dC, dI) vwCl ([(o1, .inr (12, [.int v2, .ref o3, .int v5, .ref o6, .int v8, .ref o9, .ref o11, .int v13, .ref o14, .int v16, .ref o17, .int v19, .int v20, .int v21, .ref o22, .ref o24, .ref o26, .ref o28, .ref o30, .int v32, .ref o33, .ref o35, .ref o37, .int v39, .ref o40, .ref o42, .ref o44, .int v46, .ref o47])), (o11, .inl (cI, 12, .inl fw12)), (o6, .inl (cI, 12, .inl fw7))]) s.heap := hP
  have hl := lv_entry ([.ref o1, .int 6, .int a2]) (n := 8) (Nat.le_of_ble_eq_true rfl)
  rw [lg_entry_eq]
  generalize (lg_sl ([.ref o1, .int 6, .int a2]) ++ List.replicate (8 - (lg_sl ([.ref o1, .int 6, .int a2])).length) Slot.unset).toArray = ls at hl ⊢
  have hl : lv_has ls 8 [(0, .ref o1), (1, .int 6), (2, .int a2)] := hl
  refine gen_Q (fun Q hQ => ?_)
  refine lv_aload_n hx hb dX12_goesOn_0 rfl (lv_at hl 0 rfl) ?_
  refine va_get (D := (dC, dI)) (ci := 12) (v := .ref o11) (C := RX12) (T := TX12) (N := 29) hx hb hts iw_X12_goesOn_X12 hown hK hP 0 rfl rfl 6 (by decide) (hts (.fieldLink RX12 19 "HolelessHouseModel" "ring" "[I") hm_X12_goesOn_1) (fun _ h9 => h9) rfl dX12_goesOn_1 ?_
  refine lv_iload_n hx hb dX12_goesOn_4 rfl (lv_at hl 1 rfl) ?_
  refine lv_iconst (v := 1) hx hb dX12_goesOn_5 (by decide) ?_
  refine lv_isub hx hb dX12_goesOn_6 (tk_i (v := 5) (by decide +kernel) ?_)
  refine va_iald hx hb hK hP 1 0 rfl rfl (vin_iv ik_5 (by decide)) dX12_goesOn_7 (lv_topi (fun x1 x1_e => ?_))
  have x1_h : Iv 0 11 x1 := iv_e x1_e (bd_at fw12_b (vin_iv ik_5 (by decide)))
  refine lv_istore_n (lv' := [(3, .int x1), (0, .ref o1), (1, .int 6), (2, .int a2)]) hx hb dX12_goesOn_8 rfl hl (by decide) rfl (fun ls hl => ?_)
  refine lv_aload_n hx hb dX12_goesOn_9 rfl (lv_at hl 1 rfl) ?_
  refine va_get (D := (dC, dI)) (ci := 12) (v := .ref o11) (C := RX12) (T := TX12) (N := 29) hx hb hts iw_X12_goesOn_X12 hown hK hP 0 rfl rfl 6 (by decide) (hts (.fieldLink RX12 19 "HolelessHouseModel" "ring" "[I") hm_X12_goesOn_1) (fun _ h9 => h9) rfl dX12_goesOn_10 ?_
  refine lv_iconst (v := 0) hx hb dX12_goesOn_13 (by decide) ?_
  refine va_iald hx hb hK hP 1 0 rfl rfl (vin_iv ik_0 (by decide)) dX12_goesOn_14 (lv_topi (fun x2 x2_e => ?_))
  have x2_h : Iv 0 11 x2 := iv_e x2_e (bd_at fw12_b (vin_iv ik_0 (by decide)))
  refine lv_iconst (v := 1) hx hb dX12_goesOn_15 (by decide) ?_
  refine lv_iadd hx hb dX12_goesOn_16 (lv_topi (fun x3 x3_e => ?_))
  have x3_h : Iv 1 12 x3 := iv_e x3_e (iv_add x2_h ik_1 (by decide))
  refine lv_istore (lv' := [(4, .int x3), (3, .int x1), (0, .ref o1), (1, .int 6), (2, .int a2)]) hx hb dX12_goesOn_17 hl (by decide) rfl (fun ls hl => ?_)
  have L3 : ∀ (N : Nat) (x1077 : Int32) (f1078 : Nat → Int32) (H : Heap) (locs : List Loc) (ls : Array Slot), (12 - x1077.toInt).toNat < N → Iv 1 12 x1077 → Bd 12 0 11 f1078 → va_P (dC, dI) vwCl ([(o1, .inr (12, [.int v2, .ref o3, .int v5, .ref o6, .int v8, .ref o9, .ref o11, .int v13, .ref o14, .int v16, .ref o17, .int v19, .int v20, .int v21, .ref o22, .ref o24, .ref o26, .ref o28, .ref o30, .int v32, .ref o33, .ref o35, .ref o37, .int v39, .ref o40, .ref o42, .ref o44, .int v46, .ref o47])), (o11, .inl (cI, 12, .inl f1078)), (o6, .inl (cI, 12, .inl fw7))]) H → va_D A ([(o1, .inr (12, [.int v2, .ref o3, .int v5, .ref o6, .int v8, .ref o9, .ref o11, .int v13, .ref o14, .int v16, .ref o17, .int v19, .int v20, .int v21, .ref o22, .ref o24, .ref o26, .ref o28, .ref o30, .int v32, .ref o33, .ref o35, .ref o37, .int v39, .ref o40, .ref o42, .ref o44, .int v46, .ref o47])), (o11, .inl (cI, 12, .inl f1078)), (o6, .inl (cI, 12, .inl fw7))]) → va_S A s.heap H locs → lv_has ls 8 [(4, .int x1077), (3, .int x1), (0, .ref o1), (1, .int 6), (2, .int a2)] → W p l e ({ frames := 6, cells := 0, slots := 0, locals := 156 }) s m ([.ref o1, .int 6, .int a2] : List Value).toArray below meth c H locs 0 0 Q (F0 m 19 ls []) := by
    intro N
    induction N with
    | zero =>
      intro x1077 f1078 H locs ls hM
      exact absurd hM (Nat.not_lt_zero _)
    | succ N ih3 =>
      intro x1077 f1078 H locs ls hM3 x1077_h f1078_b hP hD hS hl
      refine lv_iload hx hb dX12_goesOn_19 (lv_at hl 0 rfl) ?_
      refine lv_aload_n hx hb dX12_goesOn_21 rfl (lv_at hl 2 rfl) ?_
      refine va_get (D := (dC, dI)) (ci := 12) (v := .int v5) (C := RX12) (T := TX12) (N := 29) hx hb hts iw_X12_goesOn_X12 hown hK hP 0 rfl rfl 2 (by decide) (hts (.fieldLink RX12 73 "HolelessHouseModel" "n" "I") hm_X12_goesOn_2) (fun _ h9 => h9) rfl dX12_goesOn_22 ?_
      refine lv_icmp_ge (tgt := 193) hx hb dX12_goesOn_25 (by decide) (fun h1079 => ?_) (fun h1079 => ?_)
      ·
        have qh1079 := le_i h1079
        refine lv_iload_n hx hb dX12_goesOn_193 rfl (lv_at hl 1 rfl) ?_
        refine lv_if_ge (tgt := 201) hx hb dX12_goesOn_194 (by decide) (fun _ => ?_) (fun h9 => absurd (d_le ik_0 x1_h (by decide)) h9)
        refine lv_iconst (v := 0) hx hb dX12_goesOn_201 (by decide) ?_
        rw [hQ]
        exact W.zret (v := 0) (ty := .boolean) hx hb hr rfl (fun t ht hW => ⟨⟨0, f1078, rfl, ⟨(iv_w ik_0 (by decide)), f1078_b⟩, by rw [ht]; exact hP, va_K.moved hW.alike hK, hD⟩, hS.F ht⟩) hS.2.2 dX12_goesOn_202
      ·
        have qh1079 := nle_i h1079
        have j1080 : Iv 1 11 x1077 := r_ltl qh1079 x1077_h v5_h (by decide)
        have j1081 : Iv 2 12 v5 := r_ltr qh1079 x1077_h v5_h (by decide)
        refine lv_iconst (v := 0) hx hb dX12_goesOn_28 (by decide) ?_
        refine lv_istore (lv' := [(5, .int 0), (4, .int x1077), (3, .int x1), (0, .ref o1), (1, .int 6), (2, .int a2)]) hx hb dX12_goesOn_29 hl (by decide) rfl (fun ls hl => ?_)
        refine lv_iconst (v := 0) hx hb dX12_goesOn_31 (by decide) ?_
        refine lv_istore (lv' := [(6, .int 0), (5, .int 0), (4, .int x1077), (3, .int x1), (0, .ref o1), (1, .int 6), (2, .int a2)]) hx hb dX12_goesOn_32 hl (by decide) rfl (fun ls hl => ?_)
        refine lv_iconst (v := 0) hx hb dX12_goesOn_34 (by decide) ?_
        refine lv_istore (lv' := [(7, .int 0), (6, .int 0), (5, .int 0), (4, .int x1077), (3, .int x1), (0, .ref o1), (1, .int 6), (2, .int a2)]) hx hb dX12_goesOn_35 hl (by decide) rfl (fun ls hl => ?_)
        have L4 : ∀ (N : Nat) (x1523 : Int32) (x1524 : Int32) (x1525 : Int32) (H : Heap) (locs : List Loc) (ls : Array Slot), (8 - x1523.toInt).toNat < N → Iv 0 8 x1523 → Iv 0 255 x1524 → Iv 0 1 x1525 → va_P (dC, dI) vwCl ([(o1, .inr (12, [.int v2, .ref o3, .int v5, .ref o6, .int v8, .ref o9, .ref o11, .int v13, .ref o14, .int v16, .ref o17, .int v19, .int v20, .int v21, .ref o22, .ref o24, .ref o26, .ref o28, .ref o30, .int v32, .ref o33, .ref o35, .ref o37, .int v39, .ref o40, .ref o42, .ref o44, .int v46, .ref o47])), (o11, .inl (cI, 12, .inl f1078)), (o6, .inl (cI, 12, .inl fw7))]) H → va_D A ([(o1, .inr (12, [.int v2, .ref o3, .int v5, .ref o6, .int v8, .ref o9, .ref o11, .int v13, .ref o14, .int v16, .ref o17, .int v19, .int v20, .int v21, .ref o22, .ref o24, .ref o26, .ref o28, .ref o30, .int v32, .ref o33, .ref o35, .ref o37, .int v39, .ref o40, .ref o42, .ref o44, .int v46, .ref o47])), (o11, .inl (cI, 12, .inl f1078)), (o6, .inl (cI, 12, .inl fw7))]) → va_S A s.heap H locs → lv_has ls 8 [(7, .int x1523), (6, .int x1525), (5, .int x1524), (4, .int x1077), (3, .int x1), (0, .ref o1), (1, .int 6), (2, .int a2)] → W p l e ({ frames := 6, cells := 0, slots := 0, locals := 156 }) s m ([.ref o1, .int 6, .int a2] : List Value).toArray below meth c H locs 0 0 Q (F0 m 37 ls []) := by
          intro N
          induction N with
          | zero =>
            intro x1523 x1524 x1525 H locs ls hM
            exact absurd hM (Nat.not_lt_zero _)
          | succ N ih4 =>
            intro x1523 x1524 x1525 H locs ls hM4 x1523_h x1524_h x1525_h hP hD hS hl
            refine lv_iload hx hb dX12_goesOn_37 (lv_at hl 0 rfl) ?_
            refine lv_iload_n hx hb dX12_goesOn_39 rfl (lv_at hl 6 rfl) ?_
            refine lv_icmp_ge (tgt := 106) hx hb dX12_goesOn_40 (by decide) (fun h1526 => ?_) (fun h1526 => ?_)
            ·
              have qh1526 := le_i h1526
              have j1527 : Iv 6 8 x1523 := r_ler qh1526 ik_6 x1523_h (by decide)
              refine lv_iconst (v := 1) hx hb dX12_goesOn_106 (by decide) ?_
              refine lv_iload_n hx hb dX12_goesOn_107 rfl (lv_at hl 6 rfl) ?_
              refine lv_iconst (v := 1) hx hb dX12_goesOn_108 (by decide) ?_
              refine lv_isub hx hb dX12_goesOn_109 (tk_i (v := 5) (by decide +kernel) ?_)
              refine lv_ishl hx hb dX12_goesOn_110 (tk_i (v := 32) (by decide +kernel) ?_)
              refine lv_iload_n hx hb dX12_goesOn_111 rfl (lv_at hl 6 rfl) ?_
              refine lv_iload_n hx hb dX12_goesOn_112 rfl (lv_at hl 7 rfl) ?_
              refine lv_iconst (v := 1) hx hb dX12_goesOn_113 (by decide) ?_
              refine lv_isub hx hb dX12_goesOn_114 (lv_topi (fun x1528 x1528_e => ?_))
              have x1528_h : Iv 6 11 x1528 := iv_e x1528_e (iv_sub a2_h ik_1 (by decide))
              refine lv_icmp_ne (tgt := 122) hx hb dX12_goesOn_115 (by decide) (fun h1529 => ?_) (fun h1529 => ?_)
              ·
                have j1530 : Iv 7 11 x1528 := r_nelo (fun q => h1529 q.symm) x1528_h ik_6 (by decide)
                have j1531 : Iv 8 12 a2 := ivb_sub x1528_e a2_h ik_1 j1530 (by decide)
                refine lv_iconst (v := 0) hx hb dX12_goesOn_122 (by decide) ?_
                refine lv_ior hx hb dX12_goesOn_123 (tk_i (v := 32) (by decide +kernel) ?_)
                refine lv_istore (lv' := [(7, .int 32), (6, .int x1525), (5, .int x1524), (4, .int x1077), (3, .int x1), (0, .ref o1), (1, .int 6), (2, .int a2)]) hx hb dX12_goesOn_124 hl (by decide) rfl (fun ls hl => ?_)
                refine lv_iload hx hb dX12_goesOn_126 (lv_at hl 1 rfl) ?_
                refine lv_if_ne (tgt := 187) hx hb dX12_goesOn_128 (by decide) (fun h1532 => ?_) (fun h1532 => ?_)
                ·
                  have j1533 : Iv 1 1 x1525 := r_nelo h1532 x1525_h ik_0 (by decide)
                  obtain ⟨x1534, x1534_e⟩ : ∃ z : Int32, z = x1077 + 1 := ⟨_, rfl⟩
                  have x1534_h : Iv 2 12 x1534 := iv_e x1534_e (iv_add j1080 ik_1 (by decide))
                  refine lv_iinc (v := x1534) (lv' := [(4, .int x1534), (7, .int 32), (6, .int x1525), (5, .int x1524), (3, .int x1), (0, .ref o1), (1, .int 6), (2, .int a2)]) hx hb dX12_goesOn_187 hl (k := 3) rfl (incN (by decide +kernel) x1534_e) (by decide) rfl (fun ls hl => ?_)
                  refine lv_goto (tgt := 19) hx hb dX12_goesOn_190 (by decide) ?_
                  exact ih3 x1534 f1078 _ _ _ (ms_up x1534_e j1080 (by decide) hM3) (iv_w x1534_h (by decide)) f1078_b hP hD hS (lv_sub hl [0, 4, 5, 6, 7] rfl)
                ·
                  have j1535 : Iv 0 0 x1525 := r_eq h1532 ik_0
                  refine lv_iload hx hb dX12_goesOn_131 (lv_at hl 2 rfl) ?_
                  refine lv_iload hx hb dX12_goesOn_133 (lv_at hl 0 rfl) ?_
                  refine lv_icmp_ne (tgt := 187) hx hb dX12_goesOn_135 (by decide) (fun h1536 => ?_) (fun h1536 => ?_)
                  ·
                    obtain ⟨x1537, x1537_e⟩ : ∃ z : Int32, z = x1077 + 1 := ⟨_, rfl⟩
                    have x1537_h : Iv 2 12 x1537 := iv_e x1537_e (iv_add j1080 ik_1 (by decide))
                    refine lv_iinc (v := x1537) (lv' := [(4, .int x1537), (7, .int 32), (6, .int x1525), (5, .int x1524), (3, .int x1), (0, .ref o1), (1, .int 6), (2, .int a2)]) hx hb dX12_goesOn_187 hl (k := 3) rfl (incN (by decide +kernel) x1537_e) (by decide) rfl (fun ls hl => ?_)
                    refine lv_goto (tgt := 19) hx hb dX12_goesOn_190 (by decide) ?_
                    exact ih3 x1537 f1078 _ _ _ (ms_up x1537_e j1080 (by decide) hM3) (iv_w x1537_h (by decide)) f1078_b hP hD hS (lv_sub hl [0, 4, 5, 6, 7] rfl)
                  ·
                    have j1538 : Iv 32 32 x1524 := r_eq h1536 ik_32
                    refine lv_iload_n hx hb dX12_goesOn_138 rfl (lv_at hl 6 rfl) ?_
                    refine lv_iload_n hx hb dX12_goesOn_139 rfl (lv_at hl 7 rfl) ?_
                    refine lv_iconst (v := 1) hx hb dX12_goesOn_140 (by decide) ?_
                    refine lv_isub hx hb dX12_goesOn_141 (lv_topi (fun x1539 x1539_e => ?_))
                    have x1539_h : Iv 7 11 x1539 := iv_e x1539_e (iv_sub j1531 ik_1 (by decide))
                    refine lv_icmp_ne (tgt := 159) hx hb dX12_goesOn_142 (by decide) (fun _ => ?_) (fun h9 => absurd h9 (d_ne ik_6 x1539_h (by decide)))
                    refine lv_aload_n hx hb dX12_goesOn_159 rfl (lv_at hl 5 rfl) ?_
                    refine va_get (D := (dC, dI)) (ci := 12) (v := .ref o11) (C := RX12) (T := TX12) (N := 29) hx hb hts iw_X12_goesOn_X12 hown hK hP 0 rfl rfl 6 (by decide) (hts (.fieldLink RX12 19 "HolelessHouseModel" "ring" "[I") hm_X12_goesOn_1) (fun _ h9 => h9) rfl dX12_goesOn_160 ?_
                    refine lv_iload_n hx hb dX12_goesOn_163 rfl (lv_at hl 6 rfl) ?_
                    refine lv_iload hx hb dX12_goesOn_164 (lv_at hl 3 rfl) ?_
                    refine k_iast hx hb hK hP hD hS 1 0 rfl rfl (vin_iv ik_6 (by decide)) dX12_goesOn_166 (fun f1540 H locs f1540_e hP hD hS => ?_)
                    have f1540_b : Bd 12 0 11 f1540 := bd_upd f1540_e f1078_b j1080 (by decide)
                    have hP : va_P (dC, dI) vwCl ([(o1, .inr (12, [.int v2, .ref o3, .int v5, .ref o6, .int v8, .ref o9, .ref o11, .int v13, .ref o14, .int v16, .ref o17, .int v19, .int v20, .int v21, .ref o22, .ref o24, .ref o26, .ref o28, .ref o30, .int v32, .ref o33, .ref o35, .ref o37, .int v39, .ref o40, .ref o42, .ref o44, .int v46, .ref o47])), (o11, .inl (cI, 12, .inl f1540)), (o6, .inl (cI, 12, .inl fw7))]) H := hP
                    have hD : va_D A ([(o1, .inr (12, [.int v2, .ref o3, .int v5, .ref o6, .int v8, .ref o9, .ref o11, .int v13, .ref o14, .int v16, .ref o17, .int v19, .int v20, .int v21, .ref o22, .ref o24, .ref o26, .ref o28, .ref o30, .int v32, .ref o33, .ref o35, .ref o37, .int v39, .ref o40, .ref o42, .ref o44, .int v46, .ref o47])), (o11, .inl (cI, 12, .inl f1540)), (o6, .inl (cI, 12, .inl fw7))]) := hD
                    refine lv_iload_n hx hb dX12_goesOn_167 rfl (lv_at hl 6 rfl) ?_
                    refine lv_iload_n hx hb dX12_goesOn_168 rfl (lv_at hl 7 rfl) ?_
                    refine lv_iconst (v := 1) hx hb dX12_goesOn_169 (by decide) ?_
                    refine lv_isub hx hb dX12_goesOn_170 (lv_topi (fun x1541 x1541_e => ?_))
                    have x1541_h : Iv 7 11 x1541 := iv_e x1541_e (iv_sub j1531 ik_1 (by decide))
                    refine lv_icmp_eq (tgt := 185) hx hb dX12_goesOn_171 (by decide) (fun h9 => absurd h9 (d_ne ik_6 x1541_h (by decide))) (fun _ => ?_)
                    refine lv_aload_n hx hb dX12_goesOn_174 rfl (lv_at hl 5 rfl) ?_
                    refine lv_iload_n hx hb dX12_goesOn_175 rfl (lv_at hl 6 rfl) ?_
                    refine lv_iconst (v := 1) hx hb dX12_goesOn_176 (by decide) ?_
                    refine lv_iadd hx hb dX12_goesOn_177 (tk_i (v := 7) (by decide +kernel) ?_)
                    refine lv_iload_n hx hb dX12_goesOn_178 rfl (lv_at hl 7 rfl) ?_
                    refine kc_i (D := (dC, dI)) (S := (Nat → Int32)) (wc := [(o1, .inr (12, [.int v2, .ref o3, .int v5, .ref o6, .int v8, .ref o9, .ref o11, .int v13, .ref o14, .int v16, .ref o17, .int v19, .int v20, .int v21, .ref o22, .ref o24, .ref o26, .ref o28, .ref o30, .int v32, .ref o33, .ref o35, .ref o37, .int v39, .ref o40, .ref o42, .ref o44, .int v46, .ref o47])), (o11, .inl (cI, 12, .inl f1540)), (o6, .inl (cI, 12, .inl fw7))]) (wr := []) (w1 := fun u => [(o1, .inr (12, [.int v2, .ref o3, .int v5, .ref o6, .int v8, .ref o9, .ref o11, .int v13, .ref o14, .int v16, .ref o17, .int v19, .int v20, .int v21, .ref o22, .ref o24, .ref o26, .ref o28, .ref o30, .int v32, .ref o33, .ref o35, .ref o37, .int v39, .ref o40, .ref o42, .ref o44, .int v46, .ref o47])), (o11, .inl (cI, 12, .inl u)), (o6, .inl (cI, 12, .inl fw7))]) (wn := fun u => [(o1, .inr (12, [.int v2, .ref o3, .int v5, .ref o6, .int v8, .ref o9, .ref o11, .int v13, .ref o14, .int v16, .ref o17, .int v19, .int v20, .int v21, .ref o22, .ref o24, .ref o26, .ref o28, .ref o30, .int v32, .ref o33, .ref o35, .ref o37, .int v39, .ref o40, .ref o42, .ref o44, .int v46, .ref o47])), (o11, .inl (cI, 12, .inl u)), (o6, .inl (cI, 12, .inl fw7))]) (fun hPc hDc => va_runV (As := [.int 7, .int a2]) (rest := []) ⟨hx, hb, hml, hown, hts⟩ (kX12_goesOn_5 l dC dI cI c2 cZ o1 o3 o6 o9 o11 o14 o17 o22 o24 o26 o28 o30 o33 o35 o37 o40 o42 o44 o47 v2 v5 fw7 v8 f1540 v13 v16 v19 v20 v21 v32 v39 v46 a2 H.size (iv_w j1081 (by decide)) fw7_b v8_h f1540_b v13_h v16_h v19_h v32_h v39_h v46_h j1531) (cwV 2 hts gX12_goesOn_X12_goesOn rfl rfl rfl (by decide +kernel) ⟨Nat.le_of_ble_eq_true rfl, Nat.le_of_ble_eq_true rfl⟩) (pre_V hPc hK hDc hN (ci := 12) (q0 := 0) rfl rfl) rfl rfl hl.1 rfl (lv_room (Nat.le_of_ble_eq_true rfl)) dX12_goesOn_179 ⟨Nat.le_of_ble_eq_true rfl, Nat.le_of_ble_eq_true rfl⟩) hP hD hS hA [0, 1, 2] [] [0, 1, 2] rfl rfl (by decide +kernel) (by decide +kernel) (by decide +kernel) (by decide +kernel) (fun _ => rfl) (fun x1543 f1542 H locs hq hP hD hS => ?_)
                    obtain ⟨x1543_h, f1542_b⟩ := hq
                    have hP : va_P (dC, dI) vwCl ([(o1, .inr (12, [.int v2, .ref o3, .int v5, .ref o6, .int v8, .ref o9, .ref o11, .int v13, .ref o14, .int v16, .ref o17, .int v19, .int v20, .int v21, .ref o22, .ref o24, .ref o26, .ref o28, .ref o30, .int v32, .ref o33, .ref o35, .ref o37, .int v39, .ref o40, .ref o42, .ref o44, .int v46, .ref o47])), (o11, .inl (cI, 12, .inl f1542)), (o6, .inl (cI, 12, .inl fw7))]) H := hP
                    have hD : va_D A ([(o1, .inr (12, [.int v2, .ref o3, .int v5, .ref o6, .int v8, .ref o9, .ref o11, .int v13, .ref o14, .int v16, .ref o17, .int v19, .int v20, .int v21, .ref o22, .ref o24, .ref o26, .ref o28, .ref o30, .int v32, .ref o33, .ref o35, .ref o37, .int v39, .ref o40, .ref o42, .ref o44, .int v46, .ref o47])), (o11, .inl (cI, 12, .inl f1542)), (o6, .inl (cI, 12, .inl fw7))]) := hD
                    refine lv_if_eq (tgt := 187) hx hb dX12_goesOn_182 (by decide) (fun h1544 => ?_) (fun h1544 => ?_)
                    ·
                      have j1545 : Iv 0 0 x1543 := r_eq h1544 ik_0
                      obtain ⟨x1546, x1546_e⟩ : ∃ z : Int32, z = x1077 + 1 := ⟨_, rfl⟩
                      have x1546_h : Iv 2 12 x1546 := iv_e x1546_e (iv_add j1080 ik_1 (by decide))
                      refine lv_iinc (v := x1546) (lv' := [(4, .int x1546), (7, .int 32), (6, .int x1525), (5, .int x1524), (3, .int x1), (0, .ref o1), (1, .int 6), (2, .int a2)]) hx hb dX12_goesOn_187 hl (k := 3) rfl (incN (by decide +kernel) x1546_e) (by decide) rfl (fun ls hl => ?_)
                      refine lv_goto (tgt := 19) hx hb dX12_goesOn_190 (by decide) ?_
                      exact ih3 x1546 f1542 _ _ _ (ms_up x1546_e j1080 (by decide) hM3) (iv_w x1546_h (by decide)) f1542_b hP hD hS (lv_sub hl [0, 4, 5, 6, 7] rfl)
                    ·
                      have j1547 : Iv 1 1 x1543 := r_nelo h1544 x1543_h ik_0 (by decide)
                      refine lv_iconst (v := 1) hx hb dX12_goesOn_185 (by decide) ?_
                      rw [hQ]
                      exact W.zret (v := 1) (ty := .boolean) hx hb hr rfl (fun t ht hW => ⟨⟨1, f1542, rfl, ⟨(iv_w ik_1 (by decide)), f1542_b⟩, by rw [ht]; exact hP, va_K.moved hW.alike hK, hD⟩, hS.F ht⟩) hS.2.2 dX12_goesOn_186
              ·
                have j1548 : Iv 6 6 x1528 := r_eq h1529.symm ik_6
                have j1549 : Iv 7 7 a2 := ivb_sub x1528_e a2_h ik_1 j1548 (by decide)
                refine lv_iconst (v := 1) hx hb dX12_goesOn_118 (by decide) ?_
                refine lv_goto (tgt := 123) hx hb dX12_goesOn_119 (by decide) ?_
                refine lv_ior hx hb dX12_goesOn_123 (tk_i (v := 33) (by decide +kernel) ?_)
                refine lv_istore (lv' := [(7, .int 33), (6, .int x1525), (5, .int x1524), (4, .int x1077), (3, .int x1), (0, .ref o1), (1, .int 6), (2, .int a2)]) hx hb dX12_goesOn_124 hl (by decide) rfl (fun ls hl => ?_)
                refine lv_iload hx hb dX12_goesOn_126 (lv_at hl 1 rfl) ?_
                refine lv_if_ne (tgt := 187) hx hb dX12_goesOn_128 (by decide) (fun h1550 => ?_) (fun h1550 => ?_)
                ·
                  have j1551 : Iv 1 1 x1525 := r_nelo h1550 x1525_h ik_0 (by decide)
                  obtain ⟨x1552, x1552_e⟩ : ∃ z : Int32, z = x1077 + 1 := ⟨_, rfl⟩
                  have x1552_h : Iv 2 12 x1552 := iv_e x1552_e (iv_add j1080 ik_1 (by decide))
                  refine lv_iinc (v := x1552) (lv' := [(4, .int x1552), (7, .int 33), (6, .int x1525), (5, .int x1524), (3, .int x1), (0, .ref o1), (1, .int 6), (2, .int a2)]) hx hb dX12_goesOn_187 hl (k := 3) rfl (incN (by decide +kernel) x1552_e) (by decide) rfl (fun ls hl => ?_)
                  refine lv_goto (tgt := 19) hx hb dX12_goesOn_190 (by decide) ?_
                  exact ih3 x1552 f1078 _ _ _ (ms_up x1552_e j1080 (by decide) hM3) (iv_w x1552_h (by decide)) f1078_b hP hD hS (lv_sub hl [0, 4, 5, 6, 7] rfl)
                ·
                  have j1553 : Iv 0 0 x1525 := r_eq h1550 ik_0
                  refine lv_iload hx hb dX12_goesOn_131 (lv_at hl 2 rfl) ?_
                  refine lv_iload hx hb dX12_goesOn_133 (lv_at hl 0 rfl) ?_
                  refine lv_icmp_ne (tgt := 187) hx hb dX12_goesOn_135 (by decide) (fun h1554 => ?_) (fun h1554 => ?_)
                  ·
                    obtain ⟨x1555, x1555_e⟩ : ∃ z : Int32, z = x1077 + 1 := ⟨_, rfl⟩
                    have x1555_h : Iv 2 12 x1555 := iv_e x1555_e (iv_add j1080 ik_1 (by decide))
                    refine lv_iinc (v := x1555) (lv' := [(4, .int x1555), (7, .int 33), (6, .int x1525), (5, .int x1524), (3, .int x1), (0, .ref o1), (1, .int 6), (2, .int a2)]) hx hb dX12_goesOn_187 hl (k := 3) rfl (incN (by decide +kernel) x1555_e) (by decide) rfl (fun ls hl => ?_)
                    refine lv_goto (tgt := 19) hx hb dX12_goesOn_190 (by decide) ?_
                    exact ih3 x1555 f1078 _ _ _ (ms_up x1555_e j1080 (by decide) hM3) (iv_w x1555_h (by decide)) f1078_b hP hD hS (lv_sub hl [0, 4, 5, 6, 7] rfl)
                  ·
                    have j1556 : Iv 33 33 x1524 := r_eq h1554 ik_33
                    refine lv_iload_n hx hb dX12_goesOn_138 rfl (lv_at hl 6 rfl) ?_
                    refine lv_iload_n hx hb dX12_goesOn_139 rfl (lv_at hl 7 rfl) ?_
                    refine lv_iconst (v := 1) hx hb dX12_goesOn_140 (by decide) ?_
                    refine lv_isub hx hb dX12_goesOn_141 (lv_topi (fun x1557 x1557_e => ?_))
                    have x1557_h : Iv 6 6 x1557 := iv_e x1557_e (iv_sub j1549 ik_1 (by decide))
                    refine lv_icmp_ne (tgt := 159) hx hb dX12_goesOn_142 (by decide) (fun h9 => absurd (d_eq ik_6 x1557_h) h9) (fun _ => ?_)
                    refine lv_iload hx hb dX12_goesOn_145 (lv_at hl 3 rfl) ?_
                    refine lv_aload_n hx hb dX12_goesOn_147 rfl (lv_at hl 5 rfl) ?_
                    refine va_get (D := (dC, dI)) (ci := 12) (v := .ref o11) (C := RX12) (T := TX12) (N := 29) hx hb hts iw_X12_goesOn_X12 hown hK hP 0 rfl rfl 6 (by decide) (hts (.fieldLink RX12 19 "HolelessHouseModel" "ring" "[I") hm_X12_goesOn_1) (fun _ h9 => h9) rfl dX12_goesOn_148 ?_
                    refine lv_iconst (v := 1) hx hb dX12_goesOn_151 (by decide) ?_
                    refine va_iald hx hb hK hP 1 0 rfl rfl (vin_iv ik_1 (by decide)) dX12_goesOn_152 (lv_topi (fun x1558 x1558_e => ?_))
                    have x1558_h : Iv 0 11 x1558 := iv_e x1558_e (bd_at f1078_b (vin_iv ik_1 (by decide)))
                    refine lv_icmp_ge (tgt := 159) hx hb dX12_goesOn_153 (by decide) (fun h1559 => ?_) (fun h1559 => ?_)
                    ·
                      have qh1559 := le_i h1559
                      refine lv_aload_n hx hb dX12_goesOn_159 rfl (lv_at hl 5 rfl) ?_
                      refine va_get (D := (dC, dI)) (ci := 12) (v := .ref o11) (C := RX12) (T := TX12) (N := 29) hx hb hts iw_X12_goesOn_X12 hown hK hP 0 rfl rfl 6 (by decide) (hts (.fieldLink RX12 19 "HolelessHouseModel" "ring" "[I") hm_X12_goesOn_1) (fun _ h9 => h9) rfl dX12_goesOn_160 ?_
                      refine lv_iload_n hx hb dX12_goesOn_163 rfl (lv_at hl 6 rfl) ?_
                      refine lv_iload hx hb dX12_goesOn_164 (lv_at hl 3 rfl) ?_
                      refine k_iast hx hb hK hP hD hS 1 0 rfl rfl (vin_iv ik_6 (by decide)) dX12_goesOn_166 (fun f1560 H locs f1560_e hP hD hS => ?_)
                      have f1560_b : Bd 12 0 11 f1560 := bd_upd f1560_e f1078_b j1080 (by decide)
                      have hP : va_P (dC, dI) vwCl ([(o1, .inr (12, [.int v2, .ref o3, .int v5, .ref o6, .int v8, .ref o9, .ref o11, .int v13, .ref o14, .int v16, .ref o17, .int v19, .int v20, .int v21, .ref o22, .ref o24, .ref o26, .ref o28, .ref o30, .int v32, .ref o33, .ref o35, .ref o37, .int v39, .ref o40, .ref o42, .ref o44, .int v46, .ref o47])), (o11, .inl (cI, 12, .inl f1560)), (o6, .inl (cI, 12, .inl fw7))]) H := hP
                      have hD : va_D A ([(o1, .inr (12, [.int v2, .ref o3, .int v5, .ref o6, .int v8, .ref o9, .ref o11, .int v13, .ref o14, .int v16, .ref o17, .int v19, .int v20, .int v21, .ref o22, .ref o24, .ref o26, .ref o28, .ref o30, .int v32, .ref o33, .ref o35, .ref o37, .int v39, .ref o40, .ref o42, .ref o44, .int v46, .ref o47])), (o11, .inl (cI, 12, .inl f1560)), (o6, .inl (cI, 12, .inl fw7))]) := hD
                      refine lv_iload_n hx hb dX12_goesOn_167 rfl (lv_at hl 6 rfl) ?_
                      refine lv_iload_n hx hb dX12_goesOn_168 rfl (lv_at hl 7 rfl) ?_
                      refine lv_iconst (v := 1) hx hb dX12_goesOn_169 (by decide) ?_
                      refine lv_isub hx hb dX12_goesOn_170 (lv_topi (fun x1561 x1561_e => ?_))
                      have x1561_h : Iv 6 6 x1561 := iv_e x1561_e (iv_sub j1549 ik_1 (by decide))
                      refine lv_icmp_eq (tgt := 185) hx hb dX12_goesOn_171 (by decide) (fun _ => ?_) (fun h9 => absurd (d_eq ik_6 x1561_h) h9)
                      refine lv_iconst (v := 1) hx hb dX12_goesOn_185 (by decide) ?_
                      rw [hQ]
                      exact W.zret (v := 1) (ty := .boolean) hx hb hr rfl (fun t ht hW => ⟨⟨1, f1560, rfl, ⟨(iv_w ik_1 (by decide)), f1560_b⟩, by rw [ht]; exact hP, va_K.moved hW.alike hK, hD⟩, hS.F ht⟩) hS.2.2 dX12_goesOn_186
                    ·
                      have qh1559 := nle_i h1559
                      have j1562 : Iv 1 10 x1077 := r_ltl qh1559 j1080 x1558_h (by decide)
                      have j1563 : Iv 2 11 x1558 := r_ltr qh1559 j1080 x1558_h (by decide)
                      refine lv_goto (tgt := 187) hx hb dX12_goesOn_156 (by decide) ?_
                      obtain ⟨x1564, x1564_e⟩ : ∃ z : Int32, z = x1077 + 1 := ⟨_, rfl⟩
                      have x1564_h : Iv 2 11 x1564 := iv_e x1564_e (iv_add j1562 ik_1 (by decide))
                      refine lv_iinc (v := x1564) (lv' := [(4, .int x1564), (7, .int 33), (6, .int x1525), (5, .int x1524), (3, .int x1), (0, .ref o1), (1, .int 6), (2, .int a2)]) hx hb dX12_goesOn_187 hl (k := 3) rfl (incN (by decide +kernel) x1564_e) (by decide) rfl (fun ls hl => ?_)
                      refine lv_goto (tgt := 19) hx hb dX12_goesOn_190 (by decide) ?_
                      exact ih3 x1564 f1078 _ _ _ (ms_up x1564_e j1562 (by decide) hM3) (iv_w x1564_h (by decide)) f1078_b hP hD hS (lv_sub hl [0, 4, 5, 6, 7] rfl)
            ·
              have qh1526 := nle_i h1526
              have j1565 : Iv 0 5 x1523 := r_ltl qh1526 x1523_h ik_6 (by decide)
              refine lv_iload hx hb dX12_goesOn_43 (lv_at hl 1 rfl) ?_
              refine lv_if_ne (tgt := 60) hx hb dX12_goesOn_45 (by decide) (fun h1566 => ?_) (fun h1566 => ?_)
              ·
                have j1567 : Iv 1 1 x1525 := r_nelo h1566 x1525_h ik_0 (by decide)
                refine lv_iconst (v := 1) hx hb dX12_goesOn_60 (by decide) ?_
                refine lv_goto (tgt := 65) hx hb dX12_goesOn_61 (by decide) ?_
                refine lv_istore (lv' := [(6, .int 1), (7, .int x1523), (5, .int x1524), (4, .int x1077), (3, .int x1), (0, .ref o1), (1, .int 6), (2, .int a2)]) hx hb dX12_goesOn_65 hl (by decide) rfl (fun ls hl => ?_)
                refine lv_iload hx hb dX12_goesOn_67 (lv_at hl 2 rfl) ?_
                refine lv_aload_n hx hb dX12_goesOn_69 rfl (lv_at hl 5 rfl) ?_
                refine va_get (D := (dC, dI)) (ci := 12) (v := .ref o6) (C := RX12) (T := TX12) (N := 29) hx hb hts iw_X12_goesOn_X12 hown hK hP 0 rfl rfl 3 (by decide) (hts (.fieldLink RX12 13 "HolelessHouseModel" "near" "[I") hm_X12_goesOn_3) (fun _ h9 => h9) rfl dX12_goesOn_70 ?_
                refine lv_iload hx hb dX12_goesOn_73 (lv_at hl 3 rfl) ?_
                refine va_iald hx hb hK hP 2 0 rfl rfl (vin_iv j1080 (by decide)) dX12_goesOn_75 (lv_topi (fun x1568 x1568_e => ?_))
                have x1568_h : Iv 0 4095 x1568 := iv_e x1568_e (bd_at fw7_b (vin_iv j1080 (by decide)))
                refine lv_aload_n hx hb dX12_goesOn_76 rfl (lv_at hl 5 rfl) ?_
                refine va_get (D := (dC, dI)) (ci := 12) (v := .ref o11) (C := RX12) (T := TX12) (N := 29) hx hb hts iw_X12_goesOn_X12 hown hK hP 0 rfl rfl 6 (by decide) (hts (.fieldLink RX12 19 "HolelessHouseModel" "ring" "[I") hm_X12_goesOn_1) (fun _ h9 => h9) rfl dX12_goesOn_77 ?_
                refine lv_iload hx hb dX12_goesOn_80 (lv_at hl 1 rfl) ?_
                refine va_iald hx hb hK hP 1 0 rfl rfl (vin_iv j1565 (by decide)) dX12_goesOn_82 (lv_topi (fun x1569 x1569_e => ?_))
                have x1569_h : Iv 0 11 x1569 := iv_e x1569_e (bd_at f1078_b (vin_iv j1565 (by decide)))
                refine kc_i (D := (dC, dI)) (S := Unit) (wc := []) (wr := [(o1, .inr (12, [.int v2, .ref o3, .int v5, .ref o6, .int v8, .ref o9, .ref o11, .int v13, .ref o14, .int v16, .ref o17, .int v19, .int v20, .int v21, .ref o22, .ref o24, .ref o26, .ref o28, .ref o30, .int v32, .ref o33, .ref o35, .ref o37, .int v39, .ref o40, .ref o42, .ref o44, .int v46, .ref o47])), (o11, .inl (cI, 12, .inl f1078)), (o6, .inl (cI, 12, .inl fw7))]) (w1 := fun _ => []) (wn := fun _ => [(o1, .inr (12, [.int v2, .ref o3, .int v5, .ref o6, .int v8, .ref o9, .ref o11, .int v13, .ref o14, .int v16, .ref o17, .int v19, .int v20, .int v21, .ref o22, .ref o24, .ref o26, .ref o28, .ref o30, .int v32, .ref o33, .ref o35, .ref o37, .int v39, .ref o40, .ref o42, .ref o44, .int v46, .ref o47])), (o11, .inl (cI, 12, .inl f1078)), (o6, .inl (cI, 12, .inl fw7))]) (fun hPc hDc => va_runS (As := [.int x1568, .int x1569]) (rest := [.int x1524]) ⟨hx, hb, hml, hown, hts⟩ (kX12_has_1 l dC dI cI c2 cZ x1568 x1569 H.size (iv_w x1569_h (by decide))) (va_cwS 2 hts gX12_goesOn_X12_has rfl rfl rfl (by decide +kernel) ⟨Nat.le_of_ble_eq_true rfl, Nat.le_of_ble_eq_true rfl⟩) (pre_S hPc hK hDc hN) rfl rfl hl.1 rfl (lv_room (Nat.le_of_ble_eq_true rfl)) dX12_goesOn_83 ⟨Nat.le_of_ble_eq_true rfl, Nat.le_of_ble_eq_true rfl⟩) hP hD hS hA [] [0, 1, 2] [0, 1, 2] rfl rfl (by decide +kernel) (by decide +kernel) (by decide +kernel) (by decide +kernel) (fun _ => rfl) (fun x1570 _ H locs hq hP hD hS => ?_)
                obtain ⟨x1570_h, e1571⟩ := hq
                have hP : va_P (dC, dI) vwCl ([(o1, .inr (12, [.int v2, .ref o3, .int v5, .ref o6, .int v8, .ref o9, .ref o11, .int v13, .ref o14, .int v16, .ref o17, .int v19, .int v20, .int v21, .ref o22, .ref o24, .ref o26, .ref o28, .ref o30, .int v32, .ref o33, .ref o35, .ref o37, .int v39, .ref o40, .ref o42, .ref o44, .int v46, .ref o47])), (o11, .inl (cI, 12, .inl f1078)), (o6, .inl (cI, 12, .inl fw7))]) H := hP
                have hD : va_D A ([(o1, .inr (12, [.int v2, .ref o3, .int v5, .ref o6, .int v8, .ref o9, .ref o11, .int v13, .ref o14, .int v16, .ref o17, .int v19, .int v20, .int v21, .ref o22, .ref o24, .ref o26, .ref o28, .ref o30, .int v32, .ref o33, .ref o35, .ref o37, .int v39, .ref o40, .ref o42, .ref o44, .int v46, .ref o47])), (o11, .inl (cI, 12, .inl f1078)), (o6, .inl (cI, 12, .inl fw7))]) := hD
                refine lv_if_eq (tgt := 96) hx hb dX12_goesOn_86 (by decide) (fun h1572 => ?_) (fun h1572 => ?_)
                ·
                  have j1573 : Iv 0 0 x1570 := r_eq h1572 ik_0
                  have b1574 : bt x1568 (Int32.toNatClampNeg x1569) = false := has_f e1571 h1572
                  refine lv_iconst (v := 0) hx hb dX12_goesOn_96 (by decide) ?_
                  refine lv_ior hx hb dX12_goesOn_97 (lv_topi (fun x1575 x1575_e => ?_))
                  have x1575_h : Iv 0 255 x1575 := iv_e x1575_e (iv_or 8 x1524_h ik_0 (by decide))
                  refine lv_istore (lv' := [(5, .int x1575), (6, .int 1), (7, .int x1523), (4, .int x1077), (3, .int x1), (0, .ref o1), (1, .int 6), (2, .int a2)]) hx hb dX12_goesOn_98 hl (by decide) rfl (fun ls hl => ?_)
                  obtain ⟨x1576, x1576_e⟩ : ∃ z : Int32, z = x1523 + 1 := ⟨_, rfl⟩
                  have x1576_h : Iv 1 6 x1576 := iv_e x1576_e (iv_add j1565 ik_1 (by decide))
                  refine lv_iinc (v := x1576) (lv' := [(7, .int x1576), (5, .int x1575), (6, .int 1), (4, .int x1077), (3, .int x1), (0, .ref o1), (1, .int 6), (2, .int a2)]) hx hb dX12_goesOn_100 hl (k := 2) rfl (incN (by decide +kernel) x1576_e) (by decide) rfl (fun ls hl => ?_)
                  refine lv_goto (tgt := 37) hx hb dX12_goesOn_103 (by decide) ?_
                  exact ih4 x1576 x1575 1 _ _ _ (ms_up x1576_e j1565 (by decide) hM4) (iv_w x1576_h (by decide)) x1575_h (iv_w ik_1 (by decide)) hP hD hS (lv_sub hl [0, 2, 1, 3, 4, 5, 6, 7] rfl)
                ·
                  have j1577 : Iv 1 1 x1570 := r_nelo h1572 x1570_h ik_0 (by decide)
                  have b1578 : bt x1568 (Int32.toNatClampNeg x1569) = true := has_t e1571 h1572
                  refine lv_iconst (v := 1) hx hb dX12_goesOn_89 (by decide) ?_
                  refine lv_iload hx hb dX12_goesOn_90 (lv_at hl 1 rfl) ?_
                  refine lv_ishl hx hb dX12_goesOn_92 (lv_topi (fun x1579 x1579_e => ?_))
                  have x1579_h : Iv 1 32 x1579 := iv_e x1579_e (iv_shl1 j1565 (by decide))
                  refine lv_goto (tgt := 97) hx hb dX12_goesOn_93 (by decide) ?_
                  refine lv_ior hx hb dX12_goesOn_97 (lv_topi (fun x1580 x1580_e => ?_))
                  have x1580_h : Iv 0 255 x1580 := iv_e x1580_e (iv_or 8 x1524_h x1579_h (by decide))
                  refine lv_istore (lv' := [(5, .int x1580), (6, .int 1), (7, .int x1523), (4, .int x1077), (3, .int x1), (0, .ref o1), (1, .int 6), (2, .int a2)]) hx hb dX12_goesOn_98 hl (by decide) rfl (fun ls hl => ?_)
                  obtain ⟨x1581, x1581_e⟩ : ∃ z : Int32, z = x1523 + 1 := ⟨_, rfl⟩
                  have x1581_h : Iv 1 6 x1581 := iv_e x1581_e (iv_add j1565 ik_1 (by decide))
                  refine lv_iinc (v := x1581) (lv' := [(7, .int x1581), (5, .int x1580), (6, .int 1), (4, .int x1077), (3, .int x1), (0, .ref o1), (1, .int 6), (2, .int a2)]) hx hb dX12_goesOn_100 hl (k := 2) rfl (incN (by decide +kernel) x1581_e) (by decide) rfl (fun ls hl => ?_)
                  refine lv_goto (tgt := 37) hx hb dX12_goesOn_103 (by decide) ?_
                  exact ih4 x1581 x1580 1 _ _ _ (ms_up x1581_e j1565 (by decide) hM4) (iv_w x1581_h (by decide)) x1580_h (iv_w ik_1 (by decide)) hP hD hS (lv_sub hl [0, 2, 1, 3, 4, 5, 6, 7] rfl)
              ·
                have j1582 : Iv 0 0 x1525 := r_eq h1566 ik_0
                refine lv_aload_n hx hb dX12_goesOn_48 rfl (lv_at hl 5 rfl) ?_
                refine va_get (D := (dC, dI)) (ci := 12) (v := .ref o11) (C := RX12) (T := TX12) (N := 29) hx hb hts iw_X12_goesOn_X12 hown hK hP 0 rfl rfl 6 (by decide) (hts (.fieldLink RX12 19 "HolelessHouseModel" "ring" "[I") hm_X12_goesOn_1) (fun _ h9 => h9) rfl dX12_goesOn_49 ?_
                refine lv_iload hx hb dX12_goesOn_52 (lv_at hl 0 rfl) ?_
                refine va_iald hx hb hK hP 1 0 rfl rfl (vin_iv j1565 (by decide)) dX12_goesOn_54 (lv_topi (fun x1583 x1583_e => ?_))
                have x1583_h : Iv 0 11 x1583 := iv_e x1583_e (bd_at f1078_b (vin_iv j1565 (by decide)))
                refine lv_iload hx hb dX12_goesOn_55 (lv_at hl 3 rfl) ?_
                refine lv_icmp_ne (tgt := 64) hx hb dX12_goesOn_57 (by decide) (fun h1584 => ?_) (fun h1584 => ?_)
                ·
                  refine lv_iconst (v := 0) hx hb dX12_goesOn_64 (by decide) ?_
                  refine lv_istore (lv' := [(6, .int 0), (7, .int x1523), (5, .int x1524), (4, .int x1077), (3, .int x1), (0, .ref o1), (1, .int 6), (2, .int a2)]) hx hb dX12_goesOn_65 hl (by decide) rfl (fun ls hl => ?_)
                  refine lv_iload hx hb dX12_goesOn_67 (lv_at hl 2 rfl) ?_
                  refine lv_aload_n hx hb dX12_goesOn_69 rfl (lv_at hl 5 rfl) ?_
                  refine va_get (D := (dC, dI)) (ci := 12) (v := .ref o6) (C := RX12) (T := TX12) (N := 29) hx hb hts iw_X12_goesOn_X12 hown hK hP 0 rfl rfl 3 (by decide) (hts (.fieldLink RX12 13 "HolelessHouseModel" "near" "[I") hm_X12_goesOn_3) (fun _ h9 => h9) rfl dX12_goesOn_70 ?_
                  refine lv_iload hx hb dX12_goesOn_73 (lv_at hl 3 rfl) ?_
                  refine va_iald hx hb hK hP 2 0 rfl rfl (vin_iv j1080 (by decide)) dX12_goesOn_75 (lv_topi (fun x1585 x1585_e => ?_))
                  have x1585_h : Iv 0 4095 x1585 := iv_e x1585_e (bd_at fw7_b (vin_iv j1080 (by decide)))
                  refine lv_aload_n hx hb dX12_goesOn_76 rfl (lv_at hl 5 rfl) ?_
                  refine va_get (D := (dC, dI)) (ci := 12) (v := .ref o11) (C := RX12) (T := TX12) (N := 29) hx hb hts iw_X12_goesOn_X12 hown hK hP 0 rfl rfl 6 (by decide) (hts (.fieldLink RX12 19 "HolelessHouseModel" "ring" "[I") hm_X12_goesOn_1) (fun _ h9 => h9) rfl dX12_goesOn_77 ?_
                  refine lv_iload hx hb dX12_goesOn_80 (lv_at hl 1 rfl) ?_
                  refine va_iald hx hb hK hP 1 0 rfl rfl (vin_iv j1565 (by decide)) dX12_goesOn_82 (lv_topi (fun x1586 x1586_e => ?_))
                  have x1586_h : Iv 0 11 x1586 := iv_e x1586_e (bd_at f1078_b (vin_iv j1565 (by decide)))
                  refine kc_i (D := (dC, dI)) (S := Unit) (wc := []) (wr := [(o1, .inr (12, [.int v2, .ref o3, .int v5, .ref o6, .int v8, .ref o9, .ref o11, .int v13, .ref o14, .int v16, .ref o17, .int v19, .int v20, .int v21, .ref o22, .ref o24, .ref o26, .ref o28, .ref o30, .int v32, .ref o33, .ref o35, .ref o37, .int v39, .ref o40, .ref o42, .ref o44, .int v46, .ref o47])), (o11, .inl (cI, 12, .inl f1078)), (o6, .inl (cI, 12, .inl fw7))]) (w1 := fun _ => []) (wn := fun _ => [(o1, .inr (12, [.int v2, .ref o3, .int v5, .ref o6, .int v8, .ref o9, .ref o11, .int v13, .ref o14, .int v16, .ref o17, .int v19, .int v20, .int v21, .ref o22, .ref o24, .ref o26, .ref o28, .ref o30, .int v32, .ref o33, .ref o35, .ref o37, .int v39, .ref o40, .ref o42, .ref o44, .int v46, .ref o47])), (o11, .inl (cI, 12, .inl f1078)), (o6, .inl (cI, 12, .inl fw7))]) (fun hPc hDc => va_runS (As := [.int x1585, .int x1586]) (rest := [.int x1524]) ⟨hx, hb, hml, hown, hts⟩ (kX12_has_1 l dC dI cI c2 cZ x1585 x1586 H.size (iv_w x1586_h (by decide))) (va_cwS 2 hts gX12_goesOn_X12_has rfl rfl rfl (by decide +kernel) ⟨Nat.le_of_ble_eq_true rfl, Nat.le_of_ble_eq_true rfl⟩) (pre_S hPc hK hDc hN) rfl rfl hl.1 rfl (lv_room (Nat.le_of_ble_eq_true rfl)) dX12_goesOn_83 ⟨Nat.le_of_ble_eq_true rfl, Nat.le_of_ble_eq_true rfl⟩) hP hD hS hA [] [0, 1, 2] [0, 1, 2] rfl rfl (by decide +kernel) (by decide +kernel) (by decide +kernel) (by decide +kernel) (fun _ => rfl) (fun x1587 _ H locs hq hP hD hS => ?_)
                  obtain ⟨x1587_h, e1588⟩ := hq
                  have hP : va_P (dC, dI) vwCl ([(o1, .inr (12, [.int v2, .ref o3, .int v5, .ref o6, .int v8, .ref o9, .ref o11, .int v13, .ref o14, .int v16, .ref o17, .int v19, .int v20, .int v21, .ref o22, .ref o24, .ref o26, .ref o28, .ref o30, .int v32, .ref o33, .ref o35, .ref o37, .int v39, .ref o40, .ref o42, .ref o44, .int v46, .ref o47])), (o11, .inl (cI, 12, .inl f1078)), (o6, .inl (cI, 12, .inl fw7))]) H := hP
                  have hD : va_D A ([(o1, .inr (12, [.int v2, .ref o3, .int v5, .ref o6, .int v8, .ref o9, .ref o11, .int v13, .ref o14, .int v16, .ref o17, .int v19, .int v20, .int v21, .ref o22, .ref o24, .ref o26, .ref o28, .ref o30, .int v32, .ref o33, .ref o35, .ref o37, .int v39, .ref o40, .ref o42, .ref o44, .int v46, .ref o47])), (o11, .inl (cI, 12, .inl f1078)), (o6, .inl (cI, 12, .inl fw7))]) := hD
                  refine lv_if_eq (tgt := 96) hx hb dX12_goesOn_86 (by decide) (fun h1589 => ?_) (fun h1589 => ?_)
                  ·
                    have j1590 : Iv 0 0 x1587 := r_eq h1589 ik_0
                    have b1591 : bt x1585 (Int32.toNatClampNeg x1586) = false := has_f e1588 h1589
                    refine lv_iconst (v := 0) hx hb dX12_goesOn_96 (by decide) ?_
                    refine lv_ior hx hb dX12_goesOn_97 (lv_topi (fun x1592 x1592_e => ?_))
                    have x1592_h : Iv 0 255 x1592 := iv_e x1592_e (iv_or 8 x1524_h ik_0 (by decide))
                    refine lv_istore (lv' := [(5, .int x1592), (6, .int 0), (7, .int x1523), (4, .int x1077), (3, .int x1), (0, .ref o1), (1, .int 6), (2, .int a2)]) hx hb dX12_goesOn_98 hl (by decide) rfl (fun ls hl => ?_)
                    obtain ⟨x1593, x1593_e⟩ : ∃ z : Int32, z = x1523 + 1 := ⟨_, rfl⟩
                    have x1593_h : Iv 1 6 x1593 := iv_e x1593_e (iv_add j1565 ik_1 (by decide))
                    refine lv_iinc (v := x1593) (lv' := [(7, .int x1593), (5, .int x1592), (6, .int 0), (4, .int x1077), (3, .int x1), (0, .ref o1), (1, .int 6), (2, .int a2)]) hx hb dX12_goesOn_100 hl (k := 2) rfl (incN (by decide +kernel) x1593_e) (by decide) rfl (fun ls hl => ?_)
                    refine lv_goto (tgt := 37) hx hb dX12_goesOn_103 (by decide) ?_
                    exact ih4 x1593 x1592 0 _ _ _ (ms_up x1593_e j1565 (by decide) hM4) (iv_w x1593_h (by decide)) x1592_h (iv_w ik_0 (by decide)) hP hD hS (lv_sub hl [0, 2, 1, 3, 4, 5, 6, 7] rfl)
                  ·
                    have j1594 : Iv 1 1 x1587 := r_nelo h1589 x1587_h ik_0 (by decide)
                    have b1595 : bt x1585 (Int32.toNatClampNeg x1586) = true := has_t e1588 h1589
                    refine lv_iconst (v := 1) hx hb dX12_goesOn_89 (by decide) ?_
                    refine lv_iload hx hb dX12_goesOn_90 (lv_at hl 1 rfl) ?_
                    refine lv_ishl hx hb dX12_goesOn_92 (lv_topi (fun x1596 x1596_e => ?_))
                    have x1596_h : Iv 1 32 x1596 := iv_e x1596_e (iv_shl1 j1565 (by decide))
                    refine lv_goto (tgt := 97) hx hb dX12_goesOn_93 (by decide) ?_
                    refine lv_ior hx hb dX12_goesOn_97 (lv_topi (fun x1597 x1597_e => ?_))
                    have x1597_h : Iv 0 255 x1597 := iv_e x1597_e (iv_or 8 x1524_h x1596_h (by decide))
                    refine lv_istore (lv' := [(5, .int x1597), (6, .int 0), (7, .int x1523), (4, .int x1077), (3, .int x1), (0, .ref o1), (1, .int 6), (2, .int a2)]) hx hb dX12_goesOn_98 hl (by decide) rfl (fun ls hl => ?_)
                    obtain ⟨x1598, x1598_e⟩ : ∃ z : Int32, z = x1523 + 1 := ⟨_, rfl⟩
                    have x1598_h : Iv 1 6 x1598 := iv_e x1598_e (iv_add j1565 ik_1 (by decide))
                    refine lv_iinc (v := x1598) (lv' := [(7, .int x1598), (5, .int x1597), (6, .int 0), (4, .int x1077), (3, .int x1), (0, .ref o1), (1, .int 6), (2, .int a2)]) hx hb dX12_goesOn_100 hl (k := 2) rfl (incN (by decide +kernel) x1598_e) (by decide) rfl (fun ls hl => ?_)
                    refine lv_goto (tgt := 37) hx hb dX12_goesOn_103 (by decide) ?_
                    exact ih4 x1598 x1597 0 _ _ _ (ms_up x1598_e j1565 (by decide) hM4) (iv_w x1598_h (by decide)) x1597_h (iv_w ik_0 (by decide)) hP hD hS (lv_sub hl [0, 2, 1, 3, 4, 5, 6, 7] rfl)
                ·
                  have j1599 : Iv 1 11 x1583 := r_eq h1584 j1080
                  refine lv_iconst (v := 1) hx hb dX12_goesOn_60 (by decide) ?_
                  refine lv_goto (tgt := 65) hx hb dX12_goesOn_61 (by decide) ?_
                  refine lv_istore (lv' := [(6, .int 1), (7, .int x1523), (5, .int x1524), (4, .int x1077), (3, .int x1), (0, .ref o1), (1, .int 6), (2, .int a2)]) hx hb dX12_goesOn_65 hl (by decide) rfl (fun ls hl => ?_)
                  refine lv_iload hx hb dX12_goesOn_67 (lv_at hl 2 rfl) ?_
                  refine lv_aload_n hx hb dX12_goesOn_69 rfl (lv_at hl 5 rfl) ?_
                  refine va_get (D := (dC, dI)) (ci := 12) (v := .ref o6) (C := RX12) (T := TX12) (N := 29) hx hb hts iw_X12_goesOn_X12 hown hK hP 0 rfl rfl 3 (by decide) (hts (.fieldLink RX12 13 "HolelessHouseModel" "near" "[I") hm_X12_goesOn_3) (fun _ h9 => h9) rfl dX12_goesOn_70 ?_
                  refine lv_iload hx hb dX12_goesOn_73 (lv_at hl 3 rfl) ?_
                  refine va_iald hx hb hK hP 2 0 rfl rfl (vin_iv j1080 (by decide)) dX12_goesOn_75 (lv_topi (fun x1600 x1600_e => ?_))
                  have x1600_h : Iv 0 4095 x1600 := iv_e x1600_e (bd_at fw7_b (vin_iv j1080 (by decide)))
                  refine lv_aload_n hx hb dX12_goesOn_76 rfl (lv_at hl 5 rfl) ?_
                  refine va_get (D := (dC, dI)) (ci := 12) (v := .ref o11) (C := RX12) (T := TX12) (N := 29) hx hb hts iw_X12_goesOn_X12 hown hK hP 0 rfl rfl 6 (by decide) (hts (.fieldLink RX12 19 "HolelessHouseModel" "ring" "[I") hm_X12_goesOn_1) (fun _ h9 => h9) rfl dX12_goesOn_77 ?_
                  refine lv_iload hx hb dX12_goesOn_80 (lv_at hl 1 rfl) ?_
                  refine va_iald hx hb hK hP 1 0 rfl rfl (vin_iv j1565 (by decide)) dX12_goesOn_82 (lv_topi (fun x1601 x1601_e => ?_))
                  have x1601_h : Iv 1 11 x1601 := iv_e (x1601_e.trans x1583_e.symm) j1599
                  refine kc_i (D := (dC, dI)) (S := Unit) (wc := []) (wr := [(o1, .inr (12, [.int v2, .ref o3, .int v5, .ref o6, .int v8, .ref o9, .ref o11, .int v13, .ref o14, .int v16, .ref o17, .int v19, .int v20, .int v21, .ref o22, .ref o24, .ref o26, .ref o28, .ref o30, .int v32, .ref o33, .ref o35, .ref o37, .int v39, .ref o40, .ref o42, .ref o44, .int v46, .ref o47])), (o11, .inl (cI, 12, .inl f1078)), (o6, .inl (cI, 12, .inl fw7))]) (w1 := fun _ => []) (wn := fun _ => [(o1, .inr (12, [.int v2, .ref o3, .int v5, .ref o6, .int v8, .ref o9, .ref o11, .int v13, .ref o14, .int v16, .ref o17, .int v19, .int v20, .int v21, .ref o22, .ref o24, .ref o26, .ref o28, .ref o30, .int v32, .ref o33, .ref o35, .ref o37, .int v39, .ref o40, .ref o42, .ref o44, .int v46, .ref o47])), (o11, .inl (cI, 12, .inl f1078)), (o6, .inl (cI, 12, .inl fw7))]) (fun hPc hDc => va_runS (As := [.int x1600, .int x1601]) (rest := [.int x1524]) ⟨hx, hb, hml, hown, hts⟩ (kX12_has_1 l dC dI cI c2 cZ x1600 x1601 H.size (iv_w x1601_h (by decide))) (va_cwS 2 hts gX12_goesOn_X12_has rfl rfl rfl (by decide +kernel) ⟨Nat.le_of_ble_eq_true rfl, Nat.le_of_ble_eq_true rfl⟩) (pre_S hPc hK hDc hN) rfl rfl hl.1 rfl (lv_room (Nat.le_of_ble_eq_true rfl)) dX12_goesOn_83 ⟨Nat.le_of_ble_eq_true rfl, Nat.le_of_ble_eq_true rfl⟩) hP hD hS hA [] [0, 1, 2] [0, 1, 2] rfl rfl (by decide +kernel) (by decide +kernel) (by decide +kernel) (by decide +kernel) (fun _ => rfl) (fun x1602 _ H locs hq hP hD hS => ?_)
                  obtain ⟨x1602_h, e1603⟩ := hq
                  have hP : va_P (dC, dI) vwCl ([(o1, .inr (12, [.int v2, .ref o3, .int v5, .ref o6, .int v8, .ref o9, .ref o11, .int v13, .ref o14, .int v16, .ref o17, .int v19, .int v20, .int v21, .ref o22, .ref o24, .ref o26, .ref o28, .ref o30, .int v32, .ref o33, .ref o35, .ref o37, .int v39, .ref o40, .ref o42, .ref o44, .int v46, .ref o47])), (o11, .inl (cI, 12, .inl f1078)), (o6, .inl (cI, 12, .inl fw7))]) H := hP
                  have hD : va_D A ([(o1, .inr (12, [.int v2, .ref o3, .int v5, .ref o6, .int v8, .ref o9, .ref o11, .int v13, .ref o14, .int v16, .ref o17, .int v19, .int v20, .int v21, .ref o22, .ref o24, .ref o26, .ref o28, .ref o30, .int v32, .ref o33, .ref o35, .ref o37, .int v39, .ref o40, .ref o42, .ref o44, .int v46, .ref o47])), (o11, .inl (cI, 12, .inl f1078)), (o6, .inl (cI, 12, .inl fw7))]) := hD
                  refine lv_if_eq (tgt := 96) hx hb dX12_goesOn_86 (by decide) (fun h1604 => ?_) (fun h1604 => ?_)
                  ·
                    have j1605 : Iv 0 0 x1602 := r_eq h1604 ik_0
                    have b1606 : bt x1600 (Int32.toNatClampNeg x1601) = false := has_f e1603 h1604
                    refine lv_iconst (v := 0) hx hb dX12_goesOn_96 (by decide) ?_
                    refine lv_ior hx hb dX12_goesOn_97 (lv_topi (fun x1607 x1607_e => ?_))
                    have x1607_h : Iv 0 255 x1607 := iv_e x1607_e (iv_or 8 x1524_h ik_0 (by decide))
                    refine lv_istore (lv' := [(5, .int x1607), (6, .int 1), (7, .int x1523), (4, .int x1077), (3, .int x1), (0, .ref o1), (1, .int 6), (2, .int a2)]) hx hb dX12_goesOn_98 hl (by decide) rfl (fun ls hl => ?_)
                    obtain ⟨x1608, x1608_e⟩ : ∃ z : Int32, z = x1523 + 1 := ⟨_, rfl⟩
                    have x1608_h : Iv 1 6 x1608 := iv_e x1608_e (iv_add j1565 ik_1 (by decide))
                    refine lv_iinc (v := x1608) (lv' := [(7, .int x1608), (5, .int x1607), (6, .int 1), (4, .int x1077), (3, .int x1), (0, .ref o1), (1, .int 6), (2, .int a2)]) hx hb dX12_goesOn_100 hl (k := 2) rfl (incN (by decide +kernel) x1608_e) (by decide) rfl (fun ls hl => ?_)
                    refine lv_goto (tgt := 37) hx hb dX12_goesOn_103 (by decide) ?_
                    exact ih4 x1608 x1607 1 _ _ _ (ms_up x1608_e j1565 (by decide) hM4) (iv_w x1608_h (by decide)) x1607_h (iv_w ik_1 (by decide)) hP hD hS (lv_sub hl [0, 2, 1, 3, 4, 5, 6, 7] rfl)
                  ·
                    have j1609 : Iv 1 1 x1602 := r_nelo h1604 x1602_h ik_0 (by decide)
                    have b1610 : bt x1600 (Int32.toNatClampNeg x1601) = true := has_t e1603 h1604
                    refine lv_iconst (v := 1) hx hb dX12_goesOn_89 (by decide) ?_
                    refine lv_iload hx hb dX12_goesOn_90 (lv_at hl 1 rfl) ?_
                    refine lv_ishl hx hb dX12_goesOn_92 (lv_topi (fun x1611 x1611_e => ?_))
                    have x1611_h : Iv 1 32 x1611 := iv_e x1611_e (iv_shl1 j1565 (by decide))
                    refine lv_goto (tgt := 97) hx hb dX12_goesOn_93 (by decide) ?_
                    refine lv_ior hx hb dX12_goesOn_97 (lv_topi (fun x1612 x1612_e => ?_))
                    have x1612_h : Iv 0 255 x1612 := iv_e x1612_e (iv_or 8 x1524_h x1611_h (by decide))
                    refine lv_istore (lv' := [(5, .int x1612), (6, .int 1), (7, .int x1523), (4, .int x1077), (3, .int x1), (0, .ref o1), (1, .int 6), (2, .int a2)]) hx hb dX12_goesOn_98 hl (by decide) rfl (fun ls hl => ?_)
                    obtain ⟨x1613, x1613_e⟩ : ∃ z : Int32, z = x1523 + 1 := ⟨_, rfl⟩
                    have x1613_h : Iv 1 6 x1613 := iv_e x1613_e (iv_add j1565 ik_1 (by decide))
                    refine lv_iinc (v := x1613) (lv' := [(7, .int x1613), (5, .int x1612), (6, .int 1), (4, .int x1077), (3, .int x1), (0, .ref o1), (1, .int 6), (2, .int a2)]) hx hb dX12_goesOn_100 hl (k := 2) rfl (incN (by decide +kernel) x1613_e) (by decide) rfl (fun ls hl => ?_)
                    refine lv_goto (tgt := 37) hx hb dX12_goesOn_103 (by decide) ?_
                    exact ih4 x1613 x1612 1 _ _ _ (ms_up x1613_e j1565 (by decide) hM4) (iv_w x1613_h (by decide)) x1612_h (iv_w ik_1 (by decide)) hP hD hS (lv_sub hl [0, 2, 1, 3, 4, 5, 6, 7] rfl)
        exact L4 _ 0 0 0 _ _ _ (Nat.lt_succ_self _) (iv_w ik_0 (by decide)) (iv_w ik_0 (by decide)) (iv_w ik_0 (by decide)) hP hD hS hl
  exact L3 _ x3 fw12 _ _ _ (Nat.lt_succ_self _) x3_h fw12_b hP hD hS hl
set_option maxHeartbeats 4000000 in
set_option maxRecDepth 100000 in
theorem kX12_goesOn_7 (l : Launch) (dC : Nat → ClassId) (dI : Nat → Nat → Nat) (cI c2 cZ : ClassId) (o1 : Nat) (o3 : Nat) (o6 : Nat) (o9 : Nat) (o11 : Nat) (o14 : Nat) (o17 : Nat) (o22 : Nat) (o24 : Nat) (o26 : Nat) (o28 : Nat) (o30 : Nat) (o33 : Nat) (o35 : Nat) (o37 : Nat) (o40 : Nat) (o42 : Nat) (o44 : Nat) (o47 : Nat) (v2 : Int32) (v5 : Int32) (fw7 : Nat → Int32) (v8 : Int32) (fw12 : Nat → Int32) (v13 : Int32) (v16 : Int32) (v19 : Int32) (v20 : Int32) (v21 : Int32) (v32 : Int32) (v39 : Int32) (v46 : Int32) (a2 : Int32) (sz : Nat) (v5_h : Iv 0 12 v5) (fw7_b : Bd 12 0 4095 fw7) (v8_h : Iv 0 8 v8) (fw12_b : Bd 12 0 11 fw12) (v13_h : Iv 0 12 v13) (v16_h : Iv 0 12 v16) (v19_h : Iv (-9) 12 v19) (v32_h : Iv 0 99 v32) (v39_h : Iv 0 12 v39) (v46_h : Iv 0 12 v46) (a2_h : Iv 6 12 a2) : Met l yX12_goesOn wsX12_goesOn ({ frames := 7, cells := 0, slots := 0, locals := 183 }) (va_Pc [.ref o1, .int 5, .int a2] (wPre (dC, dI) [(cI, .int), (c2, .array .int), (cZ, .boolean)] ([(o1, .inr (12, [.int v2, .ref o3, .int v5, .ref o6, .int v8, .ref o9, .ref o11, .int v13, .ref o14, .int v16, .ref o17, .int v19, .int v20, .int v21, .ref o22, .ref o24, .ref o26, .ref o28, .ref o30, .int v32, .ref o33, .ref o35, .ref o37, .int v39, .ref o40, .ref o42, .ref o44, .int v46, .ref o47])), (o11, .inl (cI, 12, .inl fw12)), (o6, .inl (cI, 12, .inl fw7))]) sz)) (va_Qi (fun (r : Int32) (u : (Nat → Int32)) => Iv 0 1 r ∧ Bd 12 0 11 u) (fun u t => wPost (dC, dI) [(cI, .int), (c2, .array .int), (cZ, .boolean)] (va_A ([(o1, .inr (12, [.int v2, .ref o3, .int v5, .ref o6, .int v8, .ref o9, .ref o11, .int v13, .ref o14, .int v16, .ref o17, .int v19, .int v20, .int v21, .ref o22, .ref o24, .ref o26, .ref o28, .ref o30, .int v32, .ref o33, .ref o35, .ref o37, .int v39, .ref o40, .ref o42, .ref o44, .int v46, .ref o47])), (o11, .inl (cI, 12, .inl fw12)), (o6, .inl (cI, 12, .inl fw7))]) sz) ([(o1, .inr (12, [.int v2, .ref o3, .int v5, .ref o6, .int v8, .ref o9, .ref o11, .int v13, .ref o14, .int v16, .ref o17, .int v19, .int v20, .int v21, .ref o22, .ref o24, .ref o26, .ref o28, .ref o30, .int v32, .ref o33, .ref o35, .ref o37, .int v39, .ref o40, .ref o42, .ref o44, .int v46, .ref o47])), (o11, .inl (cI, 12, .inl u)), (o6, .inl (cI, 12, .inl fw7))]) t) (va_A ([(o1, .inr (12, [.int v2, .ref o3, .int v5, .ref o6, .int v8, .ref o9, .ref o11, .int v13, .ref o14, .int v16, .ref o17, .int v19, .int v20, .int v21, .ref o22, .ref o24, .ref o26, .ref o28, .ref o30, .int v32, .ref o33, .ref o35, .ref o37, .int v39, .ref o40, .ref o42, .ref o44, .int v46, .ref o47])), (o11, .inl (cI, 12, .inl fw12)), (o6, .inl (cI, 12, .inl fw7))]) sz)) 0 0 (va_A ([(o1, .inr (12, [.int v2, .ref o3, .int v5, .ref o6, .int v8, .ref o9, .ref o11, .int v13, .ref o14, .int v16, .ref o17, .int v19, .int v20, .int v21, .ref o22, .ref o24, .ref o26, .ref o28, .ref o30, .int v32, .ref o33, .ref o35, .ref o37, .int v39, .ref o40, .ref o42, .ref o44, .int v46, .ref o47])), (o11, .inl (cI, 12, .inl fw12)), (o6, .inl (cI, 12, .inl fw7))]) sz) := by
  refine Met.ofW (cc := cX12_goesOn) (maxL := 8) (ret := (some .boolean)) (by decide) rfl ?_
  intro p e s m args below meth c s₁ B hml hv
  obtain ⟨rfl, hsz, hP, hK, hD0, hN⟩ := hv
  have hx := B.exec
  have hb := B.bytes
  have hr := B.returns
  have hts := atoms_spec (ws := wsX12_goesOn) B.pre
  have hown : s.vm.findClass RX12 = some m.cls := findClass_of_methodNamed B.named
  have hlocks := B.notSynchronized
  subst hsz
  have hD := hD0.self (sz := s.heap.size)
  generalize hAe : va_A ([(o1, .inr (12, [.int v2, .ref o3, .int v5, .ref o6, .int v8, .ref o9, .ref o11, .int v13, .ref o14, .int v16, .ref o17, .int v19, .int v20, .int v21, .ref o22, .ref o24, .ref o26, .ref o28, .ref o30, .int v32, .ref o33, .ref o35, .ref o37, .int v39, .ref o40, .ref o42, .ref o44, .int v46, .ref o47])), (o11, .inl (cI, 12, .inl fw12)), (o6, .inl (cI, 12, .inl fw7))]) s.heap.size = A at hD ⊢
  have hA : ∀ q : Nat, s.heap.size ≤ q → A q := fun q h => by rw [← hAe]; exact Or.inr h
  have hS : va_S A s.heap s.heap [] := va_S.rf
  have hP : va_P (dC, dI) vwCl ([(o1, .inr (12, [.int v2, .ref o3, .int v5, .ref o6, .int v8, .ref o9, .ref o11, .int v13, .ref o14, .int v16, .ref o17, .int v19, .int v20, .int v21, .ref o22, .ref o24, .ref o26, .ref o28, .ref o30, .int v32, .ref o33, .ref o35, .ref o37, .int v39, .ref o40, .ref o42, .ref o44, .int v46, .ref o47])), (o11, .inl (cI, 12, .inl fw12)), (o6, .inl (cI, 12, .inl fw7))]) s.heap := hP
  have hl := lv_entry ([.ref o1, .int 5, .int a2]) (n := 8) (Nat.le_of_ble_eq_true rfl)
  rw [lg_entry_eq]
  generalize (lg_sl ([.ref o1, .int 5, .int a2]) ++ List.replicate (8 - (lg_sl ([.ref o1, .int 5, .int a2])).length) Slot.unset).toArray = ls at hl ⊢
  have hl : lv_has ls 8 [(0, .ref o1), (1, .int 5), (2, .int a2)] := hl
  refine gen_Q (fun Q hQ => ?_)
  refine lv_aload_n hx hb dX12_goesOn_0 rfl (lv_at hl 0 rfl) ?_
  refine va_get (D := (dC, dI)) (ci := 12) (v := .ref o11) (C := RX12) (T := TX12) (N := 29) hx hb hts iw_X12_goesOn_X12 hown hK hP 0 rfl rfl 6 (by decide) (hts (.fieldLink RX12 19 "HolelessHouseModel" "ring" "[I") hm_X12_goesOn_1) (fun _ h9 => h9) rfl dX12_goesOn_1 ?_
  refine lv_iload_n hx hb dX12_goesOn_4 rfl (lv_at hl 1 rfl) ?_
  refine lv_iconst (v := 1) hx hb dX12_goesOn_5 (by decide) ?_
  refine lv_isub hx hb dX12_goesOn_6 (tk_i (v := 4) (by decide +kernel) ?_)
  refine va_iald hx hb hK hP 1 0 rfl rfl (vin_iv ik_4 (by decide)) dX12_goesOn_7 (lv_topi (fun x1 x1_e => ?_))
  have x1_h : Iv 0 11 x1 := iv_e x1_e (bd_at fw12_b (vin_iv ik_4 (by decide)))
  refine lv_istore_n (lv' := [(3, .int x1), (0, .ref o1), (1, .int 5), (2, .int a2)]) hx hb dX12_goesOn_8 rfl hl (by decide) rfl (fun ls hl => ?_)
  refine lv_aload_n hx hb dX12_goesOn_9 rfl (lv_at hl 1 rfl) ?_
  refine va_get (D := (dC, dI)) (ci := 12) (v := .ref o11) (C := RX12) (T := TX12) (N := 29) hx hb hts iw_X12_goesOn_X12 hown hK hP 0 rfl rfl 6 (by decide) (hts (.fieldLink RX12 19 "HolelessHouseModel" "ring" "[I") hm_X12_goesOn_1) (fun _ h9 => h9) rfl dX12_goesOn_10 ?_
  refine lv_iconst (v := 0) hx hb dX12_goesOn_13 (by decide) ?_
  refine va_iald hx hb hK hP 1 0 rfl rfl (vin_iv ik_0 (by decide)) dX12_goesOn_14 (lv_topi (fun x2 x2_e => ?_))
  have x2_h : Iv 0 11 x2 := iv_e x2_e (bd_at fw12_b (vin_iv ik_0 (by decide)))
  refine lv_iconst (v := 1) hx hb dX12_goesOn_15 (by decide) ?_
  refine lv_iadd hx hb dX12_goesOn_16 (lv_topi (fun x3 x3_e => ?_))
  have x3_h : Iv 1 12 x3 := iv_e x3_e (iv_add x2_h ik_1 (by decide))
  refine lv_istore (lv' := [(4, .int x3), (3, .int x1), (0, .ref o1), (1, .int 5), (2, .int a2)]) hx hb dX12_goesOn_17 hl (by decide) rfl (fun ls hl => ?_)
  have L3 : ∀ (N : Nat) (x753 : Int32) (f754 : Nat → Int32) (H : Heap) (locs : List Loc) (ls : Array Slot), (12 - x753.toInt).toNat < N → Iv 1 12 x753 → Bd 12 0 11 f754 → va_P (dC, dI) vwCl ([(o1, .inr (12, [.int v2, .ref o3, .int v5, .ref o6, .int v8, .ref o9, .ref o11, .int v13, .ref o14, .int v16, .ref o17, .int v19, .int v20, .int v21, .ref o22, .ref o24, .ref o26, .ref o28, .ref o30, .int v32, .ref o33, .ref o35, .ref o37, .int v39, .ref o40, .ref o42, .ref o44, .int v46, .ref o47])), (o11, .inl (cI, 12, .inl f754)), (o6, .inl (cI, 12, .inl fw7))]) H → va_D A ([(o1, .inr (12, [.int v2, .ref o3, .int v5, .ref o6, .int v8, .ref o9, .ref o11, .int v13, .ref o14, .int v16, .ref o17, .int v19, .int v20, .int v21, .ref o22, .ref o24, .ref o26, .ref o28, .ref o30, .int v32, .ref o33, .ref o35, .ref o37, .int v39, .ref o40, .ref o42, .ref o44, .int v46, .ref o47])), (o11, .inl (cI, 12, .inl f754)), (o6, .inl (cI, 12, .inl fw7))]) → va_S A s.heap H locs → lv_has ls 8 [(4, .int x753), (3, .int x1), (0, .ref o1), (1, .int 5), (2, .int a2)] → W p l e ({ frames := 7, cells := 0, slots := 0, locals := 183 }) s m ([.ref o1, .int 5, .int a2] : List Value).toArray below meth c H locs 0 0 Q (F0 m 19 ls []) := by
    intro N
    induction N with
    | zero =>
      intro x753 f754 H locs ls hM
      exact absurd hM (Nat.not_lt_zero _)
    | succ N ih3 =>
      intro x753 f754 H locs ls hM3 x753_h f754_b hP hD hS hl
      refine lv_iload hx hb dX12_goesOn_19 (lv_at hl 0 rfl) ?_
      refine lv_aload_n hx hb dX12_goesOn_21 rfl (lv_at hl 2 rfl) ?_
      refine va_get (D := (dC, dI)) (ci := 12) (v := .int v5) (C := RX12) (T := TX12) (N := 29) hx hb hts iw_X12_goesOn_X12 hown hK hP 0 rfl rfl 2 (by decide) (hts (.fieldLink RX12 73 "HolelessHouseModel" "n" "I") hm_X12_goesOn_2) (fun _ h9 => h9) rfl dX12_goesOn_22 ?_
      refine lv_icmp_ge (tgt := 193) hx hb dX12_goesOn_25 (by decide) (fun h755 => ?_) (fun h755 => ?_)
      ·
        have qh755 := le_i h755
        refine lv_iload_n hx hb dX12_goesOn_193 rfl (lv_at hl 1 rfl) ?_
        refine lv_if_ge (tgt := 201) hx hb dX12_goesOn_194 (by decide) (fun _ => ?_) (fun h9 => absurd (d_le ik_0 x1_h (by decide)) h9)
        refine lv_iconst (v := 0) hx hb dX12_goesOn_201 (by decide) ?_
        rw [hQ]
        exact W.zret (v := 0) (ty := .boolean) hx hb hr rfl (fun t ht hW => ⟨⟨0, f754, rfl, ⟨(iv_w ik_0 (by decide)), f754_b⟩, by rw [ht]; exact hP, va_K.moved hW.alike hK, hD⟩, hS.F ht⟩) hS.2.2 dX12_goesOn_202
      ·
        have qh755 := nle_i h755
        have j756 : Iv 1 11 x753 := r_ltl qh755 x753_h v5_h (by decide)
        have j757 : Iv 2 12 v5 := r_ltr qh755 x753_h v5_h (by decide)
        refine lv_iconst (v := 0) hx hb dX12_goesOn_28 (by decide) ?_
        refine lv_istore (lv' := [(5, .int 0), (4, .int x753), (3, .int x1), (0, .ref o1), (1, .int 5), (2, .int a2)]) hx hb dX12_goesOn_29 hl (by decide) rfl (fun ls hl => ?_)
        refine lv_iconst (v := 0) hx hb dX12_goesOn_31 (by decide) ?_
        refine lv_istore (lv' := [(6, .int 0), (5, .int 0), (4, .int x753), (3, .int x1), (0, .ref o1), (1, .int 5), (2, .int a2)]) hx hb dX12_goesOn_32 hl (by decide) rfl (fun ls hl => ?_)
        refine lv_iconst (v := 0) hx hb dX12_goesOn_34 (by decide) ?_
        refine lv_istore (lv' := [(7, .int 0), (6, .int 0), (5, .int 0), (4, .int x753), (3, .int x1), (0, .ref o1), (1, .int 5), (2, .int a2)]) hx hb dX12_goesOn_35 hl (by decide) rfl (fun ls hl => ?_)
        have L4 : ∀ (N : Nat) (x1037 : Int32) (x1038 : Int32) (x1039 : Int32) (H : Heap) (locs : List Loc) (ls : Array Slot), (8 - x1037.toInt).toNat < N → Iv 0 8 x1037 → Iv 0 31 x1038 → Iv 0 1 x1039 → va_P (dC, dI) vwCl ([(o1, .inr (12, [.int v2, .ref o3, .int v5, .ref o6, .int v8, .ref o9, .ref o11, .int v13, .ref o14, .int v16, .ref o17, .int v19, .int v20, .int v21, .ref o22, .ref o24, .ref o26, .ref o28, .ref o30, .int v32, .ref o33, .ref o35, .ref o37, .int v39, .ref o40, .ref o42, .ref o44, .int v46, .ref o47])), (o11, .inl (cI, 12, .inl f754)), (o6, .inl (cI, 12, .inl fw7))]) H → va_D A ([(o1, .inr (12, [.int v2, .ref o3, .int v5, .ref o6, .int v8, .ref o9, .ref o11, .int v13, .ref o14, .int v16, .ref o17, .int v19, .int v20, .int v21, .ref o22, .ref o24, .ref o26, .ref o28, .ref o30, .int v32, .ref o33, .ref o35, .ref o37, .int v39, .ref o40, .ref o42, .ref o44, .int v46, .ref o47])), (o11, .inl (cI, 12, .inl f754)), (o6, .inl (cI, 12, .inl fw7))]) → va_S A s.heap H locs → lv_has ls 8 [(7, .int x1037), (6, .int x1039), (5, .int x1038), (4, .int x753), (3, .int x1), (0, .ref o1), (1, .int 5), (2, .int a2)] → W p l e ({ frames := 7, cells := 0, slots := 0, locals := 183 }) s m ([.ref o1, .int 5, .int a2] : List Value).toArray below meth c H locs 0 0 Q (F0 m 37 ls []) := by
          intro N
          induction N with
          | zero =>
            intro x1037 x1038 x1039 H locs ls hM
            exact absurd hM (Nat.not_lt_zero _)
          | succ N ih4 =>
            intro x1037 x1038 x1039 H locs ls hM4 x1037_h x1038_h x1039_h hP hD hS hl
            refine lv_iload hx hb dX12_goesOn_37 (lv_at hl 0 rfl) ?_
            refine lv_iload_n hx hb dX12_goesOn_39 rfl (lv_at hl 6 rfl) ?_
            refine lv_icmp_ge (tgt := 106) hx hb dX12_goesOn_40 (by decide) (fun h1040 => ?_) (fun h1040 => ?_)
            ·
              have qh1040 := le_i h1040
              have j1041 : Iv 5 8 x1037 := r_ler qh1040 ik_5 x1037_h (by decide)
              refine lv_iconst (v := 1) hx hb dX12_goesOn_106 (by decide) ?_
              refine lv_iload_n hx hb dX12_goesOn_107 rfl (lv_at hl 6 rfl) ?_
              refine lv_iconst (v := 1) hx hb dX12_goesOn_108 (by decide) ?_
              refine lv_isub hx hb dX12_goesOn_109 (tk_i (v := 4) (by decide +kernel) ?_)
              refine lv_ishl hx hb dX12_goesOn_110 (tk_i (v := 16) (by decide +kernel) ?_)
              refine lv_iload_n hx hb dX12_goesOn_111 rfl (lv_at hl 6 rfl) ?_
              refine lv_iload_n hx hb dX12_goesOn_112 rfl (lv_at hl 7 rfl) ?_
              refine lv_iconst (v := 1) hx hb dX12_goesOn_113 (by decide) ?_
              refine lv_isub hx hb dX12_goesOn_114 (lv_topi (fun x1042 x1042_e => ?_))
              have x1042_h : Iv 5 11 x1042 := iv_e x1042_e (iv_sub a2_h ik_1 (by decide))
              refine lv_icmp_ne (tgt := 122) hx hb dX12_goesOn_115 (by decide) (fun h1043 => ?_) (fun h1043 => ?_)
              ·
                have j1044 : Iv 6 11 x1042 := r_nelo (fun q => h1043 q.symm) x1042_h ik_5 (by decide)
                have j1045 : Iv 7 12 a2 := ivb_sub x1042_e a2_h ik_1 j1044 (by decide)
                refine lv_iconst (v := 0) hx hb dX12_goesOn_122 (by decide) ?_
                refine lv_ior hx hb dX12_goesOn_123 (tk_i (v := 16) (by decide +kernel) ?_)
                refine lv_istore (lv' := [(7, .int 16), (6, .int x1039), (5, .int x1038), (4, .int x753), (3, .int x1), (0, .ref o1), (1, .int 5), (2, .int a2)]) hx hb dX12_goesOn_124 hl (by decide) rfl (fun ls hl => ?_)
                refine lv_iload hx hb dX12_goesOn_126 (lv_at hl 1 rfl) ?_
                refine lv_if_ne (tgt := 187) hx hb dX12_goesOn_128 (by decide) (fun h1046 => ?_) (fun h1046 => ?_)
                ·
                  have j1047 : Iv 1 1 x1039 := r_nelo h1046 x1039_h ik_0 (by decide)
                  obtain ⟨x1048, x1048_e⟩ : ∃ z : Int32, z = x753 + 1 := ⟨_, rfl⟩
                  have x1048_h : Iv 2 12 x1048 := iv_e x1048_e (iv_add j756 ik_1 (by decide))
                  refine lv_iinc (v := x1048) (lv' := [(4, .int x1048), (7, .int 16), (6, .int x1039), (5, .int x1038), (3, .int x1), (0, .ref o1), (1, .int 5), (2, .int a2)]) hx hb dX12_goesOn_187 hl (k := 3) rfl (incN (by decide +kernel) x1048_e) (by decide) rfl (fun ls hl => ?_)
                  refine lv_goto (tgt := 19) hx hb dX12_goesOn_190 (by decide) ?_
                  exact ih3 x1048 f754 _ _ _ (ms_up x1048_e j756 (by decide) hM3) (iv_w x1048_h (by decide)) f754_b hP hD hS (lv_sub hl [0, 4, 5, 6, 7] rfl)
                ·
                  have j1049 : Iv 0 0 x1039 := r_eq h1046 ik_0
                  refine lv_iload hx hb dX12_goesOn_131 (lv_at hl 2 rfl) ?_
                  refine lv_iload hx hb dX12_goesOn_133 (lv_at hl 0 rfl) ?_
                  refine lv_icmp_ne (tgt := 187) hx hb dX12_goesOn_135 (by decide) (fun h1050 => ?_) (fun h1050 => ?_)
                  ·
                    obtain ⟨x1051, x1051_e⟩ : ∃ z : Int32, z = x753 + 1 := ⟨_, rfl⟩
                    have x1051_h : Iv 2 12 x1051 := iv_e x1051_e (iv_add j756 ik_1 (by decide))
                    refine lv_iinc (v := x1051) (lv' := [(4, .int x1051), (7, .int 16), (6, .int x1039), (5, .int x1038), (3, .int x1), (0, .ref o1), (1, .int 5), (2, .int a2)]) hx hb dX12_goesOn_187 hl (k := 3) rfl (incN (by decide +kernel) x1051_e) (by decide) rfl (fun ls hl => ?_)
                    refine lv_goto (tgt := 19) hx hb dX12_goesOn_190 (by decide) ?_
                    exact ih3 x1051 f754 _ _ _ (ms_up x1051_e j756 (by decide) hM3) (iv_w x1051_h (by decide)) f754_b hP hD hS (lv_sub hl [0, 4, 5, 6, 7] rfl)
                  ·
                    have j1052 : Iv 16 16 x1038 := r_eq h1050 ik_16
                    refine lv_iload_n hx hb dX12_goesOn_138 rfl (lv_at hl 6 rfl) ?_
                    refine lv_iload_n hx hb dX12_goesOn_139 rfl (lv_at hl 7 rfl) ?_
                    refine lv_iconst (v := 1) hx hb dX12_goesOn_140 (by decide) ?_
                    refine lv_isub hx hb dX12_goesOn_141 (lv_topi (fun x1053 x1053_e => ?_))
                    have x1053_h : Iv 6 11 x1053 := iv_e x1053_e (iv_sub j1045 ik_1 (by decide))
                    refine lv_icmp_ne (tgt := 159) hx hb dX12_goesOn_142 (by decide) (fun _ => ?_) (fun h9 => absurd h9 (d_ne ik_5 x1053_h (by decide)))
                    refine lv_aload_n hx hb dX12_goesOn_159 rfl (lv_at hl 5 rfl) ?_
                    refine va_get (D := (dC, dI)) (ci := 12) (v := .ref o11) (C := RX12) (T := TX12) (N := 29) hx hb hts iw_X12_goesOn_X12 hown hK hP 0 rfl rfl 6 (by decide) (hts (.fieldLink RX12 19 "HolelessHouseModel" "ring" "[I") hm_X12_goesOn_1) (fun _ h9 => h9) rfl dX12_goesOn_160 ?_
                    refine lv_iload_n hx hb dX12_goesOn_163 rfl (lv_at hl 6 rfl) ?_
                    refine lv_iload hx hb dX12_goesOn_164 (lv_at hl 3 rfl) ?_
                    refine k_iast hx hb hK hP hD hS 1 0 rfl rfl (vin_iv ik_5 (by decide)) dX12_goesOn_166 (fun f1054 H locs f1054_e hP hD hS => ?_)
                    have f1054_b : Bd 12 0 11 f1054 := bd_upd f1054_e f754_b j756 (by decide)
                    have hP : va_P (dC, dI) vwCl ([(o1, .inr (12, [.int v2, .ref o3, .int v5, .ref o6, .int v8, .ref o9, .ref o11, .int v13, .ref o14, .int v16, .ref o17, .int v19, .int v20, .int v21, .ref o22, .ref o24, .ref o26, .ref o28, .ref o30, .int v32, .ref o33, .ref o35, .ref o37, .int v39, .ref o40, .ref o42, .ref o44, .int v46, .ref o47])), (o11, .inl (cI, 12, .inl f1054)), (o6, .inl (cI, 12, .inl fw7))]) H := hP
                    have hD : va_D A ([(o1, .inr (12, [.int v2, .ref o3, .int v5, .ref o6, .int v8, .ref o9, .ref o11, .int v13, .ref o14, .int v16, .ref o17, .int v19, .int v20, .int v21, .ref o22, .ref o24, .ref o26, .ref o28, .ref o30, .int v32, .ref o33, .ref o35, .ref o37, .int v39, .ref o40, .ref o42, .ref o44, .int v46, .ref o47])), (o11, .inl (cI, 12, .inl f1054)), (o6, .inl (cI, 12, .inl fw7))]) := hD
                    refine lv_iload_n hx hb dX12_goesOn_167 rfl (lv_at hl 6 rfl) ?_
                    refine lv_iload_n hx hb dX12_goesOn_168 rfl (lv_at hl 7 rfl) ?_
                    refine lv_iconst (v := 1) hx hb dX12_goesOn_169 (by decide) ?_
                    refine lv_isub hx hb dX12_goesOn_170 (lv_topi (fun x1055 x1055_e => ?_))
                    have x1055_h : Iv 6 11 x1055 := iv_e x1055_e (iv_sub j1045 ik_1 (by decide))
                    refine lv_icmp_eq (tgt := 185) hx hb dX12_goesOn_171 (by decide) (fun h9 => absurd h9 (d_ne ik_5 x1055_h (by decide))) (fun _ => ?_)
                    refine lv_aload_n hx hb dX12_goesOn_174 rfl (lv_at hl 5 rfl) ?_
                    refine lv_iload_n hx hb dX12_goesOn_175 rfl (lv_at hl 6 rfl) ?_
                    refine lv_iconst (v := 1) hx hb dX12_goesOn_176 (by decide) ?_
                    refine lv_iadd hx hb dX12_goesOn_177 (tk_i (v := 6) (by decide +kernel) ?_)
                    refine lv_iload_n hx hb dX12_goesOn_178 rfl (lv_at hl 7 rfl) ?_
                    refine kc_i (D := (dC, dI)) (S := (Nat → Int32)) (wc := [(o1, .inr (12, [.int v2, .ref o3, .int v5, .ref o6, .int v8, .ref o9, .ref o11, .int v13, .ref o14, .int v16, .ref o17, .int v19, .int v20, .int v21, .ref o22, .ref o24, .ref o26, .ref o28, .ref o30, .int v32, .ref o33, .ref o35, .ref o37, .int v39, .ref o40, .ref o42, .ref o44, .int v46, .ref o47])), (o11, .inl (cI, 12, .inl f1054)), (o6, .inl (cI, 12, .inl fw7))]) (wr := []) (w1 := fun u => [(o1, .inr (12, [.int v2, .ref o3, .int v5, .ref o6, .int v8, .ref o9, .ref o11, .int v13, .ref o14, .int v16, .ref o17, .int v19, .int v20, .int v21, .ref o22, .ref o24, .ref o26, .ref o28, .ref o30, .int v32, .ref o33, .ref o35, .ref o37, .int v39, .ref o40, .ref o42, .ref o44, .int v46, .ref o47])), (o11, .inl (cI, 12, .inl u)), (o6, .inl (cI, 12, .inl fw7))]) (wn := fun u => [(o1, .inr (12, [.int v2, .ref o3, .int v5, .ref o6, .int v8, .ref o9, .ref o11, .int v13, .ref o14, .int v16, .ref o17, .int v19, .int v20, .int v21, .ref o22, .ref o24, .ref o26, .ref o28, .ref o30, .int v32, .ref o33, .ref o35, .ref o37, .int v39, .ref o40, .ref o42, .ref o44, .int v46, .ref o47])), (o11, .inl (cI, 12, .inl u)), (o6, .inl (cI, 12, .inl fw7))]) (fun hPc hDc => va_runV (As := [.int 6, .int a2]) (rest := []) ⟨hx, hb, hml, hown, hts⟩ (kX12_goesOn_6 l dC dI cI c2 cZ o1 o3 o6 o9 o11 o14 o17 o22 o24 o26 o28 o30 o33 o35 o37 o40 o42 o44 o47 v2 v5 fw7 v8 f1054 v13 v16 v19 v20 v21 v32 v39 v46 a2 H.size (iv_w j757 (by decide)) fw7_b v8_h f1054_b v13_h v16_h v19_h v32_h v39_h v46_h j1045) (cwV 2 hts gX12_goesOn_X12_goesOn rfl rfl rfl (by decide +kernel) ⟨Nat.le_of_ble_eq_true rfl, Nat.le_of_ble_eq_true rfl⟩) (pre_V hPc hK hDc hN (ci := 12) (q0 := 0) rfl rfl) rfl rfl hl.1 rfl (lv_room (Nat.le_of_ble_eq_true rfl)) dX12_goesOn_179 ⟨Nat.le_of_ble_eq_true rfl, Nat.le_of_ble_eq_true rfl⟩) hP hD hS hA [0, 1, 2] [] [0, 1, 2] rfl rfl (by decide +kernel) (by decide +kernel) (by decide +kernel) (by decide +kernel) (fun _ => rfl) (fun x1057 f1056 H locs hq hP hD hS => ?_)
                    obtain ⟨x1057_h, f1056_b⟩ := hq
                    have hP : va_P (dC, dI) vwCl ([(o1, .inr (12, [.int v2, .ref o3, .int v5, .ref o6, .int v8, .ref o9, .ref o11, .int v13, .ref o14, .int v16, .ref o17, .int v19, .int v20, .int v21, .ref o22, .ref o24, .ref o26, .ref o28, .ref o30, .int v32, .ref o33, .ref o35, .ref o37, .int v39, .ref o40, .ref o42, .ref o44, .int v46, .ref o47])), (o11, .inl (cI, 12, .inl f1056)), (o6, .inl (cI, 12, .inl fw7))]) H := hP
                    have hD : va_D A ([(o1, .inr (12, [.int v2, .ref o3, .int v5, .ref o6, .int v8, .ref o9, .ref o11, .int v13, .ref o14, .int v16, .ref o17, .int v19, .int v20, .int v21, .ref o22, .ref o24, .ref o26, .ref o28, .ref o30, .int v32, .ref o33, .ref o35, .ref o37, .int v39, .ref o40, .ref o42, .ref o44, .int v46, .ref o47])), (o11, .inl (cI, 12, .inl f1056)), (o6, .inl (cI, 12, .inl fw7))]) := hD
                    refine lv_if_eq (tgt := 187) hx hb dX12_goesOn_182 (by decide) (fun h1058 => ?_) (fun h1058 => ?_)
                    ·
                      have j1059 : Iv 0 0 x1057 := r_eq h1058 ik_0
                      obtain ⟨x1060, x1060_e⟩ : ∃ z : Int32, z = x753 + 1 := ⟨_, rfl⟩
                      have x1060_h : Iv 2 12 x1060 := iv_e x1060_e (iv_add j756 ik_1 (by decide))
                      refine lv_iinc (v := x1060) (lv' := [(4, .int x1060), (7, .int 16), (6, .int x1039), (5, .int x1038), (3, .int x1), (0, .ref o1), (1, .int 5), (2, .int a2)]) hx hb dX12_goesOn_187 hl (k := 3) rfl (incN (by decide +kernel) x1060_e) (by decide) rfl (fun ls hl => ?_)
                      refine lv_goto (tgt := 19) hx hb dX12_goesOn_190 (by decide) ?_
                      exact ih3 x1060 f1056 _ _ _ (ms_up x1060_e j756 (by decide) hM3) (iv_w x1060_h (by decide)) f1056_b hP hD hS (lv_sub hl [0, 4, 5, 6, 7] rfl)
                    ·
                      have j1061 : Iv 1 1 x1057 := r_nelo h1058 x1057_h ik_0 (by decide)
                      refine lv_iconst (v := 1) hx hb dX12_goesOn_185 (by decide) ?_
                      rw [hQ]
                      exact W.zret (v := 1) (ty := .boolean) hx hb hr rfl (fun t ht hW => ⟨⟨1, f1056, rfl, ⟨(iv_w ik_1 (by decide)), f1056_b⟩, by rw [ht]; exact hP, va_K.moved hW.alike hK, hD⟩, hS.F ht⟩) hS.2.2 dX12_goesOn_186
              ·
                have j1062 : Iv 5 5 x1042 := r_eq h1043.symm ik_5
                have j1063 : Iv 6 6 a2 := ivb_sub x1042_e a2_h ik_1 j1062 (by decide)
                refine lv_iconst (v := 1) hx hb dX12_goesOn_118 (by decide) ?_
                refine lv_goto (tgt := 123) hx hb dX12_goesOn_119 (by decide) ?_
                refine lv_ior hx hb dX12_goesOn_123 (tk_i (v := 17) (by decide +kernel) ?_)
                refine lv_istore (lv' := [(7, .int 17), (6, .int x1039), (5, .int x1038), (4, .int x753), (3, .int x1), (0, .ref o1), (1, .int 5), (2, .int a2)]) hx hb dX12_goesOn_124 hl (by decide) rfl (fun ls hl => ?_)
                refine lv_iload hx hb dX12_goesOn_126 (lv_at hl 1 rfl) ?_
                refine lv_if_ne (tgt := 187) hx hb dX12_goesOn_128 (by decide) (fun h1064 => ?_) (fun h1064 => ?_)
                ·
                  have j1065 : Iv 1 1 x1039 := r_nelo h1064 x1039_h ik_0 (by decide)
                  obtain ⟨x1066, x1066_e⟩ : ∃ z : Int32, z = x753 + 1 := ⟨_, rfl⟩
                  have x1066_h : Iv 2 12 x1066 := iv_e x1066_e (iv_add j756 ik_1 (by decide))
                  refine lv_iinc (v := x1066) (lv' := [(4, .int x1066), (7, .int 17), (6, .int x1039), (5, .int x1038), (3, .int x1), (0, .ref o1), (1, .int 5), (2, .int a2)]) hx hb dX12_goesOn_187 hl (k := 3) rfl (incN (by decide +kernel) x1066_e) (by decide) rfl (fun ls hl => ?_)
                  refine lv_goto (tgt := 19) hx hb dX12_goesOn_190 (by decide) ?_
                  exact ih3 x1066 f754 _ _ _ (ms_up x1066_e j756 (by decide) hM3) (iv_w x1066_h (by decide)) f754_b hP hD hS (lv_sub hl [0, 4, 5, 6, 7] rfl)
                ·
                  have j1067 : Iv 0 0 x1039 := r_eq h1064 ik_0
                  refine lv_iload hx hb dX12_goesOn_131 (lv_at hl 2 rfl) ?_
                  refine lv_iload hx hb dX12_goesOn_133 (lv_at hl 0 rfl) ?_
                  refine lv_icmp_ne (tgt := 187) hx hb dX12_goesOn_135 (by decide) (fun h1068 => ?_) (fun h1068 => ?_)
                  ·
                    obtain ⟨x1069, x1069_e⟩ : ∃ z : Int32, z = x753 + 1 := ⟨_, rfl⟩
                    have x1069_h : Iv 2 12 x1069 := iv_e x1069_e (iv_add j756 ik_1 (by decide))
                    refine lv_iinc (v := x1069) (lv' := [(4, .int x1069), (7, .int 17), (6, .int x1039), (5, .int x1038), (3, .int x1), (0, .ref o1), (1, .int 5), (2, .int a2)]) hx hb dX12_goesOn_187 hl (k := 3) rfl (incN (by decide +kernel) x1069_e) (by decide) rfl (fun ls hl => ?_)
                    refine lv_goto (tgt := 19) hx hb dX12_goesOn_190 (by decide) ?_
                    exact ih3 x1069 f754 _ _ _ (ms_up x1069_e j756 (by decide) hM3) (iv_w x1069_h (by decide)) f754_b hP hD hS (lv_sub hl [0, 4, 5, 6, 7] rfl)
                  ·
                    have j1070 : Iv 17 17 x1038 := r_eq h1068 ik_17
                    refine lv_iload_n hx hb dX12_goesOn_138 rfl (lv_at hl 6 rfl) ?_
                    refine lv_iload_n hx hb dX12_goesOn_139 rfl (lv_at hl 7 rfl) ?_
                    refine lv_iconst (v := 1) hx hb dX12_goesOn_140 (by decide) ?_
                    refine lv_isub hx hb dX12_goesOn_141 (lv_topi (fun x1071 x1071_e => ?_))
                    have x1071_h : Iv 5 5 x1071 := iv_e x1071_e (iv_sub j1063 ik_1 (by decide))
                    refine lv_icmp_ne (tgt := 159) hx hb dX12_goesOn_142 (by decide) (fun h9 => absurd (d_eq ik_5 x1071_h) h9) (fun _ => ?_)
                    refine lv_iload hx hb dX12_goesOn_145 (lv_at hl 3 rfl) ?_
                    refine lv_aload_n hx hb dX12_goesOn_147 rfl (lv_at hl 5 rfl) ?_
                    refine va_get (D := (dC, dI)) (ci := 12) (v := .ref o11) (C := RX12) (T := TX12) (N := 29) hx hb hts iw_X12_goesOn_X12 hown hK hP 0 rfl rfl 6 (by decide) (hts (.fieldLink RX12 19 "HolelessHouseModel" "ring" "[I") hm_X12_goesOn_1) (fun _ h9 => h9) rfl dX12_goesOn_148 ?_
                    refine lv_iconst (v := 1) hx hb dX12_goesOn_151 (by decide) ?_
                    refine va_iald hx hb hK hP 1 0 rfl rfl (vin_iv ik_1 (by decide)) dX12_goesOn_152 (lv_topi (fun x1072 x1072_e => ?_))
                    have x1072_h : Iv 0 11 x1072 := iv_e x1072_e (bd_at f754_b (vin_iv ik_1 (by decide)))
                    refine lv_icmp_ge (tgt := 159) hx hb dX12_goesOn_153 (by decide) (fun h1073 => ?_) (fun h1073 => ?_)
                    ·
                      have qh1073 := le_i h1073
                      refine lv_aload_n hx hb dX12_goesOn_159 rfl (lv_at hl 5 rfl) ?_
                      refine va_get (D := (dC, dI)) (ci := 12) (v := .ref o11) (C := RX12) (T := TX12) (N := 29) hx hb hts iw_X12_goesOn_X12 hown hK hP 0 rfl rfl 6 (by decide) (hts (.fieldLink RX12 19 "HolelessHouseModel" "ring" "[I") hm_X12_goesOn_1) (fun _ h9 => h9) rfl dX12_goesOn_160 ?_
                      refine lv_iload_n hx hb dX12_goesOn_163 rfl (lv_at hl 6 rfl) ?_
                      refine lv_iload hx hb dX12_goesOn_164 (lv_at hl 3 rfl) ?_
                      refine k_iast hx hb hK hP hD hS 1 0 rfl rfl (vin_iv ik_5 (by decide)) dX12_goesOn_166 (fun f1074 H locs f1074_e hP hD hS => ?_)
                      have f1074_b : Bd 12 0 11 f1074 := bd_upd f1074_e f754_b j756 (by decide)
                      have hP : va_P (dC, dI) vwCl ([(o1, .inr (12, [.int v2, .ref o3, .int v5, .ref o6, .int v8, .ref o9, .ref o11, .int v13, .ref o14, .int v16, .ref o17, .int v19, .int v20, .int v21, .ref o22, .ref o24, .ref o26, .ref o28, .ref o30, .int v32, .ref o33, .ref o35, .ref o37, .int v39, .ref o40, .ref o42, .ref o44, .int v46, .ref o47])), (o11, .inl (cI, 12, .inl f1074)), (o6, .inl (cI, 12, .inl fw7))]) H := hP
                      have hD : va_D A ([(o1, .inr (12, [.int v2, .ref o3, .int v5, .ref o6, .int v8, .ref o9, .ref o11, .int v13, .ref o14, .int v16, .ref o17, .int v19, .int v20, .int v21, .ref o22, .ref o24, .ref o26, .ref o28, .ref o30, .int v32, .ref o33, .ref o35, .ref o37, .int v39, .ref o40, .ref o42, .ref o44, .int v46, .ref o47])), (o11, .inl (cI, 12, .inl f1074)), (o6, .inl (cI, 12, .inl fw7))]) := hD
                      refine lv_iload_n hx hb dX12_goesOn_167 rfl (lv_at hl 6 rfl) ?_
                      refine lv_iload_n hx hb dX12_goesOn_168 rfl (lv_at hl 7 rfl) ?_
                      refine lv_iconst (v := 1) hx hb dX12_goesOn_169 (by decide) ?_
                      refine lv_isub hx hb dX12_goesOn_170 (lv_topi (fun x1075 x1075_e => ?_))
                      have x1075_h : Iv 5 5 x1075 := iv_e x1075_e (iv_sub j1063 ik_1 (by decide))
                      refine lv_icmp_eq (tgt := 185) hx hb dX12_goesOn_171 (by decide) (fun _ => ?_) (fun h9 => absurd (d_eq ik_5 x1075_h) h9)
                      refine lv_iconst (v := 1) hx hb dX12_goesOn_185 (by decide) ?_
                      rw [hQ]
                      exact W.zret (v := 1) (ty := .boolean) hx hb hr rfl (fun t ht hW => ⟨⟨1, f1074, rfl, ⟨(iv_w ik_1 (by decide)), f1074_b⟩, by rw [ht]; exact hP, va_K.moved hW.alike hK, hD⟩, hS.F ht⟩) hS.2.2 dX12_goesOn_186
                    ·
                      have qh1073 := nle_i h1073
                      have j1076 : Iv 1 10 x753 := r_ltl qh1073 j756 x1072_h (by decide)
                      have j1077 : Iv 2 11 x1072 := r_ltr qh1073 j756 x1072_h (by decide)
                      refine lv_goto (tgt := 187) hx hb dX12_goesOn_156 (by decide) ?_
                      obtain ⟨x1078, x1078_e⟩ : ∃ z : Int32, z = x753 + 1 := ⟨_, rfl⟩
                      have x1078_h : Iv 2 11 x1078 := iv_e x1078_e (iv_add j1076 ik_1 (by decide))
                      refine lv_iinc (v := x1078) (lv' := [(4, .int x1078), (7, .int 17), (6, .int x1039), (5, .int x1038), (3, .int x1), (0, .ref o1), (1, .int 5), (2, .int a2)]) hx hb dX12_goesOn_187 hl (k := 3) rfl (incN (by decide +kernel) x1078_e) (by decide) rfl (fun ls hl => ?_)
                      refine lv_goto (tgt := 19) hx hb dX12_goesOn_190 (by decide) ?_
                      exact ih3 x1078 f754 _ _ _ (ms_up x1078_e j1076 (by decide) hM3) (iv_w x1078_h (by decide)) f754_b hP hD hS (lv_sub hl [0, 4, 5, 6, 7] rfl)
            ·
              have qh1040 := nle_i h1040
              have j1079 : Iv 0 4 x1037 := r_ltl qh1040 x1037_h ik_5 (by decide)
              refine lv_iload hx hb dX12_goesOn_43 (lv_at hl 1 rfl) ?_
              refine lv_if_ne (tgt := 60) hx hb dX12_goesOn_45 (by decide) (fun h1080 => ?_) (fun h1080 => ?_)
              ·
                have j1081 : Iv 1 1 x1039 := r_nelo h1080 x1039_h ik_0 (by decide)
                refine lv_iconst (v := 1) hx hb dX12_goesOn_60 (by decide) ?_
                refine lv_goto (tgt := 65) hx hb dX12_goesOn_61 (by decide) ?_
                refine lv_istore (lv' := [(6, .int 1), (7, .int x1037), (5, .int x1038), (4, .int x753), (3, .int x1), (0, .ref o1), (1, .int 5), (2, .int a2)]) hx hb dX12_goesOn_65 hl (by decide) rfl (fun ls hl => ?_)
                refine lv_iload hx hb dX12_goesOn_67 (lv_at hl 2 rfl) ?_
                refine lv_aload_n hx hb dX12_goesOn_69 rfl (lv_at hl 5 rfl) ?_
                refine va_get (D := (dC, dI)) (ci := 12) (v := .ref o6) (C := RX12) (T := TX12) (N := 29) hx hb hts iw_X12_goesOn_X12 hown hK hP 0 rfl rfl 3 (by decide) (hts (.fieldLink RX12 13 "HolelessHouseModel" "near" "[I") hm_X12_goesOn_3) (fun _ h9 => h9) rfl dX12_goesOn_70 ?_
                refine lv_iload hx hb dX12_goesOn_73 (lv_at hl 3 rfl) ?_
                refine va_iald hx hb hK hP 2 0 rfl rfl (vin_iv j756 (by decide)) dX12_goesOn_75 (lv_topi (fun x1082 x1082_e => ?_))
                have x1082_h : Iv 0 4095 x1082 := iv_e x1082_e (bd_at fw7_b (vin_iv j756 (by decide)))
                refine lv_aload_n hx hb dX12_goesOn_76 rfl (lv_at hl 5 rfl) ?_
                refine va_get (D := (dC, dI)) (ci := 12) (v := .ref o11) (C := RX12) (T := TX12) (N := 29) hx hb hts iw_X12_goesOn_X12 hown hK hP 0 rfl rfl 6 (by decide) (hts (.fieldLink RX12 19 "HolelessHouseModel" "ring" "[I") hm_X12_goesOn_1) (fun _ h9 => h9) rfl dX12_goesOn_77 ?_
                refine lv_iload hx hb dX12_goesOn_80 (lv_at hl 1 rfl) ?_
                refine va_iald hx hb hK hP 1 0 rfl rfl (vin_iv j1079 (by decide)) dX12_goesOn_82 (lv_topi (fun x1083 x1083_e => ?_))
                have x1083_h : Iv 0 11 x1083 := iv_e x1083_e (bd_at f754_b (vin_iv j1079 (by decide)))
                refine kc_i (D := (dC, dI)) (S := Unit) (wc := []) (wr := [(o1, .inr (12, [.int v2, .ref o3, .int v5, .ref o6, .int v8, .ref o9, .ref o11, .int v13, .ref o14, .int v16, .ref o17, .int v19, .int v20, .int v21, .ref o22, .ref o24, .ref o26, .ref o28, .ref o30, .int v32, .ref o33, .ref o35, .ref o37, .int v39, .ref o40, .ref o42, .ref o44, .int v46, .ref o47])), (o11, .inl (cI, 12, .inl f754)), (o6, .inl (cI, 12, .inl fw7))]) (w1 := fun _ => []) (wn := fun _ => [(o1, .inr (12, [.int v2, .ref o3, .int v5, .ref o6, .int v8, .ref o9, .ref o11, .int v13, .ref o14, .int v16, .ref o17, .int v19, .int v20, .int v21, .ref o22, .ref o24, .ref o26, .ref o28, .ref o30, .int v32, .ref o33, .ref o35, .ref o37, .int v39, .ref o40, .ref o42, .ref o44, .int v46, .ref o47])), (o11, .inl (cI, 12, .inl f754)), (o6, .inl (cI, 12, .inl fw7))]) (fun hPc hDc => va_runS (As := [.int x1082, .int x1083]) (rest := [.int x1038]) ⟨hx, hb, hml, hown, hts⟩ (kX12_has_1 l dC dI cI c2 cZ x1082 x1083 H.size (iv_w x1083_h (by decide))) (va_cwS 2 hts gX12_goesOn_X12_has rfl rfl rfl (by decide +kernel) ⟨Nat.le_of_ble_eq_true rfl, Nat.le_of_ble_eq_true rfl⟩) (pre_S hPc hK hDc hN) rfl rfl hl.1 rfl (lv_room (Nat.le_of_ble_eq_true rfl)) dX12_goesOn_83 ⟨Nat.le_of_ble_eq_true rfl, Nat.le_of_ble_eq_true rfl⟩) hP hD hS hA [] [0, 1, 2] [0, 1, 2] rfl rfl (by decide +kernel) (by decide +kernel) (by decide +kernel) (by decide +kernel) (fun _ => rfl) (fun x1084 _ H locs hq hP hD hS => ?_)
                obtain ⟨x1084_h, e1085⟩ := hq
                have hP : va_P (dC, dI) vwCl ([(o1, .inr (12, [.int v2, .ref o3, .int v5, .ref o6, .int v8, .ref o9, .ref o11, .int v13, .ref o14, .int v16, .ref o17, .int v19, .int v20, .int v21, .ref o22, .ref o24, .ref o26, .ref o28, .ref o30, .int v32, .ref o33, .ref o35, .ref o37, .int v39, .ref o40, .ref o42, .ref o44, .int v46, .ref o47])), (o11, .inl (cI, 12, .inl f754)), (o6, .inl (cI, 12, .inl fw7))]) H := hP
                have hD : va_D A ([(o1, .inr (12, [.int v2, .ref o3, .int v5, .ref o6, .int v8, .ref o9, .ref o11, .int v13, .ref o14, .int v16, .ref o17, .int v19, .int v20, .int v21, .ref o22, .ref o24, .ref o26, .ref o28, .ref o30, .int v32, .ref o33, .ref o35, .ref o37, .int v39, .ref o40, .ref o42, .ref o44, .int v46, .ref o47])), (o11, .inl (cI, 12, .inl f754)), (o6, .inl (cI, 12, .inl fw7))]) := hD
                refine lv_if_eq (tgt := 96) hx hb dX12_goesOn_86 (by decide) (fun h1086 => ?_) (fun h1086 => ?_)
                ·
                  have j1087 : Iv 0 0 x1084 := r_eq h1086 ik_0
                  have b1088 : bt x1082 (Int32.toNatClampNeg x1083) = false := has_f e1085 h1086
                  refine lv_iconst (v := 0) hx hb dX12_goesOn_96 (by decide) ?_
                  refine lv_ior hx hb dX12_goesOn_97 (lv_topi (fun x1089 x1089_e => ?_))
                  have x1089_h : Iv 0 31 x1089 := iv_e x1089_e (iv_or 5 x1038_h ik_0 (by decide))
                  refine lv_istore (lv' := [(5, .int x1089), (6, .int 1), (7, .int x1037), (4, .int x753), (3, .int x1), (0, .ref o1), (1, .int 5), (2, .int a2)]) hx hb dX12_goesOn_98 hl (by decide) rfl (fun ls hl => ?_)
                  obtain ⟨x1090, x1090_e⟩ : ∃ z : Int32, z = x1037 + 1 := ⟨_, rfl⟩
                  have x1090_h : Iv 1 5 x1090 := iv_e x1090_e (iv_add j1079 ik_1 (by decide))
                  refine lv_iinc (v := x1090) (lv' := [(7, .int x1090), (5, .int x1089), (6, .int 1), (4, .int x753), (3, .int x1), (0, .ref o1), (1, .int 5), (2, .int a2)]) hx hb dX12_goesOn_100 hl (k := 2) rfl (incN (by decide +kernel) x1090_e) (by decide) rfl (fun ls hl => ?_)
                  refine lv_goto (tgt := 37) hx hb dX12_goesOn_103 (by decide) ?_
                  exact ih4 x1090 x1089 1 _ _ _ (ms_up x1090_e j1079 (by decide) hM4) (iv_w x1090_h (by decide)) x1089_h (iv_w ik_1 (by decide)) hP hD hS (lv_sub hl [0, 2, 1, 3, 4, 5, 6, 7] rfl)
                ·
                  have j1091 : Iv 1 1 x1084 := r_nelo h1086 x1084_h ik_0 (by decide)
                  have b1092 : bt x1082 (Int32.toNatClampNeg x1083) = true := has_t e1085 h1086
                  refine lv_iconst (v := 1) hx hb dX12_goesOn_89 (by decide) ?_
                  refine lv_iload hx hb dX12_goesOn_90 (lv_at hl 1 rfl) ?_
                  refine lv_ishl hx hb dX12_goesOn_92 (lv_topi (fun x1093 x1093_e => ?_))
                  have x1093_h : Iv 1 16 x1093 := iv_e x1093_e (iv_shl1 j1079 (by decide))
                  refine lv_goto (tgt := 97) hx hb dX12_goesOn_93 (by decide) ?_
                  refine lv_ior hx hb dX12_goesOn_97 (lv_topi (fun x1094 x1094_e => ?_))
                  have x1094_h : Iv 0 31 x1094 := iv_e x1094_e (iv_or 5 x1038_h x1093_h (by decide))
                  refine lv_istore (lv' := [(5, .int x1094), (6, .int 1), (7, .int x1037), (4, .int x753), (3, .int x1), (0, .ref o1), (1, .int 5), (2, .int a2)]) hx hb dX12_goesOn_98 hl (by decide) rfl (fun ls hl => ?_)
                  obtain ⟨x1095, x1095_e⟩ : ∃ z : Int32, z = x1037 + 1 := ⟨_, rfl⟩
                  have x1095_h : Iv 1 5 x1095 := iv_e x1095_e (iv_add j1079 ik_1 (by decide))
                  refine lv_iinc (v := x1095) (lv' := [(7, .int x1095), (5, .int x1094), (6, .int 1), (4, .int x753), (3, .int x1), (0, .ref o1), (1, .int 5), (2, .int a2)]) hx hb dX12_goesOn_100 hl (k := 2) rfl (incN (by decide +kernel) x1095_e) (by decide) rfl (fun ls hl => ?_)
                  refine lv_goto (tgt := 37) hx hb dX12_goesOn_103 (by decide) ?_
                  exact ih4 x1095 x1094 1 _ _ _ (ms_up x1095_e j1079 (by decide) hM4) (iv_w x1095_h (by decide)) x1094_h (iv_w ik_1 (by decide)) hP hD hS (lv_sub hl [0, 2, 1, 3, 4, 5, 6, 7] rfl)
              ·
                have j1096 : Iv 0 0 x1039 := r_eq h1080 ik_0
                refine lv_aload_n hx hb dX12_goesOn_48 rfl (lv_at hl 5 rfl) ?_
                refine va_get (D := (dC, dI)) (ci := 12) (v := .ref o11) (C := RX12) (T := TX12) (N := 29) hx hb hts iw_X12_goesOn_X12 hown hK hP 0 rfl rfl 6 (by decide) (hts (.fieldLink RX12 19 "HolelessHouseModel" "ring" "[I") hm_X12_goesOn_1) (fun _ h9 => h9) rfl dX12_goesOn_49 ?_
                refine lv_iload hx hb dX12_goesOn_52 (lv_at hl 0 rfl) ?_
                refine va_iald hx hb hK hP 1 0 rfl rfl (vin_iv j1079 (by decide)) dX12_goesOn_54 (lv_topi (fun x1097 x1097_e => ?_))
                have x1097_h : Iv 0 11 x1097 := iv_e x1097_e (bd_at f754_b (vin_iv j1079 (by decide)))
                refine lv_iload hx hb dX12_goesOn_55 (lv_at hl 3 rfl) ?_
                refine lv_icmp_ne (tgt := 64) hx hb dX12_goesOn_57 (by decide) (fun h1098 => ?_) (fun h1098 => ?_)
                ·
                  refine lv_iconst (v := 0) hx hb dX12_goesOn_64 (by decide) ?_
                  refine lv_istore (lv' := [(6, .int 0), (7, .int x1037), (5, .int x1038), (4, .int x753), (3, .int x1), (0, .ref o1), (1, .int 5), (2, .int a2)]) hx hb dX12_goesOn_65 hl (by decide) rfl (fun ls hl => ?_)
                  refine lv_iload hx hb dX12_goesOn_67 (lv_at hl 2 rfl) ?_
                  refine lv_aload_n hx hb dX12_goesOn_69 rfl (lv_at hl 5 rfl) ?_
                  refine va_get (D := (dC, dI)) (ci := 12) (v := .ref o6) (C := RX12) (T := TX12) (N := 29) hx hb hts iw_X12_goesOn_X12 hown hK hP 0 rfl rfl 3 (by decide) (hts (.fieldLink RX12 13 "HolelessHouseModel" "near" "[I") hm_X12_goesOn_3) (fun _ h9 => h9) rfl dX12_goesOn_70 ?_
                  refine lv_iload hx hb dX12_goesOn_73 (lv_at hl 3 rfl) ?_
                  refine va_iald hx hb hK hP 2 0 rfl rfl (vin_iv j756 (by decide)) dX12_goesOn_75 (lv_topi (fun x1099 x1099_e => ?_))
                  have x1099_h : Iv 0 4095 x1099 := iv_e x1099_e (bd_at fw7_b (vin_iv j756 (by decide)))
                  refine lv_aload_n hx hb dX12_goesOn_76 rfl (lv_at hl 5 rfl) ?_
                  refine va_get (D := (dC, dI)) (ci := 12) (v := .ref o11) (C := RX12) (T := TX12) (N := 29) hx hb hts iw_X12_goesOn_X12 hown hK hP 0 rfl rfl 6 (by decide) (hts (.fieldLink RX12 19 "HolelessHouseModel" "ring" "[I") hm_X12_goesOn_1) (fun _ h9 => h9) rfl dX12_goesOn_77 ?_
                  refine lv_iload hx hb dX12_goesOn_80 (lv_at hl 1 rfl) ?_
                  refine va_iald hx hb hK hP 1 0 rfl rfl (vin_iv j1079 (by decide)) dX12_goesOn_82 (lv_topi (fun x1100 x1100_e => ?_))
                  have x1100_h : Iv 0 11 x1100 := iv_e x1100_e (bd_at f754_b (vin_iv j1079 (by decide)))
                  refine kc_i (D := (dC, dI)) (S := Unit) (wc := []) (wr := [(o1, .inr (12, [.int v2, .ref o3, .int v5, .ref o6, .int v8, .ref o9, .ref o11, .int v13, .ref o14, .int v16, .ref o17, .int v19, .int v20, .int v21, .ref o22, .ref o24, .ref o26, .ref o28, .ref o30, .int v32, .ref o33, .ref o35, .ref o37, .int v39, .ref o40, .ref o42, .ref o44, .int v46, .ref o47])), (o11, .inl (cI, 12, .inl f754)), (o6, .inl (cI, 12, .inl fw7))]) (w1 := fun _ => []) (wn := fun _ => [(o1, .inr (12, [.int v2, .ref o3, .int v5, .ref o6, .int v8, .ref o9, .ref o11, .int v13, .ref o14, .int v16, .ref o17, .int v19, .int v20, .int v21, .ref o22, .ref o24, .ref o26, .ref o28, .ref o30, .int v32, .ref o33, .ref o35, .ref o37, .int v39, .ref o40, .ref o42, .ref o44, .int v46, .ref o47])), (o11, .inl (cI, 12, .inl f754)), (o6, .inl (cI, 12, .inl fw7))]) (fun hPc hDc => va_runS (As := [.int x1099, .int x1100]) (rest := [.int x1038]) ⟨hx, hb, hml, hown, hts⟩ (kX12_has_1 l dC dI cI c2 cZ x1099 x1100 H.size (iv_w x1100_h (by decide))) (va_cwS 2 hts gX12_goesOn_X12_has rfl rfl rfl (by decide +kernel) ⟨Nat.le_of_ble_eq_true rfl, Nat.le_of_ble_eq_true rfl⟩) (pre_S hPc hK hDc hN) rfl rfl hl.1 rfl (lv_room (Nat.le_of_ble_eq_true rfl)) dX12_goesOn_83 ⟨Nat.le_of_ble_eq_true rfl, Nat.le_of_ble_eq_true rfl⟩) hP hD hS hA [] [0, 1, 2] [0, 1, 2] rfl rfl (by decide +kernel) (by decide +kernel) (by decide +kernel) (by decide +kernel) (fun _ => rfl) (fun x1101 _ H locs hq hP hD hS => ?_)
                  obtain ⟨x1101_h, e1102⟩ := hq
                  have hP : va_P (dC, dI) vwCl ([(o1, .inr (12, [.int v2, .ref o3, .int v5, .ref o6, .int v8, .ref o9, .ref o11, .int v13, .ref o14, .int v16, .ref o17, .int v19, .int v20, .int v21, .ref o22, .ref o24, .ref o26, .ref o28, .ref o30, .int v32, .ref o33, .ref o35, .ref o37, .int v39, .ref o40, .ref o42, .ref o44, .int v46, .ref o47])), (o11, .inl (cI, 12, .inl f754)), (o6, .inl (cI, 12, .inl fw7))]) H := hP
                  have hD : va_D A ([(o1, .inr (12, [.int v2, .ref o3, .int v5, .ref o6, .int v8, .ref o9, .ref o11, .int v13, .ref o14, .int v16, .ref o17, .int v19, .int v20, .int v21, .ref o22, .ref o24, .ref o26, .ref o28, .ref o30, .int v32, .ref o33, .ref o35, .ref o37, .int v39, .ref o40, .ref o42, .ref o44, .int v46, .ref o47])), (o11, .inl (cI, 12, .inl f754)), (o6, .inl (cI, 12, .inl fw7))]) := hD
                  refine lv_if_eq (tgt := 96) hx hb dX12_goesOn_86 (by decide) (fun h1103 => ?_) (fun h1103 => ?_)
                  ·
                    have j1104 : Iv 0 0 x1101 := r_eq h1103 ik_0
                    have b1105 : bt x1099 (Int32.toNatClampNeg x1100) = false := has_f e1102 h1103
                    refine lv_iconst (v := 0) hx hb dX12_goesOn_96 (by decide) ?_
                    refine lv_ior hx hb dX12_goesOn_97 (lv_topi (fun x1106 x1106_e => ?_))
                    have x1106_h : Iv 0 31 x1106 := iv_e x1106_e (iv_or 5 x1038_h ik_0 (by decide))
                    refine lv_istore (lv' := [(5, .int x1106), (6, .int 0), (7, .int x1037), (4, .int x753), (3, .int x1), (0, .ref o1), (1, .int 5), (2, .int a2)]) hx hb dX12_goesOn_98 hl (by decide) rfl (fun ls hl => ?_)
                    obtain ⟨x1107, x1107_e⟩ : ∃ z : Int32, z = x1037 + 1 := ⟨_, rfl⟩
                    have x1107_h : Iv 1 5 x1107 := iv_e x1107_e (iv_add j1079 ik_1 (by decide))
                    refine lv_iinc (v := x1107) (lv' := [(7, .int x1107), (5, .int x1106), (6, .int 0), (4, .int x753), (3, .int x1), (0, .ref o1), (1, .int 5), (2, .int a2)]) hx hb dX12_goesOn_100 hl (k := 2) rfl (incN (by decide +kernel) x1107_e) (by decide) rfl (fun ls hl => ?_)
                    refine lv_goto (tgt := 37) hx hb dX12_goesOn_103 (by decide) ?_
                    exact ih4 x1107 x1106 0 _ _ _ (ms_up x1107_e j1079 (by decide) hM4) (iv_w x1107_h (by decide)) x1106_h (iv_w ik_0 (by decide)) hP hD hS (lv_sub hl [0, 2, 1, 3, 4, 5, 6, 7] rfl)
                  ·
                    have j1108 : Iv 1 1 x1101 := r_nelo h1103 x1101_h ik_0 (by decide)
                    have b1109 : bt x1099 (Int32.toNatClampNeg x1100) = true := has_t e1102 h1103
                    refine lv_iconst (v := 1) hx hb dX12_goesOn_89 (by decide) ?_
                    refine lv_iload hx hb dX12_goesOn_90 (lv_at hl 1 rfl) ?_
                    refine lv_ishl hx hb dX12_goesOn_92 (lv_topi (fun x1110 x1110_e => ?_))
                    have x1110_h : Iv 1 16 x1110 := iv_e x1110_e (iv_shl1 j1079 (by decide))
                    refine lv_goto (tgt := 97) hx hb dX12_goesOn_93 (by decide) ?_
                    refine lv_ior hx hb dX12_goesOn_97 (lv_topi (fun x1111 x1111_e => ?_))
                    have x1111_h : Iv 0 31 x1111 := iv_e x1111_e (iv_or 5 x1038_h x1110_h (by decide))
                    refine lv_istore (lv' := [(5, .int x1111), (6, .int 0), (7, .int x1037), (4, .int x753), (3, .int x1), (0, .ref o1), (1, .int 5), (2, .int a2)]) hx hb dX12_goesOn_98 hl (by decide) rfl (fun ls hl => ?_)
                    obtain ⟨x1112, x1112_e⟩ : ∃ z : Int32, z = x1037 + 1 := ⟨_, rfl⟩
                    have x1112_h : Iv 1 5 x1112 := iv_e x1112_e (iv_add j1079 ik_1 (by decide))
                    refine lv_iinc (v := x1112) (lv' := [(7, .int x1112), (5, .int x1111), (6, .int 0), (4, .int x753), (3, .int x1), (0, .ref o1), (1, .int 5), (2, .int a2)]) hx hb dX12_goesOn_100 hl (k := 2) rfl (incN (by decide +kernel) x1112_e) (by decide) rfl (fun ls hl => ?_)
                    refine lv_goto (tgt := 37) hx hb dX12_goesOn_103 (by decide) ?_
                    exact ih4 x1112 x1111 0 _ _ _ (ms_up x1112_e j1079 (by decide) hM4) (iv_w x1112_h (by decide)) x1111_h (iv_w ik_0 (by decide)) hP hD hS (lv_sub hl [0, 2, 1, 3, 4, 5, 6, 7] rfl)
                ·
                  have j1113 : Iv 1 11 x1097 := r_eq h1098 j756
                  refine lv_iconst (v := 1) hx hb dX12_goesOn_60 (by decide) ?_
                  refine lv_goto (tgt := 65) hx hb dX12_goesOn_61 (by decide) ?_
                  refine lv_istore (lv' := [(6, .int 1), (7, .int x1037), (5, .int x1038), (4, .int x753), (3, .int x1), (0, .ref o1), (1, .int 5), (2, .int a2)]) hx hb dX12_goesOn_65 hl (by decide) rfl (fun ls hl => ?_)
                  refine lv_iload hx hb dX12_goesOn_67 (lv_at hl 2 rfl) ?_
                  refine lv_aload_n hx hb dX12_goesOn_69 rfl (lv_at hl 5 rfl) ?_
                  refine va_get (D := (dC, dI)) (ci := 12) (v := .ref o6) (C := RX12) (T := TX12) (N := 29) hx hb hts iw_X12_goesOn_X12 hown hK hP 0 rfl rfl 3 (by decide) (hts (.fieldLink RX12 13 "HolelessHouseModel" "near" "[I") hm_X12_goesOn_3) (fun _ h9 => h9) rfl dX12_goesOn_70 ?_
                  refine lv_iload hx hb dX12_goesOn_73 (lv_at hl 3 rfl) ?_
                  refine va_iald hx hb hK hP 2 0 rfl rfl (vin_iv j756 (by decide)) dX12_goesOn_75 (lv_topi (fun x1114 x1114_e => ?_))
                  have x1114_h : Iv 0 4095 x1114 := iv_e x1114_e (bd_at fw7_b (vin_iv j756 (by decide)))
                  refine lv_aload_n hx hb dX12_goesOn_76 rfl (lv_at hl 5 rfl) ?_
                  refine va_get (D := (dC, dI)) (ci := 12) (v := .ref o11) (C := RX12) (T := TX12) (N := 29) hx hb hts iw_X12_goesOn_X12 hown hK hP 0 rfl rfl 6 (by decide) (hts (.fieldLink RX12 19 "HolelessHouseModel" "ring" "[I") hm_X12_goesOn_1) (fun _ h9 => h9) rfl dX12_goesOn_77 ?_
                  refine lv_iload hx hb dX12_goesOn_80 (lv_at hl 1 rfl) ?_
                  refine va_iald hx hb hK hP 1 0 rfl rfl (vin_iv j1079 (by decide)) dX12_goesOn_82 (lv_topi (fun x1115 x1115_e => ?_))
                  have x1115_h : Iv 1 11 x1115 := iv_e (x1115_e.trans x1097_e.symm) j1113
                  refine kc_i (D := (dC, dI)) (S := Unit) (wc := []) (wr := [(o1, .inr (12, [.int v2, .ref o3, .int v5, .ref o6, .int v8, .ref o9, .ref o11, .int v13, .ref o14, .int v16, .ref o17, .int v19, .int v20, .int v21, .ref o22, .ref o24, .ref o26, .ref o28, .ref o30, .int v32, .ref o33, .ref o35, .ref o37, .int v39, .ref o40, .ref o42, .ref o44, .int v46, .ref o47])), (o11, .inl (cI, 12, .inl f754)), (o6, .inl (cI, 12, .inl fw7))]) (w1 := fun _ => []) (wn := fun _ => [(o1, .inr (12, [.int v2, .ref o3, .int v5, .ref o6, .int v8, .ref o9, .ref o11, .int v13, .ref o14, .int v16, .ref o17, .int v19, .int v20, .int v21, .ref o22, .ref o24, .ref o26, .ref o28, .ref o30, .int v32, .ref o33, .ref o35, .ref o37, .int v39, .ref o40, .ref o42, .ref o44, .int v46, .ref o47])), (o11, .inl (cI, 12, .inl f754)), (o6, .inl (cI, 12, .inl fw7))]) (fun hPc hDc => va_runS (As := [.int x1114, .int x1115]) (rest := [.int x1038]) ⟨hx, hb, hml, hown, hts⟩ (kX12_has_1 l dC dI cI c2 cZ x1114 x1115 H.size (iv_w x1115_h (by decide))) (va_cwS 2 hts gX12_goesOn_X12_has rfl rfl rfl (by decide +kernel) ⟨Nat.le_of_ble_eq_true rfl, Nat.le_of_ble_eq_true rfl⟩) (pre_S hPc hK hDc hN) rfl rfl hl.1 rfl (lv_room (Nat.le_of_ble_eq_true rfl)) dX12_goesOn_83 ⟨Nat.le_of_ble_eq_true rfl, Nat.le_of_ble_eq_true rfl⟩) hP hD hS hA [] [0, 1, 2] [0, 1, 2] rfl rfl (by decide +kernel) (by decide +kernel) (by decide +kernel) (by decide +kernel) (fun _ => rfl) (fun x1116 _ H locs hq hP hD hS => ?_)
                  obtain ⟨x1116_h, e1117⟩ := hq
                  have hP : va_P (dC, dI) vwCl ([(o1, .inr (12, [.int v2, .ref o3, .int v5, .ref o6, .int v8, .ref o9, .ref o11, .int v13, .ref o14, .int v16, .ref o17, .int v19, .int v20, .int v21, .ref o22, .ref o24, .ref o26, .ref o28, .ref o30, .int v32, .ref o33, .ref o35, .ref o37, .int v39, .ref o40, .ref o42, .ref o44, .int v46, .ref o47])), (o11, .inl (cI, 12, .inl f754)), (o6, .inl (cI, 12, .inl fw7))]) H := hP
                  have hD : va_D A ([(o1, .inr (12, [.int v2, .ref o3, .int v5, .ref o6, .int v8, .ref o9, .ref o11, .int v13, .ref o14, .int v16, .ref o17, .int v19, .int v20, .int v21, .ref o22, .ref o24, .ref o26, .ref o28, .ref o30, .int v32, .ref o33, .ref o35, .ref o37, .int v39, .ref o40, .ref o42, .ref o44, .int v46, .ref o47])), (o11, .inl (cI, 12, .inl f754)), (o6, .inl (cI, 12, .inl fw7))]) := hD
                  refine lv_if_eq (tgt := 96) hx hb dX12_goesOn_86 (by decide) (fun h1118 => ?_) (fun h1118 => ?_)
                  ·
                    have j1119 : Iv 0 0 x1116 := r_eq h1118 ik_0
                    have b1120 : bt x1114 (Int32.toNatClampNeg x1115) = false := has_f e1117 h1118
                    refine lv_iconst (v := 0) hx hb dX12_goesOn_96 (by decide) ?_
                    refine lv_ior hx hb dX12_goesOn_97 (lv_topi (fun x1121 x1121_e => ?_))
                    have x1121_h : Iv 0 31 x1121 := iv_e x1121_e (iv_or 5 x1038_h ik_0 (by decide))
                    refine lv_istore (lv' := [(5, .int x1121), (6, .int 1), (7, .int x1037), (4, .int x753), (3, .int x1), (0, .ref o1), (1, .int 5), (2, .int a2)]) hx hb dX12_goesOn_98 hl (by decide) rfl (fun ls hl => ?_)
                    obtain ⟨x1122, x1122_e⟩ : ∃ z : Int32, z = x1037 + 1 := ⟨_, rfl⟩
                    have x1122_h : Iv 1 5 x1122 := iv_e x1122_e (iv_add j1079 ik_1 (by decide))
                    refine lv_iinc (v := x1122) (lv' := [(7, .int x1122), (5, .int x1121), (6, .int 1), (4, .int x753), (3, .int x1), (0, .ref o1), (1, .int 5), (2, .int a2)]) hx hb dX12_goesOn_100 hl (k := 2) rfl (incN (by decide +kernel) x1122_e) (by decide) rfl (fun ls hl => ?_)
                    refine lv_goto (tgt := 37) hx hb dX12_goesOn_103 (by decide) ?_
                    exact ih4 x1122 x1121 1 _ _ _ (ms_up x1122_e j1079 (by decide) hM4) (iv_w x1122_h (by decide)) x1121_h (iv_w ik_1 (by decide)) hP hD hS (lv_sub hl [0, 2, 1, 3, 4, 5, 6, 7] rfl)
                  ·
                    have j1123 : Iv 1 1 x1116 := r_nelo h1118 x1116_h ik_0 (by decide)
                    have b1124 : bt x1114 (Int32.toNatClampNeg x1115) = true := has_t e1117 h1118
                    refine lv_iconst (v := 1) hx hb dX12_goesOn_89 (by decide) ?_
                    refine lv_iload hx hb dX12_goesOn_90 (lv_at hl 1 rfl) ?_
                    refine lv_ishl hx hb dX12_goesOn_92 (lv_topi (fun x1125 x1125_e => ?_))
                    have x1125_h : Iv 1 16 x1125 := iv_e x1125_e (iv_shl1 j1079 (by decide))
                    refine lv_goto (tgt := 97) hx hb dX12_goesOn_93 (by decide) ?_
                    refine lv_ior hx hb dX12_goesOn_97 (lv_topi (fun x1126 x1126_e => ?_))
                    have x1126_h : Iv 0 31 x1126 := iv_e x1126_e (iv_or 5 x1038_h x1125_h (by decide))
                    refine lv_istore (lv' := [(5, .int x1126), (6, .int 1), (7, .int x1037), (4, .int x753), (3, .int x1), (0, .ref o1), (1, .int 5), (2, .int a2)]) hx hb dX12_goesOn_98 hl (by decide) rfl (fun ls hl => ?_)
                    obtain ⟨x1127, x1127_e⟩ : ∃ z : Int32, z = x1037 + 1 := ⟨_, rfl⟩
                    have x1127_h : Iv 1 5 x1127 := iv_e x1127_e (iv_add j1079 ik_1 (by decide))
                    refine lv_iinc (v := x1127) (lv' := [(7, .int x1127), (5, .int x1126), (6, .int 1), (4, .int x753), (3, .int x1), (0, .ref o1), (1, .int 5), (2, .int a2)]) hx hb dX12_goesOn_100 hl (k := 2) rfl (incN (by decide +kernel) x1127_e) (by decide) rfl (fun ls hl => ?_)
                    refine lv_goto (tgt := 37) hx hb dX12_goesOn_103 (by decide) ?_
                    exact ih4 x1127 x1126 1 _ _ _ (ms_up x1127_e j1079 (by decide) hM4) (iv_w x1127_h (by decide)) x1126_h (iv_w ik_1 (by decide)) hP hD hS (lv_sub hl [0, 2, 1, 3, 4, 5, 6, 7] rfl)
        exact L4 _ 0 0 0 _ _ _ (Nat.lt_succ_self _) (iv_w ik_0 (by decide)) (iv_w ik_0 (by decide)) (iv_w ik_0 (by decide)) hP hD hS hl
  exact L3 _ x3 fw12 _ _ _ (Nat.lt_succ_self _) x3_h fw12_b hP hD hS hl
set_option maxHeartbeats 4000000 in
set_option maxRecDepth 100000 in
theorem kX12_goesOn_8 (l : Launch) (dC : Nat → ClassId) (dI : Nat → Nat → Nat) (cI c2 cZ : ClassId) (o1 : Nat) (o3 : Nat) (o6 : Nat) (o9 : Nat) (o11 : Nat) (o14 : Nat) (o17 : Nat) (o22 : Nat) (o24 : Nat) (o26 : Nat) (o28 : Nat) (o30 : Nat) (o33 : Nat) (o35 : Nat) (o37 : Nat) (o40 : Nat) (o42 : Nat) (o44 : Nat) (o47 : Nat) (v2 : Int32) (v5 : Int32) (fw7 : Nat → Int32) (v8 : Int32) (fw12 : Nat → Int32) (v13 : Int32) (v16 : Int32) (v19 : Int32) (v20 : Int32) (v21 : Int32) (v32 : Int32) (v39 : Int32) (v46 : Int32) (a2 : Int32) (sz : Nat) (v5_h : Iv 0 12 v5) (fw7_b : Bd 12 0 4095 fw7) (v8_h : Iv 0 8 v8) (fw12_b : Bd 12 0 11 fw12) (v13_h : Iv 0 12 v13) (v16_h : Iv 0 12 v16) (v19_h : Iv (-9) 12 v19) (v32_h : Iv 0 99 v32) (v39_h : Iv 0 12 v39) (v46_h : Iv 0 12 v46) (a2_h : Iv 5 12 a2) : Met l yX12_goesOn wsX12_goesOn ({ frames := 8, cells := 0, slots := 0, locals := 210 }) (va_Pc [.ref o1, .int 4, .int a2] (wPre (dC, dI) [(cI, .int), (c2, .array .int), (cZ, .boolean)] ([(o1, .inr (12, [.int v2, .ref o3, .int v5, .ref o6, .int v8, .ref o9, .ref o11, .int v13, .ref o14, .int v16, .ref o17, .int v19, .int v20, .int v21, .ref o22, .ref o24, .ref o26, .ref o28, .ref o30, .int v32, .ref o33, .ref o35, .ref o37, .int v39, .ref o40, .ref o42, .ref o44, .int v46, .ref o47])), (o11, .inl (cI, 12, .inl fw12)), (o6, .inl (cI, 12, .inl fw7))]) sz)) (va_Qi (fun (r : Int32) (u : (Nat → Int32)) => Iv 0 1 r ∧ Bd 12 0 11 u) (fun u t => wPost (dC, dI) [(cI, .int), (c2, .array .int), (cZ, .boolean)] (va_A ([(o1, .inr (12, [.int v2, .ref o3, .int v5, .ref o6, .int v8, .ref o9, .ref o11, .int v13, .ref o14, .int v16, .ref o17, .int v19, .int v20, .int v21, .ref o22, .ref o24, .ref o26, .ref o28, .ref o30, .int v32, .ref o33, .ref o35, .ref o37, .int v39, .ref o40, .ref o42, .ref o44, .int v46, .ref o47])), (o11, .inl (cI, 12, .inl fw12)), (o6, .inl (cI, 12, .inl fw7))]) sz) ([(o1, .inr (12, [.int v2, .ref o3, .int v5, .ref o6, .int v8, .ref o9, .ref o11, .int v13, .ref o14, .int v16, .ref o17, .int v19, .int v20, .int v21, .ref o22, .ref o24, .ref o26, .ref o28, .ref o30, .int v32, .ref o33, .ref o35, .ref o37, .int v39, .ref o40, .ref o42, .ref o44, .int v46, .ref o47])), (o11, .inl (cI, 12, .inl u)), (o6, .inl (cI, 12, .inl fw7))]) t) (va_A ([(o1, .inr (12, [.int v2, .ref o3, .int v5, .ref o6, .int v8, .ref o9, .ref o11, .int v13, .ref o14, .int v16, .ref o17, .int v19, .int v20, .int v21, .ref o22, .ref o24, .ref o26, .ref o28, .ref o30, .int v32, .ref o33, .ref o35, .ref o37, .int v39, .ref o40, .ref o42, .ref o44, .int v46, .ref o47])), (o11, .inl (cI, 12, .inl fw12)), (o6, .inl (cI, 12, .inl fw7))]) sz)) 0 0 (va_A ([(o1, .inr (12, [.int v2, .ref o3, .int v5, .ref o6, .int v8, .ref o9, .ref o11, .int v13, .ref o14, .int v16, .ref o17, .int v19, .int v20, .int v21, .ref o22, .ref o24, .ref o26, .ref o28, .ref o30, .int v32, .ref o33, .ref o35, .ref o37, .int v39, .ref o40, .ref o42, .ref o44, .int v46, .ref o47])), (o11, .inl (cI, 12, .inl fw12)), (o6, .inl (cI, 12, .inl fw7))]) sz) := by
  refine Met.ofW (cc := cX12_goesOn) (maxL := 8) (ret := (some .boolean)) (by decide) rfl ?_
  intro p e s m args below meth c s₁ B hml hv
  obtain ⟨rfl, hsz, hP, hK, hD0, hN⟩ := hv
  have hx := B.exec
  have hb := B.bytes
  have hr := B.returns
  have hts := atoms_spec (ws := wsX12_goesOn) B.pre
  have hown : s.vm.findClass RX12 = some m.cls := findClass_of_methodNamed B.named
  have hlocks := B.notSynchronized
  subst hsz
  have hD := hD0.self (sz := s.heap.size)
  generalize hAe : va_A ([(o1, .inr (12, [.int v2, .ref o3, .int v5, .ref o6, .int v8, .ref o9, .ref o11, .int v13, .ref o14, .int v16, .ref o17, .int v19, .int v20, .int v21, .ref o22, .ref o24, .ref o26, .ref o28, .ref o30, .int v32, .ref o33, .ref o35, .ref o37, .int v39, .ref o40, .ref o42, .ref o44, .int v46, .ref o47])), (o11, .inl (cI, 12, .inl fw12)), (o6, .inl (cI, 12, .inl fw7))]) s.heap.size = A at hD ⊢
  have hA : ∀ q : Nat, s.heap.size ≤ q → A q := fun q h => by rw [← hAe]; exact Or.inr h
  have hS : va_S A s.heap s.heap [] := va_S.rf
  have hP : va_P (dC, dI) vwCl ([(o1, .inr (12, [.int v2, .ref o3, .int v5, .ref o6, .int v8, .ref o9, .ref o11, .int v13, .ref o14, .int v16, .ref o17, .int v19, .int v20, .int v21, .ref o22, .ref o24, .ref o26, .ref o28, .ref o30, .int v32, .ref o33, .ref o35, .ref o37, .int v39, .ref o40, .ref o42, .ref o44, .int v46, .ref o47])), (o11, .inl (cI, 12, .inl fw12)), (o6, .inl (cI, 12, .inl fw7))]) s.heap := hP
  have hl := lv_entry ([.ref o1, .int 4, .int a2]) (n := 8) (Nat.le_of_ble_eq_true rfl)
  rw [lg_entry_eq]
  generalize (lg_sl ([.ref o1, .int 4, .int a2]) ++ List.replicate (8 - (lg_sl ([.ref o1, .int 4, .int a2])).length) Slot.unset).toArray = ls at hl ⊢
  have hl : lv_has ls 8 [(0, .ref o1), (1, .int 4), (2, .int a2)] := hl
  refine gen_Q (fun Q hQ => ?_)
  refine lv_aload_n hx hb dX12_goesOn_0 rfl (lv_at hl 0 rfl) ?_
  refine va_get (D := (dC, dI)) (ci := 12) (v := .ref o11) (C := RX12) (T := TX12) (N := 29) hx hb hts iw_X12_goesOn_X12 hown hK hP 0 rfl rfl 6 (by decide) (hts (.fieldLink RX12 19 "HolelessHouseModel" "ring" "[I") hm_X12_goesOn_1) (fun _ h9 => h9) rfl dX12_goesOn_1 ?_
  refine lv_iload_n hx hb dX12_goesOn_4 rfl (lv_at hl 1 rfl) ?_
  refine lv_iconst (v := 1) hx hb dX12_goesOn_5 (by decide) ?_
  refine lv_isub hx hb dX12_goesOn_6 (tk_i (v := 3) (by decide +kernel) ?_)
  refine va_iald hx hb hK hP 1 0 rfl rfl (vin_iv ik_3 (by decide)) dX12_goesOn_7 (lv_topi (fun x1 x1_e => ?_))
  have x1_h : Iv 0 11 x1 := iv_e x1_e (bd_at fw12_b (vin_iv ik_3 (by decide)))
  refine lv_istore_n (lv' := [(3, .int x1), (0, .ref o1), (1, .int 4), (2, .int a2)]) hx hb dX12_goesOn_8 rfl hl (by decide) rfl (fun ls hl => ?_)
  refine lv_aload_n hx hb dX12_goesOn_9 rfl (lv_at hl 1 rfl) ?_
  refine va_get (D := (dC, dI)) (ci := 12) (v := .ref o11) (C := RX12) (T := TX12) (N := 29) hx hb hts iw_X12_goesOn_X12 hown hK hP 0 rfl rfl 6 (by decide) (hts (.fieldLink RX12 19 "HolelessHouseModel" "ring" "[I") hm_X12_goesOn_1) (fun _ h9 => h9) rfl dX12_goesOn_10 ?_
  refine lv_iconst (v := 0) hx hb dX12_goesOn_13 (by decide) ?_
  refine va_iald hx hb hK hP 1 0 rfl rfl (vin_iv ik_0 (by decide)) dX12_goesOn_14 (lv_topi (fun x2 x2_e => ?_))
  have x2_h : Iv 0 11 x2 := iv_e x2_e (bd_at fw12_b (vin_iv ik_0 (by decide)))
  refine lv_iconst (v := 1) hx hb dX12_goesOn_15 (by decide) ?_
  refine lv_iadd hx hb dX12_goesOn_16 (lv_topi (fun x3 x3_e => ?_))
  have x3_h : Iv 1 12 x3 := iv_e x3_e (iv_add x2_h ik_1 (by decide))
  refine lv_istore (lv' := [(4, .int x3), (3, .int x1), (0, .ref o1), (1, .int 4), (2, .int a2)]) hx hb dX12_goesOn_17 hl (by decide) rfl (fun ls hl => ?_)
  have L3 : ∀ (N : Nat) (x651 : Int32) (f652 : Nat → Int32) (H : Heap) (locs : List Loc) (ls : Array Slot), (12 - x651.toInt).toNat < N → Iv 1 12 x651 → Bd 12 0 11 f652 → va_P (dC, dI) vwCl ([(o1, .inr (12, [.int v2, .ref o3, .int v5, .ref o6, .int v8, .ref o9, .ref o11, .int v13, .ref o14, .int v16, .ref o17, .int v19, .int v20, .int v21, .ref o22, .ref o24, .ref o26, .ref o28, .ref o30, .int v32, .ref o33, .ref o35, .ref o37, .int v39, .ref o40, .ref o42, .ref o44, .int v46, .ref o47])), (o11, .inl (cI, 12, .inl f652)), (o6, .inl (cI, 12, .inl fw7))]) H → va_D A ([(o1, .inr (12, [.int v2, .ref o3, .int v5, .ref o6, .int v8, .ref o9, .ref o11, .int v13, .ref o14, .int v16, .ref o17, .int v19, .int v20, .int v21, .ref o22, .ref o24, .ref o26, .ref o28, .ref o30, .int v32, .ref o33, .ref o35, .ref o37, .int v39, .ref o40, .ref o42, .ref o44, .int v46, .ref o47])), (o11, .inl (cI, 12, .inl f652)), (o6, .inl (cI, 12, .inl fw7))]) → va_S A s.heap H locs → lv_has ls 8 [(4, .int x651), (3, .int x1), (0, .ref o1), (1, .int 4), (2, .int a2)] → W p l e ({ frames := 8, cells := 0, slots := 0, locals := 210 }) s m ([.ref o1, .int 4, .int a2] : List Value).toArray below meth c H locs 0 0 Q (F0 m 19 ls []) := by
    intro N
    induction N with
    | zero =>
      intro x651 f652 H locs ls hM
      exact absurd hM (Nat.not_lt_zero _)
    | succ N ih3 =>
      intro x651 f652 H locs ls hM3 x651_h f652_b hP hD hS hl
      refine lv_iload hx hb dX12_goesOn_19 (lv_at hl 0 rfl) ?_
      refine lv_aload_n hx hb dX12_goesOn_21 rfl (lv_at hl 2 rfl) ?_
      refine va_get (D := (dC, dI)) (ci := 12) (v := .int v5) (C := RX12) (T := TX12) (N := 29) hx hb hts iw_X12_goesOn_X12 hown hK hP 0 rfl rfl 2 (by decide) (hts (.fieldLink RX12 73 "HolelessHouseModel" "n" "I") hm_X12_goesOn_2) (fun _ h9 => h9) rfl dX12_goesOn_22 ?_
      refine lv_icmp_ge (tgt := 193) hx hb dX12_goesOn_25 (by decide) (fun h653 => ?_) (fun h653 => ?_)
      ·
        have qh653 := le_i h653
        refine lv_iload_n hx hb dX12_goesOn_193 rfl (lv_at hl 1 rfl) ?_
        refine lv_if_ge (tgt := 201) hx hb dX12_goesOn_194 (by decide) (fun _ => ?_) (fun h9 => absurd (d_le ik_0 x1_h (by decide)) h9)
        refine lv_iconst (v := 0) hx hb dX12_goesOn_201 (by decide) ?_
        rw [hQ]
        exact W.zret (v := 0) (ty := .boolean) hx hb hr rfl (fun t ht hW => ⟨⟨0, f652, rfl, ⟨(iv_w ik_0 (by decide)), f652_b⟩, by rw [ht]; exact hP, va_K.moved hW.alike hK, hD⟩, hS.F ht⟩) hS.2.2 dX12_goesOn_202
      ·
        have qh653 := nle_i h653
        have j654 : Iv 1 11 x651 := r_ltl qh653 x651_h v5_h (by decide)
        have j655 : Iv 2 12 v5 := r_ltr qh653 x651_h v5_h (by decide)
        refine lv_iconst (v := 0) hx hb dX12_goesOn_28 (by decide) ?_
        refine lv_istore (lv' := [(5, .int 0), (4, .int x651), (3, .int x1), (0, .ref o1), (1, .int 4), (2, .int a2)]) hx hb dX12_goesOn_29 hl (by decide) rfl (fun ls hl => ?_)
        refine lv_iconst (v := 0) hx hb dX12_goesOn_31 (by decide) ?_
        refine lv_istore (lv' := [(6, .int 0), (5, .int 0), (4, .int x651), (3, .int x1), (0, .ref o1), (1, .int 4), (2, .int a2)]) hx hb dX12_goesOn_32 hl (by decide) rfl (fun ls hl => ?_)
        refine lv_iconst (v := 0) hx hb dX12_goesOn_34 (by decide) ?_
        refine lv_istore (lv' := [(7, .int 0), (6, .int 0), (5, .int 0), (4, .int x651), (3, .int x1), (0, .ref o1), (1, .int 4), (2, .int a2)]) hx hb dX12_goesOn_35 hl (by decide) rfl (fun ls hl => ?_)
        have L4 : ∀ (N : Nat) (x884 : Int32) (x885 : Int32) (x886 : Int32) (H : Heap) (locs : List Loc) (ls : Array Slot), (4 - x884.toInt).toNat < N → Iv 0 4 x884 → Iv 0 31 x885 → Iv 0 1 x886 → va_P (dC, dI) vwCl ([(o1, .inr (12, [.int v2, .ref o3, .int v5, .ref o6, .int v8, .ref o9, .ref o11, .int v13, .ref o14, .int v16, .ref o17, .int v19, .int v20, .int v21, .ref o22, .ref o24, .ref o26, .ref o28, .ref o30, .int v32, .ref o33, .ref o35, .ref o37, .int v39, .ref o40, .ref o42, .ref o44, .int v46, .ref o47])), (o11, .inl (cI, 12, .inl f652)), (o6, .inl (cI, 12, .inl fw7))]) H → va_D A ([(o1, .inr (12, [.int v2, .ref o3, .int v5, .ref o6, .int v8, .ref o9, .ref o11, .int v13, .ref o14, .int v16, .ref o17, .int v19, .int v20, .int v21, .ref o22, .ref o24, .ref o26, .ref o28, .ref o30, .int v32, .ref o33, .ref o35, .ref o37, .int v39, .ref o40, .ref o42, .ref o44, .int v46, .ref o47])), (o11, .inl (cI, 12, .inl f652)), (o6, .inl (cI, 12, .inl fw7))]) → va_S A s.heap H locs → lv_has ls 8 [(7, .int x884), (6, .int x886), (5, .int x885), (4, .int x651), (3, .int x1), (0, .ref o1), (1, .int 4), (2, .int a2)] → W p l e ({ frames := 8, cells := 0, slots := 0, locals := 210 }) s m ([.ref o1, .int 4, .int a2] : List Value).toArray below meth c H locs 0 0 Q (F0 m 37 ls []) := by
          intro N
          induction N with
          | zero =>
            intro x884 x885 x886 H locs ls hM
            exact absurd hM (Nat.not_lt_zero _)
          | succ N ih4 =>
            intro x884 x885 x886 H locs ls hM4 x884_h x885_h x886_h hP hD hS hl
            refine lv_iload hx hb dX12_goesOn_37 (lv_at hl 0 rfl) ?_
            refine lv_iload_n hx hb dX12_goesOn_39 rfl (lv_at hl 6 rfl) ?_
            refine lv_icmp_ge (tgt := 106) hx hb dX12_goesOn_40 (by decide) (fun h887 => ?_) (fun h887 => ?_)
            ·
              have qh887 := le_i h887
              have j888 : Iv 4 4 x884 := r_ler qh887 ik_4 x884_h (by decide)
              refine lv_iconst (v := 1) hx hb dX12_goesOn_106 (by decide) ?_
              refine lv_iload_n hx hb dX12_goesOn_107 rfl (lv_at hl 6 rfl) ?_
              refine lv_iconst (v := 1) hx hb dX12_goesOn_108 (by decide) ?_
              refine lv_isub hx hb dX12_goesOn_109 (tk_i (v := 3) (by decide +kernel) ?_)
              refine lv_ishl hx hb dX12_goesOn_110 (tk_i (v := 8) (by decide +kernel) ?_)
              refine lv_iload_n hx hb dX12_goesOn_111 rfl (lv_at hl 6 rfl) ?_
              refine lv_iload_n hx hb dX12_goesOn_112 rfl (lv_at hl 7 rfl) ?_
              refine lv_iconst (v := 1) hx hb dX12_goesOn_113 (by decide) ?_
              refine lv_isub hx hb dX12_goesOn_114 (lv_topi (fun x889 x889_e => ?_))
              have x889_h : Iv 4 11 x889 := iv_e x889_e (iv_sub a2_h ik_1 (by decide))
              refine lv_icmp_ne (tgt := 122) hx hb dX12_goesOn_115 (by decide) (fun h890 => ?_) (fun h890 => ?_)
              ·
                have j891 : Iv 5 11 x889 := r_nelo (fun q => h890 q.symm) x889_h ik_4 (by decide)
                have j892 : Iv 6 12 a2 := ivb_sub x889_e a2_h ik_1 j891 (by decide)
                refine lv_iconst (v := 0) hx hb dX12_goesOn_122 (by decide) ?_
                refine lv_ior hx hb dX12_goesOn_123 (tk_i (v := 8) (by decide +kernel) ?_)
                refine lv_istore (lv' := [(7, .int 8), (6, .int x886), (5, .int x885), (4, .int x651), (3, .int x1), (0, .ref o1), (1, .int 4), (2, .int a2)]) hx hb dX12_goesOn_124 hl (by decide) rfl (fun ls hl => ?_)
                refine lv_iload hx hb dX12_goesOn_126 (lv_at hl 1 rfl) ?_
                refine lv_if_ne (tgt := 187) hx hb dX12_goesOn_128 (by decide) (fun h893 => ?_) (fun h893 => ?_)
                ·
                  have j894 : Iv 1 1 x886 := r_nelo h893 x886_h ik_0 (by decide)
                  obtain ⟨x895, x895_e⟩ : ∃ z : Int32, z = x651 + 1 := ⟨_, rfl⟩
                  have x895_h : Iv 2 12 x895 := iv_e x895_e (iv_add j654 ik_1 (by decide))
                  refine lv_iinc (v := x895) (lv' := [(4, .int x895), (7, .int 8), (6, .int x886), (5, .int x885), (3, .int x1), (0, .ref o1), (1, .int 4), (2, .int a2)]) hx hb dX12_goesOn_187 hl (k := 3) rfl (incN (by decide +kernel) x895_e) (by decide) rfl (fun ls hl => ?_)
                  refine lv_goto (tgt := 19) hx hb dX12_goesOn_190 (by decide) ?_
                  exact ih3 x895 f652 _ _ _ (ms_up x895_e j654 (by decide) hM3) (iv_w x895_h (by decide)) f652_b hP hD hS (lv_sub hl [0, 4, 5, 6, 7] rfl)
                ·
                  have j896 : Iv 0 0 x886 := r_eq h893 ik_0
                  refine lv_iload hx hb dX12_goesOn_131 (lv_at hl 2 rfl) ?_
                  refine lv_iload hx hb dX12_goesOn_133 (lv_at hl 0 rfl) ?_
                  refine lv_icmp_ne (tgt := 187) hx hb dX12_goesOn_135 (by decide) (fun h897 => ?_) (fun h897 => ?_)
                  ·
                    obtain ⟨x898, x898_e⟩ : ∃ z : Int32, z = x651 + 1 := ⟨_, rfl⟩
                    have x898_h : Iv 2 12 x898 := iv_e x898_e (iv_add j654 ik_1 (by decide))
                    refine lv_iinc (v := x898) (lv' := [(4, .int x898), (7, .int 8), (6, .int x886), (5, .int x885), (3, .int x1), (0, .ref o1), (1, .int 4), (2, .int a2)]) hx hb dX12_goesOn_187 hl (k := 3) rfl (incN (by decide +kernel) x898_e) (by decide) rfl (fun ls hl => ?_)
                    refine lv_goto (tgt := 19) hx hb dX12_goesOn_190 (by decide) ?_
                    exact ih3 x898 f652 _ _ _ (ms_up x898_e j654 (by decide) hM3) (iv_w x898_h (by decide)) f652_b hP hD hS (lv_sub hl [0, 4, 5, 6, 7] rfl)
                  ·
                    have j899 : Iv 8 8 x885 := r_eq h897 ik_8
                    refine lv_iload_n hx hb dX12_goesOn_138 rfl (lv_at hl 6 rfl) ?_
                    refine lv_iload_n hx hb dX12_goesOn_139 rfl (lv_at hl 7 rfl) ?_
                    refine lv_iconst (v := 1) hx hb dX12_goesOn_140 (by decide) ?_
                    refine lv_isub hx hb dX12_goesOn_141 (lv_topi (fun x900 x900_e => ?_))
                    have x900_h : Iv 5 11 x900 := iv_e x900_e (iv_sub j892 ik_1 (by decide))
                    refine lv_icmp_ne (tgt := 159) hx hb dX12_goesOn_142 (by decide) (fun _ => ?_) (fun h9 => absurd h9 (d_ne ik_4 x900_h (by decide)))
                    refine lv_aload_n hx hb dX12_goesOn_159 rfl (lv_at hl 5 rfl) ?_
                    refine va_get (D := (dC, dI)) (ci := 12) (v := .ref o11) (C := RX12) (T := TX12) (N := 29) hx hb hts iw_X12_goesOn_X12 hown hK hP 0 rfl rfl 6 (by decide) (hts (.fieldLink RX12 19 "HolelessHouseModel" "ring" "[I") hm_X12_goesOn_1) (fun _ h9 => h9) rfl dX12_goesOn_160 ?_
                    refine lv_iload_n hx hb dX12_goesOn_163 rfl (lv_at hl 6 rfl) ?_
                    refine lv_iload hx hb dX12_goesOn_164 (lv_at hl 3 rfl) ?_
                    refine k_iast hx hb hK hP hD hS 1 0 rfl rfl (vin_iv ik_4 (by decide)) dX12_goesOn_166 (fun f901 H locs f901_e hP hD hS => ?_)
                    have f901_b : Bd 12 0 11 f901 := bd_upd f901_e f652_b j654 (by decide)
                    have hP : va_P (dC, dI) vwCl ([(o1, .inr (12, [.int v2, .ref o3, .int v5, .ref o6, .int v8, .ref o9, .ref o11, .int v13, .ref o14, .int v16, .ref o17, .int v19, .int v20, .int v21, .ref o22, .ref o24, .ref o26, .ref o28, .ref o30, .int v32, .ref o33, .ref o35, .ref o37, .int v39, .ref o40, .ref o42, .ref o44, .int v46, .ref o47])), (o11, .inl (cI, 12, .inl f901)), (o6, .inl (cI, 12, .inl fw7))]) H := hP
                    have hD : va_D A ([(o1, .inr (12, [.int v2, .ref o3, .int v5, .ref o6, .int v8, .ref o9, .ref o11, .int v13, .ref o14, .int v16, .ref o17, .int v19, .int v20, .int v21, .ref o22, .ref o24, .ref o26, .ref o28, .ref o30, .int v32, .ref o33, .ref o35, .ref o37, .int v39, .ref o40, .ref o42, .ref o44, .int v46, .ref o47])), (o11, .inl (cI, 12, .inl f901)), (o6, .inl (cI, 12, .inl fw7))]) := hD
                    refine lv_iload_n hx hb dX12_goesOn_167 rfl (lv_at hl 6 rfl) ?_
                    refine lv_iload_n hx hb dX12_goesOn_168 rfl (lv_at hl 7 rfl) ?_
                    refine lv_iconst (v := 1) hx hb dX12_goesOn_169 (by decide) ?_
                    refine lv_isub hx hb dX12_goesOn_170 (lv_topi (fun x902 x902_e => ?_))
                    have x902_h : Iv 5 11 x902 := iv_e x902_e (iv_sub j892 ik_1 (by decide))
                    refine lv_icmp_eq (tgt := 185) hx hb dX12_goesOn_171 (by decide) (fun h9 => absurd h9 (d_ne ik_4 x902_h (by decide))) (fun _ => ?_)
                    refine lv_aload_n hx hb dX12_goesOn_174 rfl (lv_at hl 5 rfl) ?_
                    refine lv_iload_n hx hb dX12_goesOn_175 rfl (lv_at hl 6 rfl) ?_
                    refine lv_iconst (v := 1) hx hb dX12_goesOn_176 (by decide) ?_
                    refine lv_iadd hx hb dX12_goesOn_177 (tk_i (v := 5) (by decide +kernel) ?_)
                    refine lv_iload_n hx hb dX12_goesOn_178 rfl (lv_at hl 7 rfl) ?_
                    refine kc_i (D := (dC, dI)) (S := (Nat → Int32)) (wc := [(o1, .inr (12, [.int v2, .ref o3, .int v5, .ref o6, .int v8, .ref o9, .ref o11, .int v13, .ref o14, .int v16, .ref o17, .int v19, .int v20, .int v21, .ref o22, .ref o24, .ref o26, .ref o28, .ref o30, .int v32, .ref o33, .ref o35, .ref o37, .int v39, .ref o40, .ref o42, .ref o44, .int v46, .ref o47])), (o11, .inl (cI, 12, .inl f901)), (o6, .inl (cI, 12, .inl fw7))]) (wr := []) (w1 := fun u => [(o1, .inr (12, [.int v2, .ref o3, .int v5, .ref o6, .int v8, .ref o9, .ref o11, .int v13, .ref o14, .int v16, .ref o17, .int v19, .int v20, .int v21, .ref o22, .ref o24, .ref o26, .ref o28, .ref o30, .int v32, .ref o33, .ref o35, .ref o37, .int v39, .ref o40, .ref o42, .ref o44, .int v46, .ref o47])), (o11, .inl (cI, 12, .inl u)), (o6, .inl (cI, 12, .inl fw7))]) (wn := fun u => [(o1, .inr (12, [.int v2, .ref o3, .int v5, .ref o6, .int v8, .ref o9, .ref o11, .int v13, .ref o14, .int v16, .ref o17, .int v19, .int v20, .int v21, .ref o22, .ref o24, .ref o26, .ref o28, .ref o30, .int v32, .ref o33, .ref o35, .ref o37, .int v39, .ref o40, .ref o42, .ref o44, .int v46, .ref o47])), (o11, .inl (cI, 12, .inl u)), (o6, .inl (cI, 12, .inl fw7))]) (fun hPc hDc => va_runV (As := [.int 5, .int a2]) (rest := []) ⟨hx, hb, hml, hown, hts⟩ (kX12_goesOn_7 l dC dI cI c2 cZ o1 o3 o6 o9 o11 o14 o17 o22 o24 o26 o28 o30 o33 o35 o37 o40 o42 o44 o47 v2 v5 fw7 v8 f901 v13 v16 v19 v20 v21 v32 v39 v46 a2 H.size (iv_w j655 (by decide)) fw7_b v8_h f901_b v13_h v16_h v19_h v32_h v39_h v46_h j892) (cwV 2 hts gX12_goesOn_X12_goesOn rfl rfl rfl (by decide +kernel) ⟨Nat.le_of_ble_eq_true rfl, Nat.le_of_ble_eq_true rfl⟩) (pre_V hPc hK hDc hN (ci := 12) (q0 := 0) rfl rfl) rfl rfl hl.1 rfl (lv_room (Nat.le_of_ble_eq_true rfl)) dX12_goesOn_179 ⟨Nat.le_of_ble_eq_true rfl, Nat.le_of_ble_eq_true rfl⟩) hP hD hS hA [0, 1, 2] [] [0, 1, 2] rfl rfl (by decide +kernel) (by decide +kernel) (by decide +kernel) (by decide +kernel) (fun _ => rfl) (fun x904 f903 H locs hq hP hD hS => ?_)
                    obtain ⟨x904_h, f903_b⟩ := hq
                    have hP : va_P (dC, dI) vwCl ([(o1, .inr (12, [.int v2, .ref o3, .int v5, .ref o6, .int v8, .ref o9, .ref o11, .int v13, .ref o14, .int v16, .ref o17, .int v19, .int v20, .int v21, .ref o22, .ref o24, .ref o26, .ref o28, .ref o30, .int v32, .ref o33, .ref o35, .ref o37, .int v39, .ref o40, .ref o42, .ref o44, .int v46, .ref o47])), (o11, .inl (cI, 12, .inl f903)), (o6, .inl (cI, 12, .inl fw7))]) H := hP
                    have hD : va_D A ([(o1, .inr (12, [.int v2, .ref o3, .int v5, .ref o6, .int v8, .ref o9, .ref o11, .int v13, .ref o14, .int v16, .ref o17, .int v19, .int v20, .int v21, .ref o22, .ref o24, .ref o26, .ref o28, .ref o30, .int v32, .ref o33, .ref o35, .ref o37, .int v39, .ref o40, .ref o42, .ref o44, .int v46, .ref o47])), (o11, .inl (cI, 12, .inl f903)), (o6, .inl (cI, 12, .inl fw7))]) := hD
                    refine lv_if_eq (tgt := 187) hx hb dX12_goesOn_182 (by decide) (fun h905 => ?_) (fun h905 => ?_)
                    ·
                      have j906 : Iv 0 0 x904 := r_eq h905 ik_0
                      obtain ⟨x907, x907_e⟩ : ∃ z : Int32, z = x651 + 1 := ⟨_, rfl⟩
                      have x907_h : Iv 2 12 x907 := iv_e x907_e (iv_add j654 ik_1 (by decide))
                      refine lv_iinc (v := x907) (lv' := [(4, .int x907), (7, .int 8), (6, .int x886), (5, .int x885), (3, .int x1), (0, .ref o1), (1, .int 4), (2, .int a2)]) hx hb dX12_goesOn_187 hl (k := 3) rfl (incN (by decide +kernel) x907_e) (by decide) rfl (fun ls hl => ?_)
                      refine lv_goto (tgt := 19) hx hb dX12_goesOn_190 (by decide) ?_
                      exact ih3 x907 f903 _ _ _ (ms_up x907_e j654 (by decide) hM3) (iv_w x907_h (by decide)) f903_b hP hD hS (lv_sub hl [0, 4, 5, 6, 7] rfl)
                    ·
                      have j908 : Iv 1 1 x904 := r_nelo h905 x904_h ik_0 (by decide)
                      refine lv_iconst (v := 1) hx hb dX12_goesOn_185 (by decide) ?_
                      rw [hQ]
                      exact W.zret (v := 1) (ty := .boolean) hx hb hr rfl (fun t ht hW => ⟨⟨1, f903, rfl, ⟨(iv_w ik_1 (by decide)), f903_b⟩, by rw [ht]; exact hP, va_K.moved hW.alike hK, hD⟩, hS.F ht⟩) hS.2.2 dX12_goesOn_186
              ·
                have j909 : Iv 4 4 x889 := r_eq h890.symm ik_4
                have j910 : Iv 5 5 a2 := ivb_sub x889_e a2_h ik_1 j909 (by decide)
                refine lv_iconst (v := 1) hx hb dX12_goesOn_118 (by decide) ?_
                refine lv_goto (tgt := 123) hx hb dX12_goesOn_119 (by decide) ?_
                refine lv_ior hx hb dX12_goesOn_123 (tk_i (v := 9) (by decide +kernel) ?_)
                refine lv_istore (lv' := [(7, .int 9), (6, .int x886), (5, .int x885), (4, .int x651), (3, .int x1), (0, .ref o1), (1, .int 4), (2, .int a2)]) hx hb dX12_goesOn_124 hl (by decide) rfl (fun ls hl => ?_)
                refine lv_iload hx hb dX12_goesOn_126 (lv_at hl 1 rfl) ?_
                refine lv_if_ne (tgt := 187) hx hb dX12_goesOn_128 (by decide) (fun h911 => ?_) (fun h911 => ?_)
                ·
                  have j912 : Iv 1 1 x886 := r_nelo h911 x886_h ik_0 (by decide)
                  obtain ⟨x913, x913_e⟩ : ∃ z : Int32, z = x651 + 1 := ⟨_, rfl⟩
                  have x913_h : Iv 2 12 x913 := iv_e x913_e (iv_add j654 ik_1 (by decide))
                  refine lv_iinc (v := x913) (lv' := [(4, .int x913), (7, .int 9), (6, .int x886), (5, .int x885), (3, .int x1), (0, .ref o1), (1, .int 4), (2, .int a2)]) hx hb dX12_goesOn_187 hl (k := 3) rfl (incN (by decide +kernel) x913_e) (by decide) rfl (fun ls hl => ?_)
                  refine lv_goto (tgt := 19) hx hb dX12_goesOn_190 (by decide) ?_
                  exact ih3 x913 f652 _ _ _ (ms_up x913_e j654 (by decide) hM3) (iv_w x913_h (by decide)) f652_b hP hD hS (lv_sub hl [0, 4, 5, 6, 7] rfl)
                ·
                  have j914 : Iv 0 0 x886 := r_eq h911 ik_0
                  refine lv_iload hx hb dX12_goesOn_131 (lv_at hl 2 rfl) ?_
                  refine lv_iload hx hb dX12_goesOn_133 (lv_at hl 0 rfl) ?_
                  refine lv_icmp_ne (tgt := 187) hx hb dX12_goesOn_135 (by decide) (fun h915 => ?_) (fun h915 => ?_)
                  ·
                    obtain ⟨x916, x916_e⟩ : ∃ z : Int32, z = x651 + 1 := ⟨_, rfl⟩
                    have x916_h : Iv 2 12 x916 := iv_e x916_e (iv_add j654 ik_1 (by decide))
                    refine lv_iinc (v := x916) (lv' := [(4, .int x916), (7, .int 9), (6, .int x886), (5, .int x885), (3, .int x1), (0, .ref o1), (1, .int 4), (2, .int a2)]) hx hb dX12_goesOn_187 hl (k := 3) rfl (incN (by decide +kernel) x916_e) (by decide) rfl (fun ls hl => ?_)
                    refine lv_goto (tgt := 19) hx hb dX12_goesOn_190 (by decide) ?_
                    exact ih3 x916 f652 _ _ _ (ms_up x916_e j654 (by decide) hM3) (iv_w x916_h (by decide)) f652_b hP hD hS (lv_sub hl [0, 4, 5, 6, 7] rfl)
                  ·
                    have j917 : Iv 9 9 x885 := r_eq h915 ik_9
                    refine lv_iload_n hx hb dX12_goesOn_138 rfl (lv_at hl 6 rfl) ?_
                    refine lv_iload_n hx hb dX12_goesOn_139 rfl (lv_at hl 7 rfl) ?_
                    refine lv_iconst (v := 1) hx hb dX12_goesOn_140 (by decide) ?_
                    refine lv_isub hx hb dX12_goesOn_141 (lv_topi (fun x918 x918_e => ?_))
                    have x918_h : Iv 4 4 x918 := iv_e x918_e (iv_sub j910 ik_1 (by decide))
                    refine lv_icmp_ne (tgt := 159) hx hb dX12_goesOn_142 (by decide) (fun h9 => absurd (d_eq ik_4 x918_h) h9) (fun _ => ?_)
                    refine lv_iload hx hb dX12_goesOn_145 (lv_at hl 3 rfl) ?_
                    refine lv_aload_n hx hb dX12_goesOn_147 rfl (lv_at hl 5 rfl) ?_
                    refine va_get (D := (dC, dI)) (ci := 12) (v := .ref o11) (C := RX12) (T := TX12) (N := 29) hx hb hts iw_X12_goesOn_X12 hown hK hP 0 rfl rfl 6 (by decide) (hts (.fieldLink RX12 19 "HolelessHouseModel" "ring" "[I") hm_X12_goesOn_1) (fun _ h9 => h9) rfl dX12_goesOn_148 ?_
                    refine lv_iconst (v := 1) hx hb dX12_goesOn_151 (by decide) ?_
                    refine va_iald hx hb hK hP 1 0 rfl rfl (vin_iv ik_1 (by decide)) dX12_goesOn_152 (lv_topi (fun x919 x919_e => ?_))
                    have x919_h : Iv 0 11 x919 := iv_e x919_e (bd_at f652_b (vin_iv ik_1 (by decide)))
                    refine lv_icmp_ge (tgt := 159) hx hb dX12_goesOn_153 (by decide) (fun h920 => ?_) (fun h920 => ?_)
                    ·
                      have qh920 := le_i h920
                      refine lv_aload_n hx hb dX12_goesOn_159 rfl (lv_at hl 5 rfl) ?_
                      refine va_get (D := (dC, dI)) (ci := 12) (v := .ref o11) (C := RX12) (T := TX12) (N := 29) hx hb hts iw_X12_goesOn_X12 hown hK hP 0 rfl rfl 6 (by decide) (hts (.fieldLink RX12 19 "HolelessHouseModel" "ring" "[I") hm_X12_goesOn_1) (fun _ h9 => h9) rfl dX12_goesOn_160 ?_
                      refine lv_iload_n hx hb dX12_goesOn_163 rfl (lv_at hl 6 rfl) ?_
                      refine lv_iload hx hb dX12_goesOn_164 (lv_at hl 3 rfl) ?_
                      refine k_iast hx hb hK hP hD hS 1 0 rfl rfl (vin_iv ik_4 (by decide)) dX12_goesOn_166 (fun f921 H locs f921_e hP hD hS => ?_)
                      have f921_b : Bd 12 0 11 f921 := bd_upd f921_e f652_b j654 (by decide)
                      have hP : va_P (dC, dI) vwCl ([(o1, .inr (12, [.int v2, .ref o3, .int v5, .ref o6, .int v8, .ref o9, .ref o11, .int v13, .ref o14, .int v16, .ref o17, .int v19, .int v20, .int v21, .ref o22, .ref o24, .ref o26, .ref o28, .ref o30, .int v32, .ref o33, .ref o35, .ref o37, .int v39, .ref o40, .ref o42, .ref o44, .int v46, .ref o47])), (o11, .inl (cI, 12, .inl f921)), (o6, .inl (cI, 12, .inl fw7))]) H := hP
                      have hD : va_D A ([(o1, .inr (12, [.int v2, .ref o3, .int v5, .ref o6, .int v8, .ref o9, .ref o11, .int v13, .ref o14, .int v16, .ref o17, .int v19, .int v20, .int v21, .ref o22, .ref o24, .ref o26, .ref o28, .ref o30, .int v32, .ref o33, .ref o35, .ref o37, .int v39, .ref o40, .ref o42, .ref o44, .int v46, .ref o47])), (o11, .inl (cI, 12, .inl f921)), (o6, .inl (cI, 12, .inl fw7))]) := hD
                      refine lv_iload_n hx hb dX12_goesOn_167 rfl (lv_at hl 6 rfl) ?_
                      refine lv_iload_n hx hb dX12_goesOn_168 rfl (lv_at hl 7 rfl) ?_
                      refine lv_iconst (v := 1) hx hb dX12_goesOn_169 (by decide) ?_
                      refine lv_isub hx hb dX12_goesOn_170 (lv_topi (fun x922 x922_e => ?_))
                      have x922_h : Iv 4 4 x922 := iv_e x922_e (iv_sub j910 ik_1 (by decide))
                      refine lv_icmp_eq (tgt := 185) hx hb dX12_goesOn_171 (by decide) (fun _ => ?_) (fun h9 => absurd (d_eq ik_4 x922_h) h9)
                      refine lv_iconst (v := 1) hx hb dX12_goesOn_185 (by decide) ?_
                      rw [hQ]
                      exact W.zret (v := 1) (ty := .boolean) hx hb hr rfl (fun t ht hW => ⟨⟨1, f921, rfl, ⟨(iv_w ik_1 (by decide)), f921_b⟩, by rw [ht]; exact hP, va_K.moved hW.alike hK, hD⟩, hS.F ht⟩) hS.2.2 dX12_goesOn_186
                    ·
                      have qh920 := nle_i h920
                      have j923 : Iv 1 10 x651 := r_ltl qh920 j654 x919_h (by decide)
                      have j924 : Iv 2 11 x919 := r_ltr qh920 j654 x919_h (by decide)
                      refine lv_goto (tgt := 187) hx hb dX12_goesOn_156 (by decide) ?_
                      obtain ⟨x925, x925_e⟩ : ∃ z : Int32, z = x651 + 1 := ⟨_, rfl⟩
                      have x925_h : Iv 2 11 x925 := iv_e x925_e (iv_add j923 ik_1 (by decide))
                      refine lv_iinc (v := x925) (lv' := [(4, .int x925), (7, .int 9), (6, .int x886), (5, .int x885), (3, .int x1), (0, .ref o1), (1, .int 4), (2, .int a2)]) hx hb dX12_goesOn_187 hl (k := 3) rfl (incN (by decide +kernel) x925_e) (by decide) rfl (fun ls hl => ?_)
                      refine lv_goto (tgt := 19) hx hb dX12_goesOn_190 (by decide) ?_
                      exact ih3 x925 f652 _ _ _ (ms_up x925_e j923 (by decide) hM3) (iv_w x925_h (by decide)) f652_b hP hD hS (lv_sub hl [0, 4, 5, 6, 7] rfl)
            ·
              have qh887 := nle_i h887
              have j926 : Iv 0 3 x884 := r_ltl qh887 x884_h ik_4 (by decide)
              refine lv_iload hx hb dX12_goesOn_43 (lv_at hl 1 rfl) ?_
              refine lv_if_ne (tgt := 60) hx hb dX12_goesOn_45 (by decide) (fun h927 => ?_) (fun h927 => ?_)
              ·
                have j928 : Iv 1 1 x886 := r_nelo h927 x886_h ik_0 (by decide)
                refine lv_iconst (v := 1) hx hb dX12_goesOn_60 (by decide) ?_
                refine lv_goto (tgt := 65) hx hb dX12_goesOn_61 (by decide) ?_
                refine lv_istore (lv' := [(6, .int 1), (7, .int x884), (5, .int x885), (4, .int x651), (3, .int x1), (0, .ref o1), (1, .int 4), (2, .int a2)]) hx hb dX12_goesOn_65 hl (by decide) rfl (fun ls hl => ?_)
                refine lv_iload hx hb dX12_goesOn_67 (lv_at hl 2 rfl) ?_
                refine lv_aload_n hx hb dX12_goesOn_69 rfl (lv_at hl 5 rfl) ?_
                refine va_get (D := (dC, dI)) (ci := 12) (v := .ref o6) (C := RX12) (T := TX12) (N := 29) hx hb hts iw_X12_goesOn_X12 hown hK hP 0 rfl rfl 3 (by decide) (hts (.fieldLink RX12 13 "HolelessHouseModel" "near" "[I") hm_X12_goesOn_3) (fun _ h9 => h9) rfl dX12_goesOn_70 ?_
                refine lv_iload hx hb dX12_goesOn_73 (lv_at hl 3 rfl) ?_
                refine va_iald hx hb hK hP 2 0 rfl rfl (vin_iv j654 (by decide)) dX12_goesOn_75 (lv_topi (fun x929 x929_e => ?_))
                have x929_h : Iv 0 4095 x929 := iv_e x929_e (bd_at fw7_b (vin_iv j654 (by decide)))
                refine lv_aload_n hx hb dX12_goesOn_76 rfl (lv_at hl 5 rfl) ?_
                refine va_get (D := (dC, dI)) (ci := 12) (v := .ref o11) (C := RX12) (T := TX12) (N := 29) hx hb hts iw_X12_goesOn_X12 hown hK hP 0 rfl rfl 6 (by decide) (hts (.fieldLink RX12 19 "HolelessHouseModel" "ring" "[I") hm_X12_goesOn_1) (fun _ h9 => h9) rfl dX12_goesOn_77 ?_
                refine lv_iload hx hb dX12_goesOn_80 (lv_at hl 1 rfl) ?_
                refine va_iald hx hb hK hP 1 0 rfl rfl (vin_iv j926 (by decide)) dX12_goesOn_82 (lv_topi (fun x930 x930_e => ?_))
                have x930_h : Iv 0 11 x930 := iv_e x930_e (bd_at f652_b (vin_iv j926 (by decide)))
                refine kc_i (D := (dC, dI)) (S := Unit) (wc := []) (wr := [(o1, .inr (12, [.int v2, .ref o3, .int v5, .ref o6, .int v8, .ref o9, .ref o11, .int v13, .ref o14, .int v16, .ref o17, .int v19, .int v20, .int v21, .ref o22, .ref o24, .ref o26, .ref o28, .ref o30, .int v32, .ref o33, .ref o35, .ref o37, .int v39, .ref o40, .ref o42, .ref o44, .int v46, .ref o47])), (o11, .inl (cI, 12, .inl f652)), (o6, .inl (cI, 12, .inl fw7))]) (w1 := fun _ => []) (wn := fun _ => [(o1, .inr (12, [.int v2, .ref o3, .int v5, .ref o6, .int v8, .ref o9, .ref o11, .int v13, .ref o14, .int v16, .ref o17, .int v19, .int v20, .int v21, .ref o22, .ref o24, .ref o26, .ref o28, .ref o30, .int v32, .ref o33, .ref o35, .ref o37, .int v39, .ref o40, .ref o42, .ref o44, .int v46, .ref o47])), (o11, .inl (cI, 12, .inl f652)), (o6, .inl (cI, 12, .inl fw7))]) (fun hPc hDc => va_runS (As := [.int x929, .int x930]) (rest := [.int x885]) ⟨hx, hb, hml, hown, hts⟩ (kX12_has_1 l dC dI cI c2 cZ x929 x930 H.size (iv_w x930_h (by decide))) (va_cwS 2 hts gX12_goesOn_X12_has rfl rfl rfl (by decide +kernel) ⟨Nat.le_of_ble_eq_true rfl, Nat.le_of_ble_eq_true rfl⟩) (pre_S hPc hK hDc hN) rfl rfl hl.1 rfl (lv_room (Nat.le_of_ble_eq_true rfl)) dX12_goesOn_83 ⟨Nat.le_of_ble_eq_true rfl, Nat.le_of_ble_eq_true rfl⟩) hP hD hS hA [] [0, 1, 2] [0, 1, 2] rfl rfl (by decide +kernel) (by decide +kernel) (by decide +kernel) (by decide +kernel) (fun _ => rfl) (fun x931 _ H locs hq hP hD hS => ?_)
                obtain ⟨x931_h, e932⟩ := hq
                have hP : va_P (dC, dI) vwCl ([(o1, .inr (12, [.int v2, .ref o3, .int v5, .ref o6, .int v8, .ref o9, .ref o11, .int v13, .ref o14, .int v16, .ref o17, .int v19, .int v20, .int v21, .ref o22, .ref o24, .ref o26, .ref o28, .ref o30, .int v32, .ref o33, .ref o35, .ref o37, .int v39, .ref o40, .ref o42, .ref o44, .int v46, .ref o47])), (o11, .inl (cI, 12, .inl f652)), (o6, .inl (cI, 12, .inl fw7))]) H := hP
                have hD : va_D A ([(o1, .inr (12, [.int v2, .ref o3, .int v5, .ref o6, .int v8, .ref o9, .ref o11, .int v13, .ref o14, .int v16, .ref o17, .int v19, .int v20, .int v21, .ref o22, .ref o24, .ref o26, .ref o28, .ref o30, .int v32, .ref o33, .ref o35, .ref o37, .int v39, .ref o40, .ref o42, .ref o44, .int v46, .ref o47])), (o11, .inl (cI, 12, .inl f652)), (o6, .inl (cI, 12, .inl fw7))]) := hD
                refine lv_if_eq (tgt := 96) hx hb dX12_goesOn_86 (by decide) (fun h933 => ?_) (fun h933 => ?_)
                ·
                  have j934 : Iv 0 0 x931 := r_eq h933 ik_0
                  have b935 : bt x929 (Int32.toNatClampNeg x930) = false := has_f e932 h933
                  refine lv_iconst (v := 0) hx hb dX12_goesOn_96 (by decide) ?_
                  refine lv_ior hx hb dX12_goesOn_97 (lv_topi (fun x936 x936_e => ?_))
                  have x936_h : Iv 0 31 x936 := iv_e x936_e (iv_or 5 x885_h ik_0 (by decide))
                  refine lv_istore (lv' := [(5, .int x936), (6, .int 1), (7, .int x884), (4, .int x651), (3, .int x1), (0, .ref o1), (1, .int 4), (2, .int a2)]) hx hb dX12_goesOn_98 hl (by decide) rfl (fun ls hl => ?_)
                  obtain ⟨x937, x937_e⟩ : ∃ z : Int32, z = x884 + 1 := ⟨_, rfl⟩
                  have x937_h : Iv 1 4 x937 := iv_e x937_e (iv_add j926 ik_1 (by decide))
                  refine lv_iinc (v := x937) (lv' := [(7, .int x937), (5, .int x936), (6, .int 1), (4, .int x651), (3, .int x1), (0, .ref o1), (1, .int 4), (2, .int a2)]) hx hb dX12_goesOn_100 hl (k := 2) rfl (incN (by decide +kernel) x937_e) (by decide) rfl (fun ls hl => ?_)
                  refine lv_goto (tgt := 37) hx hb dX12_goesOn_103 (by decide) ?_
                  exact ih4 x937 x936 1 _ _ _ (ms_up x937_e j926 (by decide) hM4) (iv_w x937_h (by decide)) x936_h (iv_w ik_1 (by decide)) hP hD hS (lv_sub hl [0, 2, 1, 3, 4, 5, 6, 7] rfl)
                ·
                  have j938 : Iv 1 1 x931 := r_nelo h933 x931_h ik_0 (by decide)
                  have b939 : bt x929 (Int32.toNatClampNeg x930) = true := has_t e932 h933
                  refine lv_iconst (v := 1) hx hb dX12_goesOn_89 (by decide) ?_
                  refine lv_iload hx hb dX12_goesOn_90 (lv_at hl 1 rfl) ?_
                  refine lv_ishl hx hb dX12_goesOn_92 (lv_topi (fun x940 x940_e => ?_))
                  have x940_h : Iv 1 8 x940 := iv_e x940_e (iv_shl1 j926 (by decide))
                  refine lv_goto (tgt := 97) hx hb dX12_goesOn_93 (by decide) ?_
                  refine lv_ior hx hb dX12_goesOn_97 (lv_topi (fun x941 x941_e => ?_))
                  have x941_h : Iv 0 31 x941 := iv_e x941_e (iv_or 5 x885_h x940_h (by decide))
                  refine lv_istore (lv' := [(5, .int x941), (6, .int 1), (7, .int x884), (4, .int x651), (3, .int x1), (0, .ref o1), (1, .int 4), (2, .int a2)]) hx hb dX12_goesOn_98 hl (by decide) rfl (fun ls hl => ?_)
                  obtain ⟨x942, x942_e⟩ : ∃ z : Int32, z = x884 + 1 := ⟨_, rfl⟩
                  have x942_h : Iv 1 4 x942 := iv_e x942_e (iv_add j926 ik_1 (by decide))
                  refine lv_iinc (v := x942) (lv' := [(7, .int x942), (5, .int x941), (6, .int 1), (4, .int x651), (3, .int x1), (0, .ref o1), (1, .int 4), (2, .int a2)]) hx hb dX12_goesOn_100 hl (k := 2) rfl (incN (by decide +kernel) x942_e) (by decide) rfl (fun ls hl => ?_)
                  refine lv_goto (tgt := 37) hx hb dX12_goesOn_103 (by decide) ?_
                  exact ih4 x942 x941 1 _ _ _ (ms_up x942_e j926 (by decide) hM4) (iv_w x942_h (by decide)) x941_h (iv_w ik_1 (by decide)) hP hD hS (lv_sub hl [0, 2, 1, 3, 4, 5, 6, 7] rfl)
              ·
                have j943 : Iv 0 0 x886 := r_eq h927 ik_0
                refine lv_aload_n hx hb dX12_goesOn_48 rfl (lv_at hl 5 rfl) ?_
                refine va_get (D := (dC, dI)) (ci := 12) (v := .ref o11) (C := RX12) (T := TX12) (N := 29) hx hb hts iw_X12_goesOn_X12 hown hK hP 0 rfl rfl 6 (by decide) (hts (.fieldLink RX12 19 "HolelessHouseModel" "ring" "[I") hm_X12_goesOn_1) (fun _ h9 => h9) rfl dX12_goesOn_49 ?_
                refine lv_iload hx hb dX12_goesOn_52 (lv_at hl 0 rfl) ?_
                refine va_iald hx hb hK hP 1 0 rfl rfl (vin_iv j926 (by decide)) dX12_goesOn_54 (lv_topi (fun x944 x944_e => ?_))
                have x944_h : Iv 0 11 x944 := iv_e x944_e (bd_at f652_b (vin_iv j926 (by decide)))
                refine lv_iload hx hb dX12_goesOn_55 (lv_at hl 3 rfl) ?_
                refine lv_icmp_ne (tgt := 64) hx hb dX12_goesOn_57 (by decide) (fun h945 => ?_) (fun h945 => ?_)
                ·
                  refine lv_iconst (v := 0) hx hb dX12_goesOn_64 (by decide) ?_
                  refine lv_istore (lv' := [(6, .int 0), (7, .int x884), (5, .int x885), (4, .int x651), (3, .int x1), (0, .ref o1), (1, .int 4), (2, .int a2)]) hx hb dX12_goesOn_65 hl (by decide) rfl (fun ls hl => ?_)
                  refine lv_iload hx hb dX12_goesOn_67 (lv_at hl 2 rfl) ?_
                  refine lv_aload_n hx hb dX12_goesOn_69 rfl (lv_at hl 5 rfl) ?_
                  refine va_get (D := (dC, dI)) (ci := 12) (v := .ref o6) (C := RX12) (T := TX12) (N := 29) hx hb hts iw_X12_goesOn_X12 hown hK hP 0 rfl rfl 3 (by decide) (hts (.fieldLink RX12 13 "HolelessHouseModel" "near" "[I") hm_X12_goesOn_3) (fun _ h9 => h9) rfl dX12_goesOn_70 ?_
                  refine lv_iload hx hb dX12_goesOn_73 (lv_at hl 3 rfl) ?_
                  refine va_iald hx hb hK hP 2 0 rfl rfl (vin_iv j654 (by decide)) dX12_goesOn_75 (lv_topi (fun x946 x946_e => ?_))
                  have x946_h : Iv 0 4095 x946 := iv_e x946_e (bd_at fw7_b (vin_iv j654 (by decide)))
                  refine lv_aload_n hx hb dX12_goesOn_76 rfl (lv_at hl 5 rfl) ?_
                  refine va_get (D := (dC, dI)) (ci := 12) (v := .ref o11) (C := RX12) (T := TX12) (N := 29) hx hb hts iw_X12_goesOn_X12 hown hK hP 0 rfl rfl 6 (by decide) (hts (.fieldLink RX12 19 "HolelessHouseModel" "ring" "[I") hm_X12_goesOn_1) (fun _ h9 => h9) rfl dX12_goesOn_77 ?_
                  refine lv_iload hx hb dX12_goesOn_80 (lv_at hl 1 rfl) ?_
                  refine va_iald hx hb hK hP 1 0 rfl rfl (vin_iv j926 (by decide)) dX12_goesOn_82 (lv_topi (fun x947 x947_e => ?_))
                  have x947_h : Iv 0 11 x947 := iv_e x947_e (bd_at f652_b (vin_iv j926 (by decide)))
                  refine kc_i (D := (dC, dI)) (S := Unit) (wc := []) (wr := [(o1, .inr (12, [.int v2, .ref o3, .int v5, .ref o6, .int v8, .ref o9, .ref o11, .int v13, .ref o14, .int v16, .ref o17, .int v19, .int v20, .int v21, .ref o22, .ref o24, .ref o26, .ref o28, .ref o30, .int v32, .ref o33, .ref o35, .ref o37, .int v39, .ref o40, .ref o42, .ref o44, .int v46, .ref o47])), (o11, .inl (cI, 12, .inl f652)), (o6, .inl (cI, 12, .inl fw7))]) (w1 := fun _ => []) (wn := fun _ => [(o1, .inr (12, [.int v2, .ref o3, .int v5, .ref o6, .int v8, .ref o9, .ref o11, .int v13, .ref o14, .int v16, .ref o17, .int v19, .int v20, .int v21, .ref o22, .ref o24, .ref o26, .ref o28, .ref o30, .int v32, .ref o33, .ref o35, .ref o37, .int v39, .ref o40, .ref o42, .ref o44, .int v46, .ref o47])), (o11, .inl (cI, 12, .inl f652)), (o6, .inl (cI, 12, .inl fw7))]) (fun hPc hDc => va_runS (As := [.int x946, .int x947]) (rest := [.int x885]) ⟨hx, hb, hml, hown, hts⟩ (kX12_has_1 l dC dI cI c2 cZ x946 x947 H.size (iv_w x947_h (by decide))) (va_cwS 2 hts gX12_goesOn_X12_has rfl rfl rfl (by decide +kernel) ⟨Nat.le_of_ble_eq_true rfl, Nat.le_of_ble_eq_true rfl⟩) (pre_S hPc hK hDc hN) rfl rfl hl.1 rfl (lv_room (Nat.le_of_ble_eq_true rfl)) dX12_goesOn_83 ⟨Nat.le_of_ble_eq_true rfl, Nat.le_of_ble_eq_true rfl⟩) hP hD hS hA [] [0, 1, 2] [0, 1, 2] rfl rfl (by decide +kernel) (by decide +kernel) (by decide +kernel) (by decide +kernel) (fun _ => rfl) (fun x948 _ H locs hq hP hD hS => ?_)
                  obtain ⟨x948_h, e949⟩ := hq
                  have hP : va_P (dC, dI) vwCl ([(o1, .inr (12, [.int v2, .ref o3, .int v5, .ref o6, .int v8, .ref o9, .ref o11, .int v13, .ref o14, .int v16, .ref o17, .int v19, .int v20, .int v21, .ref o22, .ref o24, .ref o26, .ref o28, .ref o30, .int v32, .ref o33, .ref o35, .ref o37, .int v39, .ref o40, .ref o42, .ref o44, .int v46, .ref o47])), (o11, .inl (cI, 12, .inl f652)), (o6, .inl (cI, 12, .inl fw7))]) H := hP
                  have hD : va_D A ([(o1, .inr (12, [.int v2, .ref o3, .int v5, .ref o6, .int v8, .ref o9, .ref o11, .int v13, .ref o14, .int v16, .ref o17, .int v19, .int v20, .int v21, .ref o22, .ref o24, .ref o26, .ref o28, .ref o30, .int v32, .ref o33, .ref o35, .ref o37, .int v39, .ref o40, .ref o42, .ref o44, .int v46, .ref o47])), (o11, .inl (cI, 12, .inl f652)), (o6, .inl (cI, 12, .inl fw7))]) := hD
                  refine lv_if_eq (tgt := 96) hx hb dX12_goesOn_86 (by decide) (fun h950 => ?_) (fun h950 => ?_)
                  ·
                    have j951 : Iv 0 0 x948 := r_eq h950 ik_0
                    have b952 : bt x946 (Int32.toNatClampNeg x947) = false := has_f e949 h950
                    refine lv_iconst (v := 0) hx hb dX12_goesOn_96 (by decide) ?_
                    refine lv_ior hx hb dX12_goesOn_97 (lv_topi (fun x953 x953_e => ?_))
                    have x953_h : Iv 0 31 x953 := iv_e x953_e (iv_or 5 x885_h ik_0 (by decide))
                    refine lv_istore (lv' := [(5, .int x953), (6, .int 0), (7, .int x884), (4, .int x651), (3, .int x1), (0, .ref o1), (1, .int 4), (2, .int a2)]) hx hb dX12_goesOn_98 hl (by decide) rfl (fun ls hl => ?_)
                    obtain ⟨x954, x954_e⟩ : ∃ z : Int32, z = x884 + 1 := ⟨_, rfl⟩
                    have x954_h : Iv 1 4 x954 := iv_e x954_e (iv_add j926 ik_1 (by decide))
                    refine lv_iinc (v := x954) (lv' := [(7, .int x954), (5, .int x953), (6, .int 0), (4, .int x651), (3, .int x1), (0, .ref o1), (1, .int 4), (2, .int a2)]) hx hb dX12_goesOn_100 hl (k := 2) rfl (incN (by decide +kernel) x954_e) (by decide) rfl (fun ls hl => ?_)
                    refine lv_goto (tgt := 37) hx hb dX12_goesOn_103 (by decide) ?_
                    exact ih4 x954 x953 0 _ _ _ (ms_up x954_e j926 (by decide) hM4) (iv_w x954_h (by decide)) x953_h (iv_w ik_0 (by decide)) hP hD hS (lv_sub hl [0, 2, 1, 3, 4, 5, 6, 7] rfl)
                  ·
                    have j955 : Iv 1 1 x948 := r_nelo h950 x948_h ik_0 (by decide)
                    have b956 : bt x946 (Int32.toNatClampNeg x947) = true := has_t e949 h950
                    refine lv_iconst (v := 1) hx hb dX12_goesOn_89 (by decide) ?_
                    refine lv_iload hx hb dX12_goesOn_90 (lv_at hl 1 rfl) ?_
                    refine lv_ishl hx hb dX12_goesOn_92 (lv_topi (fun x957 x957_e => ?_))
                    have x957_h : Iv 1 8 x957 := iv_e x957_e (iv_shl1 j926 (by decide))
                    refine lv_goto (tgt := 97) hx hb dX12_goesOn_93 (by decide) ?_
                    refine lv_ior hx hb dX12_goesOn_97 (lv_topi (fun x958 x958_e => ?_))
                    have x958_h : Iv 0 31 x958 := iv_e x958_e (iv_or 5 x885_h x957_h (by decide))
                    refine lv_istore (lv' := [(5, .int x958), (6, .int 0), (7, .int x884), (4, .int x651), (3, .int x1), (0, .ref o1), (1, .int 4), (2, .int a2)]) hx hb dX12_goesOn_98 hl (by decide) rfl (fun ls hl => ?_)
                    obtain ⟨x959, x959_e⟩ : ∃ z : Int32, z = x884 + 1 := ⟨_, rfl⟩
                    have x959_h : Iv 1 4 x959 := iv_e x959_e (iv_add j926 ik_1 (by decide))
                    refine lv_iinc (v := x959) (lv' := [(7, .int x959), (5, .int x958), (6, .int 0), (4, .int x651), (3, .int x1), (0, .ref o1), (1, .int 4), (2, .int a2)]) hx hb dX12_goesOn_100 hl (k := 2) rfl (incN (by decide +kernel) x959_e) (by decide) rfl (fun ls hl => ?_)
                    refine lv_goto (tgt := 37) hx hb dX12_goesOn_103 (by decide) ?_
                    exact ih4 x959 x958 0 _ _ _ (ms_up x959_e j926 (by decide) hM4) (iv_w x959_h (by decide)) x958_h (iv_w ik_0 (by decide)) hP hD hS (lv_sub hl [0, 2, 1, 3, 4, 5, 6, 7] rfl)
                ·
                  have j960 : Iv 1 11 x944 := r_eq h945 j654
                  refine lv_iconst (v := 1) hx hb dX12_goesOn_60 (by decide) ?_
                  refine lv_goto (tgt := 65) hx hb dX12_goesOn_61 (by decide) ?_
                  refine lv_istore (lv' := [(6, .int 1), (7, .int x884), (5, .int x885), (4, .int x651), (3, .int x1), (0, .ref o1), (1, .int 4), (2, .int a2)]) hx hb dX12_goesOn_65 hl (by decide) rfl (fun ls hl => ?_)
                  refine lv_iload hx hb dX12_goesOn_67 (lv_at hl 2 rfl) ?_
                  refine lv_aload_n hx hb dX12_goesOn_69 rfl (lv_at hl 5 rfl) ?_
                  refine va_get (D := (dC, dI)) (ci := 12) (v := .ref o6) (C := RX12) (T := TX12) (N := 29) hx hb hts iw_X12_goesOn_X12 hown hK hP 0 rfl rfl 3 (by decide) (hts (.fieldLink RX12 13 "HolelessHouseModel" "near" "[I") hm_X12_goesOn_3) (fun _ h9 => h9) rfl dX12_goesOn_70 ?_
                  refine lv_iload hx hb dX12_goesOn_73 (lv_at hl 3 rfl) ?_
                  refine va_iald hx hb hK hP 2 0 rfl rfl (vin_iv j654 (by decide)) dX12_goesOn_75 (lv_topi (fun x961 x961_e => ?_))
                  have x961_h : Iv 0 4095 x961 := iv_e x961_e (bd_at fw7_b (vin_iv j654 (by decide)))
                  refine lv_aload_n hx hb dX12_goesOn_76 rfl (lv_at hl 5 rfl) ?_
                  refine va_get (D := (dC, dI)) (ci := 12) (v := .ref o11) (C := RX12) (T := TX12) (N := 29) hx hb hts iw_X12_goesOn_X12 hown hK hP 0 rfl rfl 6 (by decide) (hts (.fieldLink RX12 19 "HolelessHouseModel" "ring" "[I") hm_X12_goesOn_1) (fun _ h9 => h9) rfl dX12_goesOn_77 ?_
                  refine lv_iload hx hb dX12_goesOn_80 (lv_at hl 1 rfl) ?_
                  refine va_iald hx hb hK hP 1 0 rfl rfl (vin_iv j926 (by decide)) dX12_goesOn_82 (lv_topi (fun x962 x962_e => ?_))
                  have x962_h : Iv 1 11 x962 := iv_e (x962_e.trans x944_e.symm) j960
                  refine kc_i (D := (dC, dI)) (S := Unit) (wc := []) (wr := [(o1, .inr (12, [.int v2, .ref o3, .int v5, .ref o6, .int v8, .ref o9, .ref o11, .int v13, .ref o14, .int v16, .ref o17, .int v19, .int v20, .int v21, .ref o22, .ref o24, .ref o26, .ref o28, .ref o30, .int v32, .ref o33, .ref o35, .ref o37, .int v39, .ref o40, .ref o42, .ref o44, .int v46, .ref o47])), (o11, .inl (cI, 12, .inl f652)), (o6, .inl (cI, 12, .inl fw7))]) (w1 := fun _ => []) (wn := fun _ => [(o1, .inr (12, [.int v2, .ref o3, .int v5, .ref o6, .int v8, .ref o9, .ref o11, .int v13, .ref o14, .int v16, .ref o17, .int v19, .int v20, .int v21, .ref o22, .ref o24, .ref o26, .ref o28, .ref o30, .int v32, .ref o33, .ref o35, .ref o37, .int v39, .ref o40, .ref o42, .ref o44, .int v46, .ref o47])), (o11, .inl (cI, 12, .inl f652)), (o6, .inl (cI, 12, .inl fw7))]) (fun hPc hDc => va_runS (As := [.int x961, .int x962]) (rest := [.int x885]) ⟨hx, hb, hml, hown, hts⟩ (kX12_has_1 l dC dI cI c2 cZ x961 x962 H.size (iv_w x962_h (by decide))) (va_cwS 2 hts gX12_goesOn_X12_has rfl rfl rfl (by decide +kernel) ⟨Nat.le_of_ble_eq_true rfl, Nat.le_of_ble_eq_true rfl⟩) (pre_S hPc hK hDc hN) rfl rfl hl.1 rfl (lv_room (Nat.le_of_ble_eq_true rfl)) dX12_goesOn_83 ⟨Nat.le_of_ble_eq_true rfl, Nat.le_of_ble_eq_true rfl⟩) hP hD hS hA [] [0, 1, 2] [0, 1, 2] rfl rfl (by decide +kernel) (by decide +kernel) (by decide +kernel) (by decide +kernel) (fun _ => rfl) (fun x963 _ H locs hq hP hD hS => ?_)
                  obtain ⟨x963_h, e964⟩ := hq
                  have hP : va_P (dC, dI) vwCl ([(o1, .inr (12, [.int v2, .ref o3, .int v5, .ref o6, .int v8, .ref o9, .ref o11, .int v13, .ref o14, .int v16, .ref o17, .int v19, .int v20, .int v21, .ref o22, .ref o24, .ref o26, .ref o28, .ref o30, .int v32, .ref o33, .ref o35, .ref o37, .int v39, .ref o40, .ref o42, .ref o44, .int v46, .ref o47])), (o11, .inl (cI, 12, .inl f652)), (o6, .inl (cI, 12, .inl fw7))]) H := hP
                  have hD : va_D A ([(o1, .inr (12, [.int v2, .ref o3, .int v5, .ref o6, .int v8, .ref o9, .ref o11, .int v13, .ref o14, .int v16, .ref o17, .int v19, .int v20, .int v21, .ref o22, .ref o24, .ref o26, .ref o28, .ref o30, .int v32, .ref o33, .ref o35, .ref o37, .int v39, .ref o40, .ref o42, .ref o44, .int v46, .ref o47])), (o11, .inl (cI, 12, .inl f652)), (o6, .inl (cI, 12, .inl fw7))]) := hD
                  refine lv_if_eq (tgt := 96) hx hb dX12_goesOn_86 (by decide) (fun h965 => ?_) (fun h965 => ?_)
                  ·
                    have j966 : Iv 0 0 x963 := r_eq h965 ik_0
                    have b967 : bt x961 (Int32.toNatClampNeg x962) = false := has_f e964 h965
                    refine lv_iconst (v := 0) hx hb dX12_goesOn_96 (by decide) ?_
                    refine lv_ior hx hb dX12_goesOn_97 (lv_topi (fun x968 x968_e => ?_))
                    have x968_h : Iv 0 31 x968 := iv_e x968_e (iv_or 5 x885_h ik_0 (by decide))
                    refine lv_istore (lv' := [(5, .int x968), (6, .int 1), (7, .int x884), (4, .int x651), (3, .int x1), (0, .ref o1), (1, .int 4), (2, .int a2)]) hx hb dX12_goesOn_98 hl (by decide) rfl (fun ls hl => ?_)
                    obtain ⟨x969, x969_e⟩ : ∃ z : Int32, z = x884 + 1 := ⟨_, rfl⟩
                    have x969_h : Iv 1 4 x969 := iv_e x969_e (iv_add j926 ik_1 (by decide))
                    refine lv_iinc (v := x969) (lv' := [(7, .int x969), (5, .int x968), (6, .int 1), (4, .int x651), (3, .int x1), (0, .ref o1), (1, .int 4), (2, .int a2)]) hx hb dX12_goesOn_100 hl (k := 2) rfl (incN (by decide +kernel) x969_e) (by decide) rfl (fun ls hl => ?_)
                    refine lv_goto (tgt := 37) hx hb dX12_goesOn_103 (by decide) ?_
                    exact ih4 x969 x968 1 _ _ _ (ms_up x969_e j926 (by decide) hM4) (iv_w x969_h (by decide)) x968_h (iv_w ik_1 (by decide)) hP hD hS (lv_sub hl [0, 2, 1, 3, 4, 5, 6, 7] rfl)
                  ·
                    have j970 : Iv 1 1 x963 := r_nelo h965 x963_h ik_0 (by decide)
                    have b971 : bt x961 (Int32.toNatClampNeg x962) = true := has_t e964 h965
                    refine lv_iconst (v := 1) hx hb dX12_goesOn_89 (by decide) ?_
                    refine lv_iload hx hb dX12_goesOn_90 (lv_at hl 1 rfl) ?_
                    refine lv_ishl hx hb dX12_goesOn_92 (lv_topi (fun x972 x972_e => ?_))
                    have x972_h : Iv 1 8 x972 := iv_e x972_e (iv_shl1 j926 (by decide))
                    refine lv_goto (tgt := 97) hx hb dX12_goesOn_93 (by decide) ?_
                    refine lv_ior hx hb dX12_goesOn_97 (lv_topi (fun x973 x973_e => ?_))
                    have x973_h : Iv 0 31 x973 := iv_e x973_e (iv_or 5 x885_h x972_h (by decide))
                    refine lv_istore (lv' := [(5, .int x973), (6, .int 1), (7, .int x884), (4, .int x651), (3, .int x1), (0, .ref o1), (1, .int 4), (2, .int a2)]) hx hb dX12_goesOn_98 hl (by decide) rfl (fun ls hl => ?_)
                    obtain ⟨x974, x974_e⟩ : ∃ z : Int32, z = x884 + 1 := ⟨_, rfl⟩
                    have x974_h : Iv 1 4 x974 := iv_e x974_e (iv_add j926 ik_1 (by decide))
                    refine lv_iinc (v := x974) (lv' := [(7, .int x974), (5, .int x973), (6, .int 1), (4, .int x651), (3, .int x1), (0, .ref o1), (1, .int 4), (2, .int a2)]) hx hb dX12_goesOn_100 hl (k := 2) rfl (incN (by decide +kernel) x974_e) (by decide) rfl (fun ls hl => ?_)
                    refine lv_goto (tgt := 37) hx hb dX12_goesOn_103 (by decide) ?_
                    exact ih4 x974 x973 1 _ _ _ (ms_up x974_e j926 (by decide) hM4) (iv_w x974_h (by decide)) x973_h (iv_w ik_1 (by decide)) hP hD hS (lv_sub hl [0, 2, 1, 3, 4, 5, 6, 7] rfl)
        exact L4 _ 0 0 0 _ _ _ (Nat.lt_succ_self _) (iv_w ik_0 (by decide)) (iv_w ik_0 (by decide)) (iv_w ik_0 (by decide)) hP hD hS hl
  exact L3 _ x3 fw12 _ _ _ (Nat.lt_succ_self _) x3_h fw12_b hP hD hS hl
