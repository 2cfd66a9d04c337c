set_option maxHeartbeats 4000000 in
set_option maxRecDepth 100000 in
theorem kX12_goesOn_3 (l : Launch) (dC : Nat → ClassId) (dI : Nat → Nat → Nat) (cI c2 cZ : ClassId) (o1 : Nat) (o3 : Nat) (o6 : Nat) (o9 : Nat) (o11 : Nat) (o14 : Nat) (o17 : Nat) (o22 : Nat) (o24 : Nat) (o26 : Nat) (o28 : Nat) (o30 : Nat) (o33 : Nat) (o35 : Nat) (o37 : Nat) (o40 : Nat) (o42 : Nat) (o44 : Nat) (o47 : Nat) (v2 : Int32) (v5 : Int32) (fw7 : Nat → Int32) (v8 : Int32) (fw12 : Nat → Int32) (v13 : Int32) (v16 : Int32) (v19 : Int32) (v20 : Int32) (v21 : Int32) (v32 : Int32) (v39 : Int32) (v46 : Int32) (a2 : Int32) (sz : Nat) (v5_h : Iv 0 12 v5) (fw7_b : Bd 12 0 4095 fw7) (v8_h : Iv 0 8 v8) (fw12_b : Bd 12 0 11 fw12) (v13_h : Iv 0 12 v13) (v16_h : Iv 0 12 v16) (v19_h : Iv (-9) 12 v19) (v32_h : Iv 0 99 v32) (v39_h : Iv 0 12 v39) (v46_h : Iv 0 12 v46) (a2_h : Iv 10 12 a2) : Met l yX12_goesOn wsX12_goesOn ({ frames := 3, cells := 0, slots := 0, locals := 75 }) (va_Pc [.ref o1, .int 9, .int a2] (wPre (dC, dI) [(cI, .int), (c2, .array .int), (cZ, .boolean)] ([(o1, .inr (12, [.int v2, .ref o3, .int v5, .ref o6, .int v8, .ref o9, .ref o11, .int v13, .ref o14, .int v16, .ref o17, .int v19, .int v20, .int v21, .ref o22, .ref o24, .ref o26, .ref o28, .ref o30, .int v32, .ref o33, .ref o35, .ref o37, .int v39, .ref o40, .ref o42, .ref o44, .int v46, .ref o47])), (o11, .inl (cI, 12, .inl fw12)), (o6, .inl (cI, 12, .inl fw7))]) sz)) (va_Qi (fun (r : Int32) (u : (Nat → Int32)) => Iv 0 1 r ∧ Bd 12 0 11 u) (fun u t => wPost (dC, dI) [(cI, .int), (c2, .array .int), (cZ, .boolean)] (va_A ([(o1, .inr (12, [.int v2, .ref o3, .int v5, .ref o6, .int v8, .ref o9, .ref o11, .int v13, .ref o14, .int v16, .ref o17, .int v19, .int v20, .int v21, .ref o22, .ref o24, .ref o26, .ref o28, .ref o30, .int v32, .ref o33, .ref o35, .ref o37, .int v39, .ref o40, .ref o42, .ref o44, .int v46, .ref o47])), (o11, .inl (cI, 12, .inl fw12)), (o6, .inl (cI, 12, .inl fw7))]) sz) ([(o1, .inr (12, [.int v2, .ref o3, .int v5, .ref o6, .int v8, .ref o9, .ref o11, .int v13, .ref o14, .int v16, .ref o17, .int v19, .int v20, .int v21, .ref o22, .ref o24, .ref o26, .ref o28, .ref o30, .int v32, .ref o33, .ref o35, .ref o37, .int v39, .ref o40, .ref o42, .ref o44, .int v46, .ref o47])), (o11, .inl (cI, 12, .inl u)), (o6, .inl (cI, 12, .inl fw7))]) t) (va_A ([(o1, .inr (12, [.int v2, .ref o3, .int v5, .ref o6, .int v8, .ref o9, .ref o11, .int v13, .ref o14, .int v16, .ref o17, .int v19, .int v20, .int v21, .ref o22, .ref o24, .ref o26, .ref o28, .ref o30, .int v32, .ref o33, .ref o35, .ref o37, .int v39, .ref o40, .ref o42, .ref o44, .int v46, .ref o47])), (o11, .inl (cI, 12, .inl fw12)), (o6, .inl (cI, 12, .inl fw7))]) sz)) 0 0 (va_A ([(o1, .inr (12, [.int v2, .ref o3, .int v5, .ref o6, .int v8, .ref o9, .ref o11, .int v13, .ref o14, .int v16, .ref o17, .int v19, .int v20, .int v21, .ref o22, .ref o24, .ref o26, .ref o28, .ref o30, .int v32, .ref o33, .ref o35, .ref o37, .int v39, .ref o40, .ref o42, .ref o44, .int v46, .ref o47])), (o11, .inl (cI, 12, .inl fw12)), (o6, .inl (cI, 12, .inl fw7))]) sz) := by
  refine Met.ofW (cc := cX12_goesOn) (maxL := 8) (ret := (some .boolean)) (by decide) rfl ?_
  intro p e s m args below meth c s₁ B hml hv
  obtain ⟨rfl, hsz, hP, hK, hD0, hN⟩ := hv
  have hx := B.exec
  have hb := B.bytes
  have hr := B.returns
  have hts := atoms_spec (ws := wsX12_goesOn) B.pre
  have hown : s.vm.findClass RX12 = some m.cls := findClass_of_methodNamed B.named
  have hlocks := B.notSynchronized
  subst hsz
  have hD := hD0.self (sz := s.heap.size)
  generalize hAe : va_A ([(o1, .inr (12, [.int v2, .ref o3, .int v5, .ref o6, .int v8, .ref o9, .ref o11, .int v13, .ref o14, .int v16, .ref o17, .int v19, .int v20, .int v21, .ref o22, .ref o24, .ref o26, .ref o28, .ref o30, .int v32, .ref o33, .ref o35, .ref o37, .int v39, .ref o40, .ref o42, .ref o44, .int v46, .ref o47])), (o11, .inl (cI, 12, .inl fw12)), (o6, .inl (cI, 12, .inl fw7))]) s.heap.size = A at hD ⊢
  have hA : ∀ q : Nat, s.heap.size ≤ q → A q := fun q h => by rw [← hAe]; exact Or.inr h
  have hS : va_S A s.heap s.heap [] := va_S.rf
  have hP : va_P (dC, dI) vwCl ([(o1, .inr (12, [.int v2, .ref o3, .int v5, .ref o6, .int v8, .ref o9, .ref o11, .int v13, .ref o14, .int v16, .ref o17, .int v19, .int v20, .int v21, .ref o22, .ref o24, .ref o26, .ref o28, .ref o30, .int v32, .ref o33, .ref o35, .ref o37, .int v39, .ref o40, .ref o42, .ref o44, .int v46, .ref o47])), (o11, .inl (cI, 12, .inl fw12)), (o6, .inl (cI, 12, .inl fw7))]) s.heap := hP
  have hl := lv_entry ([.ref o1, .int 9, .int a2]) (n := 8) (Nat.le_of_ble_eq_true rfl)
  rw [lg_entry_eq]
  generalize (lg_sl ([.ref o1, .int 9, .int a2]) ++ List.replicate (8 - (lg_sl ([.ref o1, .int 9, .int a2])).length) Slot.unset).toArray = ls at hl ⊢
  have hl : lv_has ls 8 [(0, .ref o1), (1, .int 9), (2, .int a2)] := hl
  refine gen_Q (fun Q hQ => ?_)
  refine lv_aload_n hx hb dX12_goesOn_0 rfl (lv_at hl 0 rfl) ?_
  refine va_get (D := (dC, dI)) (ci := 12) (v := .ref o11) (C := RX12) (T := TX12) (N := 29) hx hb hts iw_X12_goesOn_X12 hown hK hP 0 rfl rfl 6 (by decide) (hts (.fieldLink RX12 19 "HolelessHouseModel" "ring" "[I") hm_X12_goesOn_1) (fun _ h9 => h9) rfl dX12_goesOn_1 ?_
  refine lv_iload_n hx hb dX12_goesOn_4 rfl (lv_at hl 1 rfl) ?_
  refine lv_iconst (v := 1) hx hb dX12_goesOn_5 (by decide) ?_
  refine lv_isub hx hb dX12_goesOn_6 (tk_i (v := 8) (by decide +kernel) ?_)
  refine va_iald hx hb hK hP 1 0 rfl rfl (vin_iv ik_8 (by decide)) dX12_goesOn_7 (lv_topi (fun x1 x1_e => ?_))
  have x1_h : Iv 0 11 x1 := iv_e x1_e (bd_at fw12_b (vin_iv ik_8 (by decide)))
  refine lv_istore_n (lv' := [(3, .int x1), (0, .ref o1), (1, .int 9), (2, .int a2)]) hx hb dX12_goesOn_8 rfl hl (by decide) rfl (fun ls hl => ?_)
  refine lv_aload_n hx hb dX12_goesOn_9 rfl (lv_at hl 1 rfl) ?_
  refine va_get (D := (dC, dI)) (ci := 12) (v := .ref o11) (C := RX12) (T := TX12) (N := 29) hx hb hts iw_X12_goesOn_X12 hown hK hP 0 rfl rfl 6 (by decide) (hts (.fieldLink RX12 19 "HolelessHouseModel" "ring" "[I") hm_X12_goesOn_1) (fun _ h9 => h9) rfl dX12_goesOn_10 ?_
  refine lv_iconst (v := 0) hx hb dX12_goesOn_13 (by decide) ?_
  refine va_iald hx hb hK hP 1 0 rfl rfl (vin_iv ik_0 (by decide)) dX12_goesOn_14 (lv_topi (fun x2 x2_e => ?_))
  have x2_h : Iv 0 11 x2 := iv_e x2_e (bd_at fw12_b (vin_iv ik_0 (by decide)))
  refine lv_iconst (v := 1) hx hb dX12_goesOn_15 (by decide) ?_
  refine lv_iadd hx hb dX12_goesOn_16 (lv_topi (fun x3 x3_e => ?_))
  have x3_h : Iv 1 12 x3 := iv_e x3_e (iv_add x2_h ik_1 (by decide))
  refine lv_istore (lv' := [(4, .int x3), (3, .int x1), (0, .ref o1), (1, .int 9), (2, .int a2)]) hx hb dX12_goesOn_17 hl (by decide) rfl (fun ls hl => ?_)
  have L3 : ∀ (N : Nat) (x855 : Int32) (f856 : Nat → Int32) (H : Heap) (locs : List Loc) (ls : Array Slot), (12 - x855.toInt).toNat < N → Iv 1 12 x855 → Bd 12 0 11 f856 → va_P (dC, dI) vwCl ([(o1, .inr (12, [.int v2, .ref o3, .int v5, .ref o6, .int v8, .ref o9, .ref o11, .int v13, .ref o14, .int v16, .ref o17, .int v19, .int v20, .int v21, .ref o22, .ref o24, .ref o26, .ref o28, .ref o30, .int v32, .ref o33, .ref o35, .ref o37, .int v39, .ref o40, .ref o42, .ref o44, .int v46, .ref o47])), (o11, .inl (cI, 12, .inl f856)), (o6, .inl (cI, 12, .inl fw7))]) H → va_D A ([(o1, .inr (12, [.int v2, .ref o3, .int v5, .ref o6, .int v8, .ref o9, .ref o11, .int v13, .ref o14, .int v16, .ref o17, .int v19, .int v20, .int v21, .ref o22, .ref o24, .ref o26, .ref o28, .ref o30, .int v32, .ref o33, .ref o35, .ref o37, .int v39, .ref o40, .ref o42, .ref o44, .int v46, .ref o47])), (o11, .inl (cI, 12, .inl f856)), (o6, .inl (cI, 12, .inl fw7))]) → va_S A s.heap H locs → lv_has ls 8 [(4, .int x855), (3, .int x1), (0, .ref o1), (1, .int 9), (2, .int a2)] → W p l e ({ frames := 3, cells := 0, slots := 0, locals := 75 }) s m ([.ref o1, .int 9, .int a2] : List Value).toArray below meth c H locs 0 0 Q (F0 m 19 ls []) := by
    intro N
    induction N with
    | zero =>
      intro x855 f856 H locs ls hM
      exact absurd hM (Nat.not_lt_zero _)
    | succ N ih3 =>
      intro x855 f856 H locs ls hM3 x855_h f856_b hP hD hS hl
      refine lv_iload hx hb dX12_goesOn_19 (lv_at hl 0 rfl) ?_
      refine lv_aload_n hx hb dX12_goesOn_21 rfl (lv_at hl 2 rfl) ?_
      refine va_get (D := (dC, dI)) (ci := 12) (v := .int v5) (C := RX12) (T := TX12) (N := 29) hx hb hts iw_X12_goesOn_X12 hown hK hP 0 rfl rfl 2 (by decide) (hts (.fieldLink RX12 73 "HolelessHouseModel" "n" "I") hm_X12_goesOn_2) (fun _ h9 => h9) rfl dX12_goesOn_22 ?_
      refine lv_icmp_ge (tgt := 193) hx hb dX12_goesOn_25 (by decide) (fun h857 => ?_) (fun h857 => ?_)
      ·
        have qh857 := le_i h857
        refine lv_iload_n hx hb dX12_goesOn_193 rfl (lv_at hl 1 rfl) ?_
        refine lv_if_ge (tgt := 201) hx hb dX12_goesOn_194 (by decide) (fun _ => ?_) (fun h9 => absurd (d_le ik_0 x1_h (by decide)) h9)
        refine lv_iconst (v := 0) hx hb dX12_goesOn_201 (by decide) ?_
        rw [hQ]
        exact W.zret (v := 0) (ty := .boolean) hx hb hr rfl (fun t ht hW => ⟨⟨0, f856, rfl, ⟨(iv_w ik_0 (by decide)), f856_b⟩, by rw [ht]; exact hP, va_K.moved hW.alike hK, hD⟩, hS.F ht⟩) hS.2.2 dX12_goesOn_202
      ·
        have qh857 := nle_i h857
        have j858 : Iv 1 11 x855 := r_ltl qh857 x855_h v5_h (by decide)
        have j859 : Iv 2 12 v5 := r_ltr qh857 x855_h v5_h (by decide)
        refine lv_iconst (v := 0) hx hb dX12_goesOn_28 (by decide) ?_
        refine lv_istore (lv' := [(5, .int 0), (4, .int x855), (3, .int x1), (0, .ref o1), (1, .int 9), (2, .int a2)]) hx hb dX12_goesOn_29 hl (by decide) rfl (fun ls hl => ?_)
        refine lv_iconst (v := 0) hx hb dX12_goesOn_31 (by decide) ?_
        refine lv_istore (lv' := [(6, .int 0), (5, .int 0), (4, .int x855), (3, .int x1), (0, .ref o1), (1, .int 9), (2, .int a2)]) hx hb dX12_goesOn_32 hl (by decide) rfl (fun ls hl => ?_)
        refine lv_iconst (v := 0) hx hb dX12_goesOn_34 (by decide) ?_
        refine lv_istore (lv' := [(7, .int 0), (6, .int 0), (5, .int 0), (4, .int x855), (3, .int x1), (0, .ref o1), (1, .int 9), (2, .int a2)]) hx hb dX12_goesOn_35 hl (by decide) rfl (fun ls hl => ?_)
        have L4 : ∀ (N : Nat) (x1190 : Int32) (x1191 : Int32) (x1192 : Int32) (H : Heap) (locs : List Loc) (ls : Array Slot), (11 - x1190.toInt).toNat < N → Iv 0 11 x1190 → Iv 0 4095 x1191 → Iv 0 1 x1192 → va_P (dC, dI) vwCl ([(o1, .inr (12, [.int v2, .ref o3, .int v5, .ref o6, .int v8, .ref o9, .ref o11, .int v13, .ref o14, .int v16, .ref o17, .int v19, .int v20, .int v21, .ref o22, .ref o24, .ref o26, .ref o28, .ref o30, .int v32, .ref o33, .ref o35, .ref o37, .int v39, .ref o40, .ref o42, .ref o44, .int v46, .ref o47])), (o11, .inl (cI, 12, .inl f856)), (o6, .inl (cI, 12, .inl fw7))]) H → va_D A ([(o1, .inr (12, [.int v2, .ref o3, .int v5, .ref o6, .int v8, .ref o9, .ref o11, .int v13, .ref o14, .int v16, .ref o17, .int v19, .int v20, .int v21, .ref o22, .ref o24, .ref o26, .ref o28, .ref o30, .int v32, .ref o33, .ref o35, .ref o37, .int v39, .ref o40, .ref o42, .ref o44, .int v46, .ref o47])), (o11, .inl (cI, 12, .inl f856)), (o6, .inl (cI, 12, .inl fw7))]) → va_S A s.heap H locs → lv_has ls 8 [(7, .int x1190), (6, .int x1192), (5, .int x1191), (4, .int x855), (3, .int x1), (0, .ref o1), (1, .int 9), (2, .int a2)] → W p l e ({ frames := 3, cells := 0, slots := 0, locals := 75 }) s m ([.ref o1, .int 9, .int a2] : List Value).toArray below meth c H locs 0 0 Q (F0 m 37 ls []) := by
          intro N
          induction N with
          | zero =>
            intro x1190 x1191 x1192 H locs ls hM
            exact absurd hM (Nat.not_lt_zero _)
          | succ N ih4 =>
            intro x1190 x1191 x1192 H locs ls hM4 x1190_h x1191_h x1192_h hP hD hS hl
            refine lv_iload hx hb dX12_goesOn_37 (lv_at hl 0 rfl) ?_
            refine lv_iload_n hx hb dX12_goesOn_39 rfl (lv_at hl 6 rfl) ?_
            refine lv_icmp_ge (tgt := 106) hx hb dX12_goesOn_40 (by decide) (fun h1193 => ?_) (fun h1193 => ?_)
            ·
              have qh1193 := le_i h1193
              have j1194 : Iv 9 11 x1190 := r_ler qh1193 ik_9 x1190_h (by decide)
              refine lv_iconst (v := 1) hx hb dX12_goesOn_106 (by decide) ?_
              refine lv_iload_n hx hb dX12_goesOn_107 rfl (lv_at hl 6 rfl) ?_
              refine lv_iconst (v := 1) hx hb dX12_goesOn_108 (by decide) ?_
              refine lv_isub hx hb dX12_goesOn_109 (tk_i (v := 8) (by decide +kernel) ?_)
              refine lv_ishl hx hb dX12_goesOn_110 (tk_i (v := 256) (by decide +kernel) ?_)
              refine lv_iload_n hx hb dX12_goesOn_111 rfl (lv_at hl 6 rfl) ?_
              refine lv_iload_n hx hb dX12_goesOn_112 rfl (lv_at hl 7 rfl) ?_
              refine lv_iconst (v := 1) hx hb dX12_goesOn_113 (by decide) ?_
              refine lv_isub hx hb dX12_goesOn_114 (lv_topi (fun x1195 x1195_e => ?_))
              have x1195_h : Iv 9 11 x1195 := iv_e x1195_e (iv_sub a2_h ik_1 (by decide))
              refine lv_icmp_ne (tgt := 122) hx hb dX12_goesOn_115 (by decide) (fun h1196 => ?_) (fun h1196 => ?_)
              ·
                have j1197 : Iv 10 11 x1195 := r_nelo (fun q => h1196 q.symm) x1195_h ik_9 (by decide)
                have j1198 : Iv 11 12 a2 := ivb_sub x1195_e a2_h ik_1 j1197 (by decide)
                refine lv_iconst (v := 0) hx hb dX12_goesOn_122 (by decide) ?_
                refine lv_ior hx hb dX12_goesOn_123 (tk_i (v := 256) (by decide +kernel) ?_)
                refine lv_istore (lv' := [(7, .int 256), (6, .int x1192), (5, .int x1191), (4, .int x855), (3, .int x1), (0, .ref o1), (1, .int 9), (2, .int a2)]) hx hb dX12_goesOn_124 hl (by decide) rfl (fun ls hl => ?_)
                refine lv_iload hx hb dX12_goesOn_126 (lv_at hl 1 rfl) ?_
                refine lv_if_ne (tgt := 187) hx hb dX12_goesOn_128 (by decide) (fun h1199 => ?_) (fun h1199 => ?_)
                ·
                  have j1200 : Iv 1 1 x1192 := r_nelo h1199 x1192_h ik_0 (by decide)
                  obtain ⟨x1201, x1201_e⟩ : ∃ z : Int32, z = x855 + 1 := ⟨_, rfl⟩
                  have x1201_h : Iv 2 12 x1201 := iv_e x1201_e (iv_add j858 ik_1 (by decide))
                  refine lv_iinc (v := x1201) (lv' := [(4, .int x1201), (7, .int 256), (6, .int x1192), (5, .int x1191), (3, .int x1), (0, .ref o1), (1, .int 9), (2, .int a2)]) hx hb dX12_goesOn_187 hl (k := 3) rfl (incN (by decide +kernel) x1201_e) (by decide) rfl (fun ls hl => ?_)
                  refine lv_goto (tgt := 19) hx hb dX12_goesOn_190 (by decide) ?_
                  exact ih3 x1201 f856 _ _ _ (ms_up x1201_e j858 (by decide) hM3) (iv_w x1201_h (by decide)) f856_b hP hD hS (lv_sub hl [0, 4, 5, 6, 7] rfl)
                ·
                  have j1202 : Iv 0 0 x1192 := r_eq h1199 ik_0
                  refine lv_iload hx hb dX12_goesOn_131 (lv_at hl 2 rfl) ?_
                  refine lv_iload hx hb dX12_goesOn_133 (lv_at hl 0 rfl) ?_
                  refine lv_icmp_ne (tgt := 187) hx hb dX12_goesOn_135 (by decide) (fun h1203 => ?_) (fun h1203 => ?_)
                  ·
                    obtain ⟨x1204, x1204_e⟩ : ∃ z : Int32, z = x855 + 1 := ⟨_, rfl⟩
                    have x1204_h : Iv 2 12 x1204 := iv_e x1204_e (iv_add j858 ik_1 (by decide))
                    refine lv_iinc (v := x1204) (lv' := [(4, .int x1204), (7, .int 256), (6, .int x1192), (5, .int x1191), (3, .int x1), (0, .ref o1), (1, .int 9), (2, .int a2)]) hx hb dX12_goesOn_187 hl (k := 3) rfl (incN (by decide +kernel) x1204_e) (by decide) rfl (fun ls hl => ?_)
                    refine lv_goto (tgt := 19) hx hb dX12_goesOn_190 (by decide) ?_
                    exact ih3 x1204 f856 _ _ _ (ms_up x1204_e j858 (by decide) hM3) (iv_w x1204_h (by decide)) f856_b hP hD hS (lv_sub hl [0, 4, 5, 6, 7] rfl)
                  ·
                    have j1205 : Iv 256 256 x1191 := r_eq h1203 ik_256
                    refine lv_iload_n hx hb dX12_goesOn_138 rfl (lv_at hl 6 rfl) ?_
                    refine lv_iload_n hx hb dX12_goesOn_139 rfl (lv_at hl 7 rfl) ?_
                    refine lv_iconst (v := 1) hx hb dX12_goesOn_140 (by decide) ?_
                    refine lv_isub hx hb dX12_goesOn_141 (lv_topi (fun x1206 x1206_e => ?_))
                    have x1206_h : Iv 10 11 x1206 := iv_e x1206_e (iv_sub j1198 ik_1 (by decide))
                    refine lv_icmp_ne (tgt := 159) hx hb dX12_goesOn_142 (by decide) (fun _ => ?_) (fun h9 => absurd h9 (d_ne ik_9 x1206_h (by decide)))
                    refine lv_aload_n hx hb dX12_goesOn_159 rfl (lv_at hl 5 rfl) ?_
                    refine va_get (D := (dC, dI)) (ci := 12) (v := .ref o11) (C := RX12) (T := TX12) (N := 29) hx hb hts iw_X12_goesOn_X12 hown hK hP 0 rfl rfl 6 (by decide) (hts (.fieldLink RX12 19 "HolelessHouseModel" "ring" "[I") hm_X12_goesOn_1) (fun _ h9 => h9) rfl dX12_goesOn_160 ?_
                    refine lv_iload_n hx hb dX12_goesOn_163 rfl (lv_at hl 6 rfl) ?_
                    refine lv_iload hx hb dX12_goesOn_164 (lv_at hl 3 rfl) ?_
                    refine k_iast hx hb hK hP hD hS 1 0 rfl rfl (vin_iv ik_9 (by decide)) dX12_goesOn_166 (fun f1207 H locs f1207_e hP hD hS => ?_)
                    have f1207_b : Bd 12 0 11 f1207 := bd_upd f1207_e f856_b j858 (by decide)
                    have hP : va_P (dC, dI) vwCl ([(o1, .inr (12, [.int v2, .ref o3, .int v5, .ref o6, .int v8, .ref o9, .ref o11, .int v13, .ref o14, .int v16, .ref o17, .int v19, .int v20, .int v21, .ref o22, .ref o24, .ref o26, .ref o28, .ref o30, .int v32, .ref o33, .ref o35, .ref o37, .int v39, .ref o40, .ref o42, .ref o44, .int v46, .ref o47])), (o11, .inl (cI, 12, .inl f1207)), (o6, .inl (cI, 12, .inl fw7))]) H := hP
                    have hD : va_D A ([(o1, .inr (12, [.int v2, .ref o3, .int v5, .ref o6, .int v8, .ref o9, .ref o11, .int v13, .ref o14, .int v16, .ref o17, .int v19, .int v20, .int v21, .ref o22, .ref o24, .ref o26, .ref o28, .ref o30, .int v32, .ref o33, .ref o35, .ref o37, .int v39, .ref o40, .ref o42, .ref o44, .int v46, .ref o47])), (o11, .inl (cI, 12, .inl f1207)), (o6, .inl (cI, 12, .inl fw7))]) := hD
                    refine lv_iload_n hx hb dX12_goesOn_167 rfl (lv_at hl 6 rfl) ?_
                    refine lv_iload_n hx hb dX12_goesOn_168 rfl (lv_at hl 7 rfl) ?_
                    refine lv_iconst (v := 1) hx hb dX12_goesOn_169 (by decide) ?_
                    refine lv_isub hx hb dX12_goesOn_170 (lv_topi (fun x1208 x1208_e => ?_))
                    have x1208_h : Iv 10 11 x1208 := iv_e x1208_e (iv_sub j1198 ik_1 (by decide))
                    refine lv_icmp_eq (tgt := 185) hx hb dX12_goesOn_171 (by decide) (fun h9 => absurd h9 (d_ne ik_9 x1208_h (by decide))) (fun _ => ?_)
                    refine lv_aload_n hx hb dX12_goesOn_174 rfl (lv_at hl 5 rfl) ?_
                    refine lv_iload_n hx hb dX12_goesOn_175 rfl (lv_at hl 6 rfl) ?_
                    refine lv_iconst (v := 1) hx hb dX12_goesOn_176 (by decide) ?_
                    refine lv_iadd hx hb dX12_goesOn_177 (tk_i (v := 10) (by decide +kernel) ?_)
                    refine lv_iload_n hx hb dX12_goesOn_178 rfl (lv_at hl 7 rfl) ?_
                    refine kc_i (D := (dC, dI)) (S := (Nat → Int32)) (wc := [(o1, .inr (12, [.int v2, .ref o3, .int v5, .ref o6, .int v8, .ref o9, .ref o11, .int v13, .ref o14, .int v16, .ref o17, .int v19, .int v20, .int v21, .ref o22, .ref o24, .ref o26, .ref o28, .ref o30, .int v32, .ref o33, .ref o35, .ref o37, .int v39, .ref o40, .ref o42, .ref o44, .int v46, .ref o47])), (o11, .inl (cI, 12, .inl f1207)), (o6, .inl (cI, 12, .inl fw7))]) (wr := []) (w1 := fun u => [(o1, .inr (12, [.int v2, .ref o3, .int v5, .ref o6, .int v8, .ref o9, .ref o11, .int v13, .ref o14, .int v16, .ref o17, .int v19, .int v20, .int v21, .ref o22, .ref o24, .ref o26, .ref o28, .ref o30, .int v32, .ref o33, .ref o35, .ref o37, .int v39, .ref o40, .ref o42, .ref o44, .int v46, .ref o47])), (o11, .inl (cI, 12, .inl u)), (o6, .inl (cI, 12, .inl fw7))]) (wn := fun u => [(o1, .inr (12, [.int v2, .ref o3, .int v5, .ref o6, .int v8, .ref o9, .ref o11, .int v13, .ref o14, .int v16, .ref o17, .int v19, .int v20, .int v21, .ref o22, .ref o24, .ref o26, .ref o28, .ref o30, .int v32, .ref o33, .ref o35, .ref o37, .int v39, .ref o40, .ref o42, .ref o44, .int v46, .ref o47])), (o11, .inl (cI, 12, .inl u)), (o6, .inl (cI, 12, .inl fw7))]) (fun hPc hDc => va_runV (As := [.int 10, .int a2]) (rest := []) ⟨hx, hb, hml, hown, hts⟩ (kX12_goesOn_2 l dC dI cI c2 cZ o1 o3 o6 o9 o11 o14 o17 o22 o24 o26 o28 o30 o33 o35 o37 o40 o42 o44 o47 v2 v5 fw7 v8 f1207 v13 v16 v19 v20 v21 v32 v39 v46 a2 H.size (iv_w j859 (by decide)) fw7_b v8_h f1207_b v13_h v16_h v19_h v32_h v39_h v46_h j1198) (cwV 2 hts gX12_goesOn_X12_goesOn rfl rfl rfl (by decide +kernel) ⟨Nat.le_of_ble_eq_true rfl, Nat.le_of_ble_eq_true rfl⟩) (pre_V hPc hK hDc hN (ci := 12) (q0 := 0) rfl rfl) rfl rfl hl.1 rfl (lv_room (Nat.le_of_ble_eq_true rfl)) dX12_goesOn_179 ⟨Nat.le_of_ble_eq_true rfl, Nat.le_of_ble_eq_true rfl⟩) hP hD hS hA [0, 1, 2] [] [0, 1, 2] rfl rfl (by decide +kernel) (by decide +kernel) (by decide +kernel) (by decide +kernel) (fun _ => rfl) (fun x1210 f1209 H locs hq hP hD hS => ?_)
                    obtain ⟨x1210_h, f1209_b⟩ := hq
                    have hP : va_P (dC, dI) vwCl ([(o1, .inr (12, [.int v2, .ref o3, .int v5, .ref o6, .int v8, .ref o9, .ref o11, .int v13, .ref o14, .int v16, .ref o17, .int v19, .int v20, .int v21, .ref o22, .ref o24, .ref o26, .ref o28, .ref o30, .int v32, .ref o33, .ref o35, .ref o37, .int v39, .ref o40, .ref o42, .ref o44, .int v46, .ref o47])), (o11, .inl (cI, 12, .inl f1209)), (o6, .inl (cI, 12, .inl fw7))]) H := hP
                    have hD : va_D A ([(o1, .inr (12, [.int v2, .ref o3, .int v5, .ref o6, .int v8, .ref o9, .ref o11, .int v13, .ref o14, .int v16, .ref o17, .int v19, .int v20, .int v21, .ref o22, .ref o24, .ref o26, .ref o28, .ref o30, .int v32, .ref o33, .ref o35, .ref o37, .int v39, .ref o40, .ref o42, .ref o44, .int v46, .ref o47])), (o11, .inl (cI, 12, .inl f1209)), (o6, .inl (cI, 12, .inl fw7))]) := hD
                    refine lv_if_eq (tgt := 187) hx hb dX12_goesOn_182 (by decide) (fun h1211 => ?_) (fun h1211 => ?_)
                    ·
                      have j1212 : Iv 0 0 x1210 := r_eq h1211 ik_0
                      obtain ⟨x1213, x1213_e⟩ : ∃ z : Int32, z = x855 + 1 := ⟨_, rfl⟩
                      have x1213_h : Iv 2 12 x1213 := iv_e x1213_e (iv_add j858 ik_1 (by decide))
                      refine lv_iinc (v := x1213) (lv' := [(4, .int x1213), (7, .int 256), (6, .int x1192), (5, .int x1191), (3, .int x1), (0, .ref o1), (1, .int 9), (2, .int a2)]) hx hb dX12_goesOn_187 hl (k := 3) rfl (incN (by decide +kernel) x1213_e) (by decide) rfl (fun ls hl => ?_)
                      refine lv_goto (tgt := 19) hx hb dX12_goesOn_190 (by decide) ?_
                      exact ih3 x1213 f1209 _ _ _ (ms_up x1213_e j858 (by decide) hM3) (iv_w x1213_h (by decide)) f1209_b hP hD hS (lv_sub hl [0, 4, 5, 6, 7] rfl)
                    ·
                      have j1214 : Iv 1 1 x1210 := r_nelo h1211 x1210_h ik_0 (by decide)
                      refine lv_iconst (v := 1) hx hb dX12_goesOn_185 (by decide) ?_
                      rw [hQ]
                      exact W.zret (v := 1) (ty := .boolean) hx hb hr rfl (fun t ht hW => ⟨⟨1, f1209, rfl, ⟨(iv_w ik_1 (by decide)), f1209_b⟩, by rw [ht]; exact hP, va_K.moved hW.alike hK, hD⟩, hS.F ht⟩) hS.2.2 dX12_goesOn_186
              ·
                have j1215 : Iv 9 9 x1195 := r_eq h1196.symm ik_9
                have j1216 : Iv 10 10 a2 := ivb_sub x1195_e a2_h ik_1 j1215 (by decide)
                refine lv_iconst (v := 1) hx hb dX12_goesOn_118 (by decide) ?_
                refine lv_goto (tgt := 123) hx hb dX12_goesOn_119 (by decide) ?_
                refine lv_ior hx hb dX12_goesOn_123 (tk_i (v := 257) (by decide +kernel) ?_)
                refine lv_istore (lv' := [(7, .int 257), (6, .int x1192), (5, .int x1191), (4, .int x855), (3, .int x1), (0, .ref o1), (1, .int 9), (2, .int a2)]) hx hb dX12_goesOn_124 hl (by decide) rfl (fun ls hl => ?_)
                refine lv_iload hx hb dX12_goesOn_126 (lv_at hl 1 rfl) ?_
                refine lv_if_ne (tgt := 187) hx hb dX12_goesOn_128 (by decide) (fun h1217 => ?_) (fun h1217 => ?_)
                ·
                  have j1218 : Iv 1 1 x1192 := r_nelo h1217 x1192_h ik_0 (by decide)
                  obtain ⟨x1219, x1219_e⟩ : ∃ z : Int32, z = x855 + 1 := ⟨_, rfl⟩
                  have x1219_h : Iv 2 12 x1219 := iv_e x1219_e (iv_add j858 ik_1 (by decide))
                  refine lv_iinc (v := x1219) (lv' := [(4, .int x1219), (7, .int 257), (6, .int x1192), (5, .int x1191), (3, .int x1), (0, .ref o1), (1, .int 9), (2, .int a2)]) hx hb dX12_goesOn_187 hl (k := 3) rfl (incN (by decide +kernel) x1219_e) (by decide) rfl (fun ls hl => ?_)
                  refine lv_goto (tgt := 19) hx hb dX12_goesOn_190 (by decide) ?_
                  exact ih3 x1219 f856 _ _ _ (ms_up x1219_e j858 (by decide) hM3) (iv_w x1219_h (by decide)) f856_b hP hD hS (lv_sub hl [0, 4, 5, 6, 7] rfl)
                ·
                  have j1220 : Iv 0 0 x1192 := r_eq h1217 ik_0
                  refine lv_iload hx hb dX12_goesOn_131 (lv_at hl 2 rfl) ?_
                  refine lv_iload hx hb dX12_goesOn_133 (lv_at hl 0 rfl) ?_
                  refine lv_icmp_ne (tgt := 187) hx hb dX12_goesOn_135 (by decide) (fun h1221 => ?_) (fun h1221 => ?_)
                  ·
                    obtain ⟨x1222, x1222_e⟩ : ∃ z : Int32, z = x855 + 1 := ⟨_, rfl⟩
                    have x1222_h : Iv 2 12 x1222 := iv_e x1222_e (iv_add j858 ik_1 (by decide))
                    refine lv_iinc (v := x1222) (lv' := [(4, .int x1222), (7, .int 257), (6, .int x1192), (5, .int x1191), (3, .int x1), (0, .ref o1), (1, .int 9), (2, .int a2)]) hx hb dX12_goesOn_187 hl (k := 3) rfl (incN (by decide +kernel) x1222_e) (by decide) rfl (fun ls hl => ?_)
                    refine lv_goto (tgt := 19) hx hb dX12_goesOn_190 (by decide) ?_
                    exact ih3 x1222 f856 _ _ _ (ms_up x1222_e j858 (by decide) hM3) (iv_w x1222_h (by decide)) f856_b hP hD hS (lv_sub hl [0, 4, 5, 6, 7] rfl)
                  ·
                    have j1223 : Iv 257 257 x1191 := r_eq h1221 ik_257
                    refine lv_iload_n hx hb dX12_goesOn_138 rfl (lv_at hl 6 rfl) ?_
                    refine lv_iload_n hx hb dX12_goesOn_139 rfl (lv_at hl 7 rfl) ?_
                    refine lv_iconst (v := 1) hx hb dX12_goesOn_140 (by decide) ?_
                    refine lv_isub hx hb dX12_goesOn_141 (lv_topi (fun x1224 x1224_e => ?_))
                    have x1224_h : Iv 9 9 x1224 := iv_e x1224_e (iv_sub j1216 ik_1 (by decide))
                    refine lv_icmp_ne (tgt := 159) hx hb dX12_goesOn_142 (by decide) (fun h9 => absurd (d_eq ik_9 x1224_h) h9) (fun _ => ?_)
                    refine lv_iload hx hb dX12_goesOn_145 (lv_at hl 3 rfl) ?_
                    refine lv_aload_n hx hb dX12_goesOn_147 rfl (lv_at hl 5 rfl) ?_
                    refine va_get (D := (dC, dI)) (ci := 12) (v := .ref o11) (C := RX12) (T := TX12) (N := 29) hx hb hts iw_X12_goesOn_X12 hown hK hP 0 rfl rfl 6 (by decide) (hts (.fieldLink RX12 19 "HolelessHouseModel" "ring" "[I") hm_X12_goesOn_1) (fun _ h9 => h9) rfl dX12_goesOn_148 ?_
                    refine lv_iconst (v := 1) hx hb dX12_goesOn_151 (by decide) ?_
                    refine va_iald hx hb hK hP 1 0 rfl rfl (vin_iv ik_1 (by decide)) dX12_goesOn_152 (lv_topi (fun x1225 x1225_e => ?_))
                    have x1225_h : Iv 0 11 x1225 := iv_e x1225_e (bd_at f856_b (vin_iv ik_1 (by decide)))
                    refine lv_icmp_ge (tgt := 159) hx hb dX12_goesOn_153 (by decide) (fun h1226 => ?_) (fun h1226 => ?_)
                    ·
                      have qh1226 := le_i h1226
                      refine lv_aload_n hx hb dX12_goesOn_159 rfl (lv_at hl 5 rfl) ?_
                      refine va_get (D := (dC, dI)) (ci := 12) (v := .ref o11) (C := RX12) (T := TX12) (N := 29) hx hb hts iw_X12_goesOn_X12 hown hK hP 0 rfl rfl 6 (by decide) (hts (.fieldLink RX12 19 "HolelessHouseModel" "ring" "[I") hm_X12_goesOn_1) (fun _ h9 => h9) rfl dX12_goesOn_160 ?_
                      refine lv_iload_n hx hb dX12_goesOn_163 rfl (lv_at hl 6 rfl) ?_
                      refine lv_iload hx hb dX12_goesOn_164 (lv_at hl 3 rfl) ?_
                      refine k_iast hx hb hK hP hD hS 1 0 rfl rfl (vin_iv ik_9 (by decide)) dX12_goesOn_166 (fun f1227 H locs f1227_e hP hD hS => ?_)
                      have f1227_b : Bd 12 0 11 f1227 := bd_upd f1227_e f856_b j858 (by decide)
                      have hP : va_P (dC, dI) vwCl ([(o1, .inr (12, [.int v2, .ref o3, .int v5, .ref o6, .int v8, .ref o9, .ref o11, .int v13, .ref o14, .int v16, .ref o17, .int v19, .int v20, .int v21, .ref o22, .ref o24, .ref o26, .ref o28, .ref o30, .int v32, .ref o33, .ref o35, .ref o37, .int v39, .ref o40, .ref o42, .ref o44, .int v46, .ref o47])), (o11, .inl (cI, 12, .inl f1227)), (o6, .inl (cI, 12, .inl fw7))]) H := hP
                      have hD : va_D A ([(o1, .inr (12, [.int v2, .ref o3, .int v5, .ref o6, .int v8, .ref o9, .ref o11, .int v13, .ref o14, .int v16, .ref o17, .int v19, .int v20, .int v21, .ref o22, .ref o24, .ref o26, .ref o28, .ref o30, .int v32, .ref o33, .ref o35, .ref o37, .int v39, .ref o40, .ref o42, .ref o44, .int v46, .ref o47])), (o11, .inl (cI, 12, .inl f1227)), (o6, .inl (cI, 12, .inl fw7))]) := hD
                      refine lv_iload_n hx hb dX12_goesOn_167 rfl (lv_at hl 6 rfl) ?_
                      refine lv_iload_n hx hb dX12_goesOn_168 rfl (lv_at hl 7 rfl) ?_
                      refine lv_iconst (v := 1) hx hb dX12_goesOn_169 (by decide) ?_
                      refine lv_isub hx hb dX12_goesOn_170 (lv_topi (fun x1228 x1228_e => ?_))
                      have x1228_h : Iv 9 9 x1228 := iv_e x1228_e (iv_sub j1216 ik_1 (by decide))
                      refine lv_icmp_eq (tgt := 185) hx hb dX12_goesOn_171 (by decide) (fun _ => ?_) (fun h9 => absurd (d_eq ik_9 x1228_h) h9)
                      refine lv_iconst (v := 1) hx hb dX12_goesOn_185 (by decide) ?_
                      rw [hQ]
                      exact W.zret (v := 1) (ty := .boolean) hx hb hr rfl (fun t ht hW => ⟨⟨1, f1227, rfl, ⟨(iv_w ik_1 (by decide)), f1227_b⟩, by rw [ht]; exact hP, va_K.moved hW.alike hK, hD⟩, hS.F ht⟩) hS.2.2 dX12_goesOn_186
                    ·
                      have qh1226 := nle_i h1226
                      have j1229 : Iv 1 10 x855 := r_ltl qh1226 j858 x1225_h (by decide)
                      have j1230 : Iv 2 11 x1225 := r_ltr qh1226 j858 x1225_h (by decide)
                      refine lv_goto (tgt := 187) hx hb dX12_goesOn_156 (by decide) ?_
                      obtain ⟨x1231, x1231_e⟩ : ∃ z : Int32, z = x855 + 1 := ⟨_, rfl⟩
                      have x1231_h : Iv 2 11 x1231 := iv_e x1231_e (iv_add j1229 ik_1 (by decide))
                      refine lv_iinc (v := x1231) (lv' := [(4, .int x1231), (7, .int 257), (6, .int x1192), (5, .int x1191), (3, .int x1), (0, .ref o1), (1, .int 9), (2, .int a2)]) hx hb dX12_goesOn_187 hl (k := 3) rfl (incN (by decide +kernel) x1231_e) (by decide) rfl (fun ls hl => ?_)
                      refine lv_goto (tgt := 19) hx hb dX12_goesOn_190 (by decide) ?_
                      exact ih3 x1231 f856 _ _ _ (ms_up x1231_e j1229 (by decide) hM3) (iv_w x1231_h (by decide)) f856_b hP hD hS (lv_sub hl [0, 4, 5, 6, 7] rfl)
            ·
              have qh1193 := nle_i h1193
              have j1232 : Iv 0 8 x1190 := r_ltl qh1193 x1190_h ik_9 (by decide)
              refine lv_iload hx hb dX12_goesOn_43 (lv_at hl 1 rfl) ?_
              refine lv_if_ne (tgt := 60) hx hb dX12_goesOn_45 (by decide) (fun h1233 => ?_) (fun h1233 => ?_)
              ·
                have j1234 : Iv 1 1 x1192 := r_nelo h1233 x1192_h ik_0 (by decide)
                refine lv_iconst (v := 1) hx hb dX12_goesOn_60 (by decide) ?_
                refine lv_goto (tgt := 65) hx hb dX12_goesOn_61 (by decide) ?_
                refine lv_istore (lv' := [(6, .int 1), (7, .int x1190), (5, .int x1191), (4, .int x855), (3, .int x1), (0, .ref o1), (1, .int 9), (2, .int a2)]) hx hb dX12_goesOn_65 hl (by decide) rfl (fun ls hl => ?_)
                refine lv_iload hx hb dX12_goesOn_67 (lv_at hl 2 rfl) ?_
                refine lv_aload_n hx hb dX12_goesOn_69 rfl (lv_at hl 5 rfl) ?_
                refine va_get (D := (dC, dI)) (ci := 12) (v := .ref o6) (C := RX12) (T := TX12) (N := 29) hx hb hts iw_X12_goesOn_X12 hown hK hP 0 rfl rfl 3 (by decide) (hts (.fieldLink RX12 13 "HolelessHouseModel" "near" "[I") hm_X12_goesOn_3) (fun _ h9 => h9) rfl dX12_goesOn_70 ?_
                refine lv_iload hx hb dX12_goesOn_73 (lv_at hl 3 rfl) ?_
                refine va_iald hx hb hK hP 2 0 rfl rfl (vin_iv j858 (by decide)) dX12_goesOn_75 (lv_topi (fun x1235 x1235_e => ?_))
                have x1235_h : Iv 0 4095 x1235 := iv_e x1235_e (bd_at fw7_b (vin_iv j858 (by decide)))
                refine lv_aload_n hx hb dX12_goesOn_76 rfl (lv_at hl 5 rfl) ?_
                refine va_get (D := (dC, dI)) (ci := 12) (v := .ref o11) (C := RX12) (T := TX12) (N := 29) hx hb hts iw_X12_goesOn_X12 hown hK hP 0 rfl rfl 6 (by decide) (hts (.fieldLink RX12 19 "HolelessHouseModel" "ring" "[I") hm_X12_goesOn_1) (fun _ h9 => h9) rfl dX12_goesOn_77 ?_
                refine lv_iload hx hb dX12_goesOn_80 (lv_at hl 1 rfl) ?_
                refine va_iald hx hb hK hP 1 0 rfl rfl (vin_iv j1232 (by decide)) dX12_goesOn_82 (lv_topi (fun x1236 x1236_e => ?_))
                have x1236_h : Iv 0 11 x1236 := iv_e x1236_e (bd_at f856_b (vin_iv j1232 (by decide)))
                refine kc_i (D := (dC, dI)) (S := Unit) (wc := []) (wr := [(o1, .inr (12, [.int v2, .ref o3, .int v5, .ref o6, .int v8, .ref o9, .ref o11, .int v13, .ref o14, .int v16, .ref o17, .int v19, .int v20, .int v21, .ref o22, .ref o24, .ref o26, .ref o28, .ref o30, .int v32, .ref o33, .ref o35, .ref o37, .int v39, .ref o40, .ref o42, .ref o44, .int v46, .ref o47])), (o11, .inl (cI, 12, .inl f856)), (o6, .inl (cI, 12, .inl fw7))]) (w1 := fun _ => []) (wn := fun _ => [(o1, .inr (12, [.int v2, .ref o3, .int v5, .ref o6, .int v8, .ref o9, .ref o11, .int v13, .ref o14, .int v16, .ref o17, .int v19, .int v20, .int v21, .ref o22, .ref o24, .ref o26, .ref o28, .ref o30, .int v32, .ref o33, .ref o35, .ref o37, .int v39, .ref o40, .ref o42, .ref o44, .int v46, .ref o47])), (o11, .inl (cI, 12, .inl f856)), (o6, .inl (cI, 12, .inl fw7))]) (fun hPc hDc => va_runS (As := [.int x1235, .int x1236]) (rest := [.int x1191]) ⟨hx, hb, hml, hown, hts⟩ (kX12_has_1 l dC dI cI c2 cZ x1235 x1236 H.size (iv_w x1236_h (by decide))) (va_cwS 2 hts gX12_goesOn_X12_has rfl rfl rfl (by decide +kernel) ⟨Nat.le_of_ble_eq_true rfl, Nat.le_of_ble_eq_true rfl⟩) (pre_S hPc hK hDc hN) rfl rfl hl.1 rfl (lv_room (Nat.le_of_ble_eq_true rfl)) dX12_goesOn_83 ⟨Nat.le_of_ble_eq_true rfl, Nat.le_of_ble_eq_true rfl⟩) hP hD hS hA [] [0, 1, 2] [0, 1, 2] rfl rfl (by decide +kernel) (by decide +kernel) (by decide +kernel) (by decide +kernel) (fun _ => rfl) (fun x1237 _ H locs hq hP hD hS => ?_)
                obtain ⟨x1237_h, e1238⟩ := hq
                have hP : va_P (dC, dI) vwCl ([(o1, .inr (12, [.int v2, .ref o3, .int v5, .ref o6, .int v8, .ref o9, .ref o11, .int v13, .ref o14, .int v16, .ref o17, .int v19, .int v20, .int v21, .ref o22, .ref o24, .ref o26, .ref o28, .ref o30, .int v32, .ref o33, .ref o35, .ref o37, .int v39, .ref o40, .ref o42, .ref o44, .int v46, .ref o47])), (o11, .inl (cI, 12, .inl f856)), (o6, .inl (cI, 12, .inl fw7))]) H := hP
                have hD : va_D A ([(o1, .inr (12, [.int v2, .ref o3, .int v5, .ref o6, .int v8, .ref o9, .ref o11, .int v13, .ref o14, .int v16, .ref o17, .int v19, .int v20, .int v21, .ref o22, .ref o24, .ref o26, .ref o28, .ref o30, .int v32, .ref o33, .ref o35, .ref o37, .int v39, .ref o40, .ref o42, .ref o44, .int v46, .ref o47])), (o11, .inl (cI, 12, .inl f856)), (o6, .inl (cI, 12, .inl fw7))]) := hD
                refine lv_if_eq (tgt := 96) hx hb dX12_goesOn_86 (by decide) (fun h1239 => ?_) (fun h1239 => ?_)
                ·
                  have j1240 : Iv 0 0 x1237 := r_eq h1239 ik_0
                  have b1241 : bt x1235 (Int32.toNatClampNeg x1236) = false := has_f e1238 h1239
                  refine lv_iconst (v := 0) hx hb dX12_goesOn_96 (by decide) ?_
                  refine lv_ior hx hb dX12_goesOn_97 (lv_topi (fun x1242 x1242_e => ?_))
                  have x1242_h : Iv 0 4095 x1242 := iv_e x1242_e (iv_or 12 x1191_h ik_0 (by decide))
                  refine lv_istore (lv' := [(5, .int x1242), (6, .int 1), (7, .int x1190), (4, .int x855), (3, .int x1), (0, .ref o1), (1, .int 9), (2, .int a2)]) hx hb dX12_goesOn_98 hl (by decide) rfl (fun ls hl => ?_)
                  obtain ⟨x1243, x1243_e⟩ : ∃ z : Int32, z = x1190 + 1 := ⟨_, rfl⟩
                  have x1243_h : Iv 1 9 x1243 := iv_e x1243_e (iv_add j1232 ik_1 (by decide))
                  refine lv_iinc (v := x1243) (lv' := [(7, .int x1243), (5, .int x1242), (6, .int 1), (4, .int x855), (3, .int x1), (0, .ref o1), (1, .int 9), (2, .int a2)]) hx hb dX12_goesOn_100 hl (k := 2) rfl (incN (by decide +kernel) x1243_e) (by decide) rfl (fun ls hl => ?_)
                  refine lv_goto (tgt := 37) hx hb dX12_goesOn_103 (by decide) ?_
                  exact ih4 x1243 x1242 1 _ _ _ (ms_up x1243_e j1232 (by decide) hM4) (iv_w x1243_h (by decide)) x1242_h (iv_w ik_1 (by decide)) hP hD hS (lv_sub hl [0, 2, 1, 3, 4, 5, 6, 7] rfl)
                ·
                  have j1244 : Iv 1 1 x1237 := r_nelo h1239 x1237_h ik_0 (by decide)
                  have b1245 : bt x1235 (Int32.toNatClampNeg x1236) = true := has_t e1238 h1239
                  refine lv_iconst (v := 1) hx hb dX12_goesOn_89 (by decide) ?_
                  refine lv_iload hx hb dX12_goesOn_90 (lv_at hl 1 rfl) ?_
                  refine lv_ishl hx hb dX12_goesOn_92 (lv_topi (fun x1246 x1246_e => ?_))
                  have x1246_h : Iv 1 256 x1246 := iv_e x1246_e (iv_shl1 j1232 (by decide))
                  refine lv_goto (tgt := 97) hx hb dX12_goesOn_93 (by decide) ?_
                  refine lv_ior hx hb dX12_goesOn_97 (lv_topi (fun x1247 x1247_e => ?_))
                  have x1247_h : Iv 0 4095 x1247 := iv_e x1247_e (iv_or 12 x1191_h x1246_h (by decide))
                  refine lv_istore (lv' := [(5, .int x1247), (6, .int 1), (7, .int x1190), (4, .int x855), (3, .int x1), (0, .ref o1), (1, .int 9), (2, .int a2)]) hx hb dX12_goesOn_98 hl (by decide) rfl (fun ls hl => ?_)
                  obtain ⟨x1248, x1248_e⟩ : ∃ z : Int32, z = x1190 + 1 := ⟨_, rfl⟩
                  have x1248_h : Iv 1 9 x1248 := iv_e x1248_e (iv_add j1232 ik_1 (by decide))
                  refine lv_iinc (v := x1248) (lv' := [(7, .int x1248), (5, .int x1247), (6, .int 1), (4, .int x855), (3, .int x1), (0, .ref o1), (1, .int 9), (2, .int a2)]) hx hb dX12_goesOn_100 hl (k := 2) rfl (incN (by decide +kernel) x1248_e) (by decide) rfl (fun ls hl => ?_)
                  refine lv_goto (tgt := 37) hx hb dX12_goesOn_103 (by decide) ?_
                  exact ih4 x1248 x1247 1 _ _ _ (ms_up x1248_e j1232 (by decide) hM4) (iv_w x1248_h (by decide)) x1247_h (iv_w ik_1 (by decide)) hP hD hS (lv_sub hl [0, 2, 1, 3, 4, 5, 6, 7] rfl)
              ·
                have j1249 : Iv 0 0 x1192 := r_eq h1233 ik_0
                refine lv_aload_n hx hb dX12_goesOn_48 rfl (lv_at hl 5 rfl) ?_
                refine va_get (D := (dC, dI)) (ci := 12) (v := .ref o11) (C := RX12) (T := TX12) (N := 29) hx hb hts iw_X12_goesOn_X12 hown hK hP 0 rfl rfl 6 (by decide) (hts (.fieldLink RX12 19 "HolelessHouseModel" "ring" "[I") hm_X12_goesOn_1) (fun _ h9 => h9) rfl dX12_goesOn_49 ?_
                refine lv_iload hx hb dX12_goesOn_52 (lv_at hl 0 rfl) ?_
                refine va_iald hx hb hK hP 1 0 rfl rfl (vin_iv j1232 (by decide)) dX12_goesOn_54 (lv_topi (fun x1250 x1250_e => ?_))
                have x1250_h : Iv 0 11 x1250 := iv_e x1250_e (bd_at f856_b (vin_iv j1232 (by decide)))
                refine lv_iload hx hb dX12_goesOn_55 (lv_at hl 3 rfl) ?_
                refine lv_icmp_ne (tgt := 64) hx hb dX12_goesOn_57 (by decide) (fun h1251 => ?_) (fun h1251 => ?_)
                ·
                  refine lv_iconst (v := 0) hx hb dX12_goesOn_64 (by decide) ?_
                  refine lv_istore (lv' := [(6, .int 0), (7, .int x1190), (5, .int x1191), (4, .int x855), (3, .int x1), (0, .ref o1), (1, .int 9), (2, .int a2)]) hx hb dX12_goesOn_65 hl (by decide) rfl (fun ls hl => ?_)
                  refine lv_iload hx hb dX12_goesOn_67 (lv_at hl 2 rfl) ?_
                  refine lv_aload_n hx hb dX12_goesOn_69 rfl (lv_at hl 5 rfl) ?_
                  refine va_get (D := (dC, dI)) (ci := 12) (v := .ref o6) (C := RX12) (T := TX12) (N := 29) hx hb hts iw_X12_goesOn_X12 hown hK hP 0 rfl rfl 3 (by decide) (hts (.fieldLink RX12 13 "HolelessHouseModel" "near" "[I") hm_X12_goesOn_3) (fun _ h9 => h9) rfl dX12_goesOn_70 ?_
                  refine lv_iload hx hb dX12_goesOn_73 (lv_at hl 3 rfl) ?_
                  refine va_iald hx hb hK hP 2 0 rfl rfl (vin_iv j858 (by decide)) dX12_goesOn_75 (lv_topi (fun x1252 x1252_e => ?_))
                  have x1252_h : Iv 0 4095 x1252 := iv_e x1252_e (bd_at fw7_b (vin_iv j858 (by decide)))
                  refine lv_aload_n hx hb dX12_goesOn_76 rfl (lv_at hl 5 rfl) ?_
                  refine va_get (D := (dC, dI)) (ci := 12) (v := .ref o11) (C := RX12) (T := TX12) (N := 29) hx hb hts iw_X12_goesOn_X12 hown hK hP 0 rfl rfl 6 (by decide) (hts (.fieldLink RX12 19 "HolelessHouseModel" "ring" "[I") hm_X12_goesOn_1) (fun _ h9 => h9) rfl dX12_goesOn_77 ?_
                  refine lv_iload hx hb dX12_goesOn_80 (lv_at hl 1 rfl) ?_
                  refine va_iald hx hb hK hP 1 0 rfl rfl (vin_iv j1232 (by decide)) dX12_goesOn_82 (lv_topi (fun x1253 x1253_e => ?_))
                  have x1253_h : Iv 0 11 x1253 := iv_e x1253_e (bd_at f856_b (vin_iv j1232 (by decide)))
                  refine kc_i (D := (dC, dI)) (S := Unit) (wc := []) (wr := [(o1, .inr (12, [.int v2, .ref o3, .int v5, .ref o6, .int v8, .ref o9, .ref o11, .int v13, .ref o14, .int v16, .ref o17, .int v19, .int v20, .int v21, .ref o22, .ref o24, .ref o26, .ref o28, .ref o30, .int v32, .ref o33, .ref o35, .ref o37, .int v39, .ref o40, .ref o42, .ref o44, .int v46, .ref o47])), (o11, .inl (cI, 12, .inl f856)), (o6, .inl (cI, 12, .inl fw7))]) (w1 := fun _ => []) (wn := fun _ => [(o1, .inr (12, [.int v2, .ref o3, .int v5, .ref o6, .int v8, .ref o9, .ref o11, .int v13, .ref o14, .int v16, .ref o17, .int v19, .int v20, .int v21, .ref o22, .ref o24, .ref o26, .ref o28, .ref o30, .int v32, .ref o33, .ref o35, .ref o37, .int v39, .ref o40, .ref o42, .ref o44, .int v46, .ref o47])), (o11, .inl (cI, 12, .inl f856)), (o6, .inl (cI, 12, .inl fw7))]) (fun hPc hDc => va_runS (As := [.int x1252, .int x1253]) (rest := [.int x1191]) ⟨hx, hb, hml, hown, hts⟩ (kX12_has_1 l dC dI cI c2 cZ x1252 x1253 H.size (iv_w x1253_h (by decide))) (va_cwS 2 hts gX12_goesOn_X12_has rfl rfl rfl (by decide +kernel) ⟨Nat.le_of_ble_eq_true rfl, Nat.le_of_ble_eq_true rfl⟩) (pre_S hPc hK hDc hN) rfl rfl hl.1 rfl (lv_room (Nat.le_of_ble_eq_true rfl)) dX12_goesOn_83 ⟨Nat.le_of_ble_eq_true rfl, Nat.le_of_ble_eq_true rfl⟩) hP hD hS hA [] [0, 1, 2] [0, 1, 2] rfl rfl (by decide +kernel) (by decide +kernel) (by decide +kernel) (by decide +kernel) (fun _ => rfl) (fun x1254 _ H locs hq hP hD hS => ?_)
                  obtain ⟨x1254_h, e1255⟩ := hq
                  have hP : va_P (dC, dI) vwCl ([(o1, .inr (12, [.int v2, .ref o3, .int v5, .ref o6, .int v8, .ref o9, .ref o11, .int v13, .ref o14, .int v16, .ref o17, .int v19, .int v20, .int v21, .ref o22, .ref o24, .ref o26, .ref o28, .ref o30, .int v32, .ref o33, .ref o35, .ref o37, .int v39, .ref o40, .ref o42, .ref o44, .int v46, .ref o47])), (o11, .inl (cI, 12, .inl f856)), (o6, .inl (cI, 12, .inl fw7))]) H := hP
                  have hD : va_D A ([(o1, .inr (12, [.int v2, .ref o3, .int v5, .ref o6, .int v8, .ref o9, .ref o11, .int v13, .ref o14, .int v16, .ref o17, .int v19, .int v20, .int v21, .ref o22, .ref o24, .ref o26, .ref o28, .ref o30, .int v32, .ref o33, .ref o35, .ref o37, .int v39, .ref o40, .ref o42, .ref o44, .int v46, .ref o47])), (o11, .inl (cI, 12, .inl f856)), (o6, .inl (cI, 12, .inl fw7))]) := hD
                  refine lv_if_eq (tgt := 96) hx hb dX12_goesOn_86 (by decide) (fun h1256 => ?_) (fun h1256 => ?_)
                  ·
                    have j1257 : Iv 0 0 x1254 := r_eq h1256 ik_0
                    have b1258 : bt x1252 (Int32.toNatClampNeg x1253) = false := has_f e1255 h1256
                    refine lv_iconst (v := 0) hx hb dX12_goesOn_96 (by decide) ?_
                    refine lv_ior hx hb dX12_goesOn_97 (lv_topi (fun x1259 x1259_e => ?_))
                    have x1259_h : Iv 0 4095 x1259 := iv_e x1259_e (iv_or 12 x1191_h ik_0 (by decide))
                    refine lv_istore (lv' := [(5, .int x1259), (6, .int 0), (7, .int x1190), (4, .int x855), (3, .int x1), (0, .ref o1), (1, .int 9), (2, .int a2)]) hx hb dX12_goesOn_98 hl (by decide) rfl (fun ls hl => ?_)
                    obtain ⟨x1260, x1260_e⟩ : ∃ z : Int32, z = x1190 + 1 := ⟨_, rfl⟩
                    have x1260_h : Iv 1 9 x1260 := iv_e x1260_e (iv_add j1232 ik_1 (by decide))
                    refine lv_iinc (v := x1260) (lv' := [(7, .int x1260), (5, .int x1259), (6, .int 0), (4, .int x855), (3, .int x1), (0, .ref o1), (1, .int 9), (2, .int a2)]) hx hb dX12_goesOn_100 hl (k := 2) rfl (incN (by decide +kernel) x1260_e) (by decide) rfl (fun ls hl => ?_)
                    refine lv_goto (tgt := 37) hx hb dX12_goesOn_103 (by decide) ?_
                    exact ih4 x1260 x1259 0 _ _ _ (ms_up x1260_e j1232 (by decide) hM4) (iv_w x1260_h (by decide)) x1259_h (iv_w ik_0 (by decide)) hP hD hS (lv_sub hl [0, 2, 1, 3, 4, 5, 6, 7] rfl)
                  ·
                    have j1261 : Iv 1 1 x1254 := r_nelo h1256 x1254_h ik_0 (by decide)
                    have b1262 : bt x1252 (Int32.toNatClampNeg x1253) = true := has_t e1255 h1256
                    refine lv_iconst (v := 1) hx hb dX12_goesOn_89 (by decide) ?_
                    refine lv_iload hx hb dX12_goesOn_90 (lv_at hl 1 rfl) ?_
                    refine lv_ishl hx hb dX12_goesOn_92 (lv_topi (fun x1263 x1263_e => ?_))
                    have x1263_h : Iv 1 256 x1263 := iv_e x1263_e (iv_shl1 j1232 (by decide))
                    refine lv_goto (tgt := 97) hx hb dX12_goesOn_93 (by decide) ?_
                    refine lv_ior hx hb dX12_goesOn_97 (lv_topi (fun x1264 x1264_e => ?_))
                    have x1264_h : Iv 0 4095 x1264 := iv_e x1264_e (iv_or 12 x1191_h x1263_h (by decide))
                    refine lv_istore (lv' := [(5, .int x1264), (6, .int 0), (7, .int x1190), (4, .int x855), (3, .int x1), (0, .ref o1), (1, .int 9), (2, .int a2)]) hx hb dX12_goesOn_98 hl (by decide) rfl (fun ls hl => ?_)
                    obtain ⟨x1265, x1265_e⟩ : ∃ z : Int32, z = x1190 + 1 := ⟨_, rfl⟩
                    have x1265_h : Iv 1 9 x1265 := iv_e x1265_e (iv_add j1232 ik_1 (by decide))
                    refine lv_iinc (v := x1265) (lv' := [(7, .int x1265), (5, .int x1264), (6, .int 0), (4, .int x855), (3, .int x1), (0, .ref o1), (1, .int 9), (2, .int a2)]) hx hb dX12_goesOn_100 hl (k := 2) rfl (incN (by decide +kernel) x1265_e) (by decide) rfl (fun ls hl => ?_)
                    refine lv_goto (tgt := 37) hx hb dX12_goesOn_103 (by decide) ?_
                    exact ih4 x1265 x1264 0 _ _ _ (ms_up x1265_e j1232 (by decide) hM4) (iv_w x1265_h (by decide)) x1264_h (iv_w ik_0 (by decide)) hP hD hS (lv_sub hl [0, 2, 1, 3, 4, 5, 6, 7] rfl)
                ·
                  have j1266 : Iv 1 11 x1250 := r_eq h1251 j858
                  refine lv_iconst (v := 1) hx hb dX12_goesOn_60 (by decide) ?_
                  refine lv_goto (tgt := 65) hx hb dX12_goesOn_61 (by decide) ?_
                  refine lv_istore (lv' := [(6, .int 1), (7, .int x1190), (5, .int x1191), (4, .int x855), (3, .int x1), (0, .ref o1), (1, .int 9), (2, .int a2)]) hx hb dX12_goesOn_65 hl (by decide) rfl (fun ls hl => ?_)
                  refine lv_iload hx hb dX12_goesOn_67 (lv_at hl 2 rfl) ?_
                  refine lv_aload_n hx hb dX12_goesOn_69 rfl (lv_at hl 5 rfl) ?_
                  refine va_get (D := (dC, dI)) (ci := 12) (v := .ref o6) (C := RX12) (T := TX12) (N := 29) hx hb hts iw_X12_goesOn_X12 hown hK hP 0 rfl rfl 3 (by decide) (hts (.fieldLink RX12 13 "HolelessHouseModel" "near" "[I") hm_X12_goesOn_3) (fun _ h9 => h9) rfl dX12_goesOn_70 ?_
                  refine lv_iload hx hb dX12_goesOn_73 (lv_at hl 3 rfl) ?_
                  refine va_iald hx hb hK hP 2 0 rfl rfl (vin_iv j858 (by decide)) dX12_goesOn_75 (lv_topi (fun x1267 x1267_e => ?_))
                  have x1267_h : Iv 0 4095 x1267 := iv_e x1267_e (bd_at fw7_b (vin_iv j858 (by decide)))
                  refine lv_aload_n hx hb dX12_goesOn_76 rfl (lv_at hl 5 rfl) ?_
                  refine va_get (D := (dC, dI)) (ci := 12) (v := .ref o11) (C := RX12) (T := TX12) (N := 29) hx hb hts iw_X12_goesOn_X12 hown hK hP 0 rfl rfl 6 (by decide) (hts (.fieldLink RX12 19 "HolelessHouseModel" "ring" "[I") hm_X12_goesOn_1) (fun _ h9 => h9) rfl dX12_goesOn_77 ?_
                  refine lv_iload hx hb dX12_goesOn_80 (lv_at hl 1 rfl) ?_
                  refine va_iald hx hb hK hP 1 0 rfl rfl (vin_iv j1232 (by decide)) dX12_goesOn_82 (lv_topi (fun x1268 x1268_e => ?_))
                  have x1268_h : Iv 1 11 x1268 := iv_e (x1268_e.trans x1250_e.symm) j1266
                  refine kc_i (D := (dC, dI)) (S := Unit) (wc := []) (wr := [(o1, .inr (12, [.int v2, .ref o3, .int v5, .ref o6, .int v8, .ref o9, .ref o11, .int v13, .ref o14, .int v16, .ref o17, .int v19, .int v20, .int v21, .ref o22, .ref o24, .ref o26, .ref o28, .ref o30, .int v32, .ref o33, .ref o35, .ref o37, .int v39, .ref o40, .ref o42, .ref o44, .int v46, .ref o47])), (o11, .inl (cI, 12, .inl f856)), (o6, .inl (cI, 12, .inl fw7))]) (w1 := fun _ => []) (wn := fun _ => [(o1, .inr (12, [.int v2, .ref o3, .int v5, .ref o6, .int v8, .ref o9, .ref o11, .int v13, .ref o14, .int v16, .ref o17, .int v19, .int v20, .int v21, .ref o22, .ref o24, .ref o26, .ref o28, .ref o30, .int v32, .ref o33, .ref o35, .ref o37, .int v39, .ref o40, .ref o42, .ref o44, .int v46, .ref o47])), (o11, .inl (cI, 12, .inl f856)), (o6, .inl (cI, 12, .inl fw7))]) (fun hPc hDc => va_runS (As := [.int x1267, .int x1268]) (rest := [.int x1191]) ⟨hx, hb, hml, hown, hts⟩ (kX12_has_1 l dC dI cI c2 cZ x1267 x1268 H.size (iv_w x1268_h (by decide))) (va_cwS 2 hts gX12_goesOn_X12_has rfl rfl rfl (by decide +kernel) ⟨Nat.le_of_ble_eq_true rfl, Nat.le_of_ble_eq_true rfl⟩) (pre_S hPc hK hDc hN) rfl rfl hl.1 rfl (lv_room (Nat.le_of_ble_eq_true rfl)) dX12_goesOn_83 ⟨Nat.le_of_ble_eq_true rfl, Nat.le_of_ble_eq_true rfl⟩) hP hD hS hA [] [0, 1, 2] [0, 1, 2] rfl rfl (by decide +kernel) (by decide +kernel) (by decide +kernel) (by decide +kernel) (fun _ => rfl) (fun x1269 _ H locs hq hP hD hS => ?_)
                  obtain ⟨x1269_h, e1270⟩ := hq
                  have hP : va_P (dC, dI) vwCl ([(o1, .inr (12, [.int v2, .ref o3, .int v5, .ref o6, .int v8, .ref o9, .ref o11, .int v13, .ref o14, .int v16, .ref o17, .int v19, .int v20, .int v21, .ref o22, .ref o24, .ref o26, .ref o28, .ref o30, .int v32, .ref o33, .ref o35, .ref o37, .int v39, .ref o40, .ref o42, .ref o44, .int v46, .ref o47])), (o11, .inl (cI, 12, .inl f856)), (o6, .inl (cI, 12, .inl fw7))]) H := hP
                  have hD : va_D A ([(o1, .inr (12, [.int v2, .ref o3, .int v5, .ref o6, .int v8, .ref o9, .ref o11, .int v13, .ref o14, .int v16, .ref o17, .int v19, .int v20, .int v21, .ref o22, .ref o24, .ref o26, .ref o28, .ref o30, .int v32, .ref o33, .ref o35, .ref o37, .int v39, .ref o40, .ref o42, .ref o44, .int v46, .ref o47])), (o11, .inl (cI, 12, .inl f856)), (o6, .inl (cI, 12, .inl fw7))]) := hD
                  refine lv_if_eq (tgt := 96) hx hb dX12_goesOn_86 (by decide) (fun h1271 => ?_) (fun h1271 => ?_)
                  ·
                    have j1272 : Iv 0 0 x1269 := r_eq h1271 ik_0
                    have b1273 : bt x1267 (Int32.toNatClampNeg x1268) = false := has_f e1270 h1271
                    refine lv_iconst (v := 0) hx hb dX12_goesOn_96 (by decide) ?_
                    refine lv_ior hx hb dX12_goesOn_97 (lv_topi (fun x1274 x1274_e => ?_))
                    have x1274_h : Iv 0 4095 x1274 := iv_e x1274_e (iv_or 12 x1191_h ik_0 (by decide))
                    refine lv_istore (lv' := [(5, .int x1274), (6, .int 1), (7, .int x1190), (4, .int x855), (3, .int x1), (0, .ref o1), (1, .int 9), (2, .int a2)]) hx hb dX12_goesOn_98 hl (by decide) rfl (fun ls hl => ?_)
                    obtain ⟨x1275, x1275_e⟩ : ∃ z : Int32, z = x1190 + 1 := ⟨_, rfl⟩
                    have x1275_h : Iv 1 9 x1275 := iv_e x1275_e (iv_add j1232 ik_1 (by decide))
                    refine lv_iinc (v := x1275) (lv' := [(7, .int x1275), (5, .int x1274), (6, .int 1), (4, .int x855), (3, .int x1), (0, .ref o1), (1, .int 9), (2, .int a2)]) hx hb dX12_goesOn_100 hl (k := 2) rfl (incN (by decide +kernel) x1275_e) (by decide) rfl (fun ls hl => ?_)
                    refine lv_goto (tgt := 37) hx hb dX12_goesOn_103 (by decide) ?_
                    exact ih4 x1275 x1274 1 _ _ _ (ms_up x1275_e j1232 (by decide) hM4) (iv_w x1275_h (by decide)) x1274_h (iv_w ik_1 (by decide)) hP hD hS (lv_sub hl [0, 2, 1, 3, 4, 5, 6, 7] rfl)
                  ·
                    have j1276 : Iv 1 1 x1269 := r_nelo h1271 x1269_h ik_0 (by decide)
                    have b1277 : bt x1267 (Int32.toNatClampNeg x1268) = true := has_t e1270 h1271
                    refine lv_iconst (v := 1) hx hb dX12_goesOn_89 (by decide) ?_
                    refine lv_iload hx hb dX12_goesOn_90 (lv_at hl 1 rfl) ?_
                    refine lv_ishl hx hb dX12_goesOn_92 (lv_topi (fun x1278 x1278_e => ?_))
                    have x1278_h : Iv 1 256 x1278 := iv_e x1278_e (iv_shl1 j1232 (by decide))
                    refine lv_goto (tgt := 97) hx hb dX12_goesOn_93 (by decide) ?_
                    refine lv_ior hx hb dX12_goesOn_97 (lv_topi (fun x1279 x1279_e => ?_))
                    have x1279_h : Iv 0 4095 x1279 := iv_e x1279_e (iv_or 12 x1191_h x1278_h (by decide))
                    refine lv_istore (lv' := [(5, .int x1279), (6, .int 1), (7, .int x1190), (4, .int x855), (3, .int x1), (0, .ref o1), (1, .int 9), (2, .int a2)]) hx hb dX12_goesOn_98 hl (by decide) rfl (fun ls hl => ?_)
                    obtain ⟨x1280, x1280_e⟩ : ∃ z : Int32, z = x1190 + 1 := ⟨_, rfl⟩
                    have x1280_h : Iv 1 9 x1280 := iv_e x1280_e (iv_add j1232 ik_1 (by decide))
                    refine lv_iinc (v := x1280) (lv' := [(7, .int x1280), (5, .int x1279), (6, .int 1), (4, .int x855), (3, .int x1), (0, .ref o1), (1, .int 9), (2, .int a2)]) hx hb dX12_goesOn_100 hl (k := 2) rfl (incN (by decide +kernel) x1280_e) (by decide) rfl (fun ls hl => ?_)
                    refine lv_goto (tgt := 37) hx hb dX12_goesOn_103 (by decide) ?_
                    exact ih4 x1280 x1279 1 _ _ _ (ms_up x1280_e j1232 (by decide) hM4) (iv_w x1280_h (by decide)) x1279_h (iv_w ik_1 (by decide)) hP hD hS (lv_sub hl [0, 2, 1, 3, 4, 5, 6, 7] rfl)
        exact L4 _ 0 0 0 _ _ _ (Nat.lt_succ_self _) (iv_w ik_0 (by decide)) (iv_w ik_0 (by decide)) (iv_w ik_0 (by decide)) hP hD hS hl
  exact L3 _ x3 fw12 _ _ _ (Nat.lt_succ_self _) x3_h fw12_b hP hD hS hl
set_option maxHeartbeats 4000000 in
set_option maxRecDepth 100000 in
theorem kX12_goesOn_4 (l : Launch) (dC : Nat → ClassId) (dI : Nat → Nat → Nat) (cI c2 cZ : ClassId) (o1 : Nat) (o3 : Nat) (o6 : Nat) (o9 : Nat) (o11 : Nat) (o14 : Nat) (o17 : Nat) (o22 : Nat) (o24 : Nat) (o26 : Nat) (o28 : Nat) (o30 : Nat) (o33 : Nat) (o35 : Nat) (o37 : Nat) (o40 : Nat) (o42 : Nat) (o44 : Nat) (o47 : Nat) (v2 : Int32) (v5 : Int32) (fw7 : Nat → Int32) (v8 : Int32) (fw12 : Nat → Int32) (v13 : Int32) (v16 : Int32) (v19 : Int32) (v20 : Int32) (v21 : Int32) (v32 : Int32) (v39 : Int32) (v46 : Int32) (a2 : Int32) (sz : Nat) (v5_h : Iv 0 12 v5) (fw7_b : Bd 12 0 4095 fw7) (v8_h : Iv 0 8 v8) (fw12_b : Bd 12 0 11 fw12) (v13_h : Iv 0 12 v13) (v16_h : Iv 0 12 v16) (v19_h : Iv (-9) 12 v19) (v32_h : Iv 0 99 v32) (v39_h : Iv 0 12 v39) (v46_h : Iv 0 12 v46) (a2_h : Iv 9 12 a2) : Met l yX12_goesOn wsX12_goesOn ({ frames := 4, cells := 0, slots := 0, locals := 102 }) (va_Pc [.ref o1, .int 8, .int a2] (wPre (dC, dI) [(cI, .int), (c2, .array .int), (cZ, .boolean)] ([(o1, .inr (12, [.int v2, .ref o3, .int v5, .ref o6, .int v8, .ref o9, .ref o11, .int v13, .ref o14, .int v16, .ref o17, .int v19, .int v20, .int v21, .ref o22, .ref o24, .ref o26, .ref o28, .ref o30, .int v32, .ref o33, .ref o35, .ref o37, .int v39, .ref o40, .ref o42, .ref o44, .int v46, .ref o47])), (o11, .inl (cI, 12, .inl fw12)), (o6, .inl (cI, 12, .inl fw7))]) sz)) (va_Qi (fun (r : Int32) (u : (Nat → Int32)) => Iv 0 1 r ∧ Bd 12 0 11 u) (fun u t => wPost (dC, dI) [(cI, .int), (c2, .array .int), (cZ, .boolean)] (va_A ([(o1, .inr (12, [.int v2, .ref o3, .int v5, .ref o6, .int v8, .ref o9, .ref o11, .int v13, .ref o14, .int v16, .ref o17, .int v19, .int v20, .int v21, .ref o22, .ref o24, .ref o26, .ref o28, .ref o30, .int v32, .ref o33, .ref o35, .ref o37, .int v39, .ref o40, .ref o42, .ref o44, .int v46, .ref o47])), (o11, .inl (cI, 12, .inl fw12)), (o6, .inl (cI, 12, .inl fw7))]) sz) ([(o1, .inr (12, [.int v2, .ref o3, .int v5, .ref o6, .int v8, .ref o9, .ref o11, .int v13, .ref o14, .int v16, .ref o17, .int v19, .int v20, .int v21, .ref o22, .ref o24, .ref o26, .ref o28, .ref o30, .int v32, .ref o33, .ref o35, .ref o37, .int v39, .ref o40, .ref o42, .ref o44, .int v46, .ref o47])), (o11, .inl (cI, 12, .inl u)), (o6, .inl (cI, 12, .inl fw7))]) t) (va_A ([(o1, .inr (12, [.int v2, .ref o3, .int v5, .ref o6, .int v8, .ref o9, .ref o11, .int v13, .ref o14, .int v16, .ref o17, .int v19, .int v20, .int v21, .ref o22, .ref o24, .ref o26, .ref o28, .ref o30, .int v32, .ref o33, .ref o35, .ref o37, .int v39, .ref o40, .ref o42, .ref o44, .int v46, .ref o47])), (o11, .inl (cI, 12, .inl fw12)), (o6, .inl (cI, 12, .inl fw7))]) sz)) 0 0 (va_A ([(o1, .inr (12, [.int v2, .ref o3, .int v5, .ref o6, .int v8, .ref o9, .ref o11, .int v13, .ref o14, .int v16, .ref o17, .int v19, .int v20, .int v21, .ref o22, .ref o24, .ref o26, .ref o28, .ref o30, .int v32, .ref o33, .ref o35, .ref o37, .int v39, .ref o40, .ref o42, .ref o44, .int v46, .ref o47])), (o11, .inl (cI, 12, .inl fw12)), (o6, .inl (cI, 12, .inl fw7))]) sz) := by
  refine Met.ofW (cc := cX12_goesOn) (maxL := 8) (ret := (some .boolean)) (by decide) rfl ?_
  intro p e s m args below meth c s₁ B hml hv
  obtain ⟨rfl, hsz, hP, hK, hD0, hN⟩ := hv
  have hx := B.exec
  have hb := B.bytes
  have hr := B.returns
  have hts := atoms_spec (ws := wsX12_goesOn) B.pre
  have hown : s.vm.findClass RX12 = some m.cls := findClass_of_methodNamed B.named
  have hlocks := B.notSynchronized
  subst hsz
  have hD := hD0.self (sz := s.heap.size)
  generalize hAe : va_A ([(o1, .inr (12, [.int v2, .ref o3, .int v5, .ref o6, .int v8, .ref o9, .ref o11, .int v13, .ref o14, .int v16, .ref o17, .int v19, .int v20, .int v21, .ref o22, .ref o24, .ref o26, .ref o28, .ref o30, .int v32, .ref o33, .ref o35, .ref o37, .int v39, .ref o40, .ref o42, .ref o44, .int v46, .ref o47])), (o11, .inl (cI, 12, .inl fw12)), (o6, .inl (cI, 12, .inl fw7))]) s.heap.size = A at hD ⊢
  have hA : ∀ q : Nat, s.heap.size ≤ q → A q := fun q h => by rw [← hAe]; exact Or.inr h
  have hS : va_S A s.heap s.heap [] := va_S.rf
  have hP : va_P (dC, dI) vwCl ([(o1, .inr (12, [.int v2, .ref o3, .int v5, .ref o6, .int v8, .ref o9, .ref o11, .int v13, .ref o14, .int v16, .ref o17, .int v19, .int v20, .int v21, .ref o22, .ref o24, .ref o26, .ref o28, .ref o30, .int v32, .ref o33, .ref o35, .ref o37, .int v39, .ref o40, .ref o42, .ref o44, .int v46, .ref o47])), (o11, .inl (cI, 12, .inl fw12)), (o6, .inl (cI, 12, .inl fw7))]) s.heap := hP
  have hl := lv_entry ([.ref o1, .int 8, .int a2]) (n := 8) (Nat.le_of_ble_eq_true rfl)
  rw [lg_entry_eq]
  generalize (lg_sl ([.ref o1, .int 8, .int a2]) ++ List.replicate (8 - (lg_sl ([.ref o1, .int 8, .int a2])).length) Slot.unset).toArray = ls at hl ⊢
  have hl : lv_has ls 8 [(0, .ref o1), (1, .int 8), (2, .int a2)] := hl
  refine gen_Q (fun Q hQ => ?_)
  refine lv_aload_n hx hb dX12_goesOn_0 rfl (lv_at hl 0 rfl) ?_
  refine va_get (D := (dC, dI)) (ci := 12) (v := .ref o11) (C := RX12) (T := TX12) (N := 29) hx hb hts iw_X12_goesOn_X12 hown hK hP 0 rfl rfl 6 (by decide) (hts (.fieldLink RX12 19 "HolelessHouseModel" "ring" "[I") hm_X12_goesOn_1) (fun _ h9 => h9) rfl dX12_goesOn_1 ?_
  refine lv_iload_n hx hb dX12_goesOn_4 rfl (lv_at hl 1 rfl) ?_
  refine lv_iconst (v := 1) hx hb dX12_goesOn_5 (by decide) ?_
  refine lv_isub hx hb dX12_goesOn_6 (tk_i (v := 7) (by decide +kernel) ?_)
  refine va_iald hx hb hK hP 1 0 rfl rfl (vin_iv ik_7 (by decide)) dX12_goesOn_7 (lv_topi (fun x1 x1_e => ?_))
  have x1_h : Iv 0 11 x1 := iv_e x1_e (bd_at fw12_b (vin_iv ik_7 (by decide)))
  refine lv_istore_n (lv' := [(3, .int x1), (0, .ref o1), (1, .int 8), (2, .int a2)]) hx hb dX12_goesOn_8 rfl hl (by decide) rfl (fun ls hl => ?_)
  refine lv_aload_n hx hb dX12_goesOn_9 rfl (lv_at hl 1 rfl) ?_
  refine va_get (D := (dC, dI)) (ci := 12) (v := .ref o11) (C := RX12) (T := TX12) (N := 29) hx hb hts iw_X12_goesOn_X12 hown hK hP 0 rfl rfl 6 (by decide) (hts (.fieldLink RX12 19 "HolelessHouseModel" "ring" "[I") hm_X12_goesOn_1) (fun _ h9 => h9) rfl dX12_goesOn_10 ?_
  refine lv_iconst (v := 0) hx hb dX12_goesOn_13 (by decide) ?_
  refine va_iald hx hb hK hP 1 0 rfl rfl (vin_iv ik_0 (by decide)) dX12_goesOn_14 (lv_topi (fun x2 x2_e => ?_))
  have x2_h : Iv 0 11 x2 := iv_e x2_e (bd_at fw12_b (vin_iv ik_0 (by decide)))
  refine lv_iconst (v := 1) hx hb dX12_goesOn_15 (by decide) ?_
  refine lv_iadd hx hb dX12_goesOn_16 (lv_topi (fun x3 x3_e => ?_))
  have x3_h : Iv 1 12 x3 := iv_e x3_e (iv_add x2_h ik_1 (by decide))
  refine lv_istore (lv' := [(4, .int x3), (3, .int x1), (0, .ref o1), (1, .int 8), (2, .int a2)]) hx hb dX12_goesOn_17 hl (by decide) rfl (fun ls hl => ?_)
  have L3 : ∀ (N : Nat) (x861 : Int32) (f862 : Nat → Int32) (H : Heap) (locs : List Loc) (ls : Array Slot), (12 - x861.toInt).toNat < N → Iv 1 12 x861 → Bd 12 0 11 f862 → va_P (dC, dI) vwCl ([(o1, .inr (12, [.int v2, .ref o3, .int v5, .ref o6, .int v8, .ref o9, .ref o11, .int v13, .ref o14, .int v16, .ref o17, .int v19, .int v20, .int v21, .ref o22, .ref o24, .ref o26, .ref o28, .ref o30, .int v32, .ref o33, .ref o35, .ref o37, .int v39, .ref o40, .ref o42, .ref o44, .int v46, .ref o47])), (o11, .inl (cI, 12, .inl f862)), (o6, .inl (cI, 12, .inl fw7))]) H → va_D A ([(o1, .inr (12, [.int v2, .ref o3, .int v5, .ref o6, .int v8, .ref o9, .ref o11, .int v13, .ref o14, .int v16, .ref o17, .int v19, .int v20, .int v21, .ref o22, .ref o24, .ref o26, .ref o28, .ref o30, .int v32, .ref o33, .ref o35, .ref o37, .int v39, .ref o40, .ref o42, .ref o44, .int v46, .ref o47])), (o11, .inl (cI, 12, .inl f862)), (o6, .inl (cI, 12, .inl fw7))]) → va_S A s.heap H locs → lv_has ls 8 [(4, .int x861), (3, .int x1), (0, .ref o1), (1, .int 8), (2, .int a2)] → W p l e ({ frames := 4, cells := 0, slots := 0, locals := 102 }) s m ([.ref o1, .int 8, .int a2] : List Value).toArray below meth c H locs 0 0 Q (F0 m 19 ls []) := by
    intro N
    induction N with
    | zero =>
      intro x861 f862 H locs ls hM
      exact absurd hM (Nat.not_lt_zero _)
    | succ N ih3 =>
      intro x861 f862 H locs ls hM3 x861_h f862_b hP hD hS hl
      refine lv_iload hx hb dX12_goesOn_19 (lv_at hl 0 rfl) ?_
      refine lv_aload_n hx hb dX12_goesOn_21 rfl (lv_at hl 2 rfl) ?_
      refine va_get (D := (dC, dI)) (ci := 12) (v := .int v5) (C := RX12) (T := TX12) (N := 29) hx hb hts iw_X12_goesOn_X12 hown hK hP 0 rfl rfl 2 (by decide) (hts (.fieldLink RX12 73 "HolelessHouseModel" "n" "I") hm_X12_goesOn_2) (fun _ h9 => h9) rfl dX12_goesOn_22 ?_
      refine lv_icmp_ge (tgt := 193) hx hb dX12_goesOn_25 (by decide) (fun h863 => ?_) (fun h863 => ?_)
      ·
        have qh863 := le_i h863
        refine lv_iload_n hx hb dX12_goesOn_193 rfl (lv_at hl 1 rfl) ?_
        refine lv_if_ge (tgt := 201) hx hb dX12_goesOn_194 (by decide) (fun _ => ?_) (fun h9 => absurd (d_le ik_0 x1_h (by decide)) h9)
        refine lv_iconst (v := 0) hx hb dX12_goesOn_201 (by decide) ?_
        rw [hQ]
        exact W.zret (v := 0) (ty := .boolean) hx hb hr rfl (fun t ht hW => ⟨⟨0, f862, rfl, ⟨(iv_w ik_0 (by decide)), f862_b⟩, by rw [ht]; exact hP, va_K.moved hW.alike hK, hD⟩, hS.F ht⟩) hS.2.2 dX12_goesOn_202
      ·
        have qh863 := nle_i h863
        have j864 : Iv 1 11 x861 := r_ltl qh863 x861_h v5_h (by decide)
        have j865 : Iv 2 12 v5 := r_ltr qh863 x861_h v5_h (by decide)
        refine lv_iconst (v := 0) hx hb dX12_goesOn_28 (by decide) ?_
        refine lv_istore (lv' := [(5, .int 0), (4, .int x861), (3, .int x1), (0, .ref o1), (1, .int 8), (2, .int a2)]) hx hb dX12_goesOn_29 hl (by decide) rfl (fun ls hl => ?_)
        refine lv_iconst (v := 0) hx hb dX12_goesOn_31 (by decide) ?_
        refine lv_istore (lv' := [(6, .int 0), (5, .int 0), (4, .int x861), (3, .int x1), (0, .ref o1), (1, .int 8), (2, .int a2)]) hx hb dX12_goesOn_32 hl (by decide) rfl (fun ls hl => ?_)
        refine lv_iconst (v := 0) hx hb dX12_goesOn_34 (by decide) ?_
        refine lv_istore (lv' := [(7, .int 0), (6, .int 0), (5, .int 0), (4, .int x861), (3, .int x1), (0, .ref o1), (1, .int 8), (2, .int a2)]) hx hb dX12_goesOn_35 hl (by decide) rfl (fun ls hl => ?_)
        have L4 : ∀ (N : Nat) (x1199 : Int32) (x1200 : Int32) (x1201 : Int32) (H : Heap) (locs : List Loc) (ls : Array Slot), (8 - x1199.toInt).toNat < N → Iv 0 8 x1199 → Iv 0 255 x1200 → Iv 0 1 x1201 → va_P (dC, dI) vwCl ([(o1, .inr (12, [.int v2, .ref o3, .int v5, .ref o6, .int v8, .ref o9, .ref o11, .int v13, .ref o14, .int v16, .ref o17, .int v19, .int v20, .int v21, .ref o22, .ref o24, .ref o26, .ref o28, .ref o30, .int v32, .ref o33, .ref o35, .ref o37, .int v39, .ref o40, .ref o42, .ref o44, .int v46, .ref o47])), (o11, .inl (cI, 12, .inl f862)), (o6, .inl (cI, 12, .inl fw7))]) H → va_D A ([(o1, .inr (12, [.int v2, .ref o3, .int v5, .ref o6, .int v8, .ref o9, .ref o11, .int v13, .ref o14, .int v16, .ref o17, .int v19, .int v20, .int v21, .ref o22, .ref o24, .ref o26, .ref o28, .ref o30, .int v32, .ref o33, .ref o35, .ref o37, .int v39, .ref o40, .ref o42, .ref o44, .int v46, .ref o47])), (o11, .inl (cI, 12, .inl f862)), (o6, .inl (cI, 12, .inl fw7))]) → va_S A s.heap H locs → lv_has ls 8 [(7, .int x1199), (6, .int x1201), (5, .int x1200), (4, .int x861), (3, .int x1), (0, .ref o1), (1, .int 8), (2, .int a2)] → W p l e ({ frames := 4, cells := 0, slots := 0, locals := 102 }) s m ([.ref o1, .int 8, .int a2] : List Value).toArray below meth c H locs 0 0 Q (F0 m 37 ls []) := by
          intro N
          induction N with
          | zero =>
            intro x1199 x1200 x1201 H locs ls hM
            exact absurd hM (Nat.not_lt_zero _)
          | succ N ih4 =>
            intro x1199 x1200 x1201 H locs ls hM4 x1199_h x1200_h x1201_h hP hD hS hl
            refine lv_iload hx hb dX12_goesOn_37 (lv_at hl 0 rfl) ?_
            refine lv_iload_n hx hb dX12_goesOn_39 rfl (lv_at hl 6 rfl) ?_
            refine lv_icmp_ge (tgt := 106) hx hb dX12_goesOn_40 (by decide) (fun h1202 => ?_) (fun h1202 => ?_)
            ·
              have qh1202 := le_i h1202
              have j1203 : Iv 8 8 x1199 := r_ler qh1202 ik_8 x1199_h (by decide)
              refine lv_iconst (v := 1) hx hb dX12_goesOn_106 (by decide) ?_
              refine lv_iload_n hx hb dX12_goesOn_107 rfl (lv_at hl 6 rfl) ?_
              refine lv_iconst (v := 1) hx hb dX12_goesOn_108 (by decide) ?_
              refine lv_isub hx hb dX12_goesOn_109 (tk_i (v := 7) (by decide +kernel) ?_)
              refine lv_ishl hx hb dX12_goesOn_110 (tk_i (v := 128) (by decide +kernel) ?_)
              refine lv_iload_n hx hb dX12_goesOn_111 rfl (lv_at hl 6 rfl) ?_
              refine lv_iload_n hx hb dX12_goesOn_112 rfl (lv_at hl 7 rfl) ?_
              refine lv_iconst (v := 1) hx hb dX12_goesOn_113 (by decide) ?_
              refine lv_isub hx hb dX12_goesOn_114 (lv_topi (fun x1204 x1204_e => ?_))
              have x1204_h : Iv 8 11 x1204 := iv_e x1204_e (iv_sub a2_h ik_1 (by decide))
              refine lv_icmp_ne (tgt := 122) hx hb dX12_goesOn_115 (by decide) (fun h1205 => ?_) (fun h1205 => ?_)
              ·
                have j1206 : Iv 9 11 x1204 := r_nelo (fun q => h1205 q.symm) x1204_h ik_8 (by decide)
                have j1207 : Iv 10 12 a2 := ivb_sub x1204_e a2_h ik_1 j1206 (by decide)
                refine lv_iconst (v := 0) hx hb dX12_goesOn_122 (by decide) ?_
                refine lv_ior hx hb dX12_goesOn_123 (tk_i (v := 128) (by decide +kernel) ?_)
                refine lv_istore (lv' := [(7, .int 128), (6, .int x1201), (5, .int x1200), (4, .int x861), (3, .int x1), (0, .ref o1), (1, .int 8), (2, .int a2)]) hx hb dX12_goesOn_124 hl (by decide) rfl (fun ls hl => ?_)
                refine lv_iload hx hb dX12_goesOn_126 (lv_at hl 1 rfl) ?_
                refine lv_if_ne (tgt := 187) hx hb dX12_goesOn_128 (by decide) (fun h1208 => ?_) (fun h1208 => ?_)
                ·
                  have j1209 : Iv 1 1 x1201 := r_nelo h1208 x1201_h ik_0 (by decide)
                  obtain ⟨x1210, x1210_e⟩ : ∃ z : Int32, z = x861 + 1 := ⟨_, rfl⟩
                  have x1210_h : Iv 2 12 x1210 := iv_e x1210_e (iv_add j864 ik_1 (by decide))
                  refine lv_iinc (v := x1210) (lv' := [(4, .int x1210), (7, .int 128), (6, .int x1201), (5, .int x1200), (3, .int x1), (0, .ref o1), (1, .int 8), (2, .int a2)]) hx hb dX12_goesOn_187 hl (k := 3) rfl (incN (by decide +kernel) x1210_e) (by decide) rfl (fun ls hl => ?_)
                  refine lv_goto (tgt := 19) hx hb dX12_goesOn_190 (by decide) ?_
                  exact ih3 x1210 f862 _ _ _ (ms_up x1210_e j864 (by decide) hM3) (iv_w x1210_h (by decide)) f862_b hP hD hS (lv_sub hl [0, 4, 5, 6, 7] rfl)
                ·
                  have j1211 : Iv 0 0 x1201 := r_eq h1208 ik_0
                  refine lv_iload hx hb dX12_goesOn_131 (lv_at hl 2 rfl) ?_
                  refine lv_iload hx hb dX12_goesOn_133 (lv_at hl 0 rfl) ?_
                  refine lv_icmp_ne (tgt := 187) hx hb dX12_goesOn_135 (by decide) (fun h1212 => ?_) (fun h1212 => ?_)
                  ·
                    obtain ⟨x1213, x1213_e⟩ : ∃ z : Int32, z = x861 + 1 := ⟨_, rfl⟩
                    have x1213_h : Iv 2 12 x1213 := iv_e x1213_e (iv_add j864 ik_1 (by decide))
                    refine lv_iinc (v := x1213) (lv' := [(4, .int x1213), (7, .int 128), (6, .int x1201), (5, .int x1200), (3, .int x1), (0, .ref o1), (1, .int 8), (2, .int a2)]) hx hb dX12_goesOn_187 hl (k := 3) rfl (incN (by decide +kernel) x1213_e) (by decide) rfl (fun ls hl => ?_)
                    refine lv_goto (tgt := 19) hx hb dX12_goesOn_190 (by decide) ?_
                    exact ih3 x1213 f862 _ _ _ (ms_up x1213_e j864 (by decide) hM3) (iv_w x1213_h (by decide)) f862_b hP hD hS (lv_sub hl [0, 4, 5, 6, 7] rfl)
                  ·
                    have j1214 : Iv 128 128 x1200 := r_eq h1212 ik_128
                    refine lv_iload_n hx hb dX12_goesOn_138 rfl (lv_at hl 6 rfl) ?_
                    refine lv_iload_n hx hb dX12_goesOn_139 rfl (lv_at hl 7 rfl) ?_
                    refine lv_iconst (v := 1) hx hb dX12_goesOn_140 (by decide) ?_
                    refine lv_isub hx hb dX12_goesOn_141 (lv_topi (fun x1215 x1215_e => ?_))
                    have x1215_h : Iv 9 11 x1215 := iv_e x1215_e (iv_sub j1207 ik_1 (by decide))
                    refine lv_icmp_ne (tgt := 159) hx hb dX12_goesOn_142 (by decide) (fun _ => ?_) (fun h9 => absurd h9 (d_ne ik_8 x1215_h (by decide)))
                    refine lv_aload_n hx hb dX12_goesOn_159 rfl (lv_at hl 5 rfl) ?_
                    refine va_get (D := (dC, dI)) (ci := 12) (v := .ref o11) (C := RX12) (T := TX12) (N := 29) hx hb hts iw_X12_goesOn_X12 hown hK hP 0 rfl rfl 6 (by decide) (hts (.fieldLink RX12 19 "HolelessHouseModel" "ring" "[I") hm_X12_goesOn_1) (fun _ h9 => h9) rfl dX12_goesOn_160 ?_
                    refine lv_iload_n hx hb dX12_goesOn_163 rfl (lv_at hl 6 rfl) ?_
                    refine lv_iload hx hb dX12_goesOn_164 (lv_at hl 3 rfl) ?_
                    refine k_iast hx hb hK hP hD hS 1 0 rfl rfl (vin_iv ik_8 (by decide)) dX12_goesOn_166 (fun f1216 H locs f1216_e hP hD hS => ?_)
                    have f1216_b : Bd 12 0 11 f1216 := bd_upd f1216_e f862_b j864 (by decide)
                    have hP : va_P (dC, dI) vwCl ([(o1, .inr (12, [.int v2, .ref o3, .int v5, .ref o6, .int v8, .ref o9, .ref o11, .int v13, .ref o14, .int v16, .ref o17, .int v19, .int v20, .int v21, .ref o22, .ref o24, .ref o26, .ref o28, .ref o30, .int v32, .ref o33, .ref o35, .ref o37, .int v39, .ref o40, .ref o42, .ref o44, .int v46, .ref o47])), (o11, .inl (cI, 12, .inl f1216)), (o6, .inl (cI, 12, .inl fw7))]) H := hP
                    have hD : va_D A ([(o1, .inr (12, [.int v2, .ref o3, .int v5, .ref o6, .int v8, .ref o9, .ref o11, .int v13, .ref o14, .int v16, .ref o17, .int v19, .int v20, .int v21, .ref o22, .ref o24, .ref o26, .ref o28, .ref o30, .int v32, .ref o33, .ref o35, .ref o37, .int v39, .ref o40, .ref o42, .ref o44, .int v46, .ref o47])), (o11, .inl (cI, 12, .inl f1216)), (o6, .inl (cI, 12, .inl fw7))]) := hD
                    refine lv_iload_n hx hb dX12_goesOn_167 rfl (lv_at hl 6 rfl) ?_
                    refine lv_iload_n hx hb dX12_goesOn_168 rfl (lv_at hl 7 rfl) ?_
                    refine lv_iconst (v := 1) hx hb dX12_goesOn_169 (by decide) ?_
                    refine lv_isub hx hb dX12_goesOn_170 (lv_topi (fun x1217 x1217_e => ?_))
                    have x1217_h : Iv 9 11 x1217 := iv_e x1217_e (iv_sub j1207 ik_1 (by decide))
                    refine lv_icmp_eq (tgt := 185) hx hb dX12_goesOn_171 (by decide) (fun h9 => absurd h9 (d_ne ik_8 x1217_h (by decide))) (fun _ => ?_)
                    refine lv_aload_n hx hb dX12_goesOn_174 rfl (lv_at hl 5 rfl) ?_
                    refine lv_iload_n hx hb dX12_goesOn_175 rfl (lv_at hl 6 rfl) ?_
                    refine lv_iconst (v := 1) hx hb dX12_goesOn_176 (by decide) ?_
                    refine lv_iadd hx hb dX12_goesOn_177 (tk_i (v := 9) (by decide +kernel) ?_)
                    refine lv_iload_n hx hb dX12_goesOn_178 rfl (lv_at hl 7 rfl) ?_
                    refine kc_i (D := (dC, dI)) (S := (Nat → Int32)) (wc := [(o1, .inr (12, [.int v2, .ref o3, .int v5, .ref o6, .int v8, .ref o9, .ref o11, .int v13, .ref o14, .int v16, .ref o17, .int v19, .int v20, .int v21, .ref o22, .ref o24, .ref o26, .ref o28, .ref o30, .int v32, .ref o33, .ref o35, .ref o37, .int v39, .ref o40, .ref o42, .ref o44, .int v46, .ref o47])), (o11, .inl (cI, 12, .inl f1216)), (o6, .inl (cI, 12, .inl fw7))]) (wr := []) (w1 := fun u => [(o1, .inr (12, [.int v2, .ref o3, .int v5, .ref o6, .int v8, .ref o9, .ref o11, .int v13, .ref o14, .int v16, .ref o17, .int v19, .int v20, .int v21, .ref o22, .ref o24, .ref o26, .ref o28, .ref o30, .int v32, .ref o33, .ref o35, .ref o37, .int v39, .ref o40, .ref o42, .ref o44, .int v46, .ref o47])), (o11, .inl (cI, 12, .inl u)), (o6, .inl (cI, 12, .inl fw7))]) (wn := fun u => [(o1, .inr (12, [.int v2, .ref o3, .int v5, .ref o6, .int v8, .ref o9, .ref o11, .int v13, .ref o14, .int v16, .ref o17, .int v19, .int v20, .int v21, .ref o22, .ref o24, .ref o26, .ref o28, .ref o30, .int v32, .ref o33, .ref o35, .ref o37, .int v39, .ref o40, .ref o42, .ref o44, .int v46, .ref o47])), (o11, .inl (cI, 12, .inl u)), (o6, .inl (cI, 12, .inl fw7))]) (fun hPc hDc => va_runV (As := [.int 9, .int a2]) (rest := []) ⟨hx, hb, hml, hown, hts⟩ (kX12_goesOn_3 l dC dI cI c2 cZ o1 o3 o6 o9 o11 o14 o17 o22 o24 o26 o28 o30 o33 o35 o37 o40 o42 o44 o47 v2 v5 fw7 v8 f1216 v13 v16 v19 v20 v21 v32 v39 v46 a2 H.size (iv_w j865 (by decide)) fw7_b v8_h f1216_b v13_h v16_h v19_h v32_h v39_h v46_h j1207) (cwV 2 hts gX12_goesOn_X12_goesOn rfl rfl rfl (by decide +kernel) ⟨Nat.le_of_ble_eq_true rfl, Nat.le_of_ble_eq_true rfl⟩) (pre_V hPc hK hDc hN (ci := 12) (q0 := 0) rfl rfl) rfl rfl hl.1 rfl (lv_room (Nat.le_of_ble_eq_true rfl)) dX12_goesOn_179 ⟨Nat.le_of_ble_eq_true rfl, Nat.le_of_ble_eq_true rfl⟩) hP hD hS hA [0, 1, 2] [] [0, 1, 2] rfl rfl (by decide +kernel) (by decide +kernel) (by decide +kernel) (by decide +kernel) (fun _ => rfl) (fun x1219 f1218 H locs hq hP hD hS => ?_)
                    obtain ⟨x1219_h, f1218_b⟩ := hq
                    have hP : va_P (dC, dI) vwCl ([(o1, .inr (12, [.int v2, .ref o3, .int v5, .ref o6, .int v8, .ref o9, .ref o11, .int v13, .ref o14, .int v16, .ref o17, .int v19, .int v20, .int v21, .ref o22, .ref o24, .ref o26, .ref o28, .ref o30, .int v32, .ref o33, .ref o35, .ref o37, .int v39, .ref o40, .ref o42, .ref o44, .int v46, .ref o47])), (o11, .inl (cI, 12, .inl f1218)), (o6, .inl (cI, 12, .inl fw7))]) H := hP
                    have hD : va_D A ([(o1, .inr (12, [.int v2, .ref o3, .int v5, .ref o6, .int v8, .ref o9, .ref o11, .int v13, .ref o14, .int v16, .ref o17, .int v19, .int v20, .int v21, .ref o22, .ref o24, .ref o26, .ref o28, .ref o30, .int v32, .ref o33, .ref o35, .ref o37, .int v39, .ref o40, .ref o42, .ref o44, .int v46, .ref o47])), (o11, .inl (cI, 12, .inl f1218)), (o6, .inl (cI, 12, .inl fw7))]) := hD
                    refine lv_if_eq (tgt := 187) hx hb dX12_goesOn_182 (by decide) (fun h1220 => ?_) (fun h1220 => ?_)
                    ·
                      have j1221 : Iv 0 0 x1219 := r_eq h1220 ik_0
                      obtain ⟨x1222, x1222_e⟩ : ∃ z : Int32, z = x861 + 1 := ⟨_, rfl⟩
                      have x1222_h : Iv 2 12 x1222 := iv_e x1222_e (iv_add j864 ik_1 (by decide))
                      refine lv_iinc (v := x1222) (lv' := [(4, .int x1222), (7, .int 128), (6, .int x1201), (5, .int x1200), (3, .int x1), (0, .ref o1), (1, .int 8), (2, .int a2)]) hx hb dX12_goesOn_187 hl (k := 3) rfl (incN (by decide +kernel) x1222_e) (by decide) rfl (fun ls hl => ?_)
                      refine lv_goto (tgt := 19) hx hb dX12_goesOn_190 (by decide) ?_
                      exact ih3 x1222 f1218 _ _ _ (ms_up x1222_e j864 (by decide) hM3) (iv_w x1222_h (by decide)) f1218_b hP hD hS (lv_sub hl [0, 4, 5, 6, 7] rfl)
                    ·
                      have j1223 : Iv 1 1 x1219 := r_nelo h1220 x1219_h ik_0 (by decide)
                      refine lv_iconst (v := 1) hx hb dX12_goesOn_185 (by decide) ?_
                      rw [hQ]
                      exact W.zret (v := 1) (ty := .boolean) hx hb hr rfl (fun t ht hW => ⟨⟨1, f1218, rfl, ⟨(iv_w ik_1 (by decide)), f1218_b⟩, by rw [ht]; exact hP, va_K.moved hW.alike hK, hD⟩, hS.F ht⟩) hS.2.2 dX12_goesOn_186
              ·
                have j1224 : Iv 8 8 x1204 := r_eq h1205.symm ik_8
                have j1225 : Iv 9 9 a2 := ivb_sub x1204_e a2_h ik_1 j1224 (by decide)
                refine lv_iconst (v := 1) hx hb dX12_goesOn_118 (by decide) ?_
                refine lv_goto (tgt := 123) hx hb dX12_goesOn_119 (by decide) ?_
                refine lv_ior hx hb dX12_goesOn_123 (tk_i (v := 129) (by decide +kernel) ?_)
                refine lv_istore (lv' := [(7, .int 129), (6, .int x1201), (5, .int x1200), (4, .int x861), (3, .int x1), (0, .ref o1), (1, .int 8), (2, .int a2)]) hx hb dX12_goesOn_124 hl (by decide) rfl (fun ls hl => ?_)
                refine lv_iload hx hb dX12_goesOn_126 (lv_at hl 1 rfl) ?_
                refine lv_if_ne (tgt := 187) hx hb dX12_goesOn_128 (by decide) (fun h1226 => ?_) (fun h1226 => ?_)
                ·
                  have j1227 : Iv 1 1 x1201 := r_nelo h1226 x1201_h ik_0 (by decide)
                  obtain ⟨x1228, x1228_e⟩ : ∃ z : Int32, z = x861 + 1 := ⟨_, rfl⟩
                  have x1228_h : Iv 2 12 x1228 := iv_e x1228_e (iv_add j864 ik_1 (by decide))
                  refine lv_iinc (v := x1228) (lv' := [(4, .int x1228), (7, .int 129), (6, .int x1201), (5, .int x1200), (3, .int x1), (0, .ref o1), (1, .int 8), (2, .int a2)]) hx hb dX12_goesOn_187 hl (k := 3) rfl (incN (by decide +kernel) x1228_e) (by decide) rfl (fun ls hl => ?_)
                  refine lv_goto (tgt := 19) hx hb dX12_goesOn_190 (by decide) ?_
                  exact ih3 x1228 f862 _ _ _ (ms_up x1228_e j864 (by decide) hM3) (iv_w x1228_h (by decide)) f862_b hP hD hS (lv_sub hl [0, 4, 5, 6, 7] rfl)
                ·
                  have j1229 : Iv 0 0 x1201 := r_eq h1226 ik_0
                  refine lv_iload hx hb dX12_goesOn_131 (lv_at hl 2 rfl) ?_
                  refine lv_iload hx hb dX12_goesOn_133 (lv_at hl 0 rfl) ?_
                  refine lv_icmp_ne (tgt := 187) hx hb dX12_goesOn_135 (by decide) (fun h1230 => ?_) (fun h1230 => ?_)
                  ·
                    obtain ⟨x1231, x1231_e⟩ : ∃ z : Int32, z = x861 + 1 := ⟨_, rfl⟩
                    have x1231_h : Iv 2 12 x1231 := iv_e x1231_e (iv_add j864 ik_1 (by decide))
                    refine lv_iinc (v := x1231) (lv' := [(4, .int x1231), (7, .int 129), (6, .int x1201), (5, .int x1200), (3, .int x1), (0, .ref o1), (1, .int 8), (2, .int a2)]) hx hb dX12_goesOn_187 hl (k := 3) rfl (incN (by decide +kernel) x1231_e) (by decide) rfl (fun ls hl => ?_)
                    refine lv_goto (tgt := 19) hx hb dX12_goesOn_190 (by decide) ?_
                    exact ih3 x1231 f862 _ _ _ (ms_up x1231_e j864 (by decide) hM3) (iv_w x1231_h (by decide)) f862_b hP hD hS (lv_sub hl [0, 4, 5, 6, 7] rfl)
                  ·
                    have j1232 : Iv 129 129 x1200 := r_eq h1230 ik_129
                    refine lv_iload_n hx hb dX12_goesOn_138 rfl (lv_at hl 6 rfl) ?_
                    refine lv_iload_n hx hb dX12_goesOn_139 rfl (lv_at hl 7 rfl) ?_
                    refine lv_iconst (v := 1) hx hb dX12_goesOn_140 (by decide) ?_
                    refine lv_isub hx hb dX12_goesOn_141 (lv_topi (fun x1233 x1233_e => ?_))
                    have x1233_h : Iv 8 8 x1233 := iv_e x1233_e (iv_sub j1225 ik_1 (by decide))
                    refine lv_icmp_ne (tgt := 159) hx hb dX12_goesOn_142 (by decide) (fun h9 => absurd (d_eq ik_8 x1233_h) h9) (fun _ => ?_)
                    refine lv_iload hx hb dX12_goesOn_145 (lv_at hl 3 rfl) ?_
                    refine lv_aload_n hx hb dX12_goesOn_147 rfl (lv_at hl 5 rfl) ?_
                    refine va_get (D := (dC, dI)) (ci := 12) (v := .ref o11) (C := RX12) (T := TX12) (N := 29) hx hb hts iw_X12_goesOn_X12 hown hK hP 0 rfl rfl 6 (by decide) (hts (.fieldLink RX12 19 "HolelessHouseModel" "ring" "[I") hm_X12_goesOn_1) (fun _ h9 => h9) rfl dX12_goesOn_148 ?_
                    refine lv_iconst (v := 1) hx hb dX12_goesOn_151 (by decide) ?_
                    refine va_iald hx hb hK hP 1 0 rfl rfl (vin_iv ik_1 (by decide)) dX12_goesOn_152 (lv_topi (fun x1234 x1234_e => ?_))
                    have x1234_h : Iv 0 11 x1234 := iv_e x1234_e (bd_at f862_b (vin_iv ik_1 (by decide)))
                    refine lv_icmp_ge (tgt := 159) hx hb dX12_goesOn_153 (by decide) (fun h1235 => ?_) (fun h1235 => ?_)
                    ·
                      have qh1235 := le_i h1235
                      refine lv_aload_n hx hb dX12_goesOn_159 rfl (lv_at hl 5 rfl) ?_
                      refine va_get (D := (dC, dI)) (ci := 12) (v := .ref o11) (C := RX12) (T := TX12) (N := 29) hx hb hts iw_X12_goesOn_X12 hown hK hP 0 rfl rfl 6 (by decide) (hts (.fieldLink RX12 19 "HolelessHouseModel" "ring" "[I") hm_X12_goesOn_1) (fun _ h9 => h9) rfl dX12_goesOn_160 ?_
                      refine lv_iload_n hx hb dX12_goesOn_163 rfl (lv_at hl 6 rfl) ?_
                      refine lv_iload hx hb dX12_goesOn_164 (lv_at hl 3 rfl) ?_
                      refine k_iast hx hb hK hP hD hS 1 0 rfl rfl (vin_iv ik_8 (by decide)) dX12_goesOn_166 (fun f1236 H locs f1236_e hP hD hS => ?_)
                      have f1236_b : Bd 12 0 11 f1236 := bd_upd f1236_e f862_b j864 (by decide)
                      have hP : va_P (dC, dI) vwCl ([(o1, .inr (12, [.int v2, .ref o3, .int v5, .ref o6, .int v8, .ref o9, .ref o11, .int v13, .ref o14, .int v16, .ref o17, .int v19, .int v20, .int v21, .ref o22, .ref o24, .ref o26, .ref o28, .ref o30, .int v32, .ref o33, .ref o35, .ref o37, .int v39, .ref o40, .ref o42, .ref o44, .int v46, .ref o47])), (o11, .inl (cI, 12, .inl f1236)), (o6, .inl (cI, 12, .inl fw7))]) H := hP
                      have hD : va_D A ([(o1, .inr (12, [.int v2, .ref o3, .int v5, .ref o6, .int v8, .ref o9, .ref o11, .int v13, .ref o14, .int v16, .ref o17, .int v19, .int v20, .int v21, .ref o22, .ref o24, .ref o26, .ref o28, .ref o30, .int v32, .ref o33, .ref o35, .ref o37, .int v39, .ref o40, .ref o42, .ref o44, .int v46, .ref o47])), (o11, .inl (cI, 12, .inl f1236)), (o6, .inl (cI, 12, .inl fw7))]) := hD
                      refine lv_iload_n hx hb dX12_goesOn_167 rfl (lv_at hl 6 rfl) ?_
                      refine lv_iload_n hx hb dX12_goesOn_168 rfl (lv_at hl 7 rfl) ?_
                      refine lv_iconst (v := 1) hx hb dX12_goesOn_169 (by decide) ?_
                      refine lv_isub hx hb dX12_goesOn_170 (lv_topi (fun x1237 x1237_e => ?_))
                      have x1237_h : Iv 8 8 x1237 := iv_e x1237_e (iv_sub j1225 ik_1 (by decide))
                      refine lv_icmp_eq (tgt := 185) hx hb dX12_goesOn_171 (by decide) (fun _ => ?_) (fun h9 => absurd (d_eq ik_8 x1237_h) h9)
                      refine lv_iconst (v := 1) hx hb dX12_goesOn_185 (by decide) ?_
                      rw [hQ]
                      exact W.zret (v := 1) (ty := .boolean) hx hb hr rfl (fun t ht hW => ⟨⟨1, f1236, rfl, ⟨(iv_w ik_1 (by decide)), f1236_b⟩, by rw [ht]; exact hP, va_K.moved hW.alike hK, hD⟩, hS.F ht⟩) hS.2.2 dX12_goesOn_186
                    ·
                      have qh1235 := nle_i h1235
                      have j1238 : Iv 1 10 x861 := r_ltl qh1235 j864 x1234_h (by decide)
                      have j1239 : Iv 2 11 x1234 := r_ltr qh1235 j864 x1234_h (by decide)
                      refine lv_goto (tgt := 187) hx hb dX12_goesOn_156 (by decide) ?_
                      obtain ⟨x1240, x1240_e⟩ : ∃ z : Int32, z = x861 + 1 := ⟨_, rfl⟩
                      have x1240_h : Iv 2 11 x1240 := iv_e x1240_e (iv_add j1238 ik_1 (by decide))
                      refine lv_iinc (v := x1240) (lv' := [(4, .int x1240), (7, .int 129), (6, .int x1201), (5, .int x1200), (3, .int x1), (0, .ref o1), (1, .int 8), (2, .int a2)]) hx hb dX12_goesOn_187 hl (k := 3) rfl (incN (by decide +kernel) x1240_e) (by decide) rfl (fun ls hl => ?_)
                      refine lv_goto (tgt := 19) hx hb dX12_goesOn_190 (by decide) ?_
                      exact ih3 x1240 f862 _ _ _ (ms_up x1240_e j1238 (by decide) hM3) (iv_w x1240_h (by decide)) f862_b hP hD hS (lv_sub hl [0, 4, 5, 6, 7] rfl)
            ·
              have qh1202 := nle_i h1202
              have j1241 : Iv 0 7 x1199 := r_ltl qh1202 x1199_h ik_8 (by decide)
              refine lv_iload hx hb dX12_goesOn_43 (lv_at hl 1 rfl) ?_
              refine lv_if_ne (tgt := 60) hx hb dX12_goesOn_45 (by decide) (fun h1242 => ?_) (fun h1242 => ?_)
              ·
                have j1243 : Iv 1 1 x1201 := r_nelo h1242 x1201_h ik_0 (by decide)
                refine lv_iconst (v := 1) hx hb dX12_goesOn_60 (by decide) ?_
                refine lv_goto (tgt := 65) hx hb dX12_goesOn_61 (by decide) ?_
                refine lv_istore (lv' := [(6, .int 1), (7, .int x1199), (5, .int x1200), (4, .int x861), (3, .int x1), (0, .ref o1), (1, .int 8), (2, .int a2)]) hx hb dX12_goesOn_65 hl (by decide) rfl (fun ls hl => ?_)
                refine lv_iload hx hb dX12_goesOn_67 (lv_at hl 2 rfl) ?_
                refine lv_aload_n hx hb dX12_goesOn_69 rfl (lv_at hl 5 rfl) ?_
                refine va_get (D := (dC, dI)) (ci := 12) (v := .ref o6) (C := RX12) (T := TX12) (N := 29) hx hb hts iw_X12_goesOn_X12 hown hK hP 0 rfl rfl 3 (by decide) (hts (.fieldLink RX12 13 "HolelessHouseModel" "near" "[I") hm_X12_goesOn_3) (fun _ h9 => h9) rfl dX12_goesOn_70 ?_
                refine lv_iload hx hb dX12_goesOn_73 (lv_at hl 3 rfl) ?_
                refine va_iald hx hb hK hP 2 0 rfl rfl (vin_iv j864 (by decide)) dX12_goesOn_75 (lv_topi (fun x1244 x1244_e => ?_))
                have x1244_h : Iv 0 4095 x1244 := iv_e x1244_e (bd_at fw7_b (vin_iv j864 (by decide)))
                refine lv_aload_n hx hb dX12_goesOn_76 rfl (lv_at hl 5 rfl) ?_
                refine va_get (D := (dC, dI)) (ci := 12) (v := .ref o11) (C := RX12) (T := TX12) (N := 29) hx hb hts iw_X12_goesOn_X12 hown hK hP 0 rfl rfl 6 (by decide) (hts (.fieldLink RX12 19 "HolelessHouseModel" "ring" "[I") hm_X12_goesOn_1) (fun _ h9 => h9) rfl dX12_goesOn_77 ?_
                refine lv_iload hx hb dX12_goesOn_80 (lv_at hl 1 rfl) ?_
                refine va_iald hx hb hK hP 1 0 rfl rfl (vin_iv j1241 (by decide)) dX12_goesOn_82 (lv_topi (fun x1245 x1245_e => ?_))
                have x1245_h : Iv 0 11 x1245 := iv_e x1245_e (bd_at f862_b (vin_iv j1241 (by decide)))
                refine kc_i (D := (dC, dI)) (S := Unit) (wc := []) (wr := [(o1, .inr (12, [.int v2, .ref o3, .int v5, .ref o6, .int v8, .ref o9, .ref o11, .int v13, .ref o14, .int v16, .ref o17, .int v19, .int v20, .int v21, .ref o22, .ref o24, .ref o26, .ref o28, .ref o30, .int v32, .ref o33, .ref o35, .ref o37, .int v39, .ref o40, .ref o42, .ref o44, .int v46, .ref o47])), (o11, .inl (cI, 12, .inl f862)), (o6, .inl (cI, 12, .inl fw7))]) (w1 := fun _ => []) (wn := fun _ => [(o1, .inr (12, [.int v2, .ref o3, .int v5, .ref o6, .int v8, .ref o9, .ref o11, .int v13, .ref o14, .int v16, .ref o17, .int v19, .int v20, .int v21, .ref o22, .ref o24, .ref o26, .ref o28, .ref o30, .int v32, .ref o33, .ref o35, .ref o37, .int v39, .ref o40, .ref o42, .ref o44, .int v46, .ref o47])), (o11, .inl (cI, 12, .inl f862)), (o6, .inl (cI, 12, .inl fw7))]) (fun hPc hDc => va_runS (As := [.int x1244, .int x1245]) (rest := [.int x1200]) ⟨hx, hb, hml, hown, hts⟩ (kX12_has_1 l dC dI cI c2 cZ x1244 x1245 H.size (iv_w x1245_h (by decide))) (va_cwS 2 hts gX12_goesOn_X12_has rfl rfl rfl (by decide +kernel) ⟨Nat.le_of_ble_eq_true rfl, Nat.le_of_ble_eq_true rfl⟩) (pre_S hPc hK hDc hN) rfl rfl hl.1 rfl (lv_room (Nat.le_of_ble_eq_true rfl)) dX12_goesOn_83 ⟨Nat.le_of_ble_eq_true rfl, Nat.le_of_ble_eq_true rfl⟩) hP hD hS hA [] [0, 1, 2] [0, 1, 2] rfl rfl (by decide +kernel) (by decide +kernel) (by decide +kernel) (by decide +kernel) (fun _ => rfl) (fun x1246 _ H locs hq hP hD hS => ?_)
                obtain ⟨x1246_h, e1247⟩ := hq
                have hP : va_P (dC, dI) vwCl ([(o1, .inr (12, [.int v2, .ref o3, .int v5, .ref o6, .int v8, .ref o9, .ref o11, .int v13, .ref o14, .int v16, .ref o17, .int v19, .int v20, .int v21, .ref o22, .ref o24, .ref o26, .ref o28, .ref o30, .int v32, .ref o33, .ref o35, .ref o37, .int v39, .ref o40, .ref o42, .ref o44, .int v46, .ref o47])), (o11, .inl (cI, 12, .inl f862)), (o6, .inl (cI, 12, .inl fw7))]) H := hP
                have hD : va_D A ([(o1, .inr (12, [.int v2, .ref o3, .int v5, .ref o6, .int v8, .ref o9, .ref o11, .int v13, .ref o14, .int v16, .ref o17, .int v19, .int v20, .int v21, .ref o22, .ref o24, .ref o26, .ref o28, .ref o30, .int v32, .ref o33, .ref o35, .ref o37, .int v39, .ref o40, .ref o42, .ref o44, .int v46, .ref o47])), (o11, .inl (cI, 12, .inl f862)), (o6, .inl (cI, 12, .inl fw7))]) := hD
                refine lv_if_eq (tgt := 96) hx hb dX12_goesOn_86 (by decide) (fun h1248 => ?_) (fun h1248 => ?_)
                ·
                  have j1249 : Iv 0 0 x1246 := r_eq h1248 ik_0
                  have b1250 : bt x1244 (Int32.toNatClampNeg x1245) = false := has_f e1247 h1248
                  refine lv_iconst (v := 0) hx hb dX12_goesOn_96 (by decide) ?_
                  refine lv_ior hx hb dX12_goesOn_97 (lv_topi (fun x1251 x1251_e => ?_))
                  have x1251_h : Iv 0 255 x1251 := iv_e x1251_e (iv_or 8 x1200_h ik_0 (by decide))
                  refine lv_istore (lv' := [(5, .int x1251), (6, .int 1), (7, .int x1199), (4, .int x861), (3, .int x1), (0, .ref o1), (1, .int 8), (2, .int a2)]) hx hb dX12_goesOn_98 hl (by decide) rfl (fun ls hl => ?_)
                  obtain ⟨x1252, x1252_e⟩ : ∃ z : Int32, z = x1199 + 1 := ⟨_, rfl⟩
                  have x1252_h : Iv 1 8 x1252 := iv_e x1252_e (iv_add j1241 ik_1 (by decide))
                  refine lv_iinc (v := x1252) (lv' := [(7, .int x1252), (5, .int x1251), (6, .int 1), (4, .int x861), (3, .int x1), (0, .ref o1), (1, .int 8), (2, .int a2)]) hx hb dX12_goesOn_100 hl (k := 2) rfl (incN (by decide +kernel) x1252_e) (by decide) rfl (fun ls hl => ?_)
                  refine lv_goto (tgt := 37) hx hb dX12_goesOn_103 (by decide) ?_
                  exact ih4 x1252 x1251 1 _ _ _ (ms_up x1252_e j1241 (by decide) hM4) (iv_w x1252_h (by decide)) x1251_h (iv_w ik_1 (by decide)) hP hD hS (lv_sub hl [0, 2, 1, 3, 4, 5, 6, 7] rfl)
                ·
                  have j1253 : Iv 1 1 x1246 := r_nelo h1248 x1246_h ik_0 (by decide)
                  have b1254 : bt x1244 (Int32.toNatClampNeg x1245) = true := has_t e1247 h1248
                  refine lv_iconst (v := 1) hx hb dX12_goesOn_89 (by decide) ?_
                  refine lv_iload hx hb dX12_goesOn_90 (lv_at hl 1 rfl) ?_
                  refine lv_ishl hx hb dX12_goesOn_92 (lv_topi (fun x1255 x1255_e => ?_))
                  have x1255_h : Iv 1 128 x1255 := iv_e x1255_e (iv_shl1 j1241 (by decide))
                  refine lv_goto (tgt := 97) hx hb dX12_goesOn_93 (by decide) ?_
                  refine lv_ior hx hb dX12_goesOn_97 (lv_topi (fun x1256 x1256_e => ?_))
                  have x1256_h : Iv 0 255 x1256 := iv_e x1256_e (iv_or 8 x1200_h x1255_h (by decide))
                  refine lv_istore (lv' := [(5, .int x1256), (6, .int 1), (7, .int x1199), (4, .int x861), (3, .int x1), (0, .ref o1), (1, .int 8), (2, .int a2)]) hx hb dX12_goesOn_98 hl (by decide) rfl (fun ls hl => ?_)
                  obtain ⟨x1257, x1257_e⟩ : ∃ z : Int32, z = x1199 + 1 := ⟨_, rfl⟩
                  have x1257_h : Iv 1 8 x1257 := iv_e x1257_e (iv_add j1241 ik_1 (by decide))
                  refine lv_iinc (v := x1257) (lv' := [(7, .int x1257), (5, .int x1256), (6, .int 1), (4, .int x861), (3, .int x1), (0, .ref o1), (1, .int 8), (2, .int a2)]) hx hb dX12_goesOn_100 hl (k := 2) rfl (incN (by decide +kernel) x1257_e) (by decide) rfl (fun ls hl => ?_)
                  refine lv_goto (tgt := 37) hx hb dX12_goesOn_103 (by decide) ?_
                  exact ih4 x1257 x1256 1 _ _ _ (ms_up x1257_e j1241 (by decide) hM4) (iv_w x1257_h (by decide)) x1256_h (iv_w ik_1 (by decide)) hP hD hS (lv_sub hl [0, 2, 1, 3, 4, 5, 6, 7] rfl)
              ·
                have j1258 : Iv 0 0 x1201 := r_eq h1242 ik_0
                refine lv_aload_n hx hb dX12_goesOn_48 rfl (lv_at hl 5 rfl) ?_
                refine va_get (D := (dC, dI)) (ci := 12) (v := .ref o11) (C := RX12) (T := TX12) (N := 29) hx hb hts iw_X12_goesOn_X12 hown hK hP 0 rfl rfl 6 (by decide) (hts (.fieldLink RX12 19 "HolelessHouseModel" "ring" "[I") hm_X12_goesOn_1) (fun _ h9 => h9) rfl dX12_goesOn_49 ?_
                refine lv_iload hx hb dX12_goesOn_52 (lv_at hl 0 rfl) ?_
                refine va_iald hx hb hK hP 1 0 rfl rfl (vin_iv j1241 (by decide)) dX12_goesOn_54 (lv_topi (fun x1259 x1259_e => ?_))
                have x1259_h : Iv 0 11 x1259 := iv_e x1259_e (bd_at f862_b (vin_iv j1241 (by decide)))
                refine lv_iload hx hb dX12_goesOn_55 (lv_at hl 3 rfl) ?_
                refine lv_icmp_ne (tgt := 64) hx hb dX12_goesOn_57 (by decide) (fun h1260 => ?_) (fun h1260 => ?_)
                ·
                  refine lv_iconst (v := 0) hx hb dX12_goesOn_64 (by decide) ?_
                  refine lv_istore (lv' := [(6, .int 0), (7, .int x1199), (5, .int x1200), (4, .int x861), (3, .int x1), (0, .ref o1), (1, .int 8), (2, .int a2)]) hx hb dX12_goesOn_65 hl (by decide) rfl (fun ls hl => ?_)
                  refine lv_iload hx hb dX12_goesOn_67 (lv_at hl 2 rfl) ?_
                  refine lv_aload_n hx hb dX12_goesOn_69 rfl (lv_at hl 5 rfl) ?_
                  refine va_get (D := (dC, dI)) (ci := 12) (v := .ref o6) (C := RX12) (T := TX12) (N := 29) hx hb hts iw_X12_goesOn_X12 hown hK hP 0 rfl rfl 3 (by decide) (hts (.fieldLink RX12 13 "HolelessHouseModel" "near" "[I") hm_X12_goesOn_3) (fun _ h9 => h9) rfl dX12_goesOn_70 ?_
                  refine lv_iload hx hb dX12_goesOn_73 (lv_at hl 3 rfl) ?_
                  refine va_iald hx hb hK hP 2 0 rfl rfl (vin_iv j864 (by decide)) dX12_goesOn_75 (lv_topi (fun x1261 x1261_e => ?_))
                  have x1261_h : Iv 0 4095 x1261 := iv_e x1261_e (bd_at fw7_b (vin_iv j864 (by decide)))
                  refine lv_aload_n hx hb dX12_goesOn_76 rfl (lv_at hl 5 rfl) ?_
                  refine va_get (D := (dC, dI)) (ci := 12) (v := .ref o11) (C := RX12) (T := TX12) (N := 29) hx hb hts iw_X12_goesOn_X12 hown hK hP 0 rfl rfl 6 (by decide) (hts (.fieldLink RX12 19 "HolelessHouseModel" "ring" "[I") hm_X12_goesOn_1) (fun _ h9 => h9) rfl dX12_goesOn_77 ?_
                  refine lv_iload hx hb dX12_goesOn_80 (lv_at hl 1 rfl) ?_
                  refine va_iald hx hb hK hP 1 0 rfl rfl (vin_iv j1241 (by decide)) dX12_goesOn_82 (lv_topi (fun x1262 x1262_e => ?_))
                  have x1262_h : Iv 0 11 x1262 := iv_e x1262_e (bd_at f862_b (vin_iv j1241 (by decide)))
                  refine kc_i (D := (dC, dI)) (S := Unit) (wc := []) (wr := [(o1, .inr (12, [.int v2, .ref o3, .int v5, .ref o6, .int v8, .ref o9, .ref o11, .int v13, .ref o14, .int v16, .ref o17, .int v19, .int v20, .int v21, .ref o22, .ref o24, .ref o26, .ref o28, .ref o30, .int v32, .ref o33, .ref o35, .ref o37, .int v39, .ref o40, .ref o42, .ref o44, .int v46, .ref o47])), (o11, .inl (cI, 12, .inl f862)), (o6, .inl (cI, 12, .inl fw7))]) (w1 := fun _ => []) (wn := fun _ => [(o1, .inr (12, [.int v2, .ref o3, .int v5, .ref o6, .int v8, .ref o9, .ref o11, .int v13, .ref o14, .int v16, .ref o17, .int v19, .int v20, .int v21, .ref o22, .ref o24, .ref o26, .ref o28, .ref o30, .int v32, .ref o33, .ref o35, .ref o37, .int v39, .ref o40, .ref o42, .ref o44, .int v46, .ref o47])), (o11, .inl (cI, 12, .inl f862)), (o6, .inl (cI, 12, .inl fw7))]) (fun hPc hDc => va_runS (As := [.int x1261, .int x1262]) (rest := [.int x1200]) ⟨hx, hb, hml, hown, hts⟩ (kX12_has_1 l dC dI cI c2 cZ x1261 x1262 H.size (iv_w x1262_h (by decide))) (va_cwS 2 hts gX12_goesOn_X12_has rfl rfl rfl (by decide +kernel) ⟨Nat.le_of_ble_eq_true rfl, Nat.le_of_ble_eq_true rfl⟩) (pre_S hPc hK hDc hN) rfl rfl hl.1 rfl (lv_room (Nat.le_of_ble_eq_true rfl)) dX12_goesOn_83 ⟨Nat.le_of_ble_eq_true rfl, Nat.le_of_ble_eq_true rfl⟩) hP hD hS hA [] [0, 1, 2] [0, 1, 2] rfl rfl (by decide +kernel) (by decide +kernel) (by decide +kernel) (by decide +kernel) (fun _ => rfl) (fun x1263 _ H locs hq hP hD hS => ?_)
                  obtain ⟨x1263_h, e1264⟩ := hq
                  have hP : va_P (dC, dI) vwCl ([(o1, .inr (12, [.int v2, .ref o3, .int v5, .ref o6, .int v8, .ref o9, .ref o11, .int v13, .ref o14, .int v16, .ref o17, .int v19, .int v20, .int v21, .ref o22, .ref o24, .ref o26, .ref o28, .ref o30, .int v32, .ref o33, .ref o35, .ref o37, .int v39, .ref o40, .ref o42, .ref o44, .int v46, .ref o47])), (o11, .inl (cI, 12, .inl f862)), (o6, .inl (cI, 12, .inl fw7))]) H := hP
                  have hD : va_D A ([(o1, .inr (12, [.int v2, .ref o3, .int v5, .ref o6, .int v8, .ref o9, .ref o11, .int v13, .ref o14, .int v16, .ref o17, .int v19, .int v20, .int v21, .ref o22, .ref o24, .ref o26, .ref o28, .ref o30, .int v32, .ref o33, .ref o35, .ref o37, .int v39, .ref o40, .ref o42, .ref o44, .int v46, .ref o47])), (o11, .inl (cI, 12, .inl f862)), (o6, .inl (cI, 12, .inl fw7))]) := hD
                  refine lv_if_eq (tgt := 96) hx hb dX12_goesOn_86 (by decide) (fun h1265 => ?_) (fun h1265 => ?_)
                  ·
                    have j1266 : Iv 0 0 x1263 := r_eq h1265 ik_0
                    have b1267 : bt x1261 (Int32.toNatClampNeg x1262) = false := has_f e1264 h1265
                    refine lv_iconst (v := 0) hx hb dX12_goesOn_96 (by decide) ?_
                    refine lv_ior hx hb dX12_goesOn_97 (lv_topi (fun x1268 x1268_e => ?_))
                    have x1268_h : Iv 0 255 x1268 := iv_e x1268_e (iv_or 8 x1200_h ik_0 (by decide))
                    refine lv_istore (lv' := [(5, .int x1268), (6, .int 0), (7, .int x1199), (4, .int x861), (3, .int x1), (0, .ref o1), (1, .int 8), (2, .int a2)]) hx hb dX12_goesOn_98 hl (by decide) rfl (fun ls hl => ?_)
                    obtain ⟨x1269, x1269_e⟩ : ∃ z : Int32, z = x1199 + 1 := ⟨_, rfl⟩
                    have x1269_h : Iv 1 8 x1269 := iv_e x1269_e (iv_add j1241 ik_1 (by decide))
                    refine lv_iinc (v := x1269) (lv' := [(7, .int x1269), (5, .int x1268), (6, .int 0), (4, .int x861), (3, .int x1), (0, .ref o1), (1, .int 8), (2, .int a2)]) hx hb dX12_goesOn_100 hl (k := 2) rfl (incN (by decide +kernel) x1269_e) (by decide) rfl (fun ls hl => ?_)
                    refine lv_goto (tgt := 37) hx hb dX12_goesOn_103 (by decide) ?_
                    exact ih4 x1269 x1268 0 _ _ _ (ms_up x1269_e j1241 (by decide) hM4) (iv_w x1269_h (by decide)) x1268_h (iv_w ik_0 (by decide)) hP hD hS (lv_sub hl [0, 2, 1, 3, 4, 5, 6, 7] rfl)
                  ·
                    have j1270 : Iv 1 1 x1263 := r_nelo h1265 x1263_h ik_0 (by decide)
                    have b1271 : bt x1261 (Int32.toNatClampNeg x1262) = true := has_t e1264 h1265
                    refine lv_iconst (v := 1) hx hb dX12_goesOn_89 (by decide) ?_
                    refine lv_iload hx hb dX12_goesOn_90 (lv_at hl 1 rfl) ?_
                    refine lv_ishl hx hb dX12_goesOn_92 (lv_topi (fun x1272 x1272_e => ?_))
                    have x1272_h : Iv 1 128 x1272 := iv_e x1272_e (iv_shl1 j1241 (by decide))
                    refine lv_goto (tgt := 97) hx hb dX12_goesOn_93 (by decide) ?_
                    refine lv_ior hx hb dX12_goesOn_97 (lv_topi (fun x1273 x1273_e => ?_))
                    have x1273_h : Iv 0 255 x1273 := iv_e x1273_e (iv_or 8 x1200_h x1272_h (by decide))
                    refine lv_istore (lv' := [(5, .int x1273), (6, .int 0), (7, .int x1199), (4, .int x861), (3, .int x1), (0, .ref o1), (1, .int 8), (2, .int a2)]) hx hb dX12_goesOn_98 hl (by decide) rfl (fun ls hl => ?_)
                    obtain ⟨x1274, x1274_e⟩ : ∃ z : Int32, z = x1199 + 1 := ⟨_, rfl⟩
                    have x1274_h : Iv 1 8 x1274 := iv_e x1274_e (iv_add j1241 ik_1 (by decide))
                    refine lv_iinc (v := x1274) (lv' := [(7, .int x1274), (5, .int x1273), (6, .int 0), (4, .int x861), (3, .int x1), (0, .ref o1), (1, .int 8), (2, .int a2)]) hx hb dX12_goesOn_100 hl (k := 2) rfl (incN (by decide +kernel) x1274_e) (by decide) rfl (fun ls hl => ?_)
                    refine lv_goto (tgt := 37) hx hb dX12_goesOn_103 (by decide) ?_
                    exact ih4 x1274 x1273 0 _ _ _ (ms_up x1274_e j1241 (by decide) hM4) (iv_w x1274_h (by decide)) x1273_h (iv_w ik_0 (by decide)) hP hD hS (lv_sub hl [0, 2, 1, 3, 4, 5, 6, 7] rfl)
                ·
                  have j1275 : Iv 1 11 x1259 := r_eq h1260 j864
                  refine lv_iconst (v := 1) hx hb dX12_goesOn_60 (by decide) ?_
                  refine lv_goto (tgt := 65) hx hb dX12_goesOn_61 (by decide) ?_
                  refine lv_istore (lv' := [(6, .int 1), (7, .int x1199), (5, .int x1200), (4, .int x861), (3, .int x1), (0, .ref o1), (1, .int 8), (2, .int a2)]) hx hb dX12_goesOn_65 hl (by decide) rfl (fun ls hl => ?_)
                  refine lv_iload hx hb dX12_goesOn_67 (lv_at hl 2 rfl) ?_
                  refine lv_aload_n hx hb dX12_goesOn_69 rfl (lv_at hl 5 rfl) ?_
                  refine va_get (D := (dC, dI)) (ci := 12) (v := .ref o6) (C := RX12) (T := TX12) (N := 29) hx hb hts iw_X12_goesOn_X12 hown hK hP 0 rfl rfl 3 (by decide) (hts (.fieldLink RX12 13 "HolelessHouseModel" "near" "[I") hm_X12_goesOn_3) (fun _ h9 => h9) rfl dX12_goesOn_70 ?_
                  refine lv_iload hx hb dX12_goesOn_73 (lv_at hl 3 rfl) ?_
                  refine va_iald hx hb hK hP 2 0 rfl rfl (vin_iv j864 (by decide)) dX12_goesOn_75 (lv_topi (fun x1276 x1276_e => ?_))
                  have x1276_h : Iv 0 4095 x1276 := iv_e x1276_e (bd_at fw7_b (vin_iv j864 (by decide)))
                  refine lv_aload_n hx hb dX12_goesOn_76 rfl (lv_at hl 5 rfl) ?_
                  refine va_get (D := (dC, dI)) (ci := 12) (v := .ref o11) (C := RX12) (T := TX12) (N := 29) hx hb hts iw_X12_goesOn_X12 hown hK hP 0 rfl rfl 6 (by decide) (hts (.fieldLink RX12 19 "HolelessHouseModel" "ring" "[I") hm_X12_goesOn_1) (fun _ h9 => h9) rfl dX12_goesOn_77 ?_
                  refine lv_iload hx hb dX12_goesOn_80 (lv_at hl 1 rfl) ?_
                  refine va_iald hx hb hK hP 1 0 rfl rfl (vin_iv j1241 (by decide)) dX12_goesOn_82 (lv_topi (fun x1277 x1277_e => ?_))
                  have x1277_h : Iv 1 11 x1277 := iv_e (x1277_e.trans x1259_e.symm) j1275
                  refine kc_i (D := (dC, dI)) (S := Unit) (wc := []) (wr := [(o1, .inr (12, [.int v2, .ref o3, .int v5, .ref o6, .int v8, .ref o9, .ref o11, .int v13, .ref o14, .int v16, .ref o17, .int v19, .int v20, .int v21, .ref o22, .ref o24, .ref o26, .ref o28, .ref o30, .int v32, .ref o33, .ref o35, .ref o37, .int v39, .ref o40, .ref o42, .ref o44, .int v46, .ref o47])), (o11, .inl (cI, 12, .inl f862)), (o6, .inl (cI, 12, .inl fw7))]) (w1 := fun _ => []) (wn := fun _ => [(o1, .inr (12, [.int v2, .ref o3, .int v5, .ref o6, .int v8, .ref o9, .ref o11, .int v13, .ref o14, .int v16, .ref o17, .int v19, .int v20, .int v21, .ref o22, .ref o24, .ref o26, .ref o28, .ref o30, .int v32, .ref o33, .ref o35, .ref o37, .int v39, .ref o40, .ref o42, .ref o44, .int v46, .ref o47])), (o11, .inl (cI, 12, .inl f862)), (o6, .inl (cI, 12, .inl fw7))]) (fun hPc hDc => va_runS (As := [.int x1276, .int x1277]) (rest := [.int x1200]) ⟨hx, hb, hml, hown, hts⟩ (kX12_has_1 l dC dI cI c2 cZ x1276 x1277 H.size (iv_w x1277_h (by decide))) (va_cwS 2 hts gX12_goesOn_X12_has rfl rfl rfl (by decide +kernel) ⟨Nat.le_of_ble_eq_true rfl, Nat.le_of_ble_eq_true rfl⟩) (pre_S hPc hK hDc hN) rfl rfl hl.1 rfl (lv_room (Nat.le_of_ble_eq_true rfl)) dX12_goesOn_83 ⟨Nat.le_of_ble_eq_true rfl, Nat.le_of_ble_eq_true rfl⟩) hP hD hS hA [] [0, 1, 2] [0, 1, 2] rfl rfl (by decide +kernel) (by decide +kernel) (by decide +kernel) (by decide +kernel) (fun _ => rfl) (fun x1278 _ H locs hq hP hD hS => ?_)
                  obtain ⟨x1278_h, e1279⟩ := hq
                  have hP : va_P (dC, dI) vwCl ([(o1, .inr (12, [.int v2, .ref o3, .int v5, .ref o6, .int v8, .ref o9, .ref o11, .int v13, .ref o14, .int v16, .ref o17, .int v19, .int v20, .int v21, .ref o22, .ref o24, .ref o26, .ref o28, .ref o30, .int v32, .ref o33, .ref o35, .ref o37, .int v39, .ref o40, .ref o42, .ref o44, .int v46, .ref o47])), (o11, .inl (cI, 12, .inl f862)), (o6, .inl (cI, 12, .inl fw7))]) H := hP
                  have hD : va_D A ([(o1, .inr (12, [.int v2, .ref o3, .int v5, .ref o6, .int v8, .ref o9, .ref o11, .int v13, .ref o14, .int v16, .ref o17, .int v19, .int v20, .int v21, .ref o22, .ref o24, .ref o26, .ref o28, .ref o30, .int v32, .ref o33, .ref o35, .ref o37, .int v39, .ref o40, .ref o42, .ref o44, .int v46, .ref o47])), (o11, .inl (cI, 12, .inl f862)), (o6, .inl (cI, 12, .inl fw7))]) := hD
                  refine lv_if_eq (tgt := 96) hx hb dX12_goesOn_86 (by decide) (fun h1280 => ?_) (fun h1280 => ?_)
                  ·
                    have j1281 : Iv 0 0 x1278 := r_eq h1280 ik_0
                    have b1282 : bt x1276 (Int32.toNatClampNeg x1277) = false := has_f e1279 h1280
                    refine lv_iconst (v := 0) hx hb dX12_goesOn_96 (by decide) ?_
                    refine lv_ior hx hb dX12_goesOn_97 (lv_topi (fun x1283 x1283_e => ?_))
                    have x1283_h : Iv 0 255 x1283 := iv_e x1283_e (iv_or 8 x1200_h ik_0 (by decide))
                    refine lv_istore (lv' := [(5, .int x1283), (6, .int 1), (7, .int x1199), (4, .int x861), (3, .int x1), (0, .ref o1), (1, .int 8), (2, .int a2)]) hx hb dX12_goesOn_98 hl (by decide) rfl (fun ls hl => ?_)
                    obtain ⟨x1284, x1284_e⟩ : ∃ z : Int32, z = x1199 + 1 := ⟨_, rfl⟩
                    have x1284_h : Iv 1 8 x1284 := iv_e x1284_e (iv_add j1241 ik_1 (by decide))
                    refine lv_iinc (v := x1284) (lv' := [(7, .int x1284), (5, .int x1283), (6, .int 1), (4, .int x861), (3, .int x1), (0, .ref o1), (1, .int 8), (2, .int a2)]) hx hb dX12_goesOn_100 hl (k := 2) rfl (incN (by decide +kernel) x1284_e) (by decide) rfl (fun ls hl => ?_)
                    refine lv_goto (tgt := 37) hx hb dX12_goesOn_103 (by decide) ?_
                    exact ih4 x1284 x1283 1 _ _ _ (ms_up x1284_e j1241 (by decide) hM4) (iv_w x1284_h (by decide)) x1283_h (iv_w ik_1 (by decide)) hP hD hS (lv_sub hl [0, 2, 1, 3, 4, 5, 6, 7] rfl)
                  ·
                    have j1285 : Iv 1 1 x1278 := r_nelo h1280 x1278_h ik_0 (by decide)
                    have b1286 : bt x1276 (Int32.toNatClampNeg x1277) = true := has_t e1279 h1280
                    refine lv_iconst (v := 1) hx hb dX12_goesOn_89 (by decide) ?_
                    refine lv_iload hx hb dX12_goesOn_90 (lv_at hl 1 rfl) ?_
                    refine lv_ishl hx hb dX12_goesOn_92 (lv_topi (fun x1287 x1287_e => ?_))
                    have x1287_h : Iv 1 128 x1287 := iv_e x1287_e (iv_shl1 j1241 (by decide))
                    refine lv_goto (tgt := 97) hx hb dX12_goesOn_93 (by decide) ?_
                    refine lv_ior hx hb dX12_goesOn_97 (lv_topi (fun x1288 x1288_e => ?_))
                    have x1288_h : Iv 0 255 x1288 := iv_e x1288_e (iv_or 8 x1200_h x1287_h (by decide))
                    refine lv_istore (lv' := [(5, .int x1288), (6, .int 1), (7, .int x1199), (4, .int x861), (3, .int x1), (0, .ref o1), (1, .int 8), (2, .int a2)]) hx hb dX12_goesOn_98 hl (by decide) rfl (fun ls hl => ?_)
                    obtain ⟨x1289, x1289_e⟩ : ∃ z : Int32, z = x1199 + 1 := ⟨_, rfl⟩
                    have x1289_h : Iv 1 8 x1289 := iv_e x1289_e (iv_add j1241 ik_1 (by decide))
                    refine lv_iinc (v := x1289) (lv' := [(7, .int x1289), (5, .int x1288), (6, .int 1), (4, .int x861), (3, .int x1), (0, .ref o1), (1, .int 8), (2, .int a2)]) hx hb dX12_goesOn_100 hl (k := 2) rfl (incN (by decide +kernel) x1289_e) (by decide) rfl (fun ls hl => ?_)
                    refine lv_goto (tgt := 37) hx hb dX12_goesOn_103 (by decide) ?_
                    exact ih4 x1289 x1288 1 _ _ _ (ms_up x1289_e j1241 (by decide) hM4) (iv_w x1289_h (by decide)) x1288_h (iv_w ik_1 (by decide)) hP hD hS (lv_sub hl [0, 2, 1, 3, 4, 5, 6, 7] rfl)
        exact L4 _ 0 0 0 _ _ _ (Nat.lt_succ_self _) (iv_w ik_0 (by decide)) (iv_w ik_0 (by decide)) (iv_w ik_0 (by decide)) hP hD hS hl
  exact L3 _ x3 fw12 _ _ _ (Nat.lt_succ_self _) x3_h fw12_b hP hD hS hl
set_option maxHeartbeats 4000000 in
set_option maxRecDepth 100000 in
theorem kX12_goesOn_5 (l : Launch) (dC : Nat → ClassId) (dI : Nat → Nat → Nat) (cI c2 cZ : ClassId) (o1 : Nat) (o3 : Nat) (o6 : Nat) (o9 : Nat) (o11 : Nat) (o14 : Nat) (o17 : Nat) (o22 : Nat) (o24 : Nat) (o26 : Nat) (o28 : Nat) (o30 : Nat) (o33 : Nat) (o35 : Nat) (o37 : Nat) (o40 : Nat) (o42 : Nat) (o44 : Nat) (o47 : Nat) (v2 : Int32) (v5 : Int32) (fw7 : Nat → Int32) (v8 : Int32) (fw12 : Nat → Int32) (v13 : Int32) (v16 : Int32) (v19 : Int32) (v20 : Int32) (v21 : Int32) (v32 : Int32) (v39 : Int32) (v46 : Int32) (a2 : Int32) (sz : Nat) (v5_h : Iv 0 12 v5) (fw7_b : Bd 12 0 4095 fw7) (v8_h : Iv 0 8 v8) (fw12_b : Bd 12 0 11 fw12) (v13_h : Iv 0 12 v13) (v16_h : Iv 0 12 v16) (v19_h : Iv (-9) 12 v19) (v32_h : Iv 0 99 v32) (v39_h : Iv 0 12 v39) (v46_h : Iv 0 12 v46) (a2_h : Iv 8 12 a2) : Met l yX12_goesOn wsX12_goesOn ({ frames := 5, cells := 0, slots := 0, locals := 129 }) (va_Pc [.ref o1, .int 7, .int a2] (wPre (dC, dI) [(cI, .int), (c2, .array .int), (cZ, .boolean)] ([(o1, .inr (12, [.int v2, .ref o3, .int v5, .ref o6, .int v8, .ref o9, .ref o11, .int v13, .ref o14, .int v16, .ref o17, .int v19, .int v20, .int v21, .ref o22, .ref o24, .ref o26, .ref o28, .ref o30, .int v32, .ref o33, .ref o35, .ref o37, .int v39, .ref o40, .ref o42, .ref o44, .int v46, .ref o47])), (o11, .inl (cI, 12, .inl fw12)), (o6, .inl (cI, 12, .inl fw7))]) sz)) (va_Qi (fun (r : Int32) (u : (Nat → Int32)) => Iv 0 1 r ∧ Bd 12 0 11 u) (fun u t => wPost (dC, dI) [(cI, .int), (c2, .array .int), (cZ, .boolean)] (va_A ([(o1, .inr (12, [.int v2, .ref o3, .int v5, .ref o6, .int v8, .ref o9, .ref o11, .int v13, .ref o14, .int v16, .ref o17, .int v19, .int v20, .int v21, .ref o22, .ref o24, .ref o26, .ref o28, .ref o30, .int v32, .ref o33, .ref o35, .ref o37, .int v39, .ref o40, .ref o42, .ref o44, .int v46, .ref o47])), (o11, .inl (cI, 12, .inl fw12)), (o6, .inl (cI, 12, .inl fw7))]) sz) ([(o1, .inr (12, [.int v2, .ref o3, .int v5, .ref o6, .int v8, .ref o9, .ref o11, .int v13, .ref o14, .int v16, .ref o17, .int v19, .int v20, .int v21, .ref o22, .ref o24, .ref o26, .ref o28, .ref o30, .int v32, .ref o33, .ref o35, .ref o37, .int v39, .ref o40, .ref o42, .ref o44, .int v46, .ref o47])), (o11, .inl (cI, 12, .inl u)), (o6, .inl (cI, 12, .inl fw7))]) t) (va_A ([(o1, .inr (12, [.int v2, .ref o3, .int v5, .ref o6, .int v8, .ref o9, .ref o11, .int v13, .ref o14, .int v16, .ref o17, .int v19, .int v20, .int v21, .ref o22, .ref o24, .ref o26, .ref o28, .ref o30, .int v32, .ref o33, .ref o35, .ref o37, .int v39, .ref o40, .ref o42, .ref o44, .int v46, .ref o47])), (o11, .inl (cI, 12, .inl fw12)), (o6, .inl (cI, 12, .inl fw7))]) sz)) 0 0 (va_A ([(o1, .inr (12, [.int v2, .ref o3, .int v5, .ref o6, .int v8, .ref o9, .ref o11, .int v13, .ref o14, .int v16, .ref o17, .int v19, .int v20, .int v21, .ref o22, .ref o24, .ref o26, .ref o28, .ref o30, .int v32, .ref o33, .ref o35, .ref o37, .int v39, .ref o40, .ref o42, .ref o44, .int v46, .ref o47])), (o11, .inl (cI, 12, .inl fw12)), (o6, .inl (cI, 12, .inl fw7))]) sz) := by
  refine Met.ofW (cc := cX12_goesOn) (maxL := 8) (ret := (some .boolean)) (by decide) rfl ?_
  intro p e s m args below meth c s₁ B hml hv
  obtain ⟨rfl, hsz, hP, hK, hD0, hN⟩ := hv
  have hx := B.exec
  have hb := B.bytes
  have hr := B.returns
  have hts := atoms_spec (ws := wsX12_goesOn) B.pre
  have hown : s.vm.findClass RX12 = some m.cls := findClass_of_methodNamed B.named
  have hlocks := B.notSynchronized
  subst hsz
  have hD := hD0.self (sz := s.heap.size)
  generalize hAe : va_A ([(o1, .inr (12, [.int v2, .ref o3, .int v5, .ref o6, .int v8, .ref o9, .ref o11, .int v13, .ref o14, .int v16, .ref o17, .int v19, .int v20, .int v21, .ref o22, .ref o24, .ref o26, .ref o28, .ref o30, .int v32, .ref o33, .ref o35, .ref o37, .int v39, .ref o40, .ref o42, .ref o44, .int v46, .ref o47])), (o11, .inl (cI, 12, .inl fw12)), (o6, .inl (cI, 12, .inl fw7))]) s.heap.size = A at hD ⊢
  have hA : ∀ q : Nat, s.heap.size ≤ q → A q := fun q h => by rw [← hAe]; exact Or.inr h
  have hS : va_S A s.heap s.heap [] := va_S.rf
  have hP : va_P (dC, dI) vwCl ([(o1, .inr (12, [.int v2, .ref o3, .int v5, .ref o6, .int v8, .ref o9, .ref o11, .int v13, .ref o14, .int v16, .ref o17, .int v19, .int v20, .int v21, .ref o22, .ref o24, .ref o26, .ref o28, .ref o30, .int v32, .ref o33, .ref o35, .ref o37, .int v39, .ref o40, .ref o42, .ref o44, .int v46, .ref o47])), (o11, .inl (cI, 12, .inl fw12)), (o6, .inl (cI, 12, .inl fw7))]) s.heap := hP
  have hl := lv_entry ([.ref o1, .int 7, .int a2]) (n := 8) (Nat.le_of_ble_eq_true rfl)
  rw [lg_entry_eq]
  generalize (lg_sl ([.ref o1, .int 7, .int a2]) ++ List.replicate (8 - (lg_sl ([.ref o1, .int 7, .int a2])).length) Slot.unset).toArray = ls at hl ⊢
  have hl : lv_has ls 8 [(0, .ref o1), (1, .int 7), (2, .int a2)] := hl
  refine gen_Q (fun Q hQ => ?_)
  refine lv_aload_n hx hb dX12_goesOn_0 rfl (lv_at hl 0 rfl) ?_
  refine va_get (D := (dC, dI)) (ci := 12) (v := .ref o11) (C := RX12) (T := TX12) (N := 29) hx hb hts iw_X12_goesOn_X12 hown hK hP 0 rfl rfl 6 (by decide) (hts (.fieldLink RX12 19 "HolelessHouseModel" "ring" "[I") hm_X12_goesOn_1) (fun _ h9 => h9) rfl dX12_goesOn_1 ?_
  refine lv_iload_n hx hb dX12_goesOn_4 rfl (lv_at hl 1 rfl) ?_
  refine lv_iconst (v := 1) hx hb dX12_goesOn_5 (by decide) ?_
  refine lv_isub hx hb dX12_goesOn_6 (tk_i (v := 6) (by decide +kernel) ?_)
  refine va_iald hx hb hK hP 1 0 rfl rfl (vin_iv ik_6 (by decide)) dX12_goesOn_7 (lv_topi (fun x1 x1_e => ?_))
  have x1_h : Iv 0 11 x1 := iv_e x1_e (bd_at fw12_b (vin_iv ik_6 (by decide)))
  refine lv_istore_n (lv' := [(3, .int x1), (0, .ref o1), (1, .int 7), (2, .int a2)]) hx hb dX12_goesOn_8 rfl hl (by decide) rfl (fun ls hl => ?_)
  refine lv_aload_n hx hb dX12_goesOn_9 rfl (lv_at hl 1 rfl) ?_
  refine va_get (D := (dC, dI)) (ci := 12) (v := .ref o11) (C := RX12) (T := TX12) (N := 29) hx hb hts iw_X12_goesOn_X12 hown hK hP 0 rfl rfl 6 (by decide) (hts (.fieldLink RX12 19 "HolelessHouseModel" "ring" "[I") hm_X12_goesOn_1) (fun _ h9 => h9) rfl dX12_goesOn_10 ?_
  refine lv_iconst (v := 0) hx hb dX12_goesOn_13 (by decide) ?_
  refine va_iald hx hb hK hP 1 0 rfl rfl (vin_iv ik_0 (by decide)) dX12_goesOn_14 (lv_topi (fun x2 x2_e => ?_))
  have x2_h : Iv 0 11 x2 := iv_e x2_e (bd_at fw12_b (vin_iv ik_0 (by decide)))
  refine lv_iconst (v := 1) hx hb dX12_goesOn_15 (by decide) ?_
  refine lv_iadd hx hb dX12_goesOn_16 (lv_topi (fun x3 x3_e => ?_))
  have x3_h : Iv 1 12 x3 := iv_e x3_e (iv_add x2_h ik_1 (by decide))
  refine lv_istore (lv' := [(4, .int x3), (3, .int x1), (0, .ref o1), (1, .int 7), (2, .int a2)]) hx hb dX12_goesOn_17 hl (by decide) rfl (fun ls hl => ?_)
  have L3 : ∀ (N : Nat) (x969 : Int32) (f970 : Nat → Int32) (H : Heap) (locs : List Loc) (ls : Array Slot), (12 - x969.toInt).toNat < N → Iv 1 12 x969 → Bd 12 0 11 f970 → va_P (dC, dI) vwCl ([(o1, .inr (12, [.int v2, .ref o3, .int v5, .ref o6, .int v8, .ref o9, .ref o11, .int v13, .ref o14, .int v16, .ref o17, .int v19, .int v20, .int v21, .ref o22, .ref o24, .ref o26, .ref o28, .ref o30, .int v32, .ref o33, .ref o35, .ref o37, .int v39, .ref o40, .ref o42, .ref o44, .int v46, .ref o47])), (o11, .inl (cI, 12, .inl f970)), (o6, .inl (cI, 12, .inl fw7))]) H → va_D A ([(o1, .inr (12, [.int v2, .ref o3, .int v5, .ref o6, .int v8, .ref o9, .ref o11, .int v13, .ref o14, .int v16, .ref o17, .int v19, .int v20, .int v21, .ref o22, .ref o24, .ref o26, .ref o28, .ref o30, .int v32, .ref o33, .ref o35, .ref o37, .int v39, .ref o40, .ref o42, .ref o44, .int v46, .ref o47])), (o11, .inl (cI, 12, .inl f970)), (o6, .inl (cI, 12, .inl fw7))]) → va_S A s.heap H locs → lv_has ls 8 [(4, .int x969), (3, .int x1), (0, .ref o1), (1, .int 7), (2, .int a2)] → W p l e ({ frames := 5, cells := 0, slots := 0, locals := 129 }) s m ([.ref o1, .int 7, .int a2] : List Value).toArray below meth c H locs 0 0 Q (F0 m 19 ls []) := by
    intro N
    induction N with
    | zero =>
      intro x969 f970 H locs ls hM
      exact absurd hM (Nat.not_lt_zero _)
    | succ N ih3 =>
      intro x969 f970 H locs ls hM3 x969_h f970_b hP hD hS hl
      refine lv_iload hx hb dX12_goesOn_19 (lv_at hl 0 rfl) ?_
      refine lv_aload_n hx hb dX12_goesOn_21 rfl (lv_at hl 2 rfl) ?_
      refine va_get (D := (dC, dI)) (ci := 12) (v := .int v5) (C := RX12) (T := TX12) (N := 29) hx hb hts iw_X12_goesOn_X12 hown hK hP 0 rfl rfl 2 (by decide) (hts (.fieldLink RX12 73 "HolelessHouseModel" "n" "I") hm_X12_goesOn_2) (fun _ h9 => h9) rfl dX12_goesOn_22 ?_
      refine lv_icmp_ge (tgt := 193) hx hb dX12_goesOn_25 (by decide) (fun h971 => ?_) (fun h971 => ?_)
      ·
        have qh971 := le_i h971
        refine lv_iload_n hx hb dX12_goesOn_193 rfl (lv_at hl 1 rfl) ?_
        refine lv_if_ge (tgt := 201) hx hb dX12_goesOn_194 (by decide) (fun _ => ?_) (fun h9 => absurd (d_le ik_0 x1_h (by decide)) h9)
        refine lv_iconst (v := 0) hx hb dX12_goesOn_201 (by decide) ?_
        rw [hQ]
        exact W.zret (v := 0) (ty := .boolean) hx hb hr rfl (fun t ht hW => ⟨⟨0, f970, rfl, ⟨(iv_w ik_0 (by decide)), f970_b⟩, by rw [ht]; exact hP, va_K.moved hW.alike hK, hD⟩, hS.F ht⟩) hS.2.2 dX12_goesOn_202
      ·
        have qh971 := nle_i h971
        have j972 : Iv 1 11 x969 := r_ltl qh971 x969_h v5_h (by decide)
        have j973 : Iv 2 12 v5 := r_ltr qh971 x969_h v5_h (by decide)
        refine lv_iconst (v := 0) hx hb dX12_goesOn_28 (by decide) ?_
        refine lv_istore (lv' := [(5, .int 0), (4, .int x969), (3, .int x1), (0, .ref o1), (1, .int 7), (2, .int a2)]) hx hb dX12_goesOn_29 hl (by decide) rfl (fun ls hl => ?_)
        refine lv_iconst (v := 0) hx hb dX12_goesOn_31 (by decide) ?_
        refine lv_istore (lv' := [(6, .int 0), (5, .int 0), (4, .int x969), (3, .int x1), (0, .ref o1), (1, .int 7), (2, .int a2)]) hx hb dX12_goesOn_32 hl (by decide) rfl (fun ls hl => ?_)
        refine lv_iconst (v := 0) hx hb dX12_goesOn_34 (by decide) ?_
        refine lv_istore (lv' := [(7, .int 0), (6, .int 0), (5, .int 0), (4, .int x969), (3, .int x1), (0, .ref o1), (1, .int 7), (2, .int a2)]) hx hb dX12_goesOn_35 hl (by decide) rfl (fun ls hl => ?_)
        have L4 : ∀ (N : Nat) (x1361 : Int32) (x1362 : Int32) (x1363 : Int32) (H : Heap) (locs : List Loc) (ls : Array Slot), (8 - x1361.toInt).toNat < N → Iv 0 8 x1361 → Iv 0 255 x1362 → Iv 0 1 x1363 → va_P (dC, dI) vwCl ([(o1, .inr (12, [.int v2, .ref o3, .int v5, .ref o6, .int v8, .ref o9, .ref o11, .int v13, .ref o14, .int v16, .ref o17, .int v19, .int v20, .int v21, .ref o22, .ref o24, .ref o26, .ref o28, .ref o30, .int v32, .ref o33, .ref o35, .ref o37, .int v39, .ref o40, .ref o42, .ref o44, .int v46, .ref o47])), (o11, .inl (cI, 12, .inl f970)), (o6, .inl (cI, 12, .inl fw7))]) H → va_D A ([(o1, .inr (12, [.int v2, .ref o3, .int v5, .ref o6, .int v8, .ref o9, .ref o11, .int v13, .ref o14, .int v16, .ref o17, .int v19, .int v20, .int v21, .ref o22, .ref o24, .ref o26, .ref o28, .ref o30, .int v32, .ref o33, .ref o35, .ref o37, .int v39, .ref o40, .ref o42, .ref o44, .int v46, .ref o47])), (o11, .inl (cI, 12, .inl f970)), (o6, .inl (cI, 12, .inl fw7))]) → va_S A s.heap H locs → lv_has ls 8 [(7, .int x1361), (6, .int x1363), (5, .int x1362), (4, .int x969), (3, .int x1), (0, .ref o1), (1, .int 7), (2, .int a2)] → W p l e ({ frames := 5, cells := 0, slots := 0, locals := 129 }) s m ([.ref o1, .int 7, .int a2] : List Value).toArray below meth c H locs 0 0 Q (F0 m 37 ls []) := by
          intro N
          induction N with
          | zero =>
            intro x1361 x1362 x1363 H locs ls hM
            exact absurd hM (Nat.not_lt_zero _)
          | succ N ih4 =>
            intro x1361 x1362 x1363 H locs ls hM4 x1361_h x1362_h x1363_h hP hD hS hl
            refine lv_iload hx hb dX12_goesOn_37 (lv_at hl 0 rfl) ?_
            refine lv_iload_n hx hb dX12_goesOn_39 rfl (lv_at hl 6 rfl) ?_
            refine lv_icmp_ge (tgt := 106) hx hb dX12_goesOn_40 (by decide) (fun h1364 => ?_) (fun h1364 => ?_)
            ·
              have qh1364 := le_i h1364
              have j1365 : Iv 7 8 x1361 := r_ler qh1364 ik_7 x1361_h (by decide)
              refine lv_iconst (v := 1) hx hb dX12_goesOn_106 (by decide) ?_
              refine lv_iload_n hx hb dX12_goesOn_107 rfl (lv_at hl 6 rfl) ?_
              refine lv_iconst (v := 1) hx hb dX12_goesOn_108 (by decide) ?_
              refine lv_isub hx hb dX12_goesOn_109 (tk_i (v := 6) (by decide +kernel) ?_)
              refine lv_ishl hx hb dX12_goesOn_110 (tk_i (v := 64) (by decide +kernel) ?_)
              refine lv_iload_n hx hb dX12_goesOn_111 rfl (lv_at hl 6 rfl) ?_
              refine lv_iload_n hx hb dX12_goesOn_112 rfl (lv_at hl 7 rfl) ?_
              refine lv_iconst (v := 1) hx hb dX12_goesOn_113 (by decide) ?_
              refine lv_isub hx hb dX12_goesOn_114 (lv_topi (fun x1366 x1366_e => ?_))
              have x1366_h : Iv 7 11 x1366 := iv_e x1366_e (iv_sub a2_h ik_1 (by decide))
              refine lv_icmp_ne (tgt := 122) hx hb dX12_goesOn_115 (by decide) (fun h1367 => ?_) (fun h1367 => ?_)
              ·
                have j1368 : Iv 8 11 x1366 := r_nelo (fun q => h1367 q.symm) x1366_h ik_7 (by decide)
                have j1369 : Iv 9 12 a2 := ivb_sub x1366_e a2_h ik_1 j1368 (by decide)
                refine lv_iconst (v := 0) hx hb dX12_goesOn_122 (by decide) ?_
                refine lv_ior hx hb dX12_goesOn_123 (tk_i (v := 64) (by decide +kernel) ?_)
                refine lv_istore (lv' := [(7, .int 64), (6, .int x1363), (5, .int x1362), (4, .int x969), (3, .int x1), (0, .ref o1), (1, .int 7), (2, .int a2)]) hx hb dX12_goesOn_124 hl (by decide) rfl (fun ls hl => ?_)
                refine lv_iload hx hb dX12_goesOn_126 (lv_at hl 1 rfl) ?_
                refine lv_if_ne (tgt := 187) hx hb dX12_goesOn_128 (by decide) (fun h1370 => ?_) (fun h1370 => ?_)
                ·
                  have j1371 : Iv 1 1 x1363 := r_nelo h1370 x1363_h ik_0 (by decide)
                  obtain ⟨x1372, x1372_e⟩ : ∃ z : Int32, z = x969 + 1 := ⟨_, rfl⟩
                  have x1372_h : Iv 2 12 x1372 := iv_e x1372_e (iv_add j972 ik_1 (by decide))
                  refine lv_iinc (v := x1372) (lv' := [(4, .int x1372), (7, .int 64), (6, .int x1363), (5, .int x1362), (3, .int x1), (0, .ref o1), (1, .int 7), (2, .int a2)]) hx hb dX12_goesOn_187 hl (k := 3) rfl (incN (by decide +kernel) x1372_e) (by decide) rfl (fun ls hl => ?_)
                  refine lv_goto (tgt := 19) hx hb dX12_goesOn_190 (by decide) ?_
                  exact ih3 x1372 f970 _ _ _ (ms_up x1372_e j972 (by decide) hM3) (iv_w x1372_h (by decide)) f970_b hP hD hS (lv_sub hl [0, 4, 5, 6, 7] rfl)
                ·
                  have j1373 : Iv 0 0 x1363 := r_eq h1370 ik_0
                  refine lv_iload hx hb dX12_goesOn_131 (lv_at hl 2 rfl) ?_
                  refine lv_iload hx hb dX12_goesOn_133 (lv_at hl 0 rfl) ?_
                  refine lv_icmp_ne (tgt := 187) hx hb dX12_goesOn_135 (by decide) (fun h1374 => ?_) (fun h1374 => ?_)
                  ·
                    obtain ⟨x1375, x1375_e⟩ : ∃ z : Int32, z = x969 + 1 := ⟨_, rfl⟩
                    have x1375_h : Iv 2 12 x1375 := iv_e x1375_e (iv_add j972 ik_1 (by decide))
                    refine lv_iinc (v := x1375) (lv' := [(4, .int x1375), (7, .int 64), (6, .int x1363), (5, .int x1362), (3, .int x1), (0, .ref o1), (1, .int 7), (2, .int a2)]) hx hb dX12_goesOn_187 hl (k := 3) rfl (incN (by decide +kernel) x1375_e) (by decide) rfl (fun ls hl => ?_)
                    refine lv_goto (tgt := 19) hx hb dX12_goesOn_190 (by decide) ?_
                    exact ih3 x1375 f970 _ _ _ (ms_up x1375_e j972 (by decide) hM3) (iv_w x1375_h (by decide)) f970_b hP hD hS (lv_sub hl [0, 4, 5, 6, 7] rfl)
                  ·
                    have j1376 : Iv 64 64 x1362 := r_eq h1374 ik_64
                    refine lv_iload_n hx hb dX12_goesOn_138 rfl (lv_at hl 6 rfl) ?_
                    refine lv_iload_n hx hb dX12_goesOn_139 rfl (lv_at hl 7 rfl) ?_
                    refine lv_iconst (v := 1) hx hb dX12_goesOn_140 (by decide) ?_
                    refine lv_isub hx hb dX12_goesOn_141 (lv_topi (fun x1377 x1377_e => ?_))
                    have x1377_h : Iv 8 11 x1377 := iv_e x1377_e (iv_sub j1369 ik_1 (by decide))
                    refine lv_icmp_ne (tgt := 159) hx hb dX12_goesOn_142 (by decide) (fun _ => ?_) (fun h9 => absurd h9 (d_ne ik_7 x1377_h (by decide)))
                    refine lv_aload_n hx hb dX12_goesOn_159 rfl (lv_at hl 5 rfl) ?_
                    refine va_get (D := (dC, dI)) (ci := 12) (v := .ref o11) (C := RX12) (T := TX12) (N := 29) hx hb hts iw_X12_goesOn_X12 hown hK hP 0 rfl rfl 6 (by decide) (hts (.fieldLink RX12 19 "HolelessHouseModel" "ring" "[I") hm_X12_goesOn_1) (fun _ h9 => h9) rfl dX12_goesOn_160 ?_
                    refine lv_iload_n hx hb dX12_goesOn_163 rfl (lv_at hl 6 rfl) ?_
                    refine lv_iload hx hb dX12_goesOn_164 (lv_at hl 3 rfl) ?_
                    refine k_iast hx hb hK hP hD hS 1 0 rfl rfl (vin_iv ik_7 (by decide)) dX12_goesOn_166 (fun f1378 H locs f1378_e hP hD hS => ?_)
                    have f1378_b : Bd 12 0 11 f1378 := bd_upd f1378_e f970_b j972 (by decide)
                    have hP : va_P (dC, dI) vwCl ([(o1, .inr (12, [.int v2, .ref o3, .int v5, .ref o6, .int v8, .ref o9, .ref o11, .int v13, .ref o14, .int v16, .ref o17, .int v19, .int v20, .int v21, .ref o22, .ref o24, .ref o26, .ref o28, .ref o30, .int v32, .ref o33, .ref o35, .ref o37, .int v39, .ref o40, .ref o42, .ref o44, .int v46, .ref o47])), (o11, .inl (cI, 12, .inl f1378)), (o6, .inl (cI, 12, .inl fw7))]) H := hP
                    have hD : va_D A ([(o1, .inr (12, [.int v2, .ref o3, .int v5, .ref o6, .int v8, .ref o9, .ref o11, .int v13, .ref o14, .int v16, .ref o17, .int v19, .int v20, .int v21, .ref o22, .ref o24, .ref o26, .ref o28, .ref o30, .int v32, .ref o33, .ref o35, .ref o37, .int v39, .ref o40, .ref o42, .ref o44, .int v46, .ref o47])), (o11, .inl (cI, 12, .inl f1378)), (o6, .inl (cI, 12, .inl fw7))]) := hD
                    refine lv_iload_n hx hb dX12_goesOn_167 rfl (lv_at hl 6 rfl) ?_
                    refine lv_iload_n hx hb dX12_goesOn_168 rfl (lv_at hl 7 rfl) ?_
                    refine lv_iconst (v := 1) hx hb dX12_goesOn_169 (by decide) ?_
                    refine lv_isub hx hb dX12_goesOn_170 (lv_topi (fun x1379 x1379_e => ?_))
                    have x1379_h : Iv 8 11 x1379 := iv_e x1379_e (iv_sub j1369 ik_1 (by decide))
                    refine lv_icmp_eq (tgt := 185) hx hb dX12_goesOn_171 (by decide) (fun h9 => absurd h9 (d_ne ik_7 x1379_h (by decide))) (fun _ => ?_)
                    refine lv_aload_n hx hb dX12_goesOn_174 rfl (lv_at hl 5 rfl) ?_
                    refine lv_iload_n hx hb dX12_goesOn_175 rfl (lv_at hl 6 rfl) ?_
                    refine lv_iconst (v := 1) hx hb dX12_goesOn_176 (by decide) ?_
                    refine lv_iadd hx hb dX12_goesOn_177 (tk_i (v := 8) (by decide +kernel) ?_)
                    refine lv_iload_n hx hb dX12_goesOn_178 rfl (lv_at hl 7 rfl) ?_
                    refine kc_i (D := (dC, dI)) (S := (Nat → Int32)) (wc := [(o1, .inr (12, [.int v2, .ref o3, .int v5, .ref o6, .int v8, .ref o9, .ref o11, .int v13, .ref o14, .int v16, .ref o17, .int v19, .int v20, .int v21, .ref o22, .ref o24, .ref o26, .ref o28, .ref o30, .int v32, .ref o33, .ref o35, .ref o37, .int v39, .ref o40, .ref o42, .ref o44, .int v46, .ref o47])), (o11, .inl (cI, 12, .inl f1378)), (o6, .inl (cI, 12, .inl fw7))]) (wr := []) (w1 := fun u => [(o1, .inr (12, [.int v2, .ref o3, .int v5, .ref o6, .int v8, .ref o9, .ref o11, .int v13, .ref o14, .int v16, .ref o17, .int v19, .int v20, .int v21, .ref o22, .ref o24, .ref o26, .ref o28, .ref o30, .int v32, .ref o33, .ref o35, .ref o37, .int v39, .ref o40, .ref o42, .ref o44, .int v46, .ref o47])), (o11, .inl (cI, 12, .inl u)), (o6, .inl (cI, 12, .inl fw7))]) (wn := fun u => [(o1, .inr (12, [.int v2, .ref o3, .int v5, .ref o6, .int v8, .ref o9, .ref o11, .int v13, .ref o14, .int v16, .ref o17, .int v19, .int v20, .int v21, .ref o22, .ref o24, .ref o26, .ref o28, .ref o30, .int v32, .ref o33, .ref o35, .ref o37, .int v39, .ref o40, .ref o42, .ref o44, .int v46, .ref o47])), (o11, .inl (cI, 12, .inl u)), (o6, .inl (cI, 12, .inl fw7))]) (fun hPc hDc => va_runV (As := [.int 8, .int a2]) (rest := []) ⟨hx, hb, hml, hown, hts⟩ (kX12_goesOn_4 l dC dI cI c2 cZ o1 o3 o6 o9 o11 o14 o17 o22 o24 o26 o28 o30 o33 o35 o37 o40 o42 o44 o47 v2 v5 fw7 v8 f1378 v13 v16 v19 v20 v21 v32 v39 v46 a2 H.size (iv_w j973 (by decide)) fw7_b v8_h f1378_b v13_h v16_h v19_h v32_h v39_h v46_h j1369) (cwV 2 hts gX12_goesOn_X12_goesOn rfl rfl rfl (by decide +kernel) ⟨Nat.le_of_ble_eq_true rfl, Nat.le_of_ble_eq_true rfl⟩) (pre_V hPc hK hDc hN (ci := 12) (q0 := 0) rfl rfl) rfl rfl hl.1 rfl (lv_room (Nat.le_of_ble_eq_true rfl)) dX12_goesOn_179 ⟨Nat.le_of_ble_eq_true rfl, Nat.le_of_ble_eq_true rfl⟩) hP hD hS hA [0, 1, 2] [] [0, 1, 2] rfl rfl (by decide +kernel) (by decide +kernel) (by decide +kernel) (by decide +kernel) (fun _ => rfl) (fun x1381 f1380 H locs hq hP hD hS => ?_)
                    obtain ⟨x1381_h, f1380_b⟩ := hq
                    have hP : va_P (dC, dI) vwCl ([(o1, .inr (12, [.int v2, .ref o3, .int v5, .ref o6, .int v8, .ref o9, .ref o11, .int v13, .ref o14, .int v16, .ref o17, .int v19, .int v20, .int v21, .ref o22, .ref o24, .ref o26, .ref o28, .ref o30, .int v32, .ref o33, .ref o35, .ref o37, .int v39, .ref o40, .ref o42, .ref o44, .int v46, .ref o47])), (o11, .inl (cI, 12, .inl f1380)), (o6, .inl (cI, 12, .inl fw7))]) H := hP
                    have hD : va_D A ([(o1, .inr (12, [.int v2, .ref o3, .int v5, .ref o6, .int v8, .ref o9, .ref o11, .int v13, .ref o14, .int v16, .ref o17, .int v19, .int v20, .int v21, .ref o22, .ref o24, .ref o26, .ref o28, .ref o30, .int v32, .ref o33, .ref o35, .ref o37, .int v39, .ref o40, .ref o42, .ref o44, .int v46, .ref o47])), (o11, .inl (cI, 12, .inl f1380)), (o6, .inl (cI, 12, .inl fw7))]) := hD
                    refine lv_if_eq (tgt := 187) hx hb dX12_goesOn_182 (by decide) (fun h1382 => ?_) (fun h1382 => ?_)
                    ·
                      have j1383 : Iv 0 0 x1381 := r_eq h1382 ik_0
                      obtain ⟨x1384, x1384_e⟩ : ∃ z : Int32, z = x969 + 1 := ⟨_, rfl⟩
                      have x1384_h : Iv 2 12 x1384 := iv_e x1384_e (iv_add j972 ik_1 (by decide))
                      refine lv_iinc (v := x1384) (lv' := [(4, .int x1384), (7, .int 64), (6, .int x1363), (5, .int x1362), (3, .int x1), (0, .ref o1), (1, .int 7), (2, .int a2)]) hx hb dX12_goesOn_187 hl (k := 3) rfl (incN (by decide +kernel) x1384_e) (by decide) rfl (fun ls hl => ?_)
                      refine lv_goto (tgt := 19) hx hb dX12_goesOn_190 (by decide) ?_
                      exact ih3 x1384 f1380 _ _ _ (ms_up x1384_e j972 (by decide) hM3) (iv_w x1384_h (by decide)) f1380_b hP hD hS (lv_sub hl [0, 4, 5, 6, 7] rfl)
                    ·
                      have j1385 : Iv 1 1 x1381 := r_nelo h1382 x1381_h ik_0 (by decide)
                      refine lv_iconst (v := 1) hx hb dX12_goesOn_185 (by decide) ?_
                      rw [hQ]
                      exact W.zret (v := 1) (ty := .boolean) hx hb hr rfl (fun t ht hW => ⟨⟨1, f1380, rfl, ⟨(iv_w ik_1 (by decide)), f1380_b⟩, by rw [ht]; exact hP, va_K.moved hW.alike hK, hD⟩, hS.F ht⟩) hS.2.2 dX12_goesOn_186
              ·
                have j1386 : Iv 7 7 x1366 := r_eq h1367.symm ik_7
                have j1387 : Iv 8 8 a2 := ivb_sub x1366_e a2_h ik_1 j1386 (by decide)
                refine lv_iconst (v := 1) hx hb dX12_goesOn_118 (by decide) ?_
                refine lv_goto (tgt := 123) hx hb dX12_goesOn_119 (by decide) ?_
                refine lv_ior hx hb dX12_goesOn_123 (tk_i (v := 65) (by decide +kernel) ?_)
                refine lv_istore (lv' := [(7, .int 65), (6, .int x1363), (5, .int x1362), (4, .int x969), (3, .int x1), (0, .ref o1), (1, .int 7), (2, .int a2)]) hx hb dX12_goesOn_124 hl (by decide) rfl (fun ls hl => ?_)
                refine lv_iload hx hb dX12_goesOn_126 (lv_at hl 1 rfl) ?_
                refine lv_if_ne (tgt := 187) hx hb dX12_goesOn_128 (by decide) (fun h1388 => ?_) (fun h1388 => ?_)
                ·
                  have j1389 : Iv 1 1 x1363 := r_nelo h1388 x1363_h ik_0 (by decide)
                  obtain ⟨x1390, x1390_e⟩ : ∃ z : Int32, z = x969 + 1 := ⟨_, rfl⟩
                  have x1390_h : Iv 2 12 x1390 := iv_e x1390_e (iv_add j972 ik_1 (by decide))
                  refine lv_iinc (v := x1390) (lv' := [(4, .int x1390), (7, .int 65), (6, .int x1363), (5, .int x1362), (3, .int x1), (0, .ref o1), (1, .int 7), (2, .int a2)]) hx hb dX12_goesOn_187 hl (k := 3) rfl (incN (by decide +kernel) x1390_e) (by decide) rfl (fun ls hl => ?_)
                  refine lv_goto (tgt := 19) hx hb dX12_goesOn_190 (by decide) ?_
                  exact ih3 x1390 f970 _ _ _ (ms_up x1390_e j972 (by decide) hM3) (iv_w x1390_h (by decide)) f970_b hP hD hS (lv_sub hl [0, 4, 5, 6, 7] rfl)
                ·
                  have j1391 : Iv 0 0 x1363 := r_eq h1388 ik_0
                  refine lv_iload hx hb dX12_goesOn_131 (lv_at hl 2 rfl) ?_
                  refine lv_iload hx hb dX12_goesOn_133 (lv_at hl 0 rfl) ?_
                  refine lv_icmp_ne (tgt := 187) hx hb dX12_goesOn_135 (by decide) (fun h1392 => ?_) (fun h1392 => ?_)
                  ·
                    obtain ⟨x1393, x1393_e⟩ : ∃ z : Int32, z = x969 + 1 := ⟨_, rfl⟩
                    have x1393_h : Iv 2 12 x1393 := iv_e x1393_e (iv_add j972 ik_1 (by decide))
                    refine lv_iinc (v := x1393) (lv' := [(4, .int x1393), (7, .int 65), (6, .int x1363), (5, .int x1362), (3, .int x1), (0, .ref o1), (1, .int 7), (2, .int a2)]) hx hb dX12_goesOn_187 hl (k := 3) rfl (incN (by decide +kernel) x1393_e) (by decide) rfl (fun ls hl => ?_)
                    refine lv_goto (tgt := 19) hx hb dX12_goesOn_190 (by decide) ?_
                    exact ih3 x1393 f970 _ _ _ (ms_up x1393_e j972 (by decide) hM3) (iv_w x1393_h (by decide)) f970_b hP hD hS (lv_sub hl [0, 4, 5, 6, 7] rfl)
                  ·
                    have j1394 : Iv 65 65 x1362 := r_eq h1392 ik_65
                    refine lv_iload_n hx hb dX12_goesOn_138 rfl (lv_at hl 6 rfl) ?_
                    refine lv_iload_n hx hb dX12_goesOn_139 rfl (lv_at hl 7 rfl) ?_
                    refine lv_iconst (v := 1) hx hb dX12_goesOn_140 (by decide) ?_
                    refine lv_isub hx hb dX12_goesOn_141 (lv_topi (fun x1395 x1395_e => ?_))
                    have x1395_h : Iv 7 7 x1395 := iv_e x1395_e (iv_sub j1387 ik_1 (by decide))
                    refine lv_icmp_ne (tgt := 159) hx hb dX12_goesOn_142 (by decide) (fun h9 => absurd (d_eq ik_7 x1395_h) h9) (fun _ => ?_)
                    refine lv_iload hx hb dX12_goesOn_145 (lv_at hl 3 rfl) ?_
                    refine lv_aload_n hx hb dX12_goesOn_147 rfl (lv_at hl 5 rfl) ?_
                    refine va_get (D := (dC, dI)) (ci := 12) (v := .ref o11) (C := RX12) (T := TX12) (N := 29) hx hb hts iw_X12_goesOn_X12 hown hK hP 0 rfl rfl 6 (by decide) (hts (.fieldLink RX12 19 "HolelessHouseModel" "ring" "[I") hm_X12_goesOn_1) (fun _ h9 => h9) rfl dX12_goesOn_148 ?_
                    refine lv_iconst (v := 1) hx hb dX12_goesOn_151 (by decide) ?_
                    refine va_iald hx hb hK hP 1 0 rfl rfl (vin_iv ik_1 (by decide)) dX12_goesOn_152 (lv_topi (fun x1396 x1396_e => ?_))
                    have x1396_h : Iv 0 11 x1396 := iv_e x1396_e (bd_at f970_b (vin_iv ik_1 (by decide)))
                    refine lv_icmp_ge (tgt := 159) hx hb dX12_goesOn_153 (by decide) (fun h1397 => ?_) (fun h1397 => ?_)
                    ·
                      have qh1397 := le_i h1397
                      refine lv_aload_n hx hb dX12_goesOn_159 rfl (lv_at hl 5 rfl) ?_
                      refine va_get (D := (dC, dI)) (ci := 12) (v := .ref o11) (C := RX12) (T := TX12) (N := 29) hx hb hts iw_X12_goesOn_X12 hown hK hP 0 rfl rfl 6 (by decide) (hts (.fieldLink RX12 19 "HolelessHouseModel" "ring" "[I") hm_X12_goesOn_1) (fun _ h9 => h9) rfl dX12_goesOn_160 ?_
                      refine lv_iload_n hx hb dX12_goesOn_163 rfl (lv_at hl 6 rfl) ?_
                      refine lv_iload hx hb dX12_goesOn_164 (lv_at hl 3 rfl) ?_
                      refine k_iast hx hb hK hP hD hS 1 0 rfl rfl (vin_iv ik_7 (by decide)) dX12_goesOn_166 (fun f1398 H locs f1398_e hP hD hS => ?_)
                      have f1398_b : Bd 12 0 11 f1398 := bd_upd f1398_e f970_b j972 (by decide)
                      have hP : va_P (dC, dI) vwCl ([(o1, .inr (12, [.int v2, .ref o3, .int v5, .ref o6, .int v8, .ref o9, .ref o11, .int v13, .ref o14, .int v16, .ref o17, .int v19, .int v20, .int v21, .ref o22, .ref o24, .ref o26, .ref o28, .ref o30, .int v32, .ref o33, .ref o35, .ref o37, .int v39, .ref o40, .ref o42, .ref o44, .int v46, .ref o47])), (o11, .inl (cI, 12, .inl f1398)), (o6, .inl (cI, 12, .inl fw7))]) H := hP
                      have hD : va_D A ([(o1, .inr (12, [.int v2, .ref o3, .int v5, .ref o6, .int v8, .ref o9, .ref o11, .int v13, .ref o14, .int v16, .ref o17, .int v19, .int v20, .int v21, .ref o22, .ref o24, .ref o26, .ref o28, .ref o30, .int v32, .ref o33, .ref o35, .ref o37, .int v39, .ref o40, .ref o42, .ref o44, .int v46, .ref o47])), (o11, .inl (cI, 12, .inl f1398)), (o6, .inl (cI, 12, .inl fw7))]) := hD
                      refine lv_iload_n hx hb dX12_goesOn_167 rfl (lv_at hl 6 rfl) ?_
                      refine lv_iload_n hx hb dX12_goesOn_168 rfl (lv_at hl 7 rfl) ?_
                      refine lv_iconst (v := 1) hx hb dX12_goesOn_169 (by decide) ?_
                      refine lv_isub hx hb dX12_goesOn_170 (lv_topi (fun x1399 x1399_e => ?_))
                      have x1399_h : Iv 7 7 x1399 := iv_e x1399_e (iv_sub j1387 ik_1 (by decide))
                      refine lv_icmp_eq (tgt := 185) hx hb dX12_goesOn_171 (by decide) (fun _ => ?_) (fun h9 => absurd (d_eq ik_7 x1399_h) h9)
                      refine lv_iconst (v := 1) hx hb dX12_goesOn_185 (by decide) ?_
                      rw [hQ]
                      exact W.zret (v := 1) (ty := .boolean) hx hb hr rfl (fun t ht hW => ⟨⟨1, f1398, rfl, ⟨(iv_w ik_1 (by decide)), f1398_b⟩, by rw [ht]; exact hP, va_K.moved hW.alike hK, hD⟩, hS.F ht⟩) hS.2.2 dX12_goesOn_186
                    ·
                      have qh1397 := nle_i h1397
                      have j1400 : Iv 1 10 x969 := r_ltl qh1397 j972 x1396_h (by decide)
                      have j1401 : Iv 2 11 x1396 := r_ltr qh1397 j972 x1396_h (by decide)
                      refine lv_goto (tgt := 187) hx hb dX12_goesOn_156 (by decide) ?_
                      obtain ⟨x1402, x1402_e⟩ : ∃ z : Int32, z = x969 + 1 := ⟨_, rfl⟩
                      have x1402_h : Iv 2 11 x1402 := iv_e x1402_e (iv_add j1400 ik_1 (by decide))
                      refine lv_iinc (v := x1402) (lv' := [(4, .int x1402), (7, .int 65), (6, .int x1363), (5, .int x1362), (3, .int x1), (0, .ref o1), (1, .int 7), (2, .int a2)]) hx hb dX12_goesOn_187 hl (k := 3) rfl (incN (by decide +kernel) x1402_e) (by decide) rfl (fun ls hl => ?_)
                      refine lv_goto (tgt := 19) hx hb dX12_goesOn_190 (by decide) ?_
                      exact ih3 x1402 f970 _ _ _ (ms_up x1402_e j1400 (by decide) hM3) (iv_w x1402_h (by decide)) f970_b hP hD hS (lv_sub hl [0, 4, 5, 6, 7] rfl)
            ·
              have qh1364 := nle_i h1364
              have j1403 : Iv 0 6 x1361 := r_ltl qh1364 x1361_h ik_7 (by decide)
              refine lv_iload hx hb dX12_goesOn_43 (lv_at hl 1 rfl) ?_
              refine lv_if_ne (tgt := 60) hx hb dX12_goesOn_45 (by decide) (fun h1404 => ?_) (fun h1404 => ?_)
              ·
                have j1405 : Iv 1 1 x1363 := r_nelo h1404 x1363_h ik_0 (by decide)
                refine lv_iconst (v := 1) hx hb dX12_goesOn_60 (by decide) ?_
                refine lv_goto (tgt := 65) hx hb dX12_goesOn_61 (by decide) ?_
                refine lv_istore (lv' := [(6, .int 1), (7, .int x1361), (5, .int x1362), (4, .int x969), (3, .int x1), (0, .ref o1), (1, .int 7), (2, .int a2)]) hx hb dX12_goesOn_65 hl (by decide) rfl (fun ls hl => ?_)
                refine lv_iload hx hb dX12_goesOn_67 (lv_at hl 2 rfl) ?_
                refine lv_aload_n hx hb dX12_goesOn_69 rfl (lv_at hl 5 rfl) ?_
                refine va_get (D := (dC, dI)) (ci := 12) (v := .ref o6) (C := RX12) (T := TX12) (N := 29) hx hb hts iw_X12_goesOn_X12 hown hK hP 0 rfl rfl 3 (by decide) (hts (.fieldLink RX12 13 "HolelessHouseModel" "near" "[I") hm_X12_goesOn_3) (fun _ h9 => h9) rfl dX12_goesOn_70 ?_
                refine lv_iload hx hb dX12_goesOn_73 (lv_at hl 3 rfl) ?_
                refine va_iald hx hb hK hP 2 0 rfl rfl (vin_iv j972 (by decide)) dX12_goesOn_75 (lv_topi (fun x1406 x1406_e => ?_))
                have x1406_h : Iv 0 4095 x1406 := iv_e x1406_e (bd_at fw7_b (vin_iv j972 (by decide)))
                refine lv_aload_n hx hb dX12_goesOn_76 rfl (lv_at hl 5 rfl) ?_
                refine va_get (D := (dC, dI)) (ci := 12) (v := .ref o11) (C := RX12) (T := TX12) (N := 29) hx hb hts iw_X12_goesOn_X12 hown hK hP 0 rfl rfl 6 (by decide) (hts (.fieldLink RX12 19 "HolelessHouseModel" "ring" "[I") hm_X12_goesOn_1) (fun _ h9 => h9) rfl dX12_goesOn_77 ?_
                refine lv_iload hx hb dX12_goesOn_80 (lv_at hl 1 rfl) ?_
                refine va_iald hx hb hK hP 1 0 rfl rfl (vin_iv j1403 (by decide)) dX12_goesOn_82 (lv_topi (fun x1407 x1407_e => ?_))
                have x1407_h : Iv 0 11 x1407 := iv_e x1407_e (bd_at f970_b (vin_iv j1403 (by decide)))
                refine kc_i (D := (dC, dI)) (S := Unit) (wc := []) (wr := [(o1, .inr (12, [.int v2, .ref o3, .int v5, .ref o6, .int v8, .ref o9, .ref o11, .int v13, .ref o14, .int v16, .ref o17, .int v19, .int v20, .int v21, .ref o22, .ref o24, .ref o26, .ref o28, .ref o30, .int v32, .ref o33, .ref o35, .ref o37, .int v39, .ref o40, .ref o42, .ref o44, .int v46, .ref o47])), (o11, .inl (cI, 12, .inl f970)), (o6, .inl (cI, 12, .inl fw7))]) (w1 := fun _ => []) (wn := fun _ => [(o1, .inr (12, [.int v2, .ref o3, .int v5, .ref o6, .int v8, .ref o9, .ref o11, .int v13, .ref o14, .int v16, .ref o17, .int v19, .int v20, .int v21, .ref o22, .ref o24, .ref o26, .ref o28, .ref o30, .int v32, .ref o33, .ref o35, .ref o37, .int v39, .ref o40, .ref o42, .ref o44, .int v46, .ref o47])), (o11, .inl (cI, 12, .inl f970)), (o6, .inl (cI, 12, .inl fw7))]) (fun hPc hDc => va_runS (As := [.int x1406, .int x1407]) (rest := [.int x1362]) ⟨hx, hb, hml, hown, hts⟩ (kX12_has_1 l dC dI cI c2 cZ x1406 x1407 H.size (iv_w x1407_h (by decide))) (va_cwS 2 hts gX12_goesOn_X12_has rfl rfl rfl (by decide +kernel) ⟨Nat.le_of_ble_eq_true rfl, Nat.le_of_ble_eq_true rfl⟩) (pre_S hPc hK hDc hN) rfl rfl hl.1 rfl (lv_room (Nat.le_of_ble_eq_true rfl)) dX12_goesOn_83 ⟨Nat.le_of_ble_eq_true rfl, Nat.le_of_ble_eq_true rfl⟩) hP hD hS hA [] [0, 1, 2] [0, 1, 2] rfl rfl (by decide +kernel) (by decide +kernel) (by decide +kernel) (by decide +kernel) (fun _ => rfl) (fun x1408 _ H locs hq hP hD hS => ?_)
                obtain ⟨x1408_h, e1409⟩ := hq
                have hP : va_P (dC, dI) vwCl ([(o1, .inr (12, [.int v2, .ref o3, .int v5, .ref o6, .int v8, .ref o9, .ref o11, .int v13, .ref o14, .int v16, .ref o17, .int v19, .int v20, .int v21, .ref o22, .ref o24, .ref o26, .ref o28, .ref o30, .int v32, .ref o33, .ref o35, .ref o37, .int v39, .ref o40, .ref o42, .ref o44, .int v46, .ref o47])), (o11, .inl (cI, 12, .inl f970)), (o6, .inl (cI, 12, .inl fw7))]) H := hP
                have hD : va_D A ([(o1, .inr (12, [.int v2, .ref o3, .int v5, .ref o6, .int v8, .ref o9, .ref o11, .int v13, .ref o14, .int v16, .ref o17, .int v19, .int v20, .int v21, .ref o22, .ref o24, .ref o26, .ref o28, .ref o30, .int v32, .ref o33, .ref o35, .ref o37, .int v39, .ref o40, .ref o42, .ref o44, .int v46, .ref o47])), (o11, .inl (cI, 12, .inl f970)), (o6, .inl (cI, 12, .inl fw7))]) := hD
                refine lv_if_eq (tgt := 96) hx hb dX12_goesOn_86 (by decide) (fun h1410 => ?_) (fun h1410 => ?_)
                ·
                  have j1411 : Iv 0 0 x1408 := r_eq h1410 ik_0
                  have b1412 : bt x1406 (Int32.toNatClampNeg x1407) = false := has_f e1409 h1410
                  refine lv_iconst (v := 0) hx hb dX12_goesOn_96 (by decide) ?_
                  refine lv_ior hx hb dX12_goesOn_97 (lv_topi (fun x1413 x1413_e => ?_))
                  have x1413_h : Iv 0 255 x1413 := iv_e x1413_e (iv_or 8 x1362_h ik_0 (by decide))
                  refine lv_istore (lv' := [(5, .int x1413), (6, .int 1), (7, .int x1361), (4, .int x969), (3, .int x1), (0, .ref o1), (1, .int 7), (2, .int a2)]) hx hb dX12_goesOn_98 hl (by decide) rfl (fun ls hl => ?_)
                  obtain ⟨x1414, x1414_e⟩ : ∃ z : Int32, z = x1361 + 1 := ⟨_, rfl⟩
                  have x1414_h : Iv 1 7 x1414 := iv_e x1414_e (iv_add j1403 ik_1 (by decide))
                  refine lv_iinc (v := x1414) (lv' := [(7, .int x1414), (5, .int x1413), (6, .int 1), (4, .int x969), (3, .int x1), (0, .ref o1), (1, .int 7), (2, .int a2)]) hx hb dX12_goesOn_100 hl (k := 2) rfl (incN (by decide +kernel) x1414_e) (by decide) rfl (fun ls hl => ?_)
                  refine lv_goto (tgt := 37) hx hb dX12_goesOn_103 (by decide) ?_
                  exact ih4 x1414 x1413 1 _ _ _ (ms_up x1414_e j1403 (by decide) hM4) (iv_w x1414_h (by decide)) x1413_h (iv_w ik_1 (by decide)) hP hD hS (lv_sub hl [0, 2, 1, 3, 4, 5, 6, 7] rfl)
                ·
                  have j1415 : Iv 1 1 x1408 := r_nelo h1410 x1408_h ik_0 (by decide)
                  have b1416 : bt x1406 (Int32.toNatClampNeg x1407) = true := has_t e1409 h1410
                  refine lv_iconst (v := 1) hx hb dX12_goesOn_89 (by decide) ?_
                  refine lv_iload hx hb dX12_goesOn_90 (lv_at hl 1 rfl) ?_
                  refine lv_ishl hx hb dX12_goesOn_92 (lv_topi (fun x1417 x1417_e => ?_))
                  have x1417_h : Iv 1 64 x1417 := iv_e x1417_e (iv_shl1 j1403 (by decide))
                  refine lv_goto (tgt := 97) hx hb dX12_goesOn_93 (by decide) ?_
                  refine lv_ior hx hb dX12_goesOn_97 (lv_topi (fun x1418 x1418_e => ?_))
                  have x1418_h : Iv 0 255 x1418 := iv_e x1418_e (iv_or 8 x1362_h x1417_h (by decide))
                  refine lv_istore (lv' := [(5, .int x1418), (6, .int 1), (7, .int x1361), (4, .int x969), (3, .int x1), (0, .ref o1), (1, .int 7), (2, .int a2)]) hx hb dX12_goesOn_98 hl (by decide) rfl (fun ls hl => ?_)
                  obtain ⟨x1419, x1419_e⟩ : ∃ z : Int32, z = x1361 + 1 := ⟨_, rfl⟩
                  have x1419_h : Iv 1 7 x1419 := iv_e x1419_e (iv_add j1403 ik_1 (by decide))
                  refine lv_iinc (v := x1419) (lv' := [(7, .int x1419), (5, .int x1418), (6, .int 1), (4, .int x969), (3, .int x1), (0, .ref o1), (1, .int 7), (2, .int a2)]) hx hb dX12_goesOn_100 hl (k := 2) rfl (incN (by decide +kernel) x1419_e) (by decide) rfl (fun ls hl => ?_)
                  refine lv_goto (tgt := 37) hx hb dX12_goesOn_103 (by decide) ?_
                  exact ih4 x1419 x1418 1 _ _ _ (ms_up x1419_e j1403 (by decide) hM4) (iv_w x1419_h (by decide)) x1418_h (iv_w ik_1 (by decide)) hP hD hS (lv_sub hl [0, 2, 1, 3, 4, 5, 6, 7] rfl)
              ·
                have j1420 : Iv 0 0 x1363 := r_eq h1404 ik_0
                refine lv_aload_n hx hb dX12_goesOn_48 rfl (lv_at hl 5 rfl) ?_
                refine va_get (D := (dC, dI)) (ci := 12) (v := .ref o11) (C := RX12) (T := TX12) (N := 29) hx hb hts iw_X12_goesOn_X12 hown hK hP 0 rfl rfl 6 (by decide) (hts (.fieldLink RX12 19 "HolelessHouseModel" "ring" "[I") hm_X12_goesOn_1) (fun _ h9 => h9) rfl dX12_goesOn_49 ?_
                refine lv_iload hx hb dX12_goesOn_52 (lv_at hl 0 rfl) ?_
                refine va_iald hx hb hK hP 1 0 rfl rfl (vin_iv j1403 (by decide)) dX12_goesOn_54 (lv_topi (fun x1421 x1421_e => ?_))
                have x1421_h : Iv 0 11 x1421 := iv_e x1421_e (bd_at f970_b (vin_iv j1403 (by decide)))
                refine lv_iload hx hb dX12_goesOn_55 (lv_at hl 3 rfl) ?_
                refine lv_icmp_ne (tgt := 64) hx hb dX12_goesOn_57 (by decide) (fun h1422 => ?_) (fun h1422 => ?_)
                ·
                  refine lv_iconst (v := 0) hx hb dX12_goesOn_64 (by decide) ?_
                  refine lv_istore (lv' := [(6, .int 0), (7, .int x1361), (5, .int x1362), (4, .int x969), (3, .int x1), (0, .ref o1), (1, .int 7), (2, .int a2)]) hx hb dX12_goesOn_65 hl (by decide) rfl (fun ls hl => ?_)
                  refine lv_iload hx hb dX12_goesOn_67 (lv_at hl 2 rfl) ?_
                  refine lv_aload_n hx hb dX12_goesOn_69 rfl (lv_at hl 5 rfl) ?_
                  refine va_get (D := (dC, dI)) (ci := 12) (v := .ref o6) (C := RX12) (T := TX12) (N := 29) hx hb hts iw_X12_goesOn_X12 hown hK hP 0 rfl rfl 3 (by decide) (hts (.fieldLink RX12 13 "HolelessHouseModel" "near" "[I") hm_X12_goesOn_3) (fun _ h9 => h9) rfl dX12_goesOn_70 ?_
                  refine lv_iload hx hb dX12_goesOn_73 (lv_at hl 3 rfl) ?_
                  refine va_iald hx hb hK hP 2 0 rfl rfl (vin_iv j972 (by decide)) dX12_goesOn_75 (lv_topi (fun x1423 x1423_e => ?_))
                  have x1423_h : Iv 0 4095 x1423 := iv_e x1423_e (bd_at fw7_b (vin_iv j972 (by decide)))
                  refine lv_aload_n hx hb dX12_goesOn_76 rfl (lv_at hl 5 rfl) ?_
                  refine va_get (D := (dC, dI)) (ci := 12) (v := .ref o11) (C := RX12) (T := TX12) (N := 29) hx hb hts iw_X12_goesOn_X12 hown hK hP 0 rfl rfl 6 (by decide) (hts (.fieldLink RX12 19 "HolelessHouseModel" "ring" "[I") hm_X12_goesOn_1) (fun _ h9 => h9) rfl dX12_goesOn_77 ?_
                  refine lv_iload hx hb dX12_goesOn_80 (lv_at hl 1 rfl) ?_
                  refine va_iald hx hb hK hP 1 0 rfl rfl (vin_iv j1403 (by decide)) dX12_goesOn_82 (lv_topi (fun x1424 x1424_e => ?_))
                  have x1424_h : Iv 0 11 x1424 := iv_e x1424_e (bd_at f970_b (vin_iv j1403 (by decide)))
                  refine kc_i (D := (dC, dI)) (S := Unit) (wc := []) (wr := [(o1, .inr (12, [.int v2, .ref o3, .int v5, .ref o6, .int v8, .ref o9, .ref o11, .int v13, .ref o14, .int v16, .ref o17, .int v19, .int v20, .int v21, .ref o22, .ref o24, .ref o26, .ref o28, .ref o30, .int v32, .ref o33, .ref o35, .ref o37, .int v39, .ref o40, .ref o42, .ref o44, .int v46, .ref o47])), (o11, .inl (cI, 12, .inl f970)), (o6, .inl (cI, 12, .inl fw7))]) (w1 := fun _ => []) (wn := fun _ => [(o1, .inr (12, [.int v2, .ref o3, .int v5, .ref o6, .int v8, .ref o9, .ref o11, .int v13, .ref o14, .int v16, .ref o17, .int v19, .int v20, .int v21, .ref o22, .ref o24, .ref o26, .ref o28, .ref o30, .int v32, .ref o33, .ref o35, .ref o37, .int v39, .ref o40, .ref o42, .ref o44, .int v46, .ref o47])), (o11, .inl (cI, 12, .inl f970)), (o6, .inl (cI, 12, .inl fw7))]) (fun hPc hDc => va_runS (As := [.int x1423, .int x1424]) (rest := [.int x1362]) ⟨hx, hb, hml, hown, hts⟩ (kX12_has_1 l dC dI cI c2 cZ x1423 x1424 H.size (iv_w x1424_h (by decide))) (va_cwS 2 hts gX12_goesOn_X12_has rfl rfl rfl (by decide +kernel) ⟨Nat.le_of_ble_eq_true rfl, Nat.le_of_ble_eq_true rfl⟩) (pre_S hPc hK hDc hN) rfl rfl hl.1 rfl (lv_room (Nat.le_of_ble_eq_true rfl)) dX12_goesOn_83 ⟨Nat.le_of_ble_eq_true rfl, Nat.le_of_ble_eq_true rfl⟩) hP hD hS hA [] [0, 1, 2] [0, 1, 2] rfl rfl (by decide +kernel) (by decide +kernel) (by decide +kernel) (by decide +kernel) (fun _ => rfl) (fun x1425 _ H locs hq hP hD hS => ?_)
                  obtain ⟨x1425_h, e1426⟩ := hq
                  have hP : va_P (dC, dI) vwCl ([(o1, .inr (12, [.int v2, .ref o3, .int v5, .ref o6, .int v8, .ref o9, .ref o11, .int v13, .ref o14, .int v16, .ref o17, .int v19, .int v20, .int v21, .ref o22, .ref o24, .ref o26, .ref o28, .ref o30, .int v32, .ref o33, .ref o35, .ref o37, .int v39, .ref o40, .ref o42, .ref o44, .int v46, .ref o47])), (o11, .inl (cI, 12, .inl f970)), (o6, .inl (cI, 12, .inl fw7))]) H := hP
                  have hD : va_D A ([(o1, .inr (12, [.int v2, .ref o3, .int v5, .ref o6, .int v8, .ref o9, .ref o11, .int v13, .ref o14, .int v16, .ref o17, .int v19, .int v20, .int v21, .ref o22, .ref o24, .ref o26, .ref o28, .ref o30, .int v32, .ref o33, .ref o35, .ref o37, .int v39, .ref o40, .ref o42, .ref o44, .int v46, .ref o47])), (o11, .inl (cI, 12, .inl f970)), (o6, .inl (cI, 12, .inl fw7))]) := hD
                  refine lv_if_eq (tgt := 96) hx hb dX12_goesOn_86 (by decide) (fun h1427 => ?_) (fun h1427 => ?_)
                  ·
                    have j1428 : Iv 0 0 x1425 := r_eq h1427 ik_0
                    have b1429 : bt x1423 (Int32.toNatClampNeg x1424) = false := has_f e1426 h1427
                    refine lv_iconst (v := 0) hx hb dX12_goesOn_96 (by decide) ?_
                    refine lv_ior hx hb dX12_goesOn_97 (lv_topi (fun x1430 x1430_e => ?_))
                    have x1430_h : Iv 0 255 x1430 := iv_e x1430_e (iv_or 8 x1362_h ik_0 (by decide))
                    refine lv_istore (lv' := [(5, .int x1430), (6, .int 0), (7, .int x1361), (4, .int x969), (3, .int x1), (0, .ref o1), (1, .int 7), (2, .int a2)]) hx hb dX12_goesOn_98 hl (by decide) rfl (fun ls hl => ?_)
                    obtain ⟨x1431, x1431_e⟩ : ∃ z : Int32, z = x1361 + 1 := ⟨_, rfl⟩
                    have x1431_h : Iv 1 7 x1431 := iv_e x1431_e (iv_add j1403 ik_1 (by decide))
                    refine lv_iinc (v := x1431) (lv' := [(7, .int x1431), (5, .int x1430), (6, .int 0), (4, .int x969), (3, .int x1), (0, .ref o1), (1, .int 7), (2, .int a2)]) hx hb dX12_goesOn_100 hl (k := 2) rfl (incN (by decide +kernel) x1431_e) (by decide) rfl (fun ls hl => ?_)
                    refine lv_goto (tgt := 37) hx hb dX12_goesOn_103 (by decide) ?_
                    exact ih4 x1431 x1430 0 _ _ _ (ms_up x1431_e j1403 (by decide) hM4) (iv_w x1431_h (by decide)) x1430_h (iv_w ik_0 (by decide)) hP hD hS (lv_sub hl [0, 2, 1, 3, 4, 5, 6, 7] rfl)
                  ·
                    have j1432 : Iv 1 1 x1425 := r_nelo h1427 x1425_h ik_0 (by decide)
                    have b1433 : bt x1423 (Int32.toNatClampNeg x1424) = true := has_t e1426 h1427
                    refine lv_iconst (v := 1) hx hb dX12_goesOn_89 (by decide) ?_
                    refine lv_iload hx hb dX12_goesOn_90 (lv_at hl 1 rfl) ?_
                    refine lv_ishl hx hb dX12_goesOn_92 (lv_topi (fun x1434 x1434_e => ?_))
                    have x1434_h : Iv 1 64 x1434 := iv_e x1434_e (iv_shl1 j1403 (by decide))
                    refine lv_goto (tgt := 97) hx hb dX12_goesOn_93 (by decide) ?_
                    refine lv_ior hx hb dX12_goesOn_97 (lv_topi (fun x1435 x1435_e => ?_))
                    have x1435_h : Iv 0 255 x1435 := iv_e x1435_e (iv_or 8 x1362_h x1434_h (by decide))
                    refine lv_istore (lv' := [(5, .int x1435), (6, .int 0), (7, .int x1361), (4, .int x969), (3, .int x1), (0, .ref o1), (1, .int 7), (2, .int a2)]) hx hb dX12_goesOn_98 hl (by decide) rfl (fun ls hl => ?_)
                    obtain ⟨x1436, x1436_e⟩ : ∃ z : Int32, z = x1361 + 1 := ⟨_, rfl⟩
                    have x1436_h : Iv 1 7 x1436 := iv_e x1436_e (iv_add j1403 ik_1 (by decide))
                    refine lv_iinc (v := x1436) (lv' := [(7, .int x1436), (5, .int x1435), (6, .int 0), (4, .int x969), (3, .int x1), (0, .ref o1), (1, .int 7), (2, .int a2)]) hx hb dX12_goesOn_100 hl (k := 2) rfl (incN (by decide +kernel) x1436_e) (by decide) rfl (fun ls hl => ?_)
                    refine lv_goto (tgt := 37) hx hb dX12_goesOn_103 (by decide) ?_
                    exact ih4 x1436 x1435 0 _ _ _ (ms_up x1436_e j1403 (by decide) hM4) (iv_w x1436_h (by decide)) x1435_h (iv_w ik_0 (by decide)) hP hD hS (lv_sub hl [0, 2, 1, 3, 4, 5, 6, 7] rfl)
                ·
                  have j1437 : Iv 1 11 x1421 := r_eq h1422 j972
                  refine lv_iconst (v := 1) hx hb dX12_goesOn_60 (by decide) ?_
                  refine lv_goto (tgt := 65) hx hb dX12_goesOn_61 (by decide) ?_
                  refine lv_istore (lv' := [(6, .int 1), (7, .int x1361), (5, .int x1362), (4, .int x969), (3, .int x1), (0, .ref o1), (1, .int 7), (2, .int a2)]) hx hb dX12_goesOn_65 hl (by decide) rfl (fun ls hl => ?_)
                  refine lv_iload hx hb dX12_goesOn_67 (lv_at hl 2 rfl) ?_
                  refine lv_aload_n hx hb dX12_goesOn_69 rfl (lv_at hl 5 rfl) ?_
                  refine va_get (D := (dC, dI)) (ci := 12) (v := .ref o6) (C := RX12) (T := TX12) (N := 29) hx hb hts iw_X12_goesOn_X12 hown hK hP 0 rfl rfl 3 (by decide) (hts (.fieldLink RX12 13 "HolelessHouseModel" "near" "[I") hm_X12_goesOn_3) (fun _ h9 => h9) rfl dX12_goesOn_70 ?_
                  refine lv_iload hx hb dX12_goesOn_73 (lv_at hl 3 rfl) ?_
                  refine va_iald hx hb hK hP 2 0 rfl rfl (vin_iv j972 (by decide)) dX12_goesOn_75 (lv_topi (fun x1438 x1438_e => ?_))
                  have x1438_h : Iv 0 4095 x1438 := iv_e x1438_e (bd_at fw7_b (vin_iv j972 (by decide)))
                  refine lv_aload_n hx hb dX12_goesOn_76 rfl (lv_at hl 5 rfl) ?_
                  refine va_get (D := (dC, dI)) (ci := 12) (v := .ref o11) (C := RX12) (T := TX12) (N := 29) hx hb hts iw_X12_goesOn_X12 hown hK hP 0 rfl rfl 6 (by decide) (hts (.fieldLink RX12 19 "HolelessHouseModel" "ring" "[I") hm_X12_goesOn_1) (fun _ h9 => h9) rfl dX12_goesOn_77 ?_
                  refine lv_iload hx hb dX12_goesOn_80 (lv_at hl 1 rfl) ?_
                  refine va_iald hx hb hK hP 1 0 rfl rfl (vin_iv j1403 (by decide)) dX12_goesOn_82 (lv_topi (fun x1439 x1439_e => ?_))
                  have x1439_h : Iv 1 11 x1439 := iv_e (x1439_e.trans x1421_e.symm) j1437
                  refine kc_i (D := (dC, dI)) (S := Unit) (wc := []) (wr := [(o1, .inr (12, [.int v2, .ref o3, .int v5, .ref o6, .int v8, .ref o9, .ref o11, .int v13, .ref o14, .int v16, .ref o17, .int v19, .int v20, .int v21, .ref o22, .ref o24, .ref o26, .ref o28, .ref o30, .int v32, .ref o33, .ref o35, .ref o37, .int v39, .ref o40, .ref o42, .ref o44, .int v46, .ref o47])), (o11, .inl (cI, 12, .inl f970)), (o6, .inl (cI, 12, .inl fw7))]) (w1 := fun _ => []) (wn := fun _ => [(o1, .inr (12, [.int v2, .ref o3, .int v5, .ref o6, .int v8, .ref o9, .ref o11, .int v13, .ref o14, .int v16, .ref o17, .int v19, .int v20, .int v21, .ref o22, .ref o24, .ref o26, .ref o28, .ref o30, .int v32, .ref o33, .ref o35, .ref o37, .int v39, .ref o40, .ref o42, .ref o44, .int v46, .ref o47])), (o11, .inl (cI, 12, .inl f970)), (o6, .inl (cI, 12, .inl fw7))]) (fun hPc hDc => va_runS (As := [.int x1438, .int x1439]) (rest := [.int x1362]) ⟨hx, hb, hml, hown, hts⟩ (kX12_has_1 l dC dI cI c2 cZ x1438 x1439 H.size (iv_w x1439_h (by decide))) (va_cwS 2 hts gX12_goesOn_X12_has rfl rfl rfl (by decide +kernel) ⟨Nat.le_of_ble_eq_true rfl, Nat.le_of_ble_eq_true rfl⟩) (pre_S hPc hK hDc hN) rfl rfl hl.1 rfl (lv_room (Nat.le_of_ble_eq_true rfl)) dX12_goesOn_83 ⟨Nat.le_of_ble_eq_true rfl, Nat.le_of_ble_eq_true rfl⟩) hP hD hS hA [] [0, 1, 2] [0, 1, 2] rfl rfl (by decide +kernel) (by decide +kernel) (by decide +kernel) (by decide +kernel) (fun _ => rfl) (fun x1440 _ H locs hq hP hD hS => ?_)
                  obtain ⟨x1440_h, e1441⟩ := hq
                  have hP : va_P (dC, dI) vwCl ([(o1, .inr (12, [.int v2, .ref o3, .int v5, .ref o6, .int v8, .ref o9, .ref o11, .int v13, .ref o14, .int v16, .ref o17, .int v19, .int v20, .int v21, .ref o22, .ref o24, .ref o26, .ref o28, .ref o30, .int v32, .ref o33, .ref o35, .ref o37, .int v39, .ref o40, .ref o42, .ref o44, .int v46, .ref o47])), (o11, .inl (cI, 12, .inl f970)), (o6, .inl (cI, 12, .inl fw7))]) H := hP
                  have hD : va_D A ([(o1, .inr (12, [.int v2, .ref o3, .int v5, .ref o6, .int v8, .ref o9, .ref o11, .int v13, .ref o14, .int v16, .ref o17, .int v19, .int v20, .int v21, .ref o22, .ref o24, .ref o26, .ref o28, .ref o30, .int v32, .ref o33, .ref o35, .ref o37, .int v39, .ref o40, .ref o42, .ref o44, .int v46, .ref o47])), (o11, .inl (cI, 12, .inl f970)), (o6, .inl (cI, 12, .inl fw7))]) := hD
                  refine lv_if_eq (tgt := 96) hx hb dX12_goesOn_86 (by decide) (fun h1442 => ?_) (fun h1442 => ?_)
                  ·
                    have j1443 : Iv 0 0 x1440 := r_eq h1442 ik_0
                    have b1444 : bt x1438 (Int32.toNatClampNeg x1439) = false := has_f e1441 h1442
                    refine lv_iconst (v := 0) hx hb dX12_goesOn_96 (by decide) ?_
                    refine lv_ior hx hb dX12_goesOn_97 (lv_topi (fun x1445 x1445_e => ?_))
                    have x1445_h : Iv 0 255 x1445 := iv_e x1445_e (iv_or 8 x1362_h ik_0 (by decide))
                    refine lv_istore (lv' := [(5, .int x1445), (6, .int 1), (7, .int x1361), (4, .int x969), (3, .int x1), (0, .ref o1), (1, .int 7), (2, .int a2)]) hx hb dX12_goesOn_98 hl (by decide) rfl (fun ls hl => ?_)
                    obtain ⟨x1446, x1446_e⟩ : ∃ z : Int32, z = x1361 + 1 := ⟨_, rfl⟩
                    have x1446_h : Iv 1 7 x1446 := iv_e x1446_e (iv_add j1403 ik_1 (by decide))
                    refine lv_iinc (v := x1446) (lv' := [(7, .int x1446), (5, .int x1445), (6, .int 1), (4, .int x969), (3, .int x1), (0, .ref o1), (1, .int 7), (2, .int a2)]) hx hb dX12_goesOn_100 hl (k := 2) rfl (incN (by decide +kernel) x1446_e) (by decide) rfl (fun ls hl => ?_)
                    refine lv_goto (tgt := 37) hx hb dX12_goesOn_103 (by decide) ?_
                    exact ih4 x1446 x1445 1 _ _ _ (ms_up x1446_e j1403 (by decide) hM4) (iv_w x1446_h (by decide)) x1445_h (iv_w ik_1 (by decide)) hP hD hS (lv_sub hl [0, 2, 1, 3, 4, 5, 6, 7] rfl)
                  ·
                    have j1447 : Iv 1 1 x1440 := r_nelo h1442 x1440_h ik_0 (by decide)
                    have b1448 : bt x1438 (Int32.toNatClampNeg x1439) = true := has_t e1441 h1442
                    refine lv_iconst (v := 1) hx hb dX12_goesOn_89 (by decide) ?_
                    refine lv_iload hx hb dX12_goesOn_90 (lv_at hl 1 rfl) ?_
                    refine lv_ishl hx hb dX12_goesOn_92 (lv_topi (fun x1449 x1449_e => ?_))
                    have x1449_h : Iv 1 64 x1449 := iv_e x1449_e (iv_shl1 j1403 (by decide))
                    refine lv_goto (tgt := 97) hx hb dX12_goesOn_93 (by decide) ?_
                    refine lv_ior hx hb dX12_goesOn_97 (lv_topi (fun x1450 x1450_e => ?_))
                    have x1450_h : Iv 0 255 x1450 := iv_e x1450_e (iv_or 8 x1362_h x1449_h (by decide))
                    refine lv_istore (lv' := [(5, .int x1450), (6, .int 1), (7, .int x1361), (4, .int x969), (3, .int x1), (0, .ref o1), (1, .int 7), (2, .int a2)]) hx hb dX12_goesOn_98 hl (by decide) rfl (fun ls hl => ?_)
                    obtain ⟨x1451, x1451_e⟩ : ∃ z : Int32, z = x1361 + 1 := ⟨_, rfl⟩
                    have x1451_h : Iv 1 7 x1451 := iv_e x1451_e (iv_add j1403 ik_1 (by decide))
                    refine lv_iinc (v := x1451) (lv' := [(7, .int x1451), (5, .int x1450), (6, .int 1), (4, .int x969), (3, .int x1), (0, .ref o1), (1, .int 7), (2, .int a2)]) hx hb dX12_goesOn_100 hl (k := 2) rfl (incN (by decide +kernel) x1451_e) (by decide) rfl (fun ls hl => ?_)
                    refine lv_goto (tgt := 37) hx hb dX12_goesOn_103 (by decide) ?_
                    exact ih4 x1451 x1450 1 _ _ _ (ms_up x1451_e j1403 (by decide) hM4) (iv_w x1451_h (by decide)) x1450_h (iv_w ik_1 (by decide)) hP hD hS (lv_sub hl [0, 2, 1, 3, 4, 5, 6, 7] rfl)
        exact L4 _ 0 0 0 _ _ _ (Nat.lt_succ_self _) (iv_w ik_0 (by decide)) (iv_w ik_0 (by decide)) (iv_w ik_0 (by decide)) hP hD hS hl
  exact L3 _ x3 fw12 _ _ _ (Nat.lt_succ_self _) x3_h fw12_b hP hD hS hl
