theorem hm_X12_findHole_1 : (.fieldLink RX12 122 "HolelessHouseModel" "ringSize" "I" : Cond) ∈ wsX12_findHole := List.mem_of_getElem? (i := 1) rfl
theorem hm_X12_findHole_2 : (.fieldLink RX12 73 "HolelessHouseModel" "n" "I" : Cond) ∈ wsX12_findHole := List.mem_of_getElem? (i := 2) rfl
theorem hm_X12_findHole_3 : (.fieldLink RX12 19 "HolelessHouseModel" "ring" "[I" : Cond) ∈ wsX12_findHole := List.mem_of_getElem? (i := 3) rfl
set_option maxHeartbeats 4000000 in
set_option maxRecDepth 100000 in
theorem kX12_goesOn_9 (l : Launch) (dC : Nat → ClassId) (dI : Nat → Nat → Nat) (cI c2 cZ : ClassId) (o1 : Nat) (o3 : Nat) (o6 : Nat) (o9 : Nat) (o11 : Nat) (o14 : Nat) (o17 : Nat) (o22 : Nat) (o24 : Nat) (o26 : Nat) (o28 : Nat) (o30 : Nat) (o33 : Nat) (o35 : Nat) (o37 : Nat) (o40 : Nat) (o42 : Nat) (o44 : Nat) (o47 : Nat) (v2 : Int32) (v5 : Int32) (fw7 : Nat → Int32) (v8 : Int32) (fw12 : Nat → Int32) (v13 : Int32) (v16 : Int32) (v19 : Int32) (v20 : Int32) (v21 : Int32) (v32 : Int32) (v39 : Int32) (v46 : Int32) (a2 : Int32) (sz : Nat) (v5_h : Iv 0 12 v5) (fw7_b : Bd 12 0 4095 fw7) (v8_h : Iv 0 8 v8) (fw12_b : Bd 12 0 11 fw12) (v13_h : Iv 0 12 v13) (v16_h : Iv 0 12 v16) (v19_h : Iv (-9) 12 v19) (v32_h : Iv 0 99 v32) (v39_h : Iv 0 12 v39) (v46_h : Iv 0 12 v46) (a2_h : Iv 4 12 a2) : Met l yX12_goesOn wsX12_goesOn ({ frames := 9, cells := 0, slots := 0, locals := 237 }) (va_Pc [.ref o1, .int 3, .int a2] (wPre (dC, dI) [(cI, .int), (c2, .array .int), (cZ, .boolean)] ([(o1, .inr (12, [.int v2, .ref o3, .int v5, .ref o6, .int v8, .ref o9, .ref o11, .int v13, .ref o14, .int v16, .ref o17, .int v19, .int v20, .int v21, .ref o22, .ref o24, .ref o26, .ref o28, .ref o30, .int v32, .ref o33, .ref o35, .ref o37, .int v39, .ref o40, .ref o42, .ref o44, .int v46, .ref o47])), (o11, .inl (cI, 12, .inl fw12)), (o6, .inl (cI, 12, .inl fw7))]) sz)) (va_Qi (fun (r : Int32) (u : (Nat → Int32)) => Iv 0 1 r ∧ Bd 12 0 11 u) (fun u t => wPost (dC, dI) [(cI, .int), (c2, .array .int), (cZ, .boolean)] (va_A ([(o1, .inr (12, [.int v2, .ref o3, .int v5, .ref o6, .int v8, .ref o9, .ref o11, .int v13, .ref o14, .int v16, .ref o17, .int v19, .int v20, .int v21, .ref o22, .ref o24, .ref o26, .ref o28, .ref o30, .int v32, .ref o33, .ref o35, .ref o37, .int v39, .ref o40, .ref o42, .ref o44, .int v46, .ref o47])), (o11, .inl (cI, 12, .inl fw12)), (o6, .inl (cI, 12, .inl fw7))]) sz) ([(o1, .inr (12, [.int v2, .ref o3, .int v5, .ref o6, .int v8, .ref o9, .ref o11, .int v13, .ref o14, .int v16, .ref o17, .int v19, .int v20, .int v21, .ref o22, .ref o24, .ref o26, .ref o28, .ref o30, .int v32, .ref o33, .ref o35, .ref o37, .int v39, .ref o40, .ref o42, .ref o44, .int v46, .ref o47])), (o11, .inl (cI, 12, .inl u)), (o6, .inl (cI, 12, .inl fw7))]) t) (va_A ([(o1, .inr (12, [.int v2, .ref o3, .int v5, .ref o6, .int v8, .ref o9, .ref o11, .int v13, .ref o14, .int v16, .ref o17, .int v19, .int v20, .int v21, .ref o22, .ref o24, .ref o26, .ref o28, .ref o30, .int v32, .ref o33, .ref o35, .ref o37, .int v39, .ref o40, .ref o42, .ref o44, .int v46, .ref o47])), (o11, .inl (cI, 12, .inl fw12)), (o6, .inl (cI, 12, .inl fw7))]) sz)) 0 0 (va_A ([(o1, .inr (12, [.int v2, .ref o3, .int v5, .ref o6, .int v8, .ref o9, .ref o11, .int v13, .ref o14, .int v16, .ref o17, .int v19, .int v20, .int v21, .ref o22, .ref o24, .ref o26, .ref o28, .ref o30, .int v32, .ref o33, .ref o35, .ref o37, .int v39, .ref o40, .ref o42, .ref o44, .int v46, .ref o47])), (o11, .inl (cI, 12, .inl fw12)), (o6, .inl (cI, 12, .inl fw7))]) sz) := by
  refine Met.ofW (cc := cX12_goesOn) (maxL := 8) (ret := (some .boolean)) (by decide) rfl ?_
  intro p e s m args below meth c s₁ B hml hv
  obtain ⟨rfl, hsz, hP, hK, hD0, hN⟩ := hv
  have hx := B.exec
  have hb := B.bytes
  have hr := B.returns
  have hts := atoms_spec (ws := wsX12_goesOn) B.pre
  have hown : s.vm.findClass RX12 = some m.cls := findClass_of_methodNamed B.named
  have hlocks := B.notSynchronized
  subst hsz
  have hD := hD0.self (sz := s.heap.size)
  generalize hAe : va_A ([(o1, .inr (12, [.int v2, .ref o3, .int v5, .ref o6, .int v8, .ref o9, .ref o11, .int v13, .ref o14, .int v16, .ref o17, .int v19, .int v20, .int v21, .ref o22, .ref o24, .ref o26, .ref o28, .ref o30, .int v32, .ref o33, .ref o35, .ref o37, .int v39, .ref o40, .ref o42, .ref o44, .int v46, .ref o47])), (o11, .inl (cI, 12, .inl fw12)), (o6, .inl (cI, 12, .inl fw7))]) s.heap.size = A at hD ⊢
  have hA : ∀ q : Nat, s.heap.size ≤ q → A q := fun q h => by rw [← hAe]; exact Or.inr h
  have hS : va_S A s.heap s.heap [] := va_S.rf
  have hP : va_P (dC, dI) vwCl ([(o1, .inr (12, [.int v2, .ref o3, .int v5, .ref o6, .int v8, .ref o9, .ref o11, .int v13, .ref o14, .int v16, .ref o17, .int v19, .int v20, .int v21, .ref o22, .ref o24, .ref o26, .ref o28, .ref o30, .int v32, .ref o33, .ref o35, .ref o37, .int v39, .ref o40, .ref o42, .ref o44, .int v46, .ref o47])), (o11, .inl (cI, 12, .inl fw12)), (o6, .inl (cI, 12, .inl fw7))]) s.heap := hP
  have hl := lv_entry ([.ref o1, .int 3, .int a2]) (n := 8) (Nat.le_of_ble_eq_true rfl)
  rw [lg_entry_eq]
  generalize (lg_sl ([.ref o1, .int 3, .int a2]) ++ List.replicate (8 - (lg_sl ([.ref o1, .int 3, .int a2])).length) Slot.unset).toArray = ls at hl ⊢
  have hl : lv_has ls 8 [(0, .ref o1), (1, .int 3), (2, .int a2)] := hl
  refine gen_Q (fun Q hQ => ?_)
  refine lv_aload_n hx hb dX12_goesOn_0 rfl (lv_at hl 0 rfl) ?_
  refine va_get (D := (dC, dI)) (ci := 12) (v := .ref o11) (C := RX12) (T := TX12) (N := 29) hx hb hts iw_X12_goesOn_X12 hown hK hP 0 rfl rfl 6 (by decide) (hts (.fieldLink RX12 19 "HolelessHouseModel" "ring" "[I") hm_X12_goesOn_1) (fun _ h9 => h9) rfl dX12_goesOn_1 ?_
  refine lv_iload_n hx hb dX12_goesOn_4 rfl (lv_at hl 1 rfl) ?_
  refine lv_iconst (v := 1) hx hb dX12_goesOn_5 (by decide) ?_
  refine lv_isub hx hb dX12_goesOn_6 (tk_i (v := 2) (by decide +kernel) ?_)
  refine va_iald hx hb hK hP 1 0 rfl rfl (vin_iv ik_2 (by decide)) dX12_goesOn_7 (lv_topi (fun x1 x1_e => ?_))
  have x1_h : Iv 0 11 x1 := iv_e x1_e (bd_at fw12_b (vin_iv ik_2 (by decide)))
  refine lv_istore_n (lv' := [(3, .int x1), (0, .ref o1), (1, .int 3), (2, .int a2)]) hx hb dX12_goesOn_8 rfl hl (by decide) rfl (fun ls hl => ?_)
  refine lv_aload_n hx hb dX12_goesOn_9 rfl (lv_at hl 1 rfl) ?_
  refine va_get (D := (dC, dI)) (ci := 12) (v := .ref o11) (C := RX12) (T := TX12) (N := 29) hx hb hts iw_X12_goesOn_X12 hown hK hP 0 rfl rfl 6 (by decide) (hts (.fieldLink RX12 19 "HolelessHouseModel" "ring" "[I") hm_X12_goesOn_1) (fun _ h9 => h9) rfl dX12_goesOn_10 ?_
  refine lv_iconst (v := 0) hx hb dX12_goesOn_13 (by decide) ?_
  refine va_iald hx hb hK hP 1 0 rfl rfl (vin_iv ik_0 (by decide)) dX12_goesOn_14 (lv_topi (fun x2 x2_e => ?_))
  have x2_h : Iv 0 11 x2 := iv_e x2_e (bd_at fw12_b (vin_iv ik_0 (by decide)))
  refine lv_iconst (v := 1) hx hb dX12_goesOn_15 (by decide) ?_
  refine lv_iadd hx hb dX12_goesOn_16 (lv_topi (fun x3 x3_e => ?_))
  have x3_h : Iv 1 12 x3 := iv_e x3_e (iv_add x2_h ik_1 (by decide))
  refine lv_istore (lv' := [(4, .int x3), (3, .int x1), (0, .ref o1), (1, .int 3), (2, .int a2)]) hx hb dX12_goesOn_17 hl (by decide) rfl (fun ls hl => ?_)
  have L3 : ∀ (N : Nat) (x657 : Int32) (f658 : Nat → Int32) (H : Heap) (locs : List Loc) (ls : Array Slot), (12 - x657.toInt).toNat < N → Iv 1 12 x657 → Bd 12 0 11 f658 → va_P (dC, dI) vwCl ([(o1, .inr (12, [.int v2, .ref o3, .int v5, .ref o6, .int v8, .ref o9, .ref o11, .int v13, .ref o14, .int v16, .ref o17, .int v19, .int v20, .int v21, .ref o22, .ref o24, .ref o26, .ref o28, .ref o30, .int v32, .ref o33, .ref o35, .ref o37, .int v39, .ref o40, .ref o42, .ref o44, .int v46, .ref o47])), (o11, .inl (cI, 12, .inl f658)), (o6, .inl (cI, 12, .inl fw7))]) H → va_D A ([(o1, .inr (12, [.int v2, .ref o3, .int v5, .ref o6, .int v8, .ref o9, .ref o11, .int v13, .ref o14, .int v16, .ref o17, .int v19, .int v20, .int v21, .ref o22, .ref o24, .ref o26, .ref o28, .ref o30, .int v32, .ref o33, .ref o35, .ref o37, .int v39, .ref o40, .ref o42, .ref o44, .int v46, .ref o47])), (o11, .inl (cI, 12, .inl f658)), (o6, .inl (cI, 12, .inl fw7))]) → va_S A s.heap H locs → lv_has ls 8 [(4, .int x657), (3, .int x1), (0, .ref o1), (1, .int 3), (2, .int a2)] → W p l e ({ frames := 9, cells := 0, slots := 0, locals := 237 }) s m ([.ref o1, .int 3, .int a2] : List Value).toArray below meth c H locs 0 0 Q (F0 m 19 ls []) := by
    intro N
    induction N with
    | zero =>
      intro x657 f658 H locs ls hM
      exact absurd hM (Nat.not_lt_zero _)
    | succ N ih3 =>
      intro x657 f658 H locs ls hM3 x657_h f658_b hP hD hS hl
      refine lv_iload hx hb dX12_goesOn_19 (lv_at hl 0 rfl) ?_
      refine lv_aload_n hx hb dX12_goesOn_21 rfl (lv_at hl 2 rfl) ?_
      refine va_get (D := (dC, dI)) (ci := 12) (v := .int v5) (C := RX12) (T := TX12) (N := 29) hx hb hts iw_X12_goesOn_X12 hown hK hP 0 rfl rfl 2 (by decide) (hts (.fieldLink RX12 73 "HolelessHouseModel" "n" "I") hm_X12_goesOn_2) (fun _ h9 => h9) rfl dX12_goesOn_22 ?_
      refine lv_icmp_ge (tgt := 193) hx hb dX12_goesOn_25 (by decide) (fun h659 => ?_) (fun h659 => ?_)
      ·
        have qh659 := le_i h659
        refine lv_iload_n hx hb dX12_goesOn_193 rfl (lv_at hl 1 rfl) ?_
        refine lv_if_ge (tgt := 201) hx hb dX12_goesOn_194 (by decide) (fun _ => ?_) (fun h9 => absurd (d_le ik_0 x1_h (by decide)) h9)
        refine lv_iconst (v := 0) hx hb dX12_goesOn_201 (by decide) ?_
        rw [hQ]
        exact W.zret (v := 0) (ty := .boolean) hx hb hr rfl (fun t ht hW => ⟨⟨0, f658, rfl, ⟨(iv_w ik_0 (by decide)), f658_b⟩, by rw [ht]; exact hP, va_K.moved hW.alike hK, hD⟩, hS.F ht⟩) hS.2.2 dX12_goesOn_202
      ·
        have qh659 := nle_i h659
        have j660 : Iv 1 11 x657 := r_ltl qh659 x657_h v5_h (by decide)
        have j661 : Iv 2 12 v5 := r_ltr qh659 x657_h v5_h (by decide)
        refine lv_iconst (v := 0) hx hb dX12_goesOn_28 (by decide) ?_
        refine lv_istore (lv' := [(5, .int 0), (4, .int x657), (3, .int x1), (0, .ref o1), (1, .int 3), (2, .int a2)]) hx hb dX12_goesOn_29 hl (by decide) rfl (fun ls hl => ?_)
        refine lv_iconst (v := 0) hx hb dX12_goesOn_31 (by decide) ?_
        refine lv_istore (lv' := [(6, .int 0), (5, .int 0), (4, .int x657), (3, .int x1), (0, .ref o1), (1, .int 3), (2, .int a2)]) hx hb dX12_goesOn_32 hl (by decide) rfl (fun ls hl => ?_)
        refine lv_iconst (v := 0) hx hb dX12_goesOn_34 (by decide) ?_
        refine lv_istore (lv' := [(7, .int 0), (6, .int 0), (5, .int 0), (4, .int x657), (3, .int x1), (0, .ref o1), (1, .int 3), (2, .int a2)]) hx hb dX12_goesOn_35 hl (by decide) rfl (fun ls hl => ?_)
        have L4 : ∀ (N : Nat) (x893 : Int32) (x894 : Int32) (x895 : Int32) (H : Heap) (locs : List Loc) (ls : Array Slot), (3 - x893.toInt).toNat < N → Iv 0 3 x893 → Iv 0 31 x894 → Iv 0 1 x895 → va_P (dC, dI) vwCl ([(o1, .inr (12, [.int v2, .ref o3, .int v5, .ref o6, .int v8, .ref o9, .ref o11, .int v13, .ref o14, .int v16, .ref o17, .int v19, .int v20, .int v21, .ref o22, .ref o24, .ref o26, .ref o28, .ref o30, .int v32, .ref o33, .ref o35, .ref o37, .int v39, .ref o40, .ref o42, .ref o44, .int v46, .ref o47])), (o11, .inl (cI, 12, .inl f658)), (o6, .inl (cI, 12, .inl fw7))]) H → va_D A ([(o1, .inr (12, [.int v2, .ref o3, .int v5, .ref o6, .int v8, .ref o9, .ref o11, .int v13, .ref o14, .int v16, .ref o17, .int v19, .int v20, .int v21, .ref o22, .ref o24, .ref o26, .ref o28, .ref o30, .int v32, .ref o33, .ref o35, .ref o37, .int v39, .ref o40, .ref o42, .ref o44, .int v46, .ref o47])), (o11, .inl (cI, 12, .inl f658)), (o6, .inl (cI, 12, .inl fw7))]) → va_S A s.heap H locs → lv_has ls 8 [(7, .int x893), (6, .int x895), (5, .int x894), (4, .int x657), (3, .int x1), (0, .ref o1), (1, .int 3), (2, .int a2)] → W p l e ({ frames := 9, cells := 0, slots := 0, locals := 237 }) s m ([.ref o1, .int 3, .int a2] : List Value).toArray below meth c H locs 0 0 Q (F0 m 37 ls []) := by
          intro N
          induction N with
          | zero =>
            intro x893 x894 x895 H locs ls hM
            exact absurd hM (Nat.not_lt_zero _)
          | succ N ih4 =>
            intro x893 x894 x895 H locs ls hM4 x893_h x894_h x895_h hP hD hS hl
            refine lv_iload hx hb dX12_goesOn_37 (lv_at hl 0 rfl) ?_
            refine lv_iload_n hx hb dX12_goesOn_39 rfl (lv_at hl 6 rfl) ?_
            refine lv_icmp_ge (tgt := 106) hx hb dX12_goesOn_40 (by decide) (fun h896 => ?_) (fun h896 => ?_)
            ·
              have qh896 := le_i h896
              have j897 : Iv 3 3 x893 := r_ler qh896 ik_3 x893_h (by decide)
              refine lv_iconst (v := 1) hx hb dX12_goesOn_106 (by decide) ?_
              refine lv_iload_n hx hb dX12_goesOn_107 rfl (lv_at hl 6 rfl) ?_
              refine lv_iconst (v := 1) hx hb dX12_goesOn_108 (by decide) ?_
              refine lv_isub hx hb dX12_goesOn_109 (tk_i (v := 2) (by decide +kernel) ?_)
              refine lv_ishl hx hb dX12_goesOn_110 (tk_i (v := 4) (by decide +kernel) ?_)
              refine lv_iload_n hx hb dX12_goesOn_111 rfl (lv_at hl 6 rfl) ?_
              refine lv_iload_n hx hb dX12_goesOn_112 rfl (lv_at hl 7 rfl) ?_
              refine lv_iconst (v := 1) hx hb dX12_goesOn_113 (by decide) ?_
              refine lv_isub hx hb dX12_goesOn_114 (lv_topi (fun x898 x898_e => ?_))
              have x898_h : Iv 3 11 x898 := iv_e x898_e (iv_sub a2_h ik_1 (by decide))
              refine lv_icmp_ne (tgt := 122) hx hb dX12_goesOn_115 (by decide) (fun h899 => ?_) (fun h899 => ?_)
              ·
                have j900 : Iv 4 11 x898 := r_nelo (fun q => h899 q.symm) x898_h ik_3 (by decide)
                have j901 : Iv 5 12 a2 := ivb_sub x898_e a2_h ik_1 j900 (by decide)
                refine lv_iconst (v := 0) hx hb dX12_goesOn_122 (by decide) ?_
                refine lv_ior hx hb dX12_goesOn_123 (tk_i (v := 4) (by decide +kernel) ?_)
                refine lv_istore (lv' := [(7, .int 4), (6, .int x895), (5, .int x894), (4, .int x657), (3, .int x1), (0, .ref o1), (1, .int 3), (2, .int a2)]) hx hb dX12_goesOn_124 hl (by decide) rfl (fun ls hl => ?_)
                refine lv_iload hx hb dX12_goesOn_126 (lv_at hl 1 rfl) ?_
                refine lv_if_ne (tgt := 187) hx hb dX12_goesOn_128 (by decide) (fun h902 => ?_) (fun h902 => ?_)
                ·
                  have j903 : Iv 1 1 x895 := r_nelo h902 x895_h ik_0 (by decide)
                  obtain ⟨x904, x904_e⟩ : ∃ z : Int32, z = x657 + 1 := ⟨_, rfl⟩
                  have x904_h : Iv 2 12 x904 := iv_e x904_e (iv_add j660 ik_1 (by decide))
                  refine lv_iinc (v := x904) (lv' := [(4, .int x904), (7, .int 4), (6, .int x895), (5, .int x894), (3, .int x1), (0, .ref o1), (1, .int 3), (2, .int a2)]) hx hb dX12_goesOn_187 hl (k := 3) rfl (incN (by decide +kernel) x904_e) (by decide) rfl (fun ls hl => ?_)
                  refine lv_goto (tgt := 19) hx hb dX12_goesOn_190 (by decide) ?_
                  exact ih3 x904 f658 _ _ _ (ms_up x904_e j660 (by decide) hM3) (iv_w x904_h (by decide)) f658_b hP hD hS (lv_sub hl [0, 4, 5, 6, 7] rfl)
                ·
                  have j905 : Iv 0 0 x895 := r_eq h902 ik_0
                  refine lv_iload hx hb dX12_goesOn_131 (lv_at hl 2 rfl) ?_
                  refine lv_iload hx hb dX12_goesOn_133 (lv_at hl 0 rfl) ?_
                  refine lv_icmp_ne (tgt := 187) hx hb dX12_goesOn_135 (by decide) (fun h906 => ?_) (fun h906 => ?_)
                  ·
                    obtain ⟨x907, x907_e⟩ : ∃ z : Int32, z = x657 + 1 := ⟨_, rfl⟩
                    have x907_h : Iv 2 12 x907 := iv_e x907_e (iv_add j660 ik_1 (by decide))
                    refine lv_iinc (v := x907) (lv' := [(4, .int x907), (7, .int 4), (6, .int x895), (5, .int x894), (3, .int x1), (0, .ref o1), (1, .int 3), (2, .int a2)]) hx hb dX12_goesOn_187 hl (k := 3) rfl (incN (by decide +kernel) x907_e) (by decide) rfl (fun ls hl => ?_)
                    refine lv_goto (tgt := 19) hx hb dX12_goesOn_190 (by decide) ?_
                    exact ih3 x907 f658 _ _ _ (ms_up x907_e j660 (by decide) hM3) (iv_w x907_h (by decide)) f658_b hP hD hS (lv_sub hl [0, 4, 5, 6, 7] rfl)
                  ·
                    have j908 : Iv 4 4 x894 := r_eq h906 ik_4
                    refine lv_iload_n hx hb dX12_goesOn_138 rfl (lv_at hl 6 rfl) ?_
                    refine lv_iload_n hx hb dX12_goesOn_139 rfl (lv_at hl 7 rfl) ?_
                    refine lv_iconst (v := 1) hx hb dX12_goesOn_140 (by decide) ?_
                    refine lv_isub hx hb dX12_goesOn_141 (lv_topi (fun x909 x909_e => ?_))
                    have x909_h : Iv 4 11 x909 := iv_e x909_e (iv_sub j901 ik_1 (by decide))
                    refine lv_icmp_ne (tgt := 159) hx hb dX12_goesOn_142 (by decide) (fun _ => ?_) (fun h9 => absurd h9 (d_ne ik_3 x909_h (by decide)))
                    refine lv_aload_n hx hb dX12_goesOn_159 rfl (lv_at hl 5 rfl) ?_
                    refine va_get (D := (dC, dI)) (ci := 12) (v := .ref o11) (C := RX12) (T := TX12) (N := 29) hx hb hts iw_X12_goesOn_X12 hown hK hP 0 rfl rfl 6 (by decide) (hts (.fieldLink RX12 19 "HolelessHouseModel" "ring" "[I") hm_X12_goesOn_1) (fun _ h9 => h9) rfl dX12_goesOn_160 ?_
                    refine lv_iload_n hx hb dX12_goesOn_163 rfl (lv_at hl 6 rfl) ?_
                    refine lv_iload hx hb dX12_goesOn_164 (lv_at hl 3 rfl) ?_
                    refine k_iast hx hb hK hP hD hS 1 0 rfl rfl (vin_iv ik_3 (by decide)) dX12_goesOn_166 (fun f910 H locs f910_e hP hD hS => ?_)
                    have f910_b : Bd 12 0 11 f910 := bd_upd f910_e f658_b j660 (by decide)
                    have hP : va_P (dC, dI) vwCl ([(o1, .inr (12, [.int v2, .ref o3, .int v5, .ref o6, .int v8, .ref o9, .ref o11, .int v13, .ref o14, .int v16, .ref o17, .int v19, .int v20, .int v21, .ref o22, .ref o24, .ref o26, .ref o28, .ref o30, .int v32, .ref o33, .ref o35, .ref o37, .int v39, .ref o40, .ref o42, .ref o44, .int v46, .ref o47])), (o11, .inl (cI, 12, .inl f910)), (o6, .inl (cI, 12, .inl fw7))]) H := hP
                    have hD : va_D A ([(o1, .inr (12, [.int v2, .ref o3, .int v5, .ref o6, .int v8, .ref o9, .ref o11, .int v13, .ref o14, .int v16, .ref o17, .int v19, .int v20, .int v21, .ref o22, .ref o24, .ref o26, .ref o28, .ref o30, .int v32, .ref o33, .ref o35, .ref o37, .int v39, .ref o40, .ref o42, .ref o44, .int v46, .ref o47])), (o11, .inl (cI, 12, .inl f910)), (o6, .inl (cI, 12, .inl fw7))]) := hD
                    refine lv_iload_n hx hb dX12_goesOn_167 rfl (lv_at hl 6 rfl) ?_
                    refine lv_iload_n hx hb dX12_goesOn_168 rfl (lv_at hl 7 rfl) ?_
                    refine lv_iconst (v := 1) hx hb dX12_goesOn_169 (by decide) ?_
                    refine lv_isub hx hb dX12_goesOn_170 (lv_topi (fun x911 x911_e => ?_))
                    have x911_h : Iv 4 11 x911 := iv_e x911_e (iv_sub j901 ik_1 (by decide))
                    refine lv_icmp_eq (tgt := 185) hx hb dX12_goesOn_171 (by decide) (fun h9 => absurd h9 (d_ne ik_3 x911_h (by decide))) (fun _ => ?_)
                    refine lv_aload_n hx hb dX12_goesOn_174 rfl (lv_at hl 5 rfl) ?_
                    refine lv_iload_n hx hb dX12_goesOn_175 rfl (lv_at hl 6 rfl) ?_
                    refine lv_iconst (v := 1) hx hb dX12_goesOn_176 (by decide) ?_
                    refine lv_iadd hx hb dX12_goesOn_177 (tk_i (v := 4) (by decide +kernel) ?_)
                    refine lv_iload_n hx hb dX12_goesOn_178 rfl (lv_at hl 7 rfl) ?_
                    refine kc_i (D := (dC, dI)) (S := (Nat → Int32)) (wc := [(o1, .inr (12, [.int v2, .ref o3, .int v5, .ref o6, .int v8, .ref o9, .ref o11, .int v13, .ref o14, .int v16, .ref o17, .int v19, .int v20, .int v21, .ref o22, .ref o24, .ref o26, .ref o28, .ref o30, .int v32, .ref o33, .ref o35, .ref o37, .int v39, .ref o40, .ref o42, .ref o44, .int v46, .ref o47])), (o11, .inl (cI, 12, .inl f910)), (o6, .inl (cI, 12, .inl fw7))]) (wr := []) (w1 := fun u => [(o1, .inr (12, [.int v2, .ref o3, .int v5, .ref o6, .int v8, .ref o9, .ref o11, .int v13, .ref o14, .int v16, .ref o17, .int v19, .int v20, .int v21, .ref o22, .ref o24, .ref o26, .ref o28, .ref o30, .int v32, .ref o33, .ref o35, .ref o37, .int v39, .ref o40, .ref o42, .ref o44, .int v46, .ref o47])), (o11, .inl (cI, 12, .inl u)), (o6, .inl (cI, 12, .inl fw7))]) (wn := fun u => [(o1, .inr (12, [.int v2, .ref o3, .int v5, .ref o6, .int v8, .ref o9, .ref o11, .int v13, .ref o14, .int v16, .ref o17, .int v19, .int v20, .int v21, .ref o22, .ref o24, .ref o26, .ref o28, .ref o30, .int v32, .ref o33, .ref o35, .ref o37, .int v39, .ref o40, .ref o42, .ref o44, .int v46, .ref o47])), (o11, .inl (cI, 12, .inl u)), (o6, .inl (cI, 12, .inl fw7))]) (fun hPc hDc => va_runV (As := [.int 4, .int a2]) (rest := []) ⟨hx, hb, hml, hown, hts⟩ (kX12_goesOn_8 l dC dI cI c2 cZ o1 o3 o6 o9 o11 o14 o17 o22 o24 o26 o28 o30 o33 o35 o37 o40 o42 o44 o47 v2 v5 fw7 v8 f910 v13 v16 v19 v20 v21 v32 v39 v46 a2 H.size (iv_w j661 (by decide)) fw7_b v8_h f910_b v13_h v16_h v19_h v32_h v39_h v46_h j901) (cwV 2 hts gX12_goesOn_X12_goesOn rfl rfl rfl (by decide +kernel) ⟨Nat.le_of_ble_eq_true rfl, Nat.le_of_ble_eq_true rfl⟩) (pre_V hPc hK hDc hN (ci := 12) (q0 := 0) rfl rfl) rfl rfl hl.1 rfl (lv_room (Nat.le_of_ble_eq_true rfl)) dX12_goesOn_179 ⟨Nat.le_of_ble_eq_true rfl, Nat.le_of_ble_eq_true rfl⟩) hP hD hS hA [0, 1, 2] [] [0, 1, 2] rfl rfl (by decide +kernel) (by decide +kernel) (by decide +kernel) (by decide +kernel) (fun _ => rfl) (fun x913 f912 H locs hq hP hD hS => ?_)
                    obtain ⟨x913_h, f912_b⟩ := hq
                    have hP : va_P (dC, dI) vwCl ([(o1, .inr (12, [.int v2, .ref o3, .int v5, .ref o6, .int v8, .ref o9, .ref o11, .int v13, .ref o14, .int v16, .ref o17, .int v19, .int v20, .int v21, .ref o22, .ref o24, .ref o26, .ref o28, .ref o30, .int v32, .ref o33, .ref o35, .ref o37, .int v39, .ref o40, .ref o42, .ref o44, .int v46, .ref o47])), (o11, .inl (cI, 12, .inl f912)), (o6, .inl (cI, 12, .inl fw7))]) H := hP
                    have hD : va_D A ([(o1, .inr (12, [.int v2, .ref o3, .int v5, .ref o6, .int v8, .ref o9, .ref o11, .int v13, .ref o14, .int v16, .ref o17, .int v19, .int v20, .int v21, .ref o22, .ref o24, .ref o26, .ref o28, .ref o30, .int v32, .ref o33, .ref o35, .ref o37, .int v39, .ref o40, .ref o42, .ref o44, .int v46, .ref o47])), (o11, .inl (cI, 12, .inl f912)), (o6, .inl (cI, 12, .inl fw7))]) := hD
                    refine lv_if_eq (tgt := 187) hx hb dX12_goesOn_182 (by decide) (fun h914 => ?_) (fun h914 => ?_)
                    ·
                      have j915 : Iv 0 0 x913 := r_eq h914 ik_0
                      obtain ⟨x916, x916_e⟩ : ∃ z : Int32, z = x657 + 1 := ⟨_, rfl⟩
                      have x916_h : Iv 2 12 x916 := iv_e x916_e (iv_add j660 ik_1 (by decide))
                      refine lv_iinc (v := x916) (lv' := [(4, .int x916), (7, .int 4), (6, .int x895), (5, .int x894), (3, .int x1), (0, .ref o1), (1, .int 3), (2, .int a2)]) hx hb dX12_goesOn_187 hl (k := 3) rfl (incN (by decide +kernel) x916_e) (by decide) rfl (fun ls hl => ?_)
                      refine lv_goto (tgt := 19) hx hb dX12_goesOn_190 (by decide) ?_
                      exact ih3 x916 f912 _ _ _ (ms_up x916_e j660 (by decide) hM3) (iv_w x916_h (by decide)) f912_b hP hD hS (lv_sub hl [0, 4, 5, 6, 7] rfl)
                    ·
                      have j917 : Iv 1 1 x913 := r_nelo h914 x913_h ik_0 (by decide)
                      refine lv_iconst (v := 1) hx hb dX12_goesOn_185 (by decide) ?_
                      rw [hQ]
                      exact W.zret (v := 1) (ty := .boolean) hx hb hr rfl (fun t ht hW => ⟨⟨1, f912, rfl, ⟨(iv_w ik_1 (by decide)), f912_b⟩, by rw [ht]; exact hP, va_K.moved hW.alike hK, hD⟩, hS.F ht⟩) hS.2.2 dX12_goesOn_186
              ·
                have j918 : Iv 3 3 x898 := r_eq h899.symm ik_3
                have j919 : Iv 4 4 a2 := ivb_sub x898_e a2_h ik_1 j918 (by decide)
                refine lv_iconst (v := 1) hx hb dX12_goesOn_118 (by decide) ?_
                refine lv_goto (tgt := 123) hx hb dX12_goesOn_119 (by decide) ?_
                refine lv_ior hx hb dX12_goesOn_123 (tk_i (v := 5) (by decide +kernel) ?_)
                refine lv_istore (lv' := [(7, .int 5), (6, .int x895), (5, .int x894), (4, .int x657), (3, .int x1), (0, .ref o1), (1, .int 3), (2, .int a2)]) hx hb dX12_goesOn_124 hl (by decide) rfl (fun ls hl => ?_)
                refine lv_iload hx hb dX12_goesOn_126 (lv_at hl 1 rfl) ?_
                refine lv_if_ne (tgt := 187) hx hb dX12_goesOn_128 (by decide) (fun h920 => ?_) (fun h920 => ?_)
                ·
                  have j921 : Iv 1 1 x895 := r_nelo h920 x895_h ik_0 (by decide)
                  obtain ⟨x922, x922_e⟩ : ∃ z : Int32, z = x657 + 1 := ⟨_, rfl⟩
                  have x922_h : Iv 2 12 x922 := iv_e x922_e (iv_add j660 ik_1 (by decide))
                  refine lv_iinc (v := x922) (lv' := [(4, .int x922), (7, .int 5), (6, .int x895), (5, .int x894), (3, .int x1), (0, .ref o1), (1, .int 3), (2, .int a2)]) hx hb dX12_goesOn_187 hl (k := 3) rfl (incN (by decide +kernel) x922_e) (by decide) rfl (fun ls hl => ?_)
                  refine lv_goto (tgt := 19) hx hb dX12_goesOn_190 (by decide) ?_
                  exact ih3 x922 f658 _ _ _ (ms_up x922_e j660 (by decide) hM3) (iv_w x922_h (by decide)) f658_b hP hD hS (lv_sub hl [0, 4, 5, 6, 7] rfl)
                ·
                  have j923 : Iv 0 0 x895 := r_eq h920 ik_0
                  refine lv_iload hx hb dX12_goesOn_131 (lv_at hl 2 rfl) ?_
                  refine lv_iload hx hb dX12_goesOn_133 (lv_at hl 0 rfl) ?_
                  refine lv_icmp_ne (tgt := 187) hx hb dX12_goesOn_135 (by decide) (fun h924 => ?_) (fun h924 => ?_)
                  ·
                    obtain ⟨x925, x925_e⟩ : ∃ z : Int32, z = x657 + 1 := ⟨_, rfl⟩
                    have x925_h : Iv 2 12 x925 := iv_e x925_e (iv_add j660 ik_1 (by decide))
                    refine lv_iinc (v := x925) (lv' := [(4, .int x925), (7, .int 5), (6, .int x895), (5, .int x894), (3, .int x1), (0, .ref o1), (1, .int 3), (2, .int a2)]) hx hb dX12_goesOn_187 hl (k := 3) rfl (incN (by decide +kernel) x925_e) (by decide) rfl (fun ls hl => ?_)
                    refine lv_goto (tgt := 19) hx hb dX12_goesOn_190 (by decide) ?_
                    exact ih3 x925 f658 _ _ _ (ms_up x925_e j660 (by decide) hM3) (iv_w x925_h (by decide)) f658_b hP hD hS (lv_sub hl [0, 4, 5, 6, 7] rfl)
                  ·
                    have j926 : Iv 5 5 x894 := r_eq h924 ik_5
                    refine lv_iload_n hx hb dX12_goesOn_138 rfl (lv_at hl 6 rfl) ?_
                    refine lv_iload_n hx hb dX12_goesOn_139 rfl (lv_at hl 7 rfl) ?_
                    refine lv_iconst (v := 1) hx hb dX12_goesOn_140 (by decide) ?_
                    refine lv_isub hx hb dX12_goesOn_141 (lv_topi (fun x927 x927_e => ?_))
                    have x927_h : Iv 3 3 x927 := iv_e x927_e (iv_sub j919 ik_1 (by decide))
                    refine lv_icmp_ne (tgt := 159) hx hb dX12_goesOn_142 (by decide) (fun h9 => absurd (d_eq ik_3 x927_h) h9) (fun _ => ?_)
                    refine lv_iload hx hb dX12_goesOn_145 (lv_at hl 3 rfl) ?_
                    refine lv_aload_n hx hb dX12_goesOn_147 rfl (lv_at hl 5 rfl) ?_
                    refine va_get (D := (dC, dI)) (ci := 12) (v := .ref o11) (C := RX12) (T := TX12) (N := 29) hx hb hts iw_X12_goesOn_X12 hown hK hP 0 rfl rfl 6 (by decide) (hts (.fieldLink RX12 19 "HolelessHouseModel" "ring" "[I") hm_X12_goesOn_1) (fun _ h9 => h9) rfl dX12_goesOn_148 ?_
                    refine lv_iconst (v := 1) hx hb dX12_goesOn_151 (by decide) ?_
                    refine va_iald hx hb hK hP 1 0 rfl rfl (vin_iv ik_1 (by decide)) dX12_goesOn_152 (lv_topi (fun x928 x928_e => ?_))
                    have x928_h : Iv 0 11 x928 := iv_e x928_e (bd_at f658_b (vin_iv ik_1 (by decide)))
                    refine lv_icmp_ge (tgt := 159) hx hb dX12_goesOn_153 (by decide) (fun h929 => ?_) (fun h929 => ?_)
                    ·
                      have qh929 := le_i h929
                      refine lv_aload_n hx hb dX12_goesOn_159 rfl (lv_at hl 5 rfl) ?_
                      refine va_get (D := (dC, dI)) (ci := 12) (v := .ref o11) (C := RX12) (T := TX12) (N := 29) hx hb hts iw_X12_goesOn_X12 hown hK hP 0 rfl rfl 6 (by decide) (hts (.fieldLink RX12 19 "HolelessHouseModel" "ring" "[I") hm_X12_goesOn_1) (fun _ h9 => h9) rfl dX12_goesOn_160 ?_
                      refine lv_iload_n hx hb dX12_goesOn_163 rfl (lv_at hl 6 rfl) ?_
                      refine lv_iload hx hb dX12_goesOn_164 (lv_at hl 3 rfl) ?_
                      refine k_iast hx hb hK hP hD hS 1 0 rfl rfl (vin_iv ik_3 (by decide)) dX12_goesOn_166 (fun f930 H locs f930_e hP hD hS => ?_)
                      have f930_b : Bd 12 0 11 f930 := bd_upd f930_e f658_b j660 (by decide)
                      have hP : va_P (dC, dI) vwCl ([(o1, .inr (12, [.int v2, .ref o3, .int v5, .ref o6, .int v8, .ref o9, .ref o11, .int v13, .ref o14, .int v16, .ref o17, .int v19, .int v20, .int v21, .ref o22, .ref o24, .ref o26, .ref o28, .ref o30, .int v32, .ref o33, .ref o35, .ref o37, .int v39, .ref o40, .ref o42, .ref o44, .int v46, .ref o47])), (o11, .inl (cI, 12, .inl f930)), (o6, .inl (cI, 12, .inl fw7))]) H := hP
                      have hD : va_D A ([(o1, .inr (12, [.int v2, .ref o3, .int v5, .ref o6, .int v8, .ref o9, .ref o11, .int v13, .ref o14, .int v16, .ref o17, .int v19, .int v20, .int v21, .ref o22, .ref o24, .ref o26, .ref o28, .ref o30, .int v32, .ref o33, .ref o35, .ref o37, .int v39, .ref o40, .ref o42, .ref o44, .int v46, .ref o47])), (o11, .inl (cI, 12, .inl f930)), (o6, .inl (cI, 12, .inl fw7))]) := hD
                      refine lv_iload_n hx hb dX12_goesOn_167 rfl (lv_at hl 6 rfl) ?_
                      refine lv_iload_n hx hb dX12_goesOn_168 rfl (lv_at hl 7 rfl) ?_
                      refine lv_iconst (v := 1) hx hb dX12_goesOn_169 (by decide) ?_
                      refine lv_isub hx hb dX12_goesOn_170 (lv_topi (fun x931 x931_e => ?_))
                      have x931_h : Iv 3 3 x931 := iv_e x931_e (iv_sub j919 ik_1 (by decide))
                      refine lv_icmp_eq (tgt := 185) hx hb dX12_goesOn_171 (by decide) (fun _ => ?_) (fun h9 => absurd (d_eq ik_3 x931_h) h9)
                      refine lv_iconst (v := 1) hx hb dX12_goesOn_185 (by decide) ?_
                      rw [hQ]
                      exact W.zret (v := 1) (ty := .boolean) hx hb hr rfl (fun t ht hW => ⟨⟨1, f930, rfl, ⟨(iv_w ik_1 (by decide)), f930_b⟩, by rw [ht]; exact hP, va_K.moved hW.alike hK, hD⟩, hS.F ht⟩) hS.2.2 dX12_goesOn_186
                    ·
                      have qh929 := nle_i h929
                      have j932 : Iv 1 10 x657 := r_ltl qh929 j660 x928_h (by decide)
                      have j933 : Iv 2 11 x928 := r_ltr qh929 j660 x928_h (by decide)
                      refine lv_goto (tgt := 187) hx hb dX12_goesOn_156 (by decide) ?_
                      obtain ⟨x934, x934_e⟩ : ∃ z : Int32, z = x657 + 1 := ⟨_, rfl⟩
                      have x934_h : Iv 2 11 x934 := iv_e x934_e (iv_add j932 ik_1 (by decide))
                      refine lv_iinc (v := x934) (lv' := [(4, .int x934), (7, .int 5), (6, .int x895), (5, .int x894), (3, .int x1), (0, .ref o1), (1, .int 3), (2, .int a2)]) hx hb dX12_goesOn_187 hl (k := 3) rfl (incN (by decide +kernel) x934_e) (by decide) rfl (fun ls hl => ?_)
                      refine lv_goto (tgt := 19) hx hb dX12_goesOn_190 (by decide) ?_
                      exact ih3 x934 f658 _ _ _ (ms_up x934_e j932 (by decide) hM3) (iv_w x934_h (by decide)) f658_b hP hD hS (lv_sub hl [0, 4, 5, 6, 7] rfl)
            ·
              have qh896 := nle_i h896
              have j935 : Iv 0 2 x893 := r_ltl qh896 x893_h ik_3 (by decide)
              refine lv_iload hx hb dX12_goesOn_43 (lv_at hl 1 rfl) ?_
              refine lv_if_ne (tgt := 60) hx hb dX12_goesOn_45 (by decide) (fun h936 => ?_) (fun h936 => ?_)
              ·
                have j937 : Iv 1 1 x895 := r_nelo h936 x895_h ik_0 (by decide)
                refine lv_iconst (v := 1) hx hb dX12_goesOn_60 (by decide) ?_
                refine lv_goto (tgt := 65) hx hb dX12_goesOn_61 (by decide) ?_
                refine lv_istore (lv' := [(6, .int 1), (7, .int x893), (5, .int x894), (4, .int x657), (3, .int x1), (0, .ref o1), (1, .int 3), (2, .int a2)]) hx hb dX12_goesOn_65 hl (by decide) rfl (fun ls hl => ?_)
                refine lv_iload hx hb dX12_goesOn_67 (lv_at hl 2 rfl) ?_
                refine lv_aload_n hx hb dX12_goesOn_69 rfl (lv_at hl 5 rfl) ?_
                refine va_get (D := (dC, dI)) (ci := 12) (v := .ref o6) (C := RX12) (T := TX12) (N := 29) hx hb hts iw_X12_goesOn_X12 hown hK hP 0 rfl rfl 3 (by decide) (hts (.fieldLink RX12 13 "HolelessHouseModel" "near" "[I") hm_X12_goesOn_3) (fun _ h9 => h9) rfl dX12_goesOn_70 ?_
                refine lv_iload hx hb dX12_goesOn_73 (lv_at hl 3 rfl) ?_
                refine va_iald hx hb hK hP 2 0 rfl rfl (vin_iv j660 (by decide)) dX12_goesOn_75 (lv_topi (fun x938 x938_e => ?_))
                have x938_h : Iv 0 4095 x938 := iv_e x938_e (bd_at fw7_b (vin_iv j660 (by decide)))
                refine lv_aload_n hx hb dX12_goesOn_76 rfl (lv_at hl 5 rfl) ?_
                refine va_get (D := (dC, dI)) (ci := 12) (v := .ref o11) (C := RX12) (T := TX12) (N := 29) hx hb hts iw_X12_goesOn_X12 hown hK hP 0 rfl rfl 6 (by decide) (hts (.fieldLink RX12 19 "HolelessHouseModel" "ring" "[I") hm_X12_goesOn_1) (fun _ h9 => h9) rfl dX12_goesOn_77 ?_
                refine lv_iload hx hb dX12_goesOn_80 (lv_at hl 1 rfl) ?_
                refine va_iald hx hb hK hP 1 0 rfl rfl (vin_iv j935 (by decide)) dX12_goesOn_82 (lv_topi (fun x939 x939_e => ?_))
                have x939_h : Iv 0 11 x939 := iv_e x939_e (bd_at f658_b (vin_iv j935 (by decide)))
                refine kc_i (D := (dC, dI)) (S := Unit) (wc := []) (wr := [(o1, .inr (12, [.int v2, .ref o3, .int v5, .ref o6, .int v8, .ref o9, .ref o11, .int v13, .ref o14, .int v16, .ref o17, .int v19, .int v20, .int v21, .ref o22, .ref o24, .ref o26, .ref o28, .ref o30, .int v32, .ref o33, .ref o35, .ref o37, .int v39, .ref o40, .ref o42, .ref o44, .int v46, .ref o47])), (o11, .inl (cI, 12, .inl f658)), (o6, .inl (cI, 12, .inl fw7))]) (w1 := fun _ => []) (wn := fun _ => [(o1, .inr (12, [.int v2, .ref o3, .int v5, .ref o6, .int v8, .ref o9, .ref o11, .int v13, .ref o14, .int v16, .ref o17, .int v19, .int v20, .int v21, .ref o22, .ref o24, .ref o26, .ref o28, .ref o30, .int v32, .ref o33, .ref o35, .ref o37, .int v39, .ref o40, .ref o42, .ref o44, .int v46, .ref o47])), (o11, .inl (cI, 12, .inl f658)), (o6, .inl (cI, 12, .inl fw7))]) (fun hPc hDc => va_runS (As := [.int x938, .int x939]) (rest := [.int x894]) ⟨hx, hb, hml, hown, hts⟩ (kX12_has_1 l dC dI cI c2 cZ x938 x939 H.size (iv_w x939_h (by decide))) (va_cwS 2 hts gX12_goesOn_X12_has rfl rfl rfl (by decide +kernel) ⟨Nat.le_of_ble_eq_true rfl, Nat.le_of_ble_eq_true rfl⟩) (pre_S hPc hK hDc hN) rfl rfl hl.1 rfl (lv_room (Nat.le_of_ble_eq_true rfl)) dX12_goesOn_83 ⟨Nat.le_of_ble_eq_true rfl, Nat.le_of_ble_eq_true rfl⟩) hP hD hS hA [] [0, 1, 2] [0, 1, 2] rfl rfl (by decide +kernel) (by decide +kernel) (by decide +kernel) (by decide +kernel) (fun _ => rfl) (fun x940 _ H locs hq hP hD hS => ?_)
                obtain ⟨x940_h, e941⟩ := hq
                have hP : va_P (dC, dI) vwCl ([(o1, .inr (12, [.int v2, .ref o3, .int v5, .ref o6, .int v8, .ref o9, .ref o11, .int v13, .ref o14, .int v16, .ref o17, .int v19, .int v20, .int v21, .ref o22, .ref o24, .ref o26, .ref o28, .ref o30, .int v32, .ref o33, .ref o35, .ref o37, .int v39, .ref o40, .ref o42, .ref o44, .int v46, .ref o47])), (o11, .inl (cI, 12, .inl f658)), (o6, .inl (cI, 12, .inl fw7))]) H := hP
                have hD : va_D A ([(o1, .inr (12, [.int v2, .ref o3, .int v5, .ref o6, .int v8, .ref o9, .ref o11, .int v13, .ref o14, .int v16, .ref o17, .int v19, .int v20, .int v21, .ref o22, .ref o24, .ref o26, .ref o28, .ref o30, .int v32, .ref o33, .ref o35, .ref o37, .int v39, .ref o40, .ref o42, .ref o44, .int v46, .ref o47])), (o11, .inl (cI, 12, .inl f658)), (o6, .inl (cI, 12, .inl fw7))]) := hD
                refine lv_if_eq (tgt := 96) hx hb dX12_goesOn_86 (by decide) (fun h942 => ?_) (fun h942 => ?_)
                ·
                  have j943 : Iv 0 0 x940 := r_eq h942 ik_0
                  have b944 : bt x938 (Int32.toNatClampNeg x939) = false := has_f e941 h942
                  refine lv_iconst (v := 0) hx hb dX12_goesOn_96 (by decide) ?_
                  refine lv_ior hx hb dX12_goesOn_97 (lv_topi (fun x945 x945_e => ?_))
                  have x945_h : Iv 0 31 x945 := iv_e x945_e (iv_or 5 x894_h ik_0 (by decide))
                  refine lv_istore (lv' := [(5, .int x945), (6, .int 1), (7, .int x893), (4, .int x657), (3, .int x1), (0, .ref o1), (1, .int 3), (2, .int a2)]) hx hb dX12_goesOn_98 hl (by decide) rfl (fun ls hl => ?_)
                  obtain ⟨x946, x946_e⟩ : ∃ z : Int32, z = x893 + 1 := ⟨_, rfl⟩
                  have x946_h : Iv 1 3 x946 := iv_e x946_e (iv_add j935 ik_1 (by decide))
                  refine lv_iinc (v := x946) (lv' := [(7, .int x946), (5, .int x945), (6, .int 1), (4, .int x657), (3, .int x1), (0, .ref o1), (1, .int 3), (2, .int a2)]) hx hb dX12_goesOn_100 hl (k := 2) rfl (incN (by decide +kernel) x946_e) (by decide) rfl (fun ls hl => ?_)
                  refine lv_goto (tgt := 37) hx hb dX12_goesOn_103 (by decide) ?_
                  exact ih4 x946 x945 1 _ _ _ (ms_up x946_e j935 (by decide) hM4) (iv_w x946_h (by decide)) x945_h (iv_w ik_1 (by decide)) hP hD hS (lv_sub hl [0, 2, 1, 3, 4, 5, 6, 7] rfl)
                ·
                  have j947 : Iv 1 1 x940 := r_nelo h942 x940_h ik_0 (by decide)
                  have b948 : bt x938 (Int32.toNatClampNeg x939) = true := has_t e941 h942
                  refine lv_iconst (v := 1) hx hb dX12_goesOn_89 (by decide) ?_
                  refine lv_iload hx hb dX12_goesOn_90 (lv_at hl 1 rfl) ?_
                  refine lv_ishl hx hb dX12_goesOn_92 (lv_topi (fun x949 x949_e => ?_))
                  have x949_h : Iv 1 4 x949 := iv_e x949_e (iv_shl1 j935 (by decide))
                  refine lv_goto (tgt := 97) hx hb dX12_goesOn_93 (by decide) ?_
                  refine lv_ior hx hb dX12_goesOn_97 (lv_topi (fun x950 x950_e => ?_))
                  have x950_h : Iv 0 31 x950 := iv_e x950_e (iv_or 5 x894_h x949_h (by decide))
                  refine lv_istore (lv' := [(5, .int x950), (6, .int 1), (7, .int x893), (4, .int x657), (3, .int x1), (0, .ref o1), (1, .int 3), (2, .int a2)]) hx hb dX12_goesOn_98 hl (by decide) rfl (fun ls hl => ?_)
                  obtain ⟨x951, x951_e⟩ : ∃ z : Int32, z = x893 + 1 := ⟨_, rfl⟩
                  have x951_h : Iv 1 3 x951 := iv_e x951_e (iv_add j935 ik_1 (by decide))
                  refine lv_iinc (v := x951) (lv' := [(7, .int x951), (5, .int x950), (6, .int 1), (4, .int x657), (3, .int x1), (0, .ref o1), (1, .int 3), (2, .int a2)]) hx hb dX12_goesOn_100 hl (k := 2) rfl (incN (by decide +kernel) x951_e) (by decide) rfl (fun ls hl => ?_)
                  refine lv_goto (tgt := 37) hx hb dX12_goesOn_103 (by decide) ?_
                  exact ih4 x951 x950 1 _ _ _ (ms_up x951_e j935 (by decide) hM4) (iv_w x951_h (by decide)) x950_h (iv_w ik_1 (by decide)) hP hD hS (lv_sub hl [0, 2, 1, 3, 4, 5, 6, 7] rfl)
              ·
                have j952 : Iv 0 0 x895 := r_eq h936 ik_0
                refine lv_aload_n hx hb dX12_goesOn_48 rfl (lv_at hl 5 rfl) ?_
                refine va_get (D := (dC, dI)) (ci := 12) (v := .ref o11) (C := RX12) (T := TX12) (N := 29) hx hb hts iw_X12_goesOn_X12 hown hK hP 0 rfl rfl 6 (by decide) (hts (.fieldLink RX12 19 "HolelessHouseModel" "ring" "[I") hm_X12_goesOn_1) (fun _ h9 => h9) rfl dX12_goesOn_49 ?_
                refine lv_iload hx hb dX12_goesOn_52 (lv_at hl 0 rfl) ?_
                refine va_iald hx hb hK hP 1 0 rfl rfl (vin_iv j935 (by decide)) dX12_goesOn_54 (lv_topi (fun x953 x953_e => ?_))
                have x953_h : Iv 0 11 x953 := iv_e x953_e (bd_at f658_b (vin_iv j935 (by decide)))
                refine lv_iload hx hb dX12_goesOn_55 (lv_at hl 3 rfl) ?_
                refine lv_icmp_ne (tgt := 64) hx hb dX12_goesOn_57 (by decide) (fun h954 => ?_) (fun h954 => ?_)
                ·
                  refine lv_iconst (v := 0) hx hb dX12_goesOn_64 (by decide) ?_
                  refine lv_istore (lv' := [(6, .int 0), (7, .int x893), (5, .int x894), (4, .int x657), (3, .int x1), (0, .ref o1), (1, .int 3), (2, .int a2)]) hx hb dX12_goesOn_65 hl (by decide) rfl (fun ls hl => ?_)
                  refine lv_iload hx hb dX12_goesOn_67 (lv_at hl 2 rfl) ?_
                  refine lv_aload_n hx hb dX12_goesOn_69 rfl (lv_at hl 5 rfl) ?_
                  refine va_get (D := (dC, dI)) (ci := 12) (v := .ref o6) (C := RX12) (T := TX12) (N := 29) hx hb hts iw_X12_goesOn_X12 hown hK hP 0 rfl rfl 3 (by decide) (hts (.fieldLink RX12 13 "HolelessHouseModel" "near" "[I") hm_X12_goesOn_3) (fun _ h9 => h9) rfl dX12_goesOn_70 ?_
                  refine lv_iload hx hb dX12_goesOn_73 (lv_at hl 3 rfl) ?_
                  refine va_iald hx hb hK hP 2 0 rfl rfl (vin_iv j660 (by decide)) dX12_goesOn_75 (lv_topi (fun x955 x955_e => ?_))
                  have x955_h : Iv 0 4095 x955 := iv_e x955_e (bd_at fw7_b (vin_iv j660 (by decide)))
                  refine lv_aload_n hx hb dX12_goesOn_76 rfl (lv_at hl 5 rfl) ?_
                  refine va_get (D := (dC, dI)) (ci := 12) (v := .ref o11) (C := RX12) (T := TX12) (N := 29) hx hb hts iw_X12_goesOn_X12 hown hK hP 0 rfl rfl 6 (by decide) (hts (.fieldLink RX12 19 "HolelessHouseModel" "ring" "[I") hm_X12_goesOn_1) (fun _ h9 => h9) rfl dX12_goesOn_77 ?_
                  refine lv_iload hx hb dX12_goesOn_80 (lv_at hl 1 rfl) ?_
                  refine va_iald hx hb hK hP 1 0 rfl rfl (vin_iv j935 (by decide)) dX12_goesOn_82 (lv_topi (fun x956 x956_e => ?_))
                  have x956_h : Iv 0 11 x956 := iv_e x956_e (bd_at f658_b (vin_iv j935 (by decide)))
                  refine kc_i (D := (dC, dI)) (S := Unit) (wc := []) (wr := [(o1, .inr (12, [.int v2, .ref o3, .int v5, .ref o6, .int v8, .ref o9, .ref o11, .int v13, .ref o14, .int v16, .ref o17, .int v19, .int v20, .int v21, .ref o22, .ref o24, .ref o26, .ref o28, .ref o30, .int v32, .ref o33, .ref o35, .ref o37, .int v39, .ref o40, .ref o42, .ref o44, .int v46, .ref o47])), (o11, .inl (cI, 12, .inl f658)), (o6, .inl (cI, 12, .inl fw7))]) (w1 := fun _ => []) (wn := fun _ => [(o1, .inr (12, [.int v2, .ref o3, .int v5, .ref o6, .int v8, .ref o9, .ref o11, .int v13, .ref o14, .int v16, .ref o17, .int v19, .int v20, .int v21, .ref o22, .ref o24, .ref o26, .ref o28, .ref o30, .int v32, .ref o33, .ref o35, .ref o37, .int v39, .ref o40, .ref o42, .ref o44, .int v46, .ref o47])), (o11, .inl (cI, 12, .inl f658)), (o6, .inl (cI, 12, .inl fw7))]) (fun hPc hDc => va_runS (As := [.int x955, .int x956]) (rest := [.int x894]) ⟨hx, hb, hml, hown, hts⟩ (kX12_has_1 l dC dI cI c2 cZ x955 x956 H.size (iv_w x956_h (by decide))) (va_cwS 2 hts gX12_goesOn_X12_has rfl rfl rfl (by decide +kernel) ⟨Nat.le_of_ble_eq_true rfl, Nat.le_of_ble_eq_true rfl⟩) (pre_S hPc hK hDc hN) rfl rfl hl.1 rfl (lv_room (Nat.le_of_ble_eq_true rfl)) dX12_goesOn_83 ⟨Nat.le_of_ble_eq_true rfl, Nat.le_of_ble_eq_true rfl⟩) hP hD hS hA [] [0, 1, 2] [0, 1, 2] rfl rfl (by decide +kernel) (by decide +kernel) (by decide +kernel) (by decide +kernel) (fun _ => rfl) (fun x957 _ H locs hq hP hD hS => ?_)
                  obtain ⟨x957_h, e958⟩ := hq
                  have hP : va_P (dC, dI) vwCl ([(o1, .inr (12, [.int v2, .ref o3, .int v5, .ref o6, .int v8, .ref o9, .ref o11, .int v13, .ref o14, .int v16, .ref o17, .int v19, .int v20, .int v21, .ref o22, .ref o24, .ref o26, .ref o28, .ref o30, .int v32, .ref o33, .ref o35, .ref o37, .int v39, .ref o40, .ref o42, .ref o44, .int v46, .ref o47])), (o11, .inl (cI, 12, .inl f658)), (o6, .inl (cI, 12, .inl fw7))]) H := hP
                  have hD : va_D A ([(o1, .inr (12, [.int v2, .ref o3, .int v5, .ref o6, .int v8, .ref o9, .ref o11, .int v13, .ref o14, .int v16, .ref o17, .int v19, .int v20, .int v21, .ref o22, .ref o24, .ref o26, .ref o28, .ref o30, .int v32, .ref o33, .ref o35, .ref o37, .int v39, .ref o40, .ref o42, .ref o44, .int v46, .ref o47])), (o11, .inl (cI, 12, .inl f658)), (o6, .inl (cI, 12, .inl fw7))]) := hD
                  refine lv_if_eq (tgt := 96) hx hb dX12_goesOn_86 (by decide) (fun h959 => ?_) (fun h959 => ?_)
                  ·
                    have j960 : Iv 0 0 x957 := r_eq h959 ik_0
                    have b961 : bt x955 (Int32.toNatClampNeg x956) = false := has_f e958 h959
                    refine lv_iconst (v := 0) hx hb dX12_goesOn_96 (by decide) ?_
                    refine lv_ior hx hb dX12_goesOn_97 (lv_topi (fun x962 x962_e => ?_))
                    have x962_h : Iv 0 31 x962 := iv_e x962_e (iv_or 5 x894_h ik_0 (by decide))
                    refine lv_istore (lv' := [(5, .int x962), (6, .int 0), (7, .int x893), (4, .int x657), (3, .int x1), (0, .ref o1), (1, .int 3), (2, .int a2)]) hx hb dX12_goesOn_98 hl (by decide) rfl (fun ls hl => ?_)
                    obtain ⟨x963, x963_e⟩ : ∃ z : Int32, z = x893 + 1 := ⟨_, rfl⟩
                    have x963_h : Iv 1 3 x963 := iv_e x963_e (iv_add j935 ik_1 (by decide))
                    refine lv_iinc (v := x963) (lv' := [(7, .int x963), (5, .int x962), (6, .int 0), (4, .int x657), (3, .int x1), (0, .ref o1), (1, .int 3), (2, .int a2)]) hx hb dX12_goesOn_100 hl (k := 2) rfl (incN (by decide +kernel) x963_e) (by decide) rfl (fun ls hl => ?_)
                    refine lv_goto (tgt := 37) hx hb dX12_goesOn_103 (by decide) ?_
                    exact ih4 x963 x962 0 _ _ _ (ms_up x963_e j935 (by decide) hM4) (iv_w x963_h (by decide)) x962_h (iv_w ik_0 (by decide)) hP hD hS (lv_sub hl [0, 2, 1, 3, 4, 5, 6, 7] rfl)
                  ·
                    have j964 : Iv 1 1 x957 := r_nelo h959 x957_h ik_0 (by decide)
                    have b965 : bt x955 (Int32.toNatClampNeg x956) = true := has_t e958 h959
                    refine lv_iconst (v := 1) hx hb dX12_goesOn_89 (by decide) ?_
                    refine lv_iload hx hb dX12_goesOn_90 (lv_at hl 1 rfl) ?_
                    refine lv_ishl hx hb dX12_goesOn_92 (lv_topi (fun x966 x966_e => ?_))
                    have x966_h : Iv 1 4 x966 := iv_e x966_e (iv_shl1 j935 (by decide))
                    refine lv_goto (tgt := 97) hx hb dX12_goesOn_93 (by decide) ?_
                    refine lv_ior hx hb dX12_goesOn_97 (lv_topi (fun x967 x967_e => ?_))
                    have x967_h : Iv 0 31 x967 := iv_e x967_e (iv_or 5 x894_h x966_h (by decide))
                    refine lv_istore (lv' := [(5, .int x967), (6, .int 0), (7, .int x893), (4, .int x657), (3, .int x1), (0, .ref o1), (1, .int 3), (2, .int a2)]) hx hb dX12_goesOn_98 hl (by decide) rfl (fun ls hl => ?_)
                    obtain ⟨x968, x968_e⟩ : ∃ z : Int32, z = x893 + 1 := ⟨_, rfl⟩
                    have x968_h : Iv 1 3 x968 := iv_e x968_e (iv_add j935 ik_1 (by decide))
                    refine lv_iinc (v := x968) (lv' := [(7, .int x968), (5, .int x967), (6, .int 0), (4, .int x657), (3, .int x1), (0, .ref o1), (1, .int 3), (2, .int a2)]) hx hb dX12_goesOn_100 hl (k := 2) rfl (incN (by decide +kernel) x968_e) (by decide) rfl (fun ls hl => ?_)
                    refine lv_goto (tgt := 37) hx hb dX12_goesOn_103 (by decide) ?_
                    exact ih4 x968 x967 0 _ _ _ (ms_up x968_e j935 (by decide) hM4) (iv_w x968_h (by decide)) x967_h (iv_w ik_0 (by decide)) hP hD hS (lv_sub hl [0, 2, 1, 3, 4, 5, 6, 7] rfl)
                ·
                  have j969 : Iv 1 11 x953 := r_eq h954 j660
                  refine lv_iconst (v := 1) hx hb dX12_goesOn_60 (by decide) ?_
                  refine lv_goto (tgt := 65) hx hb dX12_goesOn_61 (by decide) ?_
                  refine lv_istore (lv' := [(6, .int 1), (7, .int x893), (5, .int x894), (4, .int x657), (3, .int x1), (0, .ref o1), (1, .int 3), (2, .int a2)]) hx hb dX12_goesOn_65 hl (by decide) rfl (fun ls hl => ?_)
                  refine lv_iload hx hb dX12_goesOn_67 (lv_at hl 2 rfl) ?_
                  refine lv_aload_n hx hb dX12_goesOn_69 rfl (lv_at hl 5 rfl) ?_
                  refine va_get (D := (dC, dI)) (ci := 12) (v := .ref o6) (C := RX12) (T := TX12) (N := 29) hx hb hts iw_X12_goesOn_X12 hown hK hP 0 rfl rfl 3 (by decide) (hts (.fieldLink RX12 13 "HolelessHouseModel" "near" "[I") hm_X12_goesOn_3) (fun _ h9 => h9) rfl dX12_goesOn_70 ?_
                  refine lv_iload hx hb dX12_goesOn_73 (lv_at hl 3 rfl) ?_
                  refine va_iald hx hb hK hP 2 0 rfl rfl (vin_iv j660 (by decide)) dX12_goesOn_75 (lv_topi (fun x970 x970_e => ?_))
                  have x970_h : Iv 0 4095 x970 := iv_e x970_e (bd_at fw7_b (vin_iv j660 (by decide)))
                  refine lv_aload_n hx hb dX12_goesOn_76 rfl (lv_at hl 5 rfl) ?_
                  refine va_get (D := (dC, dI)) (ci := 12) (v := .ref o11) (C := RX12) (T := TX12) (N := 29) hx hb hts iw_X12_goesOn_X12 hown hK hP 0 rfl rfl 6 (by decide) (hts (.fieldLink RX12 19 "HolelessHouseModel" "ring" "[I") hm_X12_goesOn_1) (fun _ h9 => h9) rfl dX12_goesOn_77 ?_
                  refine lv_iload hx hb dX12_goesOn_80 (lv_at hl 1 rfl) ?_
                  refine va_iald hx hb hK hP 1 0 rfl rfl (vin_iv j935 (by decide)) dX12_goesOn_82 (lv_topi (fun x971 x971_e => ?_))
                  have x971_h : Iv 1 11 x971 := iv_e (x971_e.trans x953_e.symm) j969
                  refine kc_i (D := (dC, dI)) (S := Unit) (wc := []) (wr := [(o1, .inr (12, [.int v2, .ref o3, .int v5, .ref o6, .int v8, .ref o9, .ref o11, .int v13, .ref o14, .int v16, .ref o17, .int v19, .int v20, .int v21, .ref o22, .ref o24, .ref o26, .ref o28, .ref o30, .int v32, .ref o33, .ref o35, .ref o37, .int v39, .ref o40, .ref o42, .ref o44, .int v46, .ref o47])), (o11, .inl (cI, 12, .inl f658)), (o6, .inl (cI, 12, .inl fw7))]) (w1 := fun _ => []) (wn := fun _ => [(o1, .inr (12, [.int v2, .ref o3, .int v5, .ref o6, .int v8, .ref o9, .ref o11, .int v13, .ref o14, .int v16, .ref o17, .int v19, .int v20, .int v21, .ref o22, .ref o24, .ref o26, .ref o28, .ref o30, .int v32, .ref o33, .ref o35, .ref o37, .int v39, .ref o40, .ref o42, .ref o44, .int v46, .ref o47])), (o11, .inl (cI, 12, .inl f658)), (o6, .inl (cI, 12, .inl fw7))]) (fun hPc hDc => va_runS (As := [.int x970, .int x971]) (rest := [.int x894]) ⟨hx, hb, hml, hown, hts⟩ (kX12_has_1 l dC dI cI c2 cZ x970 x971 H.size (iv_w x971_h (by decide))) (va_cwS 2 hts gX12_goesOn_X12_has rfl rfl rfl (by decide +kernel) ⟨Nat.le_of_ble_eq_true rfl, Nat.le_of_ble_eq_true rfl⟩) (pre_S hPc hK hDc hN) rfl rfl hl.1 rfl (lv_room (Nat.le_of_ble_eq_true rfl)) dX12_goesOn_83 ⟨Nat.le_of_ble_eq_true rfl, Nat.le_of_ble_eq_true rfl⟩) hP hD hS hA [] [0, 1, 2] [0, 1, 2] rfl rfl (by decide +kernel) (by decide +kernel) (by decide +kernel) (by decide +kernel) (fun _ => rfl) (fun x972 _ H locs hq hP hD hS => ?_)
                  obtain ⟨x972_h, e973⟩ := hq
                  have hP : va_P (dC, dI) vwCl ([(o1, .inr (12, [.int v2, .ref o3, .int v5, .ref o6, .int v8, .ref o9, .ref o11, .int v13, .ref o14, .int v16, .ref o17, .int v19, .int v20, .int v21, .ref o22, .ref o24, .ref o26, .ref o28, .ref o30, .int v32, .ref o33, .ref o35, .ref o37, .int v39, .ref o40, .ref o42, .ref o44, .int v46, .ref o47])), (o11, .inl (cI, 12, .inl f658)), (o6, .inl (cI, 12, .inl fw7))]) H := hP
                  have hD : va_D A ([(o1, .inr (12, [.int v2, .ref o3, .int v5, .ref o6, .int v8, .ref o9, .ref o11, .int v13, .ref o14, .int v16, .ref o17, .int v19, .int v20, .int v21, .ref o22, .ref o24, .ref o26, .ref o28, .ref o30, .int v32, .ref o33, .ref o35, .ref o37, .int v39, .ref o40, .ref o42, .ref o44, .int v46, .ref o47])), (o11, .inl (cI, 12, .inl f658)), (o6, .inl (cI, 12, .inl fw7))]) := hD
                  refine lv_if_eq (tgt := 96) hx hb dX12_goesOn_86 (by decide) (fun h974 => ?_) (fun h974 => ?_)
                  ·
                    have j975 : Iv 0 0 x972 := r_eq h974 ik_0
                    have b976 : bt x970 (Int32.toNatClampNeg x971) = false := has_f e973 h974
                    refine lv_iconst (v := 0) hx hb dX12_goesOn_96 (by decide) ?_
                    refine lv_ior hx hb dX12_goesOn_97 (lv_topi (fun x977 x977_e => ?_))
                    have x977_h : Iv 0 31 x977 := iv_e x977_e (iv_or 5 x894_h ik_0 (by decide))
                    refine lv_istore (lv' := [(5, .int x977), (6, .int 1), (7, .int x893), (4, .int x657), (3, .int x1), (0, .ref o1), (1, .int 3), (2, .int a2)]) hx hb dX12_goesOn_98 hl (by decide) rfl (fun ls hl => ?_)
                    obtain ⟨x978, x978_e⟩ : ∃ z : Int32, z = x893 + 1 := ⟨_, rfl⟩
                    have x978_h : Iv 1 3 x978 := iv_e x978_e (iv_add j935 ik_1 (by decide))
                    refine lv_iinc (v := x978) (lv' := [(7, .int x978), (5, .int x977), (6, .int 1), (4, .int x657), (3, .int x1), (0, .ref o1), (1, .int 3), (2, .int a2)]) hx hb dX12_goesOn_100 hl (k := 2) rfl (incN (by decide +kernel) x978_e) (by decide) rfl (fun ls hl => ?_)
                    refine lv_goto (tgt := 37) hx hb dX12_goesOn_103 (by decide) ?_
                    exact ih4 x978 x977 1 _ _ _ (ms_up x978_e j935 (by decide) hM4) (iv_w x978_h (by decide)) x977_h (iv_w ik_1 (by decide)) hP hD hS (lv_sub hl [0, 2, 1, 3, 4, 5, 6, 7] rfl)
                  ·
                    have j979 : Iv 1 1 x972 := r_nelo h974 x972_h ik_0 (by decide)
                    have b980 : bt x970 (Int32.toNatClampNeg x971) = true := has_t e973 h974
                    refine lv_iconst (v := 1) hx hb dX12_goesOn_89 (by decide) ?_
                    refine lv_iload hx hb dX12_goesOn_90 (lv_at hl 1 rfl) ?_
                    refine lv_ishl hx hb dX12_goesOn_92 (lv_topi (fun x981 x981_e => ?_))
                    have x981_h : Iv 1 4 x981 := iv_e x981_e (iv_shl1 j935 (by decide))
                    refine lv_goto (tgt := 97) hx hb dX12_goesOn_93 (by decide) ?_
                    refine lv_ior hx hb dX12_goesOn_97 (lv_topi (fun x982 x982_e => ?_))
                    have x982_h : Iv 0 31 x982 := iv_e x982_e (iv_or 5 x894_h x981_h (by decide))
                    refine lv_istore (lv' := [(5, .int x982), (6, .int 1), (7, .int x893), (4, .int x657), (3, .int x1), (0, .ref o1), (1, .int 3), (2, .int a2)]) hx hb dX12_goesOn_98 hl (by decide) rfl (fun ls hl => ?_)
                    obtain ⟨x983, x983_e⟩ : ∃ z : Int32, z = x893 + 1 := ⟨_, rfl⟩
                    have x983_h : Iv 1 3 x983 := iv_e x983_e (iv_add j935 ik_1 (by decide))
                    refine lv_iinc (v := x983) (lv' := [(7, .int x983), (5, .int x982), (6, .int 1), (4, .int x657), (3, .int x1), (0, .ref o1), (1, .int 3), (2, .int a2)]) hx hb dX12_goesOn_100 hl (k := 2) rfl (incN (by decide +kernel) x983_e) (by decide) rfl (fun ls hl => ?_)
                    refine lv_goto (tgt := 37) hx hb dX12_goesOn_103 (by decide) ?_
                    exact ih4 x983 x982 1 _ _ _ (ms_up x983_e j935 (by decide) hM4) (iv_w x983_h (by decide)) x982_h (iv_w ik_1 (by decide)) hP hD hS (lv_sub hl [0, 2, 1, 3, 4, 5, 6, 7] rfl)
        exact L4 _ 0 0 0 _ _ _ (Nat.lt_succ_self _) (iv_w ik_0 (by decide)) (iv_w ik_0 (by decide)) (iv_w ik_0 (by decide)) hP hD hS hl
  exact L3 _ x3 fw12 _ _ _ (Nat.lt_succ_self _) x3_h fw12_b hP hD hS hl
set_option maxHeartbeats 4000000 in
set_option maxRecDepth 100000 in
theorem kX12_goesOn_10 (l : Launch) (dC : Nat → ClassId) (dI : Nat → Nat → Nat) (cI c2 cZ : ClassId) (o1 : Nat) (o3 : Nat) (o6 : Nat) (o9 : Nat) (o11 : Nat) (o14 : Nat) (o17 : Nat) (o22 : Nat) (o24 : Nat) (o26 : Nat) (o28 : Nat) (o30 : Nat) (o33 : Nat) (o35 : Nat) (o37 : Nat) (o40 : Nat) (o42 : Nat) (o44 : Nat) (o47 : Nat) (v2 : Int32) (v5 : Int32) (fw7 : Nat → Int32) (v8 : Int32) (fw12 : Nat → Int32) (v13 : Int32) (v16 : Int32) (v19 : Int32) (v20 : Int32) (v21 : Int32) (v32 : Int32) (v39 : Int32) (v46 : Int32) (a2 : Int32) (sz : Nat) (v5_h : Iv 0 12 v5) (fw7_b : Bd 12 0 4095 fw7) (v8_h : Iv 0 8 v8) (fw12_b : Bd 12 0 11 fw12) (v13_h : Iv 0 12 v13) (v16_h : Iv 0 12 v16) (v19_h : Iv (-9) 12 v19) (v32_h : Iv 0 99 v32) (v39_h : Iv 0 12 v39) (v46_h : Iv 0 12 v46) (a2_h : Iv 4 12 a2) : Met l yX12_goesOn wsX12_goesOn ({ frames := 10, cells := 0, slots := 0, locals := 264 }) (va_Pc [.ref o1, .int 2, .int a2] (wPre (dC, dI) [(cI, .int), (c2, .array .int), (cZ, .boolean)] ([(o1, .inr (12, [.int v2, .ref o3, .int v5, .ref o6, .int v8, .ref o9, .ref o11, .int v13, .ref o14, .int v16, .ref o17, .int v19, .int v20, .int v21, .ref o22, .ref o24, .ref o26, .ref o28, .ref o30, .int v32, .ref o33, .ref o35, .ref o37, .int v39, .ref o40, .ref o42, .ref o44, .int v46, .ref o47])), (o11, .inl (cI, 12, .inl fw12)), (o6, .inl (cI, 12, .inl fw7))]) sz)) (va_Qi (fun (r : Int32) (u : (Nat → Int32)) => Iv 0 1 r ∧ Bd 12 0 11 u) (fun u t => wPost (dC, dI) [(cI, .int), (c2, .array .int), (cZ, .boolean)] (va_A ([(o1, .inr (12, [.int v2, .ref o3, .int v5, .ref o6, .int v8, .ref o9, .ref o11, .int v13, .ref o14, .int v16, .ref o17, .int v19, .int v20, .int v21, .ref o22, .ref o24, .ref o26, .ref o28, .ref o30, .int v32, .ref o33, .ref o35, .ref o37, .int v39, .ref o40, .ref o42, .ref o44, .int v46, .ref o47])), (o11, .inl (cI, 12, .inl fw12)), (o6, .inl (cI, 12, .inl fw7))]) sz) ([(o1, .inr (12, [.int v2, .ref o3, .int v5, .ref o6, .int v8, .ref o9, .ref o11, .int v13, .ref o14, .int v16, .ref o17, .int v19, .int v20, .int v21, .ref o22, .ref o24, .ref o26, .ref o28, .ref o30, .int v32, .ref o33, .ref o35, .ref o37, .int v39, .ref o40, .ref o42, .ref o44, .int v46, .ref o47])), (o11, .inl (cI, 12, .inl u)), (o6, .inl (cI, 12, .inl fw7))]) t) (va_A ([(o1, .inr (12, [.int v2, .ref o3, .int v5, .ref o6, .int v8, .ref o9, .ref o11, .int v13, .ref o14, .int v16, .ref o17, .int v19, .int v20, .int v21, .ref o22, .ref o24, .ref o26, .ref o28, .ref o30, .int v32, .ref o33, .ref o35, .ref o37, .int v39, .ref o40, .ref o42, .ref o44, .int v46, .ref o47])), (o11, .inl (cI, 12, .inl fw12)), (o6, .inl (cI, 12, .inl fw7))]) sz)) 0 0 (va_A ([(o1, .inr (12, [.int v2, .ref o3, .int v5, .ref o6, .int v8, .ref o9, .ref o11, .int v13, .ref o14, .int v16, .ref o17, .int v19, .int v20, .int v21, .ref o22, .ref o24, .ref o26, .ref o28, .ref o30, .int v32, .ref o33, .ref o35, .ref o37, .int v39, .ref o40, .ref o42, .ref o44, .int v46, .ref o47])), (o11, .inl (cI, 12, .inl fw12)), (o6, .inl (cI, 12, .inl fw7))]) sz) := by
  refine Met.ofW (cc := cX12_goesOn) (maxL := 8) (ret := (some .boolean)) (by decide) rfl ?_
  intro p e s m args below meth c s₁ B hml hv
  obtain ⟨rfl, hsz, hP, hK, hD0, hN⟩ := hv
  have hx := B.exec
  have hb := B.bytes
  have hr := B.returns
  have hts := atoms_spec (ws := wsX12_goesOn) B.pre
  have hown : s.vm.findClass RX12 = some m.cls := findClass_of_methodNamed B.named
  have hlocks := B.notSynchronized
  subst hsz
  have hD := hD0.self (sz := s.heap.size)
  generalize hAe : va_A ([(o1, .inr (12, [.int v2, .ref o3, .int v5, .ref o6, .int v8, .ref o9, .ref o11, .int v13, .ref o14, .int v16, .ref o17, .int v19, .int v20, .int v21, .ref o22, .ref o24, .ref o26, .ref o28, .ref o30, .int v32, .ref o33, .ref o35, .ref o37, .int v39, .ref o40, .ref o42, .ref o44, .int v46, .ref o47])), (o11, .inl (cI, 12, .inl fw12)), (o6, .inl (cI, 12, .inl fw7))]) s.heap.size = A at hD ⊢
  have hA : ∀ q : Nat, s.heap.size ≤ q → A q := fun q h => by rw [← hAe]; exact Or.inr h
  have hS : va_S A s.heap s.heap [] := va_S.rf
  have hP : va_P (dC, dI) vwCl ([(o1, .inr (12, [.int v2, .ref o3, .int v5, .ref o6, .int v8, .ref o9, .ref o11, .int v13, .ref o14, .int v16, .ref o17, .int v19, .int v20, .int v21, .ref o22, .ref o24, .ref o26, .ref o28, .ref o30, .int v32, .ref o33, .ref o35, .ref o37, .int v39, .ref o40, .ref o42, .ref o44, .int v46, .ref o47])), (o11, .inl (cI, 12, .inl fw12)), (o6, .inl (cI, 12, .inl fw7))]) s.heap := hP
  have hl := lv_entry ([.ref o1, .int 2, .int a2]) (n := 8) (Nat.le_of_ble_eq_true rfl)
  rw [lg_entry_eq]
  generalize (lg_sl ([.ref o1, .int 2, .int a2]) ++ List.replicate (8 - (lg_sl ([.ref o1, .int 2, .int a2])).length) Slot.unset).toArray = ls at hl ⊢
  have hl : lv_has ls 8 [(0, .ref o1), (1, .int 2), (2, .int a2)] := hl
  refine gen_Q (fun Q hQ => ?_)
  refine lv_aload_n hx hb dX12_goesOn_0 rfl (lv_at hl 0 rfl) ?_
  refine va_get (D := (dC, dI)) (ci := 12) (v := .ref o11) (C := RX12) (T := TX12) (N := 29) hx hb hts iw_X12_goesOn_X12 hown hK hP 0 rfl rfl 6 (by decide) (hts (.fieldLink RX12 19 "HolelessHouseModel" "ring" "[I") hm_X12_goesOn_1) (fun _ h9 => h9) rfl dX12_goesOn_1 ?_
  refine lv_iload_n hx hb dX12_goesOn_4 rfl (lv_at hl 1 rfl) ?_
  refine lv_iconst (v := 1) hx hb dX12_goesOn_5 (by decide) ?_
  refine lv_isub hx hb dX12_goesOn_6 (tk_i (v := 1) (by decide +kernel) ?_)
  refine va_iald hx hb hK hP 1 0 rfl rfl (vin_iv ik_1 (by decide)) dX12_goesOn_7 (lv_topi (fun x1 x1_e => ?_))
  have x1_h : Iv 0 11 x1 := iv_e x1_e (bd_at fw12_b (vin_iv ik_1 (by decide)))
  refine lv_istore_n (lv' := [(3, .int x1), (0, .ref o1), (1, .int 2), (2, .int a2)]) hx hb dX12_goesOn_8 rfl hl (by decide) rfl (fun ls hl => ?_)
  refine lv_aload_n hx hb dX12_goesOn_9 rfl (lv_at hl 1 rfl) ?_
  refine va_get (D := (dC, dI)) (ci := 12) (v := .ref o11) (C := RX12) (T := TX12) (N := 29) hx hb hts iw_X12_goesOn_X12 hown hK hP 0 rfl rfl 6 (by decide) (hts (.fieldLink RX12 19 "HolelessHouseModel" "ring" "[I") hm_X12_goesOn_1) (fun _ h9 => h9) rfl dX12_goesOn_10 ?_
  refine lv_iconst (v := 0) hx hb dX12_goesOn_13 (by decide) ?_
  refine va_iald hx hb hK hP 1 0 rfl rfl (vin_iv ik_0 (by decide)) dX12_goesOn_14 (lv_topi (fun x2 x2_e => ?_))
  have x2_h : Iv 0 11 x2 := iv_e x2_e (bd_at fw12_b (vin_iv ik_0 (by decide)))
  refine lv_iconst (v := 1) hx hb dX12_goesOn_15 (by decide) ?_
  refine lv_iadd hx hb dX12_goesOn_16 (lv_topi (fun x3 x3_e => ?_))
  have x3_h : Iv 1 12 x3 := iv_e x3_e (iv_add x2_h ik_1 (by decide))
  refine lv_istore (lv' := [(4, .int x3), (3, .int x1), (0, .ref o1), (1, .int 2), (2, .int a2)]) hx hb dX12_goesOn_17 hl (by decide) rfl (fun ls hl => ?_)
  have L3 : ∀ (N : Nat) (x406 : Int32) (f407 : Nat → Int32) (H : Heap) (locs : List Loc) (ls : Array Slot), (12 - x406.toInt).toNat < N → Iv 1 12 x406 → Bd 12 0 11 f407 → va_P (dC, dI) vwCl ([(o1, .inr (12, [.int v2, .ref o3, .int v5, .ref o6, .int v8, .ref o9, .ref o11, .int v13, .ref o14, .int v16, .ref o17, .int v19, .int v20, .int v21, .ref o22, .ref o24, .ref o26, .ref o28, .ref o30, .int v32, .ref o33, .ref o35, .ref o37, .int v39, .ref o40, .ref o42, .ref o44, .int v46, .ref o47])), (o11, .inl (cI, 12, .inl f407)), (o6, .inl (cI, 12, .inl fw7))]) H → va_D A ([(o1, .inr (12, [.int v2, .ref o3, .int v5, .ref o6, .int v8, .ref o9, .ref o11, .int v13, .ref o14, .int v16, .ref o17, .int v19, .int v20, .int v21, .ref o22, .ref o24, .ref o26, .ref o28, .ref o30, .int v32, .ref o33, .ref o35, .ref o37, .int v39, .ref o40, .ref o42, .ref o44, .int v46, .ref o47])), (o11, .inl (cI, 12, .inl f407)), (o6, .inl (cI, 12, .inl fw7))]) → va_S A s.heap H locs → lv_has ls 8 [(4, .int x406), (3, .int x1), (0, .ref o1), (1, .int 2), (2, .int a2)] → W p l e ({ frames := 10, cells := 0, slots := 0, locals := 264 }) s m ([.ref o1, .int 2, .int a2] : List Value).toArray below meth c H locs 0 0 Q (F0 m 19 ls []) := by
    intro N
    induction N with
    | zero =>
      intro x406 f407 H locs ls hM
      exact absurd hM (Nat.not_lt_zero _)
    | succ N ih3 =>
      intro x406 f407 H locs ls hM3 x406_h f407_b hP hD hS hl
      refine lv_iload hx hb dX12_goesOn_19 (lv_at hl 0 rfl) ?_
      refine lv_aload_n hx hb dX12_goesOn_21 rfl (lv_at hl 2 rfl) ?_
      refine va_get (D := (dC, dI)) (ci := 12) (v := .int v5) (C := RX12) (T := TX12) (N := 29) hx hb hts iw_X12_goesOn_X12 hown hK hP 0 rfl rfl 2 (by decide) (hts (.fieldLink RX12 73 "HolelessHouseModel" "n" "I") hm_X12_goesOn_2) (fun _ h9 => h9) rfl dX12_goesOn_22 ?_
      refine lv_icmp_ge (tgt := 193) hx hb dX12_goesOn_25 (by decide) (fun h408 => ?_) (fun h408 => ?_)
      ·
        have qh408 := le_i h408
        refine lv_iload_n hx hb dX12_goesOn_193 rfl (lv_at hl 1 rfl) ?_
        refine lv_if_ge (tgt := 201) hx hb dX12_goesOn_194 (by decide) (fun _ => ?_) (fun h9 => absurd (d_le ik_0 x1_h (by decide)) h9)
        refine lv_iconst (v := 0) hx hb dX12_goesOn_201 (by decide) ?_
        rw [hQ]
        exact W.zret (v := 0) (ty := .boolean) hx hb hr rfl (fun t ht hW => ⟨⟨0, f407, rfl, ⟨(iv_w ik_0 (by decide)), f407_b⟩, by rw [ht]; exact hP, va_K.moved hW.alike hK, hD⟩, hS.F ht⟩) hS.2.2 dX12_goesOn_202
      ·
        have qh408 := nle_i h408
        have j409 : Iv 1 11 x406 := r_ltl qh408 x406_h v5_h (by decide)
        have j410 : Iv 2 12 v5 := r_ltr qh408 x406_h v5_h (by decide)
        refine lv_iconst (v := 0) hx hb dX12_goesOn_28 (by decide) ?_
        refine lv_istore (lv' := [(5, .int 0), (4, .int x406), (3, .int x1), (0, .ref o1), (1, .int 2), (2, .int a2)]) hx hb dX12_goesOn_29 hl (by decide) rfl (fun ls hl => ?_)
        refine lv_iconst (v := 0) hx hb dX12_goesOn_31 (by decide) ?_
        refine lv_istore (lv' := [(6, .int 0), (5, .int 0), (4, .int x406), (3, .int x1), (0, .ref o1), (1, .int 2), (2, .int a2)]) hx hb dX12_goesOn_32 hl (by decide) rfl (fun ls hl => ?_)
        refine lv_iconst (v := 0) hx hb dX12_goesOn_34 (by decide) ?_
        refine lv_istore (lv' := [(7, .int 0), (6, .int 0), (5, .int 0), (4, .int x406), (3, .int x1), (0, .ref o1), (1, .int 2), (2, .int a2)]) hx hb dX12_goesOn_35 hl (by decide) rfl (fun ls hl => ?_)
        have L4 : ∀ (N : Nat) (x537 : Int32) (x538 : Int32) (x539 : Int32) (H : Heap) (locs : List Loc) (ls : Array Slot), (2 - x537.toInt).toNat < N → Iv 0 2 x537 → Iv 0 3 x538 → Iv 0 1 x539 → va_P (dC, dI) vwCl ([(o1, .inr (12, [.int v2, .ref o3, .int v5, .ref o6, .int v8, .ref o9, .ref o11, .int v13, .ref o14, .int v16, .ref o17, .int v19, .int v20, .int v21, .ref o22, .ref o24, .ref o26, .ref o28, .ref o30, .int v32, .ref o33, .ref o35, .ref o37, .int v39, .ref o40, .ref o42, .ref o44, .int v46, .ref o47])), (o11, .inl (cI, 12, .inl f407)), (o6, .inl (cI, 12, .inl fw7))]) H → va_D A ([(o1, .inr (12, [.int v2, .ref o3, .int v5, .ref o6, .int v8, .ref o9, .ref o11, .int v13, .ref o14, .int v16, .ref o17, .int v19, .int v20, .int v21, .ref o22, .ref o24, .ref o26, .ref o28, .ref o30, .int v32, .ref o33, .ref o35, .ref o37, .int v39, .ref o40, .ref o42, .ref o44, .int v46, .ref o47])), (o11, .inl (cI, 12, .inl f407)), (o6, .inl (cI, 12, .inl fw7))]) → va_S A s.heap H locs → lv_has ls 8 [(7, .int x537), (6, .int x539), (5, .int x538), (4, .int x406), (3, .int x1), (0, .ref o1), (1, .int 2), (2, .int a2)] → W p l e ({ frames := 10, cells := 0, slots := 0, locals := 264 }) s m ([.ref o1, .int 2, .int a2] : List Value).toArray below meth c H locs 0 0 Q (F0 m 37 ls []) := by
          intro N
          induction N with
          | zero =>
            intro x537 x538 x539 H locs ls hM
            exact absurd hM (Nat.not_lt_zero _)
          | succ N ih4 =>
            intro x537 x538 x539 H locs ls hM4 x537_h x538_h x539_h hP hD hS hl
            refine lv_iload hx hb dX12_goesOn_37 (lv_at hl 0 rfl) ?_
            refine lv_iload_n hx hb dX12_goesOn_39 rfl (lv_at hl 6 rfl) ?_
            refine lv_icmp_ge (tgt := 106) hx hb dX12_goesOn_40 (by decide) (fun h540 => ?_) (fun h540 => ?_)
            ·
              have qh540 := le_i h540
              have j541 : Iv 2 2 x537 := r_ler qh540 ik_2 x537_h (by decide)
              refine lv_iconst (v := 1) hx hb dX12_goesOn_106 (by decide) ?_
              refine lv_iload_n hx hb dX12_goesOn_107 rfl (lv_at hl 6 rfl) ?_
              refine lv_iconst (v := 1) hx hb dX12_goesOn_108 (by decide) ?_
              refine lv_isub hx hb dX12_goesOn_109 (tk_i (v := 1) (by decide +kernel) ?_)
              refine lv_ishl hx hb dX12_goesOn_110 (tk_i (v := 2) (by decide +kernel) ?_)
              refine lv_iload_n hx hb dX12_goesOn_111 rfl (lv_at hl 6 rfl) ?_
              refine lv_iload_n hx hb dX12_goesOn_112 rfl (lv_at hl 7 rfl) ?_
              refine lv_iconst (v := 1) hx hb dX12_goesOn_113 (by decide) ?_
              refine lv_isub hx hb dX12_goesOn_114 (lv_topi (fun x542 x542_e => ?_))
              have x542_h : Iv 3 11 x542 := iv_e x542_e (iv_sub a2_h ik_1 (by decide))
              refine lv_icmp_ne (tgt := 122) hx hb dX12_goesOn_115 (by decide) (fun _ => ?_) (fun h9 => absurd h9 (d_ne ik_2 x542_h (by decide)))
              refine lv_iconst (v := 0) hx hb dX12_goesOn_122 (by decide) ?_
              refine lv_ior hx hb dX12_goesOn_123 (tk_i (v := 2) (by decide +kernel) ?_)
              refine lv_istore (lv' := [(7, .int 2), (6, .int x539), (5, .int x538), (4, .int x406), (3, .int x1), (0, .ref o1), (1, .int 2), (2, .int a2)]) hx hb dX12_goesOn_124 hl (by decide) rfl (fun ls hl => ?_)
              refine lv_iload hx hb dX12_goesOn_126 (lv_at hl 1 rfl) ?_
              refine lv_if_ne (tgt := 187) hx hb dX12_goesOn_128 (by decide) (fun h543 => ?_) (fun h543 => ?_)
              ·
                have j544 : Iv 1 1 x539 := r_nelo h543 x539_h ik_0 (by decide)
                obtain ⟨x545, x545_e⟩ : ∃ z : Int32, z = x406 + 1 := ⟨_, rfl⟩
                have x545_h : Iv 2 12 x545 := iv_e x545_e (iv_add j409 ik_1 (by decide))
                refine lv_iinc (v := x545) (lv' := [(4, .int x545), (7, .int 2), (6, .int x539), (5, .int x538), (3, .int x1), (0, .ref o1), (1, .int 2), (2, .int a2)]) hx hb dX12_goesOn_187 hl (k := 3) rfl (incN (by decide +kernel) x545_e) (by decide) rfl (fun ls hl => ?_)
                refine lv_goto (tgt := 19) hx hb dX12_goesOn_190 (by decide) ?_
                exact ih3 x545 f407 _ _ _ (ms_up x545_e j409 (by decide) hM3) (iv_w x545_h (by decide)) f407_b hP hD hS (lv_sub hl [0, 4, 5, 6, 7] rfl)
              ·
                have j546 : Iv 0 0 x539 := r_eq h543 ik_0
                refine lv_iload hx hb dX12_goesOn_131 (lv_at hl 2 rfl) ?_
                refine lv_iload hx hb dX12_goesOn_133 (lv_at hl 0 rfl) ?_
                refine lv_icmp_ne (tgt := 187) hx hb dX12_goesOn_135 (by decide) (fun h547 => ?_) (fun h547 => ?_)
                ·
                  obtain ⟨x548, x548_e⟩ : ∃ z : Int32, z = x406 + 1 := ⟨_, rfl⟩
                  have x548_h : Iv 2 12 x548 := iv_e x548_e (iv_add j409 ik_1 (by decide))
                  refine lv_iinc (v := x548) (lv' := [(4, .int x548), (7, .int 2), (6, .int x539), (5, .int x538), (3, .int x1), (0, .ref o1), (1, .int 2), (2, .int a2)]) hx hb dX12_goesOn_187 hl (k := 3) rfl (incN (by decide +kernel) x548_e) (by decide) rfl (fun ls hl => ?_)
                  refine lv_goto (tgt := 19) hx hb dX12_goesOn_190 (by decide) ?_
                  exact ih3 x548 f407 _ _ _ (ms_up x548_e j409 (by decide) hM3) (iv_w x548_h (by decide)) f407_b hP hD hS (lv_sub hl [0, 4, 5, 6, 7] rfl)
                ·
                  have j549 : Iv 2 2 x538 := r_eq h547 ik_2
                  refine lv_iload_n hx hb dX12_goesOn_138 rfl (lv_at hl 6 rfl) ?_
                  refine lv_iload_n hx hb dX12_goesOn_139 rfl (lv_at hl 7 rfl) ?_
                  refine lv_iconst (v := 1) hx hb dX12_goesOn_140 (by decide) ?_
                  refine lv_isub hx hb dX12_goesOn_141 (lv_topi (fun x550 x550_e => ?_))
                  have x550_h : Iv 3 11 x550 := iv_e x550_e (iv_sub a2_h ik_1 (by decide))
                  refine lv_icmp_ne (tgt := 159) hx hb dX12_goesOn_142 (by decide) (fun _ => ?_) (fun h9 => absurd h9 (d_ne ik_2 x550_h (by decide)))
                  refine lv_aload_n hx hb dX12_goesOn_159 rfl (lv_at hl 5 rfl) ?_
                  refine va_get (D := (dC, dI)) (ci := 12) (v := .ref o11) (C := RX12) (T := TX12) (N := 29) hx hb hts iw_X12_goesOn_X12 hown hK hP 0 rfl rfl 6 (by decide) (hts (.fieldLink RX12 19 "HolelessHouseModel" "ring" "[I") hm_X12_goesOn_1) (fun _ h9 => h9) rfl dX12_goesOn_160 ?_
                  refine lv_iload_n hx hb dX12_goesOn_163 rfl (lv_at hl 6 rfl) ?_
                  refine lv_iload hx hb dX12_goesOn_164 (lv_at hl 3 rfl) ?_
                  refine k_iast hx hb hK hP hD hS 1 0 rfl rfl (vin_iv ik_2 (by decide)) dX12_goesOn_166 (fun f551 H locs f551_e hP hD hS => ?_)
                  have f551_b : Bd 12 0 11 f551 := bd_upd f551_e f407_b j409 (by decide)
                  have hP : va_P (dC, dI) vwCl ([(o1, .inr (12, [.int v2, .ref o3, .int v5, .ref o6, .int v8, .ref o9, .ref o11, .int v13, .ref o14, .int v16, .ref o17, .int v19, .int v20, .int v21, .ref o22, .ref o24, .ref o26, .ref o28, .ref o30, .int v32, .ref o33, .ref o35, .ref o37, .int v39, .ref o40, .ref o42, .ref o44, .int v46, .ref o47])), (o11, .inl (cI, 12, .inl f551)), (o6, .inl (cI, 12, .inl fw7))]) H := hP
                  have hD : va_D A ([(o1, .inr (12, [.int v2, .ref o3, .int v5, .ref o6, .int v8, .ref o9, .ref o11, .int v13, .ref o14, .int v16, .ref o17, .int v19, .int v20, .int v21, .ref o22, .ref o24, .ref o26, .ref o28, .ref o30, .int v32, .ref o33, .ref o35, .ref o37, .int v39, .ref o40, .ref o42, .ref o44, .int v46, .ref o47])), (o11, .inl (cI, 12, .inl f551)), (o6, .inl (cI, 12, .inl fw7))]) := hD
                  refine lv_iload_n hx hb dX12_goesOn_167 rfl (lv_at hl 6 rfl) ?_
                  refine lv_iload_n hx hb dX12_goesOn_168 rfl (lv_at hl 7 rfl) ?_
                  refine lv_iconst (v := 1) hx hb dX12_goesOn_169 (by decide) ?_
                  refine lv_isub hx hb dX12_goesOn_170 (lv_topi (fun x552 x552_e => ?_))
                  have x552_h : Iv 3 11 x552 := iv_e x552_e (iv_sub a2_h ik_1 (by decide))
                  refine lv_icmp_eq (tgt := 185) hx hb dX12_goesOn_171 (by decide) (fun h9 => absurd h9 (d_ne ik_2 x552_h (by decide))) (fun _ => ?_)
                  refine lv_aload_n hx hb dX12_goesOn_174 rfl (lv_at hl 5 rfl) ?_
                  refine lv_iload_n hx hb dX12_goesOn_175 rfl (lv_at hl 6 rfl) ?_
                  refine lv_iconst (v := 1) hx hb dX12_goesOn_176 (by decide) ?_
                  refine lv_iadd hx hb dX12_goesOn_177 (tk_i (v := 3) (by decide +kernel) ?_)
                  refine lv_iload_n hx hb dX12_goesOn_178 rfl (lv_at hl 7 rfl) ?_
                  refine kc_i (D := (dC, dI)) (S := (Nat → Int32)) (wc := [(o1, .inr (12, [.int v2, .ref o3, .int v5, .ref o6, .int v8, .ref o9, .ref o11, .int v13, .ref o14, .int v16, .ref o17, .int v19, .int v20, .int v21, .ref o22, .ref o24, .ref o26, .ref o28, .ref o30, .int v32, .ref o33, .ref o35, .ref o37, .int v39, .ref o40, .ref o42, .ref o44, .int v46, .ref o47])), (o11, .inl (cI, 12, .inl f551)), (o6, .inl (cI, 12, .inl fw7))]) (wr := []) (w1 := fun u => [(o1, .inr (12, [.int v2, .ref o3, .int v5, .ref o6, .int v8, .ref o9, .ref o11, .int v13, .ref o14, .int v16, .ref o17, .int v19, .int v20, .int v21, .ref o22, .ref o24, .ref o26, .ref o28, .ref o30, .int v32, .ref o33, .ref o35, .ref o37, .int v39, .ref o40, .ref o42, .ref o44, .int v46, .ref o47])), (o11, .inl (cI, 12, .inl u)), (o6, .inl (cI, 12, .inl fw7))]) (wn := fun u => [(o1, .inr (12, [.int v2, .ref o3, .int v5, .ref o6, .int v8, .ref o9, .ref o11, .int v13, .ref o14, .int v16, .ref o17, .int v19, .int v20, .int v21, .ref o22, .ref o24, .ref o26, .ref o28, .ref o30, .int v32, .ref o33, .ref o35, .ref o37, .int v39, .ref o40, .ref o42, .ref o44, .int v46, .ref o47])), (o11, .inl (cI, 12, .inl u)), (o6, .inl (cI, 12, .inl fw7))]) (fun hPc hDc => va_runV (As := [.int 3, .int a2]) (rest := []) ⟨hx, hb, hml, hown, hts⟩ (kX12_goesOn_9 l dC dI cI c2 cZ o1 o3 o6 o9 o11 o14 o17 o22 o24 o26 o28 o30 o33 o35 o37 o40 o42 o44 o47 v2 v5 fw7 v8 f551 v13 v16 v19 v20 v21 v32 v39 v46 a2 H.size (iv_w j410 (by decide)) fw7_b v8_h f551_b v13_h v16_h v19_h v32_h v39_h v46_h a2_h) (cwV 2 hts gX12_goesOn_X12_goesOn rfl rfl rfl (by decide +kernel) ⟨Nat.le_of_ble_eq_true rfl, Nat.le_of_ble_eq_true rfl⟩) (pre_V hPc hK hDc hN (ci := 12) (q0 := 0) rfl rfl) rfl rfl hl.1 rfl (lv_room (Nat.le_of_ble_eq_true rfl)) dX12_goesOn_179 ⟨Nat.le_of_ble_eq_true rfl, Nat.le_of_ble_eq_true rfl⟩) hP hD hS hA [0, 1, 2] [] [0, 1, 2] rfl rfl (by decide +kernel) (by decide +kernel) (by decide +kernel) (by decide +kernel) (fun _ => rfl) (fun x554 f553 H locs hq hP hD hS => ?_)
                  obtain ⟨x554_h, f553_b⟩ := hq
                  have hP : va_P (dC, dI) vwCl ([(o1, .inr (12, [.int v2, .ref o3, .int v5, .ref o6, .int v8, .ref o9, .ref o11, .int v13, .ref o14, .int v16, .ref o17, .int v19, .int v20, .int v21, .ref o22, .ref o24, .ref o26, .ref o28, .ref o30, .int v32, .ref o33, .ref o35, .ref o37, .int v39, .ref o40, .ref o42, .ref o44, .int v46, .ref o47])), (o11, .inl (cI, 12, .inl f553)), (o6, .inl (cI, 12, .inl fw7))]) H := hP
                  have hD : va_D A ([(o1, .inr (12, [.int v2, .ref o3, .int v5, .ref o6, .int v8, .ref o9, .ref o11, .int v13, .ref o14, .int v16, .ref o17, .int v19, .int v20, .int v21, .ref o22, .ref o24, .ref o26, .ref o28, .ref o30, .int v32, .ref o33, .ref o35, .ref o37, .int v39, .ref o40, .ref o42, .ref o44, .int v46, .ref o47])), (o11, .inl (cI, 12, .inl f553)), (o6, .inl (cI, 12, .inl fw7))]) := hD
                  refine lv_if_eq (tgt := 187) hx hb dX12_goesOn_182 (by decide) (fun h555 => ?_) (fun h555 => ?_)
                  ·
                    have j556 : Iv 0 0 x554 := r_eq h555 ik_0
                    obtain ⟨x557, x557_e⟩ : ∃ z : Int32, z = x406 + 1 := ⟨_, rfl⟩
                    have x557_h : Iv 2 12 x557 := iv_e x557_e (iv_add j409 ik_1 (by decide))
                    refine lv_iinc (v := x557) (lv' := [(4, .int x557), (7, .int 2), (6, .int x539), (5, .int x538), (3, .int x1), (0, .ref o1), (1, .int 2), (2, .int a2)]) hx hb dX12_goesOn_187 hl (k := 3) rfl (incN (by decide +kernel) x557_e) (by decide) rfl (fun ls hl => ?_)
                    refine lv_goto (tgt := 19) hx hb dX12_goesOn_190 (by decide) ?_
                    exact ih3 x557 f553 _ _ _ (ms_up x557_e j409 (by decide) hM3) (iv_w x557_h (by decide)) f553_b hP hD hS (lv_sub hl [0, 4, 5, 6, 7] rfl)
                  ·
                    have j558 : Iv 1 1 x554 := r_nelo h555 x554_h ik_0 (by decide)
                    refine lv_iconst (v := 1) hx hb dX12_goesOn_185 (by decide) ?_
                    rw [hQ]
                    exact W.zret (v := 1) (ty := .boolean) hx hb hr rfl (fun t ht hW => ⟨⟨1, f553, rfl, ⟨(iv_w ik_1 (by decide)), f553_b⟩, by rw [ht]; exact hP, va_K.moved hW.alike hK, hD⟩, hS.F ht⟩) hS.2.2 dX12_goesOn_186
            ·
              have qh540 := nle_i h540
              have j559 : Iv 0 1 x537 := r_ltl qh540 x537_h ik_2 (by decide)
              refine lv_iload hx hb dX12_goesOn_43 (lv_at hl 1 rfl) ?_
              refine lv_if_ne (tgt := 60) hx hb dX12_goesOn_45 (by decide) (fun h560 => ?_) (fun h560 => ?_)
              ·
                have j561 : Iv 1 1 x539 := r_nelo h560 x539_h ik_0 (by decide)
                refine lv_iconst (v := 1) hx hb dX12_goesOn_60 (by decide) ?_
                refine lv_goto (tgt := 65) hx hb dX12_goesOn_61 (by decide) ?_
                refine lv_istore (lv' := [(6, .int 1), (7, .int x537), (5, .int x538), (4, .int x406), (3, .int x1), (0, .ref o1), (1, .int 2), (2, .int a2)]) hx hb dX12_goesOn_65 hl (by decide) rfl (fun ls hl => ?_)
                refine lv_iload hx hb dX12_goesOn_67 (lv_at hl 2 rfl) ?_
                refine lv_aload_n hx hb dX12_goesOn_69 rfl (lv_at hl 5 rfl) ?_
                refine va_get (D := (dC, dI)) (ci := 12) (v := .ref o6) (C := RX12) (T := TX12) (N := 29) hx hb hts iw_X12_goesOn_X12 hown hK hP 0 rfl rfl 3 (by decide) (hts (.fieldLink RX12 13 "HolelessHouseModel" "near" "[I") hm_X12_goesOn_3) (fun _ h9 => h9) rfl dX12_goesOn_70 ?_
                refine lv_iload hx hb dX12_goesOn_73 (lv_at hl 3 rfl) ?_
                refine va_iald hx hb hK hP 2 0 rfl rfl (vin_iv j409 (by decide)) dX12_goesOn_75 (lv_topi (fun x562 x562_e => ?_))
                have x562_h : Iv 0 4095 x562 := iv_e x562_e (bd_at fw7_b (vin_iv j409 (by decide)))
                refine lv_aload_n hx hb dX12_goesOn_76 rfl (lv_at hl 5 rfl) ?_
                refine va_get (D := (dC, dI)) (ci := 12) (v := .ref o11) (C := RX12) (T := TX12) (N := 29) hx hb hts iw_X12_goesOn_X12 hown hK hP 0 rfl rfl 6 (by decide) (hts (.fieldLink RX12 19 "HolelessHouseModel" "ring" "[I") hm_X12_goesOn_1) (fun _ h9 => h9) rfl dX12_goesOn_77 ?_
                refine lv_iload hx hb dX12_goesOn_80 (lv_at hl 1 rfl) ?_
                refine va_iald hx hb hK hP 1 0 rfl rfl (vin_iv j559 (by decide)) dX12_goesOn_82 (lv_topi (fun x563 x563_e => ?_))
                have x563_h : Iv 0 11 x563 := iv_e x563_e (bd_at f407_b (vin_iv j559 (by decide)))
                refine kc_i (D := (dC, dI)) (S := Unit) (wc := []) (wr := [(o1, .inr (12, [.int v2, .ref o3, .int v5, .ref o6, .int v8, .ref o9, .ref o11, .int v13, .ref o14, .int v16, .ref o17, .int v19, .int v20, .int v21, .ref o22, .ref o24, .ref o26, .ref o28, .ref o30, .int v32, .ref o33, .ref o35, .ref o37, .int v39, .ref o40, .ref o42, .ref o44, .int v46, .ref o47])), (o11, .inl (cI, 12, .inl f407)), (o6, .inl (cI, 12, .inl fw7))]) (w1 := fun _ => []) (wn := fun _ => [(o1, .inr (12, [.int v2, .ref o3, .int v5, .ref o6, .int v8, .ref o9, .ref o11, .int v13, .ref o14, .int v16, .ref o17, .int v19, .int v20, .int v21, .ref o22, .ref o24, .ref o26, .ref o28, .ref o30, .int v32, .ref o33, .ref o35, .ref o37, .int v39, .ref o40, .ref o42, .ref o44, .int v46, .ref o47])), (o11, .inl (cI, 12, .inl f407)), (o6, .inl (cI, 12, .inl fw7))]) (fun hPc hDc => va_runS (As := [.int x562, .int x563]) (rest := [.int x538]) ⟨hx, hb, hml, hown, hts⟩ (kX12_has_1 l dC dI cI c2 cZ x562 x563 H.size (iv_w x563_h (by decide))) (va_cwS 2 hts gX12_goesOn_X12_has rfl rfl rfl (by decide +kernel) ⟨Nat.le_of_ble_eq_true rfl, Nat.le_of_ble_eq_true rfl⟩) (pre_S hPc hK hDc hN) rfl rfl hl.1 rfl (lv_room (Nat.le_of_ble_eq_true rfl)) dX12_goesOn_83 ⟨Nat.le_of_ble_eq_true rfl, Nat.le_of_ble_eq_true rfl⟩) hP hD hS hA [] [0, 1, 2] [0, 1, 2] rfl rfl (by decide +kernel) (by decide +kernel) (by decide +kernel) (by decide +kernel) (fun _ => rfl) (fun x564 _ H locs hq hP hD hS => ?_)
                obtain ⟨x564_h, e565⟩ := hq
                have hP : va_P (dC, dI) vwCl ([(o1, .inr (12, [.int v2, .ref o3, .int v5, .ref o6, .int v8, .ref o9, .ref o11, .int v13, .ref o14, .int v16, .ref o17, .int v19, .int v20, .int v21, .ref o22, .ref o24, .ref o26, .ref o28, .ref o30, .int v32, .ref o33, .ref o35, .ref o37, .int v39, .ref o40, .ref o42, .ref o44, .int v46, .ref o47])), (o11, .inl (cI, 12, .inl f407)), (o6, .inl (cI, 12, .inl fw7))]) H := hP
                have hD : va_D A ([(o1, .inr (12, [.int v2, .ref o3, .int v5, .ref o6, .int v8, .ref o9, .ref o11, .int v13, .ref o14, .int v16, .ref o17, .int v19, .int v20, .int v21, .ref o22, .ref o24, .ref o26, .ref o28, .ref o30, .int v32, .ref o33, .ref o35, .ref o37, .int v39, .ref o40, .ref o42, .ref o44, .int v46, .ref o47])), (o11, .inl (cI, 12, .inl f407)), (o6, .inl (cI, 12, .inl fw7))]) := hD
                refine lv_if_eq (tgt := 96) hx hb dX12_goesOn_86 (by decide) (fun h566 => ?_) (fun h566 => ?_)
                ·
                  have j567 : Iv 0 0 x564 := r_eq h566 ik_0
                  have b568 : bt x562 (Int32.toNatClampNeg x563) = false := has_f e565 h566
                  refine lv_iconst (v := 0) hx hb dX12_goesOn_96 (by decide) ?_
                  refine lv_ior hx hb dX12_goesOn_97 (lv_topi (fun x569 x569_e => ?_))
                  have x569_h : Iv 0 3 x569 := iv_e x569_e (iv_or 2 x538_h ik_0 (by decide))
                  refine lv_istore (lv' := [(5, .int x569), (6, .int 1), (7, .int x537), (4, .int x406), (3, .int x1), (0, .ref o1), (1, .int 2), (2, .int a2)]) hx hb dX12_goesOn_98 hl (by decide) rfl (fun ls hl => ?_)
                  obtain ⟨x570, x570_e⟩ : ∃ z : Int32, z = x537 + 1 := ⟨_, rfl⟩
                  have x570_h : Iv 1 2 x570 := iv_e x570_e (iv_add j559 ik_1 (by decide))
                  refine lv_iinc (v := x570) (lv' := [(7, .int x570), (5, .int x569), (6, .int 1), (4, .int x406), (3, .int x1), (0, .ref o1), (1, .int 2), (2, .int a2)]) hx hb dX12_goesOn_100 hl (k := 2) rfl (incN (by decide +kernel) x570_e) (by decide) rfl (fun ls hl => ?_)
                  refine lv_goto (tgt := 37) hx hb dX12_goesOn_103 (by decide) ?_
                  exact ih4 x570 x569 1 _ _ _ (ms_up x570_e j559 (by decide) hM4) (iv_w x570_h (by decide)) x569_h (iv_w ik_1 (by decide)) hP hD hS (lv_sub hl [0, 2, 1, 3, 4, 5, 6, 7] rfl)
                ·
                  have j571 : Iv 1 1 x564 := r_nelo h566 x564_h ik_0 (by decide)
                  have b572 : bt x562 (Int32.toNatClampNeg x563) = true := has_t e565 h566
                  refine lv_iconst (v := 1) hx hb dX12_goesOn_89 (by decide) ?_
                  refine lv_iload hx hb dX12_goesOn_90 (lv_at hl 1 rfl) ?_
                  refine lv_ishl hx hb dX12_goesOn_92 (lv_topi (fun x573 x573_e => ?_))
                  have x573_h : Iv 1 2 x573 := iv_e x573_e (iv_shl1 j559 (by decide))
                  refine lv_goto (tgt := 97) hx hb dX12_goesOn_93 (by decide) ?_
                  refine lv_ior hx hb dX12_goesOn_97 (lv_topi (fun x574 x574_e => ?_))
                  have x574_h : Iv 0 3 x574 := iv_e x574_e (iv_or 2 x538_h x573_h (by decide))
                  refine lv_istore (lv' := [(5, .int x574), (6, .int 1), (7, .int x537), (4, .int x406), (3, .int x1), (0, .ref o1), (1, .int 2), (2, .int a2)]) hx hb dX12_goesOn_98 hl (by decide) rfl (fun ls hl => ?_)
                  obtain ⟨x575, x575_e⟩ : ∃ z : Int32, z = x537 + 1 := ⟨_, rfl⟩
                  have x575_h : Iv 1 2 x575 := iv_e x575_e (iv_add j559 ik_1 (by decide))
                  refine lv_iinc (v := x575) (lv' := [(7, .int x575), (5, .int x574), (6, .int 1), (4, .int x406), (3, .int x1), (0, .ref o1), (1, .int 2), (2, .int a2)]) hx hb dX12_goesOn_100 hl (k := 2) rfl (incN (by decide +kernel) x575_e) (by decide) rfl (fun ls hl => ?_)
                  refine lv_goto (tgt := 37) hx hb dX12_goesOn_103 (by decide) ?_
                  exact ih4 x575 x574 1 _ _ _ (ms_up x575_e j559 (by decide) hM4) (iv_w x575_h (by decide)) x574_h (iv_w ik_1 (by decide)) hP hD hS (lv_sub hl [0, 2, 1, 3, 4, 5, 6, 7] rfl)
              ·
                have j576 : Iv 0 0 x539 := r_eq h560 ik_0
                refine lv_aload_n hx hb dX12_goesOn_48 rfl (lv_at hl 5 rfl) ?_
                refine va_get (D := (dC, dI)) (ci := 12) (v := .ref o11) (C := RX12) (T := TX12) (N := 29) hx hb hts iw_X12_goesOn_X12 hown hK hP 0 rfl rfl 6 (by decide) (hts (.fieldLink RX12 19 "HolelessHouseModel" "ring" "[I") hm_X12_goesOn_1) (fun _ h9 => h9) rfl dX12_goesOn_49 ?_
                refine lv_iload hx hb dX12_goesOn_52 (lv_at hl 0 rfl) ?_
                refine va_iald hx hb hK hP 1 0 rfl rfl (vin_iv j559 (by decide)) dX12_goesOn_54 (lv_topi (fun x577 x577_e => ?_))
                have x577_h : Iv 0 11 x577 := iv_e x577_e (bd_at f407_b (vin_iv j559 (by decide)))
                refine lv_iload hx hb dX12_goesOn_55 (lv_at hl 3 rfl) ?_
                refine lv_icmp_ne (tgt := 64) hx hb dX12_goesOn_57 (by decide) (fun h578 => ?_) (fun h578 => ?_)
                ·
                  refine lv_iconst (v := 0) hx hb dX12_goesOn_64 (by decide) ?_
                  refine lv_istore (lv' := [(6, .int 0), (7, .int x537), (5, .int x538), (4, .int x406), (3, .int x1), (0, .ref o1), (1, .int 2), (2, .int a2)]) hx hb dX12_goesOn_65 hl (by decide) rfl (fun ls hl => ?_)
                  refine lv_iload hx hb dX12_goesOn_67 (lv_at hl 2 rfl) ?_
                  refine lv_aload_n hx hb dX12_goesOn_69 rfl (lv_at hl 5 rfl) ?_
                  refine va_get (D := (dC, dI)) (ci := 12) (v := .ref o6) (C := RX12) (T := TX12) (N := 29) hx hb hts iw_X12_goesOn_X12 hown hK hP 0 rfl rfl 3 (by decide) (hts (.fieldLink RX12 13 "HolelessHouseModel" "near" "[I") hm_X12_goesOn_3) (fun _ h9 => h9) rfl dX12_goesOn_70 ?_
                  refine lv_iload hx hb dX12_goesOn_73 (lv_at hl 3 rfl) ?_
                  refine va_iald hx hb hK hP 2 0 rfl rfl (vin_iv j409 (by decide)) dX12_goesOn_75 (lv_topi (fun x579 x579_e => ?_))
                  have x579_h : Iv 0 4095 x579 := iv_e x579_e (bd_at fw7_b (vin_iv j409 (by decide)))
                  refine lv_aload_n hx hb dX12_goesOn_76 rfl (lv_at hl 5 rfl) ?_
                  refine va_get (D := (dC, dI)) (ci := 12) (v := .ref o11) (C := RX12) (T := TX12) (N := 29) hx hb hts iw_X12_goesOn_X12 hown hK hP 0 rfl rfl 6 (by decide) (hts (.fieldLink RX12 19 "HolelessHouseModel" "ring" "[I") hm_X12_goesOn_1) (fun _ h9 => h9) rfl dX12_goesOn_77 ?_
                  refine lv_iload hx hb dX12_goesOn_80 (lv_at hl 1 rfl) ?_
                  refine va_iald hx hb hK hP 1 0 rfl rfl (vin_iv j559 (by decide)) dX12_goesOn_82 (lv_topi (fun x580 x580_e => ?_))
                  have x580_h : Iv 0 11 x580 := iv_e x580_e (bd_at f407_b (vin_iv j559 (by decide)))
                  refine kc_i (D := (dC, dI)) (S := Unit) (wc := []) (wr := [(o1, .inr (12, [.int v2, .ref o3, .int v5, .ref o6, .int v8, .ref o9, .ref o11, .int v13, .ref o14, .int v16, .ref o17, .int v19, .int v20, .int v21, .ref o22, .ref o24, .ref o26, .ref o28, .ref o30, .int v32, .ref o33, .ref o35, .ref o37, .int v39, .ref o40, .ref o42, .ref o44, .int v46, .ref o47])), (o11, .inl (cI, 12, .inl f407)), (o6, .inl (cI, 12, .inl fw7))]) (w1 := fun _ => []) (wn := fun _ => [(o1, .inr (12, [.int v2, .ref o3, .int v5, .ref o6, .int v8, .ref o9, .ref o11, .int v13, .ref o14, .int v16, .ref o17, .int v19, .int v20, .int v21, .ref o22, .ref o24, .ref o26, .ref o28, .ref o30, .int v32, .ref o33, .ref o35, .ref o37, .int v39, .ref o40, .ref o42, .ref o44, .int v46, .ref o47])), (o11, .inl (cI, 12, .inl f407)), (o6, .inl (cI, 12, .inl fw7))]) (fun hPc hDc => va_runS (As := [.int x579, .int x580]) (rest := [.int x538]) ⟨hx, hb, hml, hown, hts⟩ (kX12_has_1 l dC dI cI c2 cZ x579 x580 H.size (iv_w x580_h (by decide))) (va_cwS 2 hts gX12_goesOn_X12_has rfl rfl rfl (by decide +kernel) ⟨Nat.le_of_ble_eq_true rfl, Nat.le_of_ble_eq_true rfl⟩) (pre_S hPc hK hDc hN) rfl rfl hl.1 rfl (lv_room (Nat.le_of_ble_eq_true rfl)) dX12_goesOn_83 ⟨Nat.le_of_ble_eq_true rfl, Nat.le_of_ble_eq_true rfl⟩) hP hD hS hA [] [0, 1, 2] [0, 1, 2] rfl rfl (by decide +kernel) (by decide +kernel) (by decide +kernel) (by decide +kernel) (fun _ => rfl) (fun x581 _ H locs hq hP hD hS => ?_)
                  obtain ⟨x581_h, e582⟩ := hq
                  have hP : va_P (dC, dI) vwCl ([(o1, .inr (12, [.int v2, .ref o3, .int v5, .ref o6, .int v8, .ref o9, .ref o11, .int v13, .ref o14, .int v16, .ref o17, .int v19, .int v20, .int v21, .ref o22, .ref o24, .ref o26, .ref o28, .ref o30, .int v32, .ref o33, .ref o35, .ref o37, .int v39, .ref o40, .ref o42, .ref o44, .int v46, .ref o47])), (o11, .inl (cI, 12, .inl f407)), (o6, .inl (cI, 12, .inl fw7))]) H := hP
                  have hD : va_D A ([(o1, .inr (12, [.int v2, .ref o3, .int v5, .ref o6, .int v8, .ref o9, .ref o11, .int v13, .ref o14, .int v16, .ref o17, .int v19, .int v20, .int v21, .ref o22, .ref o24, .ref o26, .ref o28, .ref o30, .int v32, .ref o33, .ref o35, .ref o37, .int v39, .ref o40, .ref o42, .ref o44, .int v46, .ref o47])), (o11, .inl (cI, 12, .inl f407)), (o6, .inl (cI, 12, .inl fw7))]) := hD
                  refine lv_if_eq (tgt := 96) hx hb dX12_goesOn_86 (by decide) (fun h583 => ?_) (fun h583 => ?_)
                  ·
                    have j584 : Iv 0 0 x581 := r_eq h583 ik_0
                    have b585 : bt x579 (Int32.toNatClampNeg x580) = false := has_f e582 h583
                    refine lv_iconst (v := 0) hx hb dX12_goesOn_96 (by decide) ?_
                    refine lv_ior hx hb dX12_goesOn_97 (lv_topi (fun x586 x586_e => ?_))
                    have x586_h : Iv 0 3 x586 := iv_e x586_e (iv_or 2 x538_h ik_0 (by decide))
                    refine lv_istore (lv' := [(5, .int x586), (6, .int 0), (7, .int x537), (4, .int x406), (3, .int x1), (0, .ref o1), (1, .int 2), (2, .int a2)]) hx hb dX12_goesOn_98 hl (by decide) rfl (fun ls hl => ?_)
                    obtain ⟨x587, x587_e⟩ : ∃ z : Int32, z = x537 + 1 := ⟨_, rfl⟩
                    have x587_h : Iv 1 2 x587 := iv_e x587_e (iv_add j559 ik_1 (by decide))
                    refine lv_iinc (v := x587) (lv' := [(7, .int x587), (5, .int x586), (6, .int 0), (4, .int x406), (3, .int x1), (0, .ref o1), (1, .int 2), (2, .int a2)]) hx hb dX12_goesOn_100 hl (k := 2) rfl (incN (by decide +kernel) x587_e) (by decide) rfl (fun ls hl => ?_)
                    refine lv_goto (tgt := 37) hx hb dX12_goesOn_103 (by decide) ?_
                    exact ih4 x587 x586 0 _ _ _ (ms_up x587_e j559 (by decide) hM4) (iv_w x587_h (by decide)) x586_h (iv_w ik_0 (by decide)) hP hD hS (lv_sub hl [0, 2, 1, 3, 4, 5, 6, 7] rfl)
                  ·
                    have j588 : Iv 1 1 x581 := r_nelo h583 x581_h ik_0 (by decide)
                    have b589 : bt x579 (Int32.toNatClampNeg x580) = true := has_t e582 h583
                    refine lv_iconst (v := 1) hx hb dX12_goesOn_89 (by decide) ?_
                    refine lv_iload hx hb dX12_goesOn_90 (lv_at hl 1 rfl) ?_
                    refine lv_ishl hx hb dX12_goesOn_92 (lv_topi (fun x590 x590_e => ?_))
                    have x590_h : Iv 1 2 x590 := iv_e x590_e (iv_shl1 j559 (by decide))
                    refine lv_goto (tgt := 97) hx hb dX12_goesOn_93 (by decide) ?_
                    refine lv_ior hx hb dX12_goesOn_97 (lv_topi (fun x591 x591_e => ?_))
                    have x591_h : Iv 0 3 x591 := iv_e x591_e (iv_or 2 x538_h x590_h (by decide))
                    refine lv_istore (lv' := [(5, .int x591), (6, .int 0), (7, .int x537), (4, .int x406), (3, .int x1), (0, .ref o1), (1, .int 2), (2, .int a2)]) hx hb dX12_goesOn_98 hl (by decide) rfl (fun ls hl => ?_)
                    obtain ⟨x592, x592_e⟩ : ∃ z : Int32, z = x537 + 1 := ⟨_, rfl⟩
                    have x592_h : Iv 1 2 x592 := iv_e x592_e (iv_add j559 ik_1 (by decide))
                    refine lv_iinc (v := x592) (lv' := [(7, .int x592), (5, .int x591), (6, .int 0), (4, .int x406), (3, .int x1), (0, .ref o1), (1, .int 2), (2, .int a2)]) hx hb dX12_goesOn_100 hl (k := 2) rfl (incN (by decide +kernel) x592_e) (by decide) rfl (fun ls hl => ?_)
                    refine lv_goto (tgt := 37) hx hb dX12_goesOn_103 (by decide) ?_
                    exact ih4 x592 x591 0 _ _ _ (ms_up x592_e j559 (by decide) hM4) (iv_w x592_h (by decide)) x591_h (iv_w ik_0 (by decide)) hP hD hS (lv_sub hl [0, 2, 1, 3, 4, 5, 6, 7] rfl)
                ·
                  have j593 : Iv 1 11 x577 := r_eq h578 j409
                  refine lv_iconst (v := 1) hx hb dX12_goesOn_60 (by decide) ?_
                  refine lv_goto (tgt := 65) hx hb dX12_goesOn_61 (by decide) ?_
                  refine lv_istore (lv' := [(6, .int 1), (7, .int x537), (5, .int x538), (4, .int x406), (3, .int x1), (0, .ref o1), (1, .int 2), (2, .int a2)]) hx hb dX12_goesOn_65 hl (by decide) rfl (fun ls hl => ?_)
                  refine lv_iload hx hb dX12_goesOn_67 (lv_at hl 2 rfl) ?_
                  refine lv_aload_n hx hb dX12_goesOn_69 rfl (lv_at hl 5 rfl) ?_
                  refine va_get (D := (dC, dI)) (ci := 12) (v := .ref o6) (C := RX12) (T := TX12) (N := 29) hx hb hts iw_X12_goesOn_X12 hown hK hP 0 rfl rfl 3 (by decide) (hts (.fieldLink RX12 13 "HolelessHouseModel" "near" "[I") hm_X12_goesOn_3) (fun _ h9 => h9) rfl dX12_goesOn_70 ?_
                  refine lv_iload hx hb dX12_goesOn_73 (lv_at hl 3 rfl) ?_
                  refine va_iald hx hb hK hP 2 0 rfl rfl (vin_iv j409 (by decide)) dX12_goesOn_75 (lv_topi (fun x594 x594_e => ?_))
                  have x594_h : Iv 0 4095 x594 := iv_e x594_e (bd_at fw7_b (vin_iv j409 (by decide)))
                  refine lv_aload_n hx hb dX12_goesOn_76 rfl (lv_at hl 5 rfl) ?_
                  refine va_get (D := (dC, dI)) (ci := 12) (v := .ref o11) (C := RX12) (T := TX12) (N := 29) hx hb hts iw_X12_goesOn_X12 hown hK hP 0 rfl rfl 6 (by decide) (hts (.fieldLink RX12 19 "HolelessHouseModel" "ring" "[I") hm_X12_goesOn_1) (fun _ h9 => h9) rfl dX12_goesOn_77 ?_
                  refine lv_iload hx hb dX12_goesOn_80 (lv_at hl 1 rfl) ?_
                  refine va_iald hx hb hK hP 1 0 rfl rfl (vin_iv j559 (by decide)) dX12_goesOn_82 (lv_topi (fun x595 x595_e => ?_))
                  have x595_h : Iv 1 11 x595 := iv_e (x595_e.trans x577_e.symm) j593
                  refine kc_i (D := (dC, dI)) (S := Unit) (wc := []) (wr := [(o1, .inr (12, [.int v2, .ref o3, .int v5, .ref o6, .int v8, .ref o9, .ref o11, .int v13, .ref o14, .int v16, .ref o17, .int v19, .int v20, .int v21, .ref o22, .ref o24, .ref o26, .ref o28, .ref o30, .int v32, .ref o33, .ref o35, .ref o37, .int v39, .ref o40, .ref o42, .ref o44, .int v46, .ref o47])), (o11, .inl (cI, 12, .inl f407)), (o6, .inl (cI, 12, .inl fw7))]) (w1 := fun _ => []) (wn := fun _ => [(o1, .inr (12, [.int v2, .ref o3, .int v5, .ref o6, .int v8, .ref o9, .ref o11, .int v13, .ref o14, .int v16, .ref o17, .int v19, .int v20, .int v21, .ref o22, .ref o24, .ref o26, .ref o28, .ref o30, .int v32, .ref o33, .ref o35, .ref o37, .int v39, .ref o40, .ref o42, .ref o44, .int v46, .ref o47])), (o11, .inl (cI, 12, .inl f407)), (o6, .inl (cI, 12, .inl fw7))]) (fun hPc hDc => va_runS (As := [.int x594, .int x595]) (rest := [.int x538]) ⟨hx, hb, hml, hown, hts⟩ (kX12_has_1 l dC dI cI c2 cZ x594 x595 H.size (iv_w x595_h (by decide))) (va_cwS 2 hts gX12_goesOn_X12_has rfl rfl rfl (by decide +kernel) ⟨Nat.le_of_ble_eq_true rfl, Nat.le_of_ble_eq_true rfl⟩) (pre_S hPc hK hDc hN) rfl rfl hl.1 rfl (lv_room (Nat.le_of_ble_eq_true rfl)) dX12_goesOn_83 ⟨Nat.le_of_ble_eq_true rfl, Nat.le_of_ble_eq_true rfl⟩) hP hD hS hA [] [0, 1, 2] [0, 1, 2] rfl rfl (by decide +kernel) (by decide +kernel) (by decide +kernel) (by decide +kernel) (fun _ => rfl) (fun x596 _ H locs hq hP hD hS => ?_)
                  obtain ⟨x596_h, e597⟩ := hq
                  have hP : va_P (dC, dI) vwCl ([(o1, .inr (12, [.int v2, .ref o3, .int v5, .ref o6, .int v8, .ref o9, .ref o11, .int v13, .ref o14, .int v16, .ref o17, .int v19, .int v20, .int v21, .ref o22, .ref o24, .ref o26, .ref o28, .ref o30, .int v32, .ref o33, .ref o35, .ref o37, .int v39, .ref o40, .ref o42, .ref o44, .int v46, .ref o47])), (o11, .inl (cI, 12, .inl f407)), (o6, .inl (cI, 12, .inl fw7))]) H := hP
                  have hD : va_D A ([(o1, .inr (12, [.int v2, .ref o3, .int v5, .ref o6, .int v8, .ref o9, .ref o11, .int v13, .ref o14, .int v16, .ref o17, .int v19, .int v20, .int v21, .ref o22, .ref o24, .ref o26, .ref o28, .ref o30, .int v32, .ref o33, .ref o35, .ref o37, .int v39, .ref o40, .ref o42, .ref o44, .int v46, .ref o47])), (o11, .inl (cI, 12, .inl f407)), (o6, .inl (cI, 12, .inl fw7))]) := hD
                  refine lv_if_eq (tgt := 96) hx hb dX12_goesOn_86 (by decide) (fun h598 => ?_) (fun h598 => ?_)
                  ·
                    have j599 : Iv 0 0 x596 := r_eq h598 ik_0
                    have b600 : bt x594 (Int32.toNatClampNeg x595) = false := has_f e597 h598
                    refine lv_iconst (v := 0) hx hb dX12_goesOn_96 (by decide) ?_
                    refine lv_ior hx hb dX12_goesOn_97 (lv_topi (fun x601 x601_e => ?_))
                    have x601_h : Iv 0 3 x601 := iv_e x601_e (iv_or 2 x538_h ik_0 (by decide))
                    refine lv_istore (lv' := [(5, .int x601), (6, .int 1), (7, .int x537), (4, .int x406), (3, .int x1), (0, .ref o1), (1, .int 2), (2, .int a2)]) hx hb dX12_goesOn_98 hl (by decide) rfl (fun ls hl => ?_)
                    obtain ⟨x602, x602_e⟩ : ∃ z : Int32, z = x537 + 1 := ⟨_, rfl⟩
                    have x602_h : Iv 1 2 x602 := iv_e x602_e (iv_add j559 ik_1 (by decide))
                    refine lv_iinc (v := x602) (lv' := [(7, .int x602), (5, .int x601), (6, .int 1), (4, .int x406), (3, .int x1), (0, .ref o1), (1, .int 2), (2, .int a2)]) hx hb dX12_goesOn_100 hl (k := 2) rfl (incN (by decide +kernel) x602_e) (by decide) rfl (fun ls hl => ?_)
                    refine lv_goto (tgt := 37) hx hb dX12_goesOn_103 (by decide) ?_
                    exact ih4 x602 x601 1 _ _ _ (ms_up x602_e j559 (by decide) hM4) (iv_w x602_h (by decide)) x601_h (iv_w ik_1 (by decide)) hP hD hS (lv_sub hl [0, 2, 1, 3, 4, 5, 6, 7] rfl)
                  ·
                    have j603 : Iv 1 1 x596 := r_nelo h598 x596_h ik_0 (by decide)
                    have b604 : bt x594 (Int32.toNatClampNeg x595) = true := has_t e597 h598
                    refine lv_iconst (v := 1) hx hb dX12_goesOn_89 (by decide) ?_
                    refine lv_iload hx hb dX12_goesOn_90 (lv_at hl 1 rfl) ?_
                    refine lv_ishl hx hb dX12_goesOn_92 (lv_topi (fun x605 x605_e => ?_))
                    have x605_h : Iv 1 2 x605 := iv_e x605_e (iv_shl1 j559 (by decide))
                    refine lv_goto (tgt := 97) hx hb dX12_goesOn_93 (by decide) ?_
                    refine lv_ior hx hb dX12_goesOn_97 (lv_topi (fun x606 x606_e => ?_))
                    have x606_h : Iv 0 3 x606 := iv_e x606_e (iv_or 2 x538_h x605_h (by decide))
                    refine lv_istore (lv' := [(5, .int x606), (6, .int 1), (7, .int x537), (4, .int x406), (3, .int x1), (0, .ref o1), (1, .int 2), (2, .int a2)]) hx hb dX12_goesOn_98 hl (by decide) rfl (fun ls hl => ?_)
                    obtain ⟨x607, x607_e⟩ : ∃ z : Int32, z = x537 + 1 := ⟨_, rfl⟩
                    have x607_h : Iv 1 2 x607 := iv_e x607_e (iv_add j559 ik_1 (by decide))
                    refine lv_iinc (v := x607) (lv' := [(7, .int x607), (5, .int x606), (6, .int 1), (4, .int x406), (3, .int x1), (0, .ref o1), (1, .int 2), (2, .int a2)]) hx hb dX12_goesOn_100 hl (k := 2) rfl (incN (by decide +kernel) x607_e) (by decide) rfl (fun ls hl => ?_)
                    refine lv_goto (tgt := 37) hx hb dX12_goesOn_103 (by decide) ?_
                    exact ih4 x607 x606 1 _ _ _ (ms_up x607_e j559 (by decide) hM4) (iv_w x607_h (by decide)) x606_h (iv_w ik_1 (by decide)) hP hD hS (lv_sub hl [0, 2, 1, 3, 4, 5, 6, 7] rfl)
        exact L4 _ 0 0 0 _ _ _ (Nat.lt_succ_self _) (iv_w ik_0 (by decide)) (iv_w ik_0 (by decide)) (iv_w ik_0 (by decide)) hP hD hS hl
  exact L3 _ x3 fw12 _ _ _ (Nat.lt_succ_self _) x3_h fw12_b hP hD hS hl
set_option maxHeartbeats 4000000 in
set_option maxRecDepth 100000 in
theorem kX12_goesOn_11 (l : Launch) (dC : Nat → ClassId) (dI : Nat → Nat → Nat) (cI c2 cZ : ClassId) (o1 : Nat) (o3 : Nat) (o6 : Nat) (o9 : Nat) (o11 : Nat) (o14 : Nat) (o17 : Nat) (o22 : Nat) (o24 : Nat) (o26 : Nat) (o28 : Nat) (o30 : Nat) (o33 : Nat) (o35 : Nat) (o37 : Nat) (o40 : Nat) (o42 : Nat) (o44 : Nat) (o47 : Nat) (v2 : Int32) (v5 : Int32) (fw7 : Nat → Int32) (v8 : Int32) (fw12 : Nat → Int32) (v13 : Int32) (v16 : Int32) (v19 : Int32) (v20 : Int32) (v21 : Int32) (v32 : Int32) (v39 : Int32) (v46 : Int32) (a2 : Int32) (sz : Nat) (v5_h : Iv 0 12 v5) (fw7_b : Bd 12 0 4095 fw7) (v8_h : Iv 0 8 v8) (fw12_b : Bd 12 0 11 fw12) (v13_h : Iv 0 12 v13) (v16_h : Iv 0 12 v16) (v19_h : Iv (-9) 12 v19) (v32_h : Iv 0 99 v32) (v39_h : Iv 0 12 v39) (v46_h : Iv 0 12 v46) (a2_h : Iv 4 12 a2) : Met l yX12_goesOn wsX12_goesOn ({ frames := 11, cells := 0, slots := 0, locals := 291 }) (va_Pc [.ref o1, .int 1, .int a2] (wPre (dC, dI) [(cI, .int), (c2, .array .int), (cZ, .boolean)] ([(o1, .inr (12, [.int v2, .ref o3, .int v5, .ref o6, .int v8, .ref o9, .ref o11, .int v13, .ref o14, .int v16, .ref o17, .int v19, .int v20, .int v21, .ref o22, .ref o24, .ref o26, .ref o28, .ref o30, .int v32, .ref o33, .ref o35, .ref o37, .int v39, .ref o40, .ref o42, .ref o44, .int v46, .ref o47])), (o11, .inl (cI, 12, .inl fw12)), (o6, .inl (cI, 12, .inl fw7))]) sz)) (va_Qi (fun (r : Int32) (u : (Nat → Int32)) => Iv 0 1 r ∧ Bd 12 0 11 u) (fun u t => wPost (dC, dI) [(cI, .int), (c2, .array .int), (cZ, .boolean)] (va_A ([(o1, .inr (12, [.int v2, .ref o3, .int v5, .ref o6, .int v8, .ref o9, .ref o11, .int v13, .ref o14, .int v16, .ref o17, .int v19, .int v20, .int v21, .ref o22, .ref o24, .ref o26, .ref o28, .ref o30, .int v32, .ref o33, .ref o35, .ref o37, .int v39, .ref o40, .ref o42, .ref o44, .int v46, .ref o47])), (o11, .inl (cI, 12, .inl fw12)), (o6, .inl (cI, 12, .inl fw7))]) sz) ([(o1, .inr (12, [.int v2, .ref o3, .int v5, .ref o6, .int v8, .ref o9, .ref o11, .int v13, .ref o14, .int v16, .ref o17, .int v19, .int v20, .int v21, .ref o22, .ref o24, .ref o26, .ref o28, .ref o30, .int v32, .ref o33, .ref o35, .ref o37, .int v39, .ref o40, .ref o42, .ref o44, .int v46, .ref o47])), (o11, .inl (cI, 12, .inl u)), (o6, .inl (cI, 12, .inl fw7))]) t) (va_A ([(o1, .inr (12, [.int v2, .ref o3, .int v5, .ref o6, .int v8, .ref o9, .ref o11, .int v13, .ref o14, .int v16, .ref o17, .int v19, .int v20, .int v21, .ref o22, .ref o24, .ref o26, .ref o28, .ref o30, .int v32, .ref o33, .ref o35, .ref o37, .int v39, .ref o40, .ref o42, .ref o44, .int v46, .ref o47])), (o11, .inl (cI, 12, .inl fw12)), (o6, .inl (cI, 12, .inl fw7))]) sz)) 0 0 (va_A ([(o1, .inr (12, [.int v2, .ref o3, .int v5, .ref o6, .int v8, .ref o9, .ref o11, .int v13, .ref o14, .int v16, .ref o17, .int v19, .int v20, .int v21, .ref o22, .ref o24, .ref o26, .ref o28, .ref o30, .int v32, .ref o33, .ref o35, .ref o37, .int v39, .ref o40, .ref o42, .ref o44, .int v46, .ref o47])), (o11, .inl (cI, 12, .inl fw12)), (o6, .inl (cI, 12, .inl fw7))]) sz) := by
  refine Met.ofW (cc := cX12_goesOn) (maxL := 8) (ret := (some .boolean)) (by decide) rfl ?_
  intro p e s m args below meth c s₁ B hml hv
  obtain ⟨rfl, hsz, hP, hK, hD0, hN⟩ := hv
  have hx := B.exec
  have hb := B.bytes
  have hr := B.returns
  have hts := atoms_spec (ws := wsX12_goesOn) B.pre
  have hown : s.vm.findClass RX12 = some m.cls := findClass_of_methodNamed B.named
  have hlocks := B.notSynchronized
  subst hsz
  have hD := hD0.self (sz := s.heap.size)
  generalize hAe : va_A ([(o1, .inr (12, [.int v2, .ref o3, .int v5, .ref o6, .int v8, .ref o9, .ref o11, .int v13, .ref o14, .int v16, .ref o17, .int v19, .int v20, .int v21, .ref o22, .ref o24, .ref o26, .ref o28, .ref o30, .int v32, .ref o33, .ref o35, .ref o37, .int v39, .ref o40, .ref o42, .ref o44, .int v46, .ref o47])), (o11, .inl (cI, 12, .inl fw12)), (o6, .inl (cI, 12, .inl fw7))]) s.heap.size = A at hD ⊢
  have hA : ∀ q : Nat, s.heap.size ≤ q → A q := fun q h => by rw [← hAe]; exact Or.inr h
  have hS : va_S A s.heap s.heap [] := va_S.rf
  have hP : va_P (dC, dI) vwCl ([(o1, .inr (12, [.int v2, .ref o3, .int v5, .ref o6, .int v8, .ref o9, .ref o11, .int v13, .ref o14, .int v16, .ref o17, .int v19, .int v20, .int v21, .ref o22, .ref o24, .ref o26, .ref o28, .ref o30, .int v32, .ref o33, .ref o35, .ref o37, .int v39, .ref o40, .ref o42, .ref o44, .int v46, .ref o47])), (o11, .inl (cI, 12, .inl fw12)), (o6, .inl (cI, 12, .inl fw7))]) s.heap := hP
  have hl := lv_entry ([.ref o1, .int 1, .int a2]) (n := 8) (Nat.le_of_ble_eq_true rfl)
  rw [lg_entry_eq]
  generalize (lg_sl ([.ref o1, .int 1, .int a2]) ++ List.replicate (8 - (lg_sl ([.ref o1, .int 1, .int a2])).length) Slot.unset).toArray = ls at hl ⊢
  have hl : lv_has ls 8 [(0, .ref o1), (1, .int 1), (2, .int a2)] := hl
  refine gen_Q (fun Q hQ => ?_)
  refine lv_aload_n hx hb dX12_goesOn_0 rfl (lv_at hl 0 rfl) ?_
  refine va_get (D := (dC, dI)) (ci := 12) (v := .ref o11) (C := RX12) (T := TX12) (N := 29) hx hb hts iw_X12_goesOn_X12 hown hK hP 0 rfl rfl 6 (by decide) (hts (.fieldLink RX12 19 "HolelessHouseModel" "ring" "[I") hm_X12_goesOn_1) (fun _ h9 => h9) rfl dX12_goesOn_1 ?_
  refine lv_iload_n hx hb dX12_goesOn_4 rfl (lv_at hl 1 rfl) ?_
  refine lv_iconst (v := 1) hx hb dX12_goesOn_5 (by decide) ?_
  refine lv_isub hx hb dX12_goesOn_6 (tk_i (v := 0) (by decide +kernel) ?_)
  refine va_iald hx hb hK hP 1 0 rfl rfl (vin_iv ik_0 (by decide)) dX12_goesOn_7 (lv_topi (fun x1 x1_e => ?_))
  have x1_h : Iv 0 11 x1 := iv_e x1_e (bd_at fw12_b (vin_iv ik_0 (by decide)))
  refine lv_istore_n (lv' := [(3, .int x1), (0, .ref o1), (1, .int 1), (2, .int a2)]) hx hb dX12_goesOn_8 rfl hl (by decide) rfl (fun ls hl => ?_)
  refine lv_aload_n hx hb dX12_goesOn_9 rfl (lv_at hl 1 rfl) ?_
  refine va_get (D := (dC, dI)) (ci := 12) (v := .ref o11) (C := RX12) (T := TX12) (N := 29) hx hb hts iw_X12_goesOn_X12 hown hK hP 0 rfl rfl 6 (by decide) (hts (.fieldLink RX12 19 "HolelessHouseModel" "ring" "[I") hm_X12_goesOn_1) (fun _ h9 => h9) rfl dX12_goesOn_10 ?_
  refine lv_iconst (v := 0) hx hb dX12_goesOn_13 (by decide) ?_
  refine va_iald hx hb hK hP 1 0 rfl rfl (vin_iv ik_0 (by decide)) dX12_goesOn_14 (lv_topi (fun x2 x2_e => ?_))
  have x2_h : Iv 0 11 x2 := iv_e x2_e (bd_at fw12_b (vin_iv ik_0 (by decide)))
  refine lv_iconst (v := 1) hx hb dX12_goesOn_15 (by decide) ?_
  refine lv_iadd hx hb dX12_goesOn_16 (lv_topi (fun x3 x3_e => ?_))
  have x3_h : Iv 1 12 x3 := iv_e x3_e (iv_add x2_h ik_1 (by decide))
  refine lv_istore (lv' := [(4, .int x3), (3, .int x1), (0, .ref o1), (1, .int 1), (2, .int a2)]) hx hb dX12_goesOn_17 hl (by decide) rfl (fun ls hl => ?_)
  have L3 : ∀ (N : Nat) (x306 : Int32) (f307 : Nat → Int32) (H : Heap) (locs : List Loc) (ls : Array Slot), (12 - x306.toInt).toNat < N → Iv 1 12 x306 → Bd 12 0 11 f307 → va_P (dC, dI) vwCl ([(o1, .inr (12, [.int v2, .ref o3, .int v5, .ref o6, .int v8, .ref o9, .ref o11, .int v13, .ref o14, .int v16, .ref o17, .int v19, .int v20, .int v21, .ref o22, .ref o24, .ref o26, .ref o28, .ref o30, .int v32, .ref o33, .ref o35, .ref o37, .int v39, .ref o40, .ref o42, .ref o44, .int v46, .ref o47])), (o11, .inl (cI, 12, .inl f307)), (o6, .inl (cI, 12, .inl fw7))]) H → va_D A ([(o1, .inr (12, [.int v2, .ref o3, .int v5, .ref o6, .int v8, .ref o9, .ref o11, .int v13, .ref o14, .int v16, .ref o17, .int v19, .int v20, .int v21, .ref o22, .ref o24, .ref o26, .ref o28, .ref o30, .int v32, .ref o33, .ref o35, .ref o37, .int v39, .ref o40, .ref o42, .ref o44, .int v46, .ref o47])), (o11, .inl (cI, 12, .inl f307)), (o6, .inl (cI, 12, .inl fw7))]) → va_S A s.heap H locs → lv_has ls 8 [(4, .int x306), (3, .int x1), (0, .ref o1), (1, .int 1), (2, .int a2)] → W p l e ({ frames := 11, cells := 0, slots := 0, locals := 291 }) s m ([.ref o1, .int 1, .int a2] : List Value).toArray below meth c H locs 0 0 Q (F0 m 19 ls []) := by
    intro N
    induction N with
    | zero =>
      intro x306 f307 H locs ls hM
      exact absurd hM (Nat.not_lt_zero _)
    | succ N ih3 =>
      intro x306 f307 H locs ls hM3 x306_h f307_b hP hD hS hl
      refine lv_iload hx hb dX12_goesOn_19 (lv_at hl 0 rfl) ?_
      refine lv_aload_n hx hb dX12_goesOn_21 rfl (lv_at hl 2 rfl) ?_
      refine va_get (D := (dC, dI)) (ci := 12) (v := .int v5) (C := RX12) (T := TX12) (N := 29) hx hb hts iw_X12_goesOn_X12 hown hK hP 0 rfl rfl 2 (by decide) (hts (.fieldLink RX12 73 "HolelessHouseModel" "n" "I") hm_X12_goesOn_2) (fun _ h9 => h9) rfl dX12_goesOn_22 ?_
      refine lv_icmp_ge (tgt := 193) hx hb dX12_goesOn_25 (by decide) (fun h308 => ?_) (fun h308 => ?_)
      ·
        have qh308 := le_i h308
        refine lv_iload_n hx hb dX12_goesOn_193 rfl (lv_at hl 1 rfl) ?_
        refine lv_if_ge (tgt := 201) hx hb dX12_goesOn_194 (by decide) (fun _ => ?_) (fun h9 => absurd (d_le ik_0 x1_h (by decide)) h9)
        refine lv_iconst (v := 0) hx hb dX12_goesOn_201 (by decide) ?_
        rw [hQ]
        exact W.zret (v := 0) (ty := .boolean) hx hb hr rfl (fun t ht hW => ⟨⟨0, f307, rfl, ⟨(iv_w ik_0 (by decide)), f307_b⟩, by rw [ht]; exact hP, va_K.moved hW.alike hK, hD⟩, hS.F ht⟩) hS.2.2 dX12_goesOn_202
      ·
        have qh308 := nle_i h308
        have j309 : Iv 1 11 x306 := r_ltl qh308 x306_h v5_h (by decide)
        have j310 : Iv 2 12 v5 := r_ltr qh308 x306_h v5_h (by decide)
        refine lv_iconst (v := 0) hx hb dX12_goesOn_28 (by decide) ?_
        refine lv_istore (lv' := [(5, .int 0), (4, .int x306), (3, .int x1), (0, .ref o1), (1, .int 1), (2, .int a2)]) hx hb dX12_goesOn_29 hl (by decide) rfl (fun ls hl => ?_)
        refine lv_iconst (v := 0) hx hb dX12_goesOn_31 (by decide) ?_
        refine lv_istore (lv' := [(6, .int 0), (5, .int 0), (4, .int x306), (3, .int x1), (0, .ref o1), (1, .int 1), (2, .int a2)]) hx hb dX12_goesOn_32 hl (by decide) rfl (fun ls hl => ?_)
        refine lv_iconst (v := 0) hx hb dX12_goesOn_34 (by decide) ?_
        refine lv_istore (lv' := [(7, .int 0), (6, .int 0), (5, .int 0), (4, .int x306), (3, .int x1), (0, .ref o1), (1, .int 1), (2, .int a2)]) hx hb dX12_goesOn_35 hl (by decide) rfl (fun ls hl => ?_)
        have L4 : ∀ (N : Nat) (x386 : Int32) (x387 : Int32) (x388 : Int32) (H : Heap) (locs : List Loc) (ls : Array Slot), (1 - x386.toInt).toNat < N → Iv 0 1 x386 → Iv 0 1 x387 → Iv 0 1 x388 → va_P (dC, dI) vwCl ([(o1, .inr (12, [.int v2, .ref o3, .int v5, .ref o6, .int v8, .ref o9, .ref o11, .int v13, .ref o14, .int v16, .ref o17, .int v19, .int v20, .int v21, .ref o22, .ref o24, .ref o26, .ref o28, .ref o30, .int v32, .ref o33, .ref o35, .ref o37, .int v39, .ref o40, .ref o42, .ref o44, .int v46, .ref o47])), (o11, .inl (cI, 12, .inl f307)), (o6, .inl (cI, 12, .inl fw7))]) H → va_D A ([(o1, .inr (12, [.int v2, .ref o3, .int v5, .ref o6, .int v8, .ref o9, .ref o11, .int v13, .ref o14, .int v16, .ref o17, .int v19, .int v20, .int v21, .ref o22, .ref o24, .ref o26, .ref o28, .ref o30, .int v32, .ref o33, .ref o35, .ref o37, .int v39, .ref o40, .ref o42, .ref o44, .int v46, .ref o47])), (o11, .inl (cI, 12, .inl f307)), (o6, .inl (cI, 12, .inl fw7))]) → va_S A s.heap H locs → lv_has ls 8 [(7, .int x386), (6, .int x388), (5, .int x387), (4, .int x306), (3, .int x1), (0, .ref o1), (1, .int 1), (2, .int a2)] → W p l e ({ frames := 11, cells := 0, slots := 0, locals := 291 }) s m ([.ref o1, .int 1, .int a2] : List Value).toArray below meth c H locs 0 0 Q (F0 m 37 ls []) := by
          intro N
          induction N with
          | zero =>
            intro x386 x387 x388 H locs ls hM
            exact absurd hM (Nat.not_lt_zero _)
          | succ N ih4 =>
            intro x386 x387 x388 H locs ls hM4 x386_h x387_h x388_h hP hD hS hl
            refine lv_iload hx hb dX12_goesOn_37 (lv_at hl 0 rfl) ?_
            refine lv_iload_n hx hb dX12_goesOn_39 rfl (lv_at hl 6 rfl) ?_
            refine lv_icmp_ge (tgt := 106) hx hb dX12_goesOn_40 (by decide) (fun h389 => ?_) (fun h389 => ?_)
            ·
              have qh389 := le_i h389
              have j390 : Iv 1 1 x386 := r_ler qh389 ik_1 x386_h (by decide)
              refine lv_iconst (v := 1) hx hb dX12_goesOn_106 (by decide) ?_
              refine lv_iload_n hx hb dX12_goesOn_107 rfl (lv_at hl 6 rfl) ?_
              refine lv_iconst (v := 1) hx hb dX12_goesOn_108 (by decide) ?_
              refine lv_isub hx hb dX12_goesOn_109 (tk_i (v := 0) (by decide +kernel) ?_)
              refine lv_ishl hx hb dX12_goesOn_110 (tk_i (v := 1) (by decide +kernel) ?_)
              refine lv_iload_n hx hb dX12_goesOn_111 rfl (lv_at hl 6 rfl) ?_
              refine lv_iload_n hx hb dX12_goesOn_112 rfl (lv_at hl 7 rfl) ?_
              refine lv_iconst (v := 1) hx hb dX12_goesOn_113 (by decide) ?_
              refine lv_isub hx hb dX12_goesOn_114 (lv_topi (fun x391 x391_e => ?_))
              have x391_h : Iv 3 11 x391 := iv_e x391_e (iv_sub a2_h ik_1 (by decide))
              refine lv_icmp_ne (tgt := 122) hx hb dX12_goesOn_115 (by decide) (fun _ => ?_) (fun h9 => absurd h9 (d_ne ik_1 x391_h (by decide)))
              refine lv_iconst (v := 0) hx hb dX12_goesOn_122 (by decide) ?_
              refine lv_ior hx hb dX12_goesOn_123 (tk_i (v := 1) (by decide +kernel) ?_)
              refine lv_istore (lv' := [(7, .int 1), (6, .int x388), (5, .int x387), (4, .int x306), (3, .int x1), (0, .ref o1), (1, .int 1), (2, .int a2)]) hx hb dX12_goesOn_124 hl (by decide) rfl (fun ls hl => ?_)
              refine lv_iload hx hb dX12_goesOn_126 (lv_at hl 1 rfl) ?_
              refine lv_if_ne (tgt := 187) hx hb dX12_goesOn_128 (by decide) (fun h392 => ?_) (fun h392 => ?_)
              ·
                have j393 : Iv 1 1 x388 := r_nelo h392 x388_h ik_0 (by decide)
                obtain ⟨x394, x394_e⟩ : ∃ z : Int32, z = x306 + 1 := ⟨_, rfl⟩
                have x394_h : Iv 2 12 x394 := iv_e x394_e (iv_add j309 ik_1 (by decide))
                refine lv_iinc (v := x394) (lv' := [(4, .int x394), (7, .int 1), (6, .int x388), (5, .int x387), (3, .int x1), (0, .ref o1), (1, .int 1), (2, .int a2)]) hx hb dX12_goesOn_187 hl (k := 3) rfl (incN (by decide +kernel) x394_e) (by decide) rfl (fun ls hl => ?_)
                refine lv_goto (tgt := 19) hx hb dX12_goesOn_190 (by decide) ?_
                exact ih3 x394 f307 _ _ _ (ms_up x394_e j309 (by decide) hM3) (iv_w x394_h (by decide)) f307_b hP hD hS (lv_sub hl [0, 4, 5, 6, 7] rfl)
              ·
                have j395 : Iv 0 0 x388 := r_eq h392 ik_0
                refine lv_iload hx hb dX12_goesOn_131 (lv_at hl 2 rfl) ?_
                refine lv_iload hx hb dX12_goesOn_133 (lv_at hl 0 rfl) ?_
                refine lv_icmp_ne (tgt := 187) hx hb dX12_goesOn_135 (by decide) (fun h396 => ?_) (fun h396 => ?_)
                ·
                  have j397 : Iv 0 0 x387 := r_nehi h396 x387_h ik_1 (by decide)
                  obtain ⟨x398, x398_e⟩ : ∃ z : Int32, z = x306 + 1 := ⟨_, rfl⟩
                  have x398_h : Iv 2 12 x398 := iv_e x398_e (iv_add j309 ik_1 (by decide))
                  refine lv_iinc (v := x398) (lv' := [(4, .int x398), (7, .int 1), (6, .int x388), (5, .int x387), (3, .int x1), (0, .ref o1), (1, .int 1), (2, .int a2)]) hx hb dX12_goesOn_187 hl (k := 3) rfl (incN (by decide +kernel) x398_e) (by decide) rfl (fun ls hl => ?_)
                  refine lv_goto (tgt := 19) hx hb dX12_goesOn_190 (by decide) ?_
                  exact ih3 x398 f307 _ _ _ (ms_up x398_e j309 (by decide) hM3) (iv_w x398_h (by decide)) f307_b hP hD hS (lv_sub hl [0, 4, 5, 6, 7] rfl)
                ·
                  have j399 : Iv 1 1 x387 := r_eq h396 ik_1
                  refine lv_iload_n hx hb dX12_goesOn_138 rfl (lv_at hl 6 rfl) ?_
                  refine lv_iload_n hx hb dX12_goesOn_139 rfl (lv_at hl 7 rfl) ?_
                  refine lv_iconst (v := 1) hx hb dX12_goesOn_140 (by decide) ?_
                  refine lv_isub hx hb dX12_goesOn_141 (lv_topi (fun x400 x400_e => ?_))
                  have x400_h : Iv 3 11 x400 := iv_e x400_e (iv_sub a2_h ik_1 (by decide))
                  refine lv_icmp_ne (tgt := 159) hx hb dX12_goesOn_142 (by decide) (fun _ => ?_) (fun h9 => absurd h9 (d_ne ik_1 x400_h (by decide)))
                  refine lv_aload_n hx hb dX12_goesOn_159 rfl (lv_at hl 5 rfl) ?_
                  refine va_get (D := (dC, dI)) (ci := 12) (v := .ref o11) (C := RX12) (T := TX12) (N := 29) hx hb hts iw_X12_goesOn_X12 hown hK hP 0 rfl rfl 6 (by decide) (hts (.fieldLink RX12 19 "HolelessHouseModel" "ring" "[I") hm_X12_goesOn_1) (fun _ h9 => h9) rfl dX12_goesOn_160 ?_
                  refine lv_iload_n hx hb dX12_goesOn_163 rfl (lv_at hl 6 rfl) ?_
                  refine lv_iload hx hb dX12_goesOn_164 (lv_at hl 3 rfl) ?_
                  refine k_iast hx hb hK hP hD hS 1 0 rfl rfl (vin_iv ik_1 (by decide)) dX12_goesOn_166 (fun f401 H locs f401_e hP hD hS => ?_)
                  have f401_b : Bd 12 0 11 f401 := bd_upd f401_e f307_b j309 (by decide)
                  have hP : va_P (dC, dI) vwCl ([(o1, .inr (12, [.int v2, .ref o3, .int v5, .ref o6, .int v8, .ref o9, .ref o11, .int v13, .ref o14, .int v16, .ref o17, .int v19, .int v20, .int v21, .ref o22, .ref o24, .ref o26, .ref o28, .ref o30, .int v32, .ref o33, .ref o35, .ref o37, .int v39, .ref o40, .ref o42, .ref o44, .int v46, .ref o47])), (o11, .inl (cI, 12, .inl f401)), (o6, .inl (cI, 12, .inl fw7))]) H := hP
                  have hD : va_D A ([(o1, .inr (12, [.int v2, .ref o3, .int v5, .ref o6, .int v8, .ref o9, .ref o11, .int v13, .ref o14, .int v16, .ref o17, .int v19, .int v20, .int v21, .ref o22, .ref o24, .ref o26, .ref o28, .ref o30, .int v32, .ref o33, .ref o35, .ref o37, .int v39, .ref o40, .ref o42, .ref o44, .int v46, .ref o47])), (o11, .inl (cI, 12, .inl f401)), (o6, .inl (cI, 12, .inl fw7))]) := hD
                  refine lv_iload_n hx hb dX12_goesOn_167 rfl (lv_at hl 6 rfl) ?_
                  refine lv_iload_n hx hb dX12_goesOn_168 rfl (lv_at hl 7 rfl) ?_
                  refine lv_iconst (v := 1) hx hb dX12_goesOn_169 (by decide) ?_
                  refine lv_isub hx hb dX12_goesOn_170 (lv_topi (fun x402 x402_e => ?_))
                  have x402_h : Iv 3 11 x402 := iv_e x402_e (iv_sub a2_h ik_1 (by decide))
                  refine lv_icmp_eq (tgt := 185) hx hb dX12_goesOn_171 (by decide) (fun h9 => absurd h9 (d_ne ik_1 x402_h (by decide))) (fun _ => ?_)
                  refine lv_aload_n hx hb dX12_goesOn_174 rfl (lv_at hl 5 rfl) ?_
                  refine lv_iload_n hx hb dX12_goesOn_175 rfl (lv_at hl 6 rfl) ?_
                  refine lv_iconst (v := 1) hx hb dX12_goesOn_176 (by decide) ?_
                  refine lv_iadd hx hb dX12_goesOn_177 (tk_i (v := 2) (by decide +kernel) ?_)
                  refine lv_iload_n hx hb dX12_goesOn_178 rfl (lv_at hl 7 rfl) ?_
                  refine kc_i (D := (dC, dI)) (S := (Nat → Int32)) (wc := [(o1, .inr (12, [.int v2, .ref o3, .int v5, .ref o6, .int v8, .ref o9, .ref o11, .int v13, .ref o14, .int v16, .ref o17, .int v19, .int v20, .int v21, .ref o22, .ref o24, .ref o26, .ref o28, .ref o30, .int v32, .ref o33, .ref o35, .ref o37, .int v39, .ref o40, .ref o42, .ref o44, .int v46, .ref o47])), (o11, .inl (cI, 12, .inl f401)), (o6, .inl (cI, 12, .inl fw7))]) (wr := []) (w1 := fun u => [(o1, .inr (12, [.int v2, .ref o3, .int v5, .ref o6, .int v8, .ref o9, .ref o11, .int v13, .ref o14, .int v16, .ref o17, .int v19, .int v20, .int v21, .ref o22, .ref o24, .ref o26, .ref o28, .ref o30, .int v32, .ref o33, .ref o35, .ref o37, .int v39, .ref o40, .ref o42, .ref o44, .int v46, .ref o47])), (o11, .inl (cI, 12, .inl u)), (o6, .inl (cI, 12, .inl fw7))]) (wn := fun u => [(o1, .inr (12, [.int v2, .ref o3, .int v5, .ref o6, .int v8, .ref o9, .ref o11, .int v13, .ref o14, .int v16, .ref o17, .int v19, .int v20, .int v21, .ref o22, .ref o24, .ref o26, .ref o28, .ref o30, .int v32, .ref o33, .ref o35, .ref o37, .int v39, .ref o40, .ref o42, .ref o44, .int v46, .ref o47])), (o11, .inl (cI, 12, .inl u)), (o6, .inl (cI, 12, .inl fw7))]) (fun hPc hDc => va_runV (As := [.int 2, .int a2]) (rest := []) ⟨hx, hb, hml, hown, hts⟩ (kX12_goesOn_10 l dC dI cI c2 cZ o1 o3 o6 o9 o11 o14 o17 o22 o24 o26 o28 o30 o33 o35 o37 o40 o42 o44 o47 v2 v5 fw7 v8 f401 v13 v16 v19 v20 v21 v32 v39 v46 a2 H.size (iv_w j310 (by decide)) fw7_b v8_h f401_b v13_h v16_h v19_h v32_h v39_h v46_h a2_h) (cwV 2 hts gX12_goesOn_X12_goesOn rfl rfl rfl (by decide +kernel) ⟨Nat.le_of_ble_eq_true rfl, Nat.le_of_ble_eq_true rfl⟩) (pre_V hPc hK hDc hN (ci := 12) (q0 := 0) rfl rfl) rfl rfl hl.1 rfl (lv_room (Nat.le_of_ble_eq_true rfl)) dX12_goesOn_179 ⟨Nat.le_of_ble_eq_true rfl, Nat.le_of_ble_eq_true rfl⟩) hP hD hS hA [0, 1, 2] [] [0, 1, 2] rfl rfl (by decide +kernel) (by decide +kernel) (by decide +kernel) (by decide +kernel) (fun _ => rfl) (fun x404 f403 H locs hq hP hD hS => ?_)
                  obtain ⟨x404_h, f403_b⟩ := hq
                  have hP : va_P (dC, dI) vwCl ([(o1, .inr (12, [.int v2, .ref o3, .int v5, .ref o6, .int v8, .ref o9, .ref o11, .int v13, .ref o14, .int v16, .ref o17, .int v19, .int v20, .int v21, .ref o22, .ref o24, .ref o26, .ref o28, .ref o30, .int v32, .ref o33, .ref o35, .ref o37, .int v39, .ref o40, .ref o42, .ref o44, .int v46, .ref o47])), (o11, .inl (cI, 12, .inl f403)), (o6, .inl (cI, 12, .inl fw7))]) H := hP
                  have hD : va_D A ([(o1, .inr (12, [.int v2, .ref o3, .int v5, .ref o6, .int v8, .ref o9, .ref o11, .int v13, .ref o14, .int v16, .ref o17, .int v19, .int v20, .int v21, .ref o22, .ref o24, .ref o26, .ref o28, .ref o30, .int v32, .ref o33, .ref o35, .ref o37, .int v39, .ref o40, .ref o42, .ref o44, .int v46, .ref o47])), (o11, .inl (cI, 12, .inl f403)), (o6, .inl (cI, 12, .inl fw7))]) := hD
                  refine lv_if_eq (tgt := 187) hx hb dX12_goesOn_182 (by decide) (fun h405 => ?_) (fun h405 => ?_)
                  ·
                    have j406 : Iv 0 0 x404 := r_eq h405 ik_0
                    obtain ⟨x407, x407_e⟩ : ∃ z : Int32, z = x306 + 1 := ⟨_, rfl⟩
                    have x407_h : Iv 2 12 x407 := iv_e x407_e (iv_add j309 ik_1 (by decide))
                    refine lv_iinc (v := x407) (lv' := [(4, .int x407), (7, .int 1), (6, .int x388), (5, .int x387), (3, .int x1), (0, .ref o1), (1, .int 1), (2, .int a2)]) hx hb dX12_goesOn_187 hl (k := 3) rfl (incN (by decide +kernel) x407_e) (by decide) rfl (fun ls hl => ?_)
                    refine lv_goto (tgt := 19) hx hb dX12_goesOn_190 (by decide) ?_
                    exact ih3 x407 f403 _ _ _ (ms_up x407_e j309 (by decide) hM3) (iv_w x407_h (by decide)) f403_b hP hD hS (lv_sub hl [0, 4, 5, 6, 7] rfl)
                  ·
                    have j408 : Iv 1 1 x404 := r_nelo h405 x404_h ik_0 (by decide)
                    refine lv_iconst (v := 1) hx hb dX12_goesOn_185 (by decide) ?_
                    rw [hQ]
                    exact W.zret (v := 1) (ty := .boolean) hx hb hr rfl (fun t ht hW => ⟨⟨1, f403, rfl, ⟨(iv_w ik_1 (by decide)), f403_b⟩, by rw [ht]; exact hP, va_K.moved hW.alike hK, hD⟩, hS.F ht⟩) hS.2.2 dX12_goesOn_186
            ·
              have qh389 := nle_i h389
              have j409 : Iv 0 0 x386 := r_ltl qh389 x386_h ik_1 (by decide)
              refine lv_iload hx hb dX12_goesOn_43 (lv_at hl 1 rfl) ?_
              refine lv_if_ne (tgt := 60) hx hb dX12_goesOn_45 (by decide) (fun h410 => ?_) (fun h410 => ?_)
              ·
                have j411 : Iv 1 1 x388 := r_nelo h410 x388_h ik_0 (by decide)
                refine lv_iconst (v := 1) hx hb dX12_goesOn_60 (by decide) ?_
                refine lv_goto (tgt := 65) hx hb dX12_goesOn_61 (by decide) ?_
                refine lv_istore (lv' := [(6, .int 1), (7, .int x386), (5, .int x387), (4, .int x306), (3, .int x1), (0, .ref o1), (1, .int 1), (2, .int a2)]) hx hb dX12_goesOn_65 hl (by decide) rfl (fun ls hl => ?_)
                refine lv_iload hx hb dX12_goesOn_67 (lv_at hl 2 rfl) ?_
                refine lv_aload_n hx hb dX12_goesOn_69 rfl (lv_at hl 5 rfl) ?_
                refine va_get (D := (dC, dI)) (ci := 12) (v := .ref o6) (C := RX12) (T := TX12) (N := 29) hx hb hts iw_X12_goesOn_X12 hown hK hP 0 rfl rfl 3 (by decide) (hts (.fieldLink RX12 13 "HolelessHouseModel" "near" "[I") hm_X12_goesOn_3) (fun _ h9 => h9) rfl dX12_goesOn_70 ?_
                refine lv_iload hx hb dX12_goesOn_73 (lv_at hl 3 rfl) ?_
                refine va_iald hx hb hK hP 2 0 rfl rfl (vin_iv j309 (by decide)) dX12_goesOn_75 (lv_topi (fun x412 x412_e => ?_))
                have x412_h : Iv 0 4095 x412 := iv_e x412_e (bd_at fw7_b (vin_iv j309 (by decide)))
                refine lv_aload_n hx hb dX12_goesOn_76 rfl (lv_at hl 5 rfl) ?_
                refine va_get (D := (dC, dI)) (ci := 12) (v := .ref o11) (C := RX12) (T := TX12) (N := 29) hx hb hts iw_X12_goesOn_X12 hown hK hP 0 rfl rfl 6 (by decide) (hts (.fieldLink RX12 19 "HolelessHouseModel" "ring" "[I") hm_X12_goesOn_1) (fun _ h9 => h9) rfl dX12_goesOn_77 ?_
                refine lv_iload hx hb dX12_goesOn_80 (lv_at hl 1 rfl) ?_
                refine va_iald hx hb hK hP 1 0 rfl rfl (vin_iv j409 (by decide)) dX12_goesOn_82 (lv_topi (fun x413 x413_e => ?_))
                have x413_h : Iv 0 11 x413 := iv_e x413_e (bd_at f307_b (vin_iv j409 (by decide)))
                refine kc_i (D := (dC, dI)) (S := Unit) (wc := []) (wr := [(o1, .inr (12, [.int v2, .ref o3, .int v5, .ref o6, .int v8, .ref o9, .ref o11, .int v13, .ref o14, .int v16, .ref o17, .int v19, .int v20, .int v21, .ref o22, .ref o24, .ref o26, .ref o28, .ref o30, .int v32, .ref o33, .ref o35, .ref o37, .int v39, .ref o40, .ref o42, .ref o44, .int v46, .ref o47])), (o11, .inl (cI, 12, .inl f307)), (o6, .inl (cI, 12, .inl fw7))]) (w1 := fun _ => []) (wn := fun _ => [(o1, .inr (12, [.int v2, .ref o3, .int v5, .ref o6, .int v8, .ref o9, .ref o11, .int v13, .ref o14, .int v16, .ref o17, .int v19, .int v20, .int v21, .ref o22, .ref o24, .ref o26, .ref o28, .ref o30, .int v32, .ref o33, .ref o35, .ref o37, .int v39, .ref o40, .ref o42, .ref o44, .int v46, .ref o47])), (o11, .inl (cI, 12, .inl f307)), (o6, .inl (cI, 12, .inl fw7))]) (fun hPc hDc => va_runS (As := [.int x412, .int x413]) (rest := [.int x387]) ⟨hx, hb, hml, hown, hts⟩ (kX12_has_1 l dC dI cI c2 cZ x412 x413 H.size (iv_w x413_h (by decide))) (va_cwS 2 hts gX12_goesOn_X12_has rfl rfl rfl (by decide +kernel) ⟨Nat.le_of_ble_eq_true rfl, Nat.le_of_ble_eq_true rfl⟩) (pre_S hPc hK hDc hN) rfl rfl hl.1 rfl (lv_room (Nat.le_of_ble_eq_true rfl)) dX12_goesOn_83 ⟨Nat.le_of_ble_eq_true rfl, Nat.le_of_ble_eq_true rfl⟩) hP hD hS hA [] [0, 1, 2] [0, 1, 2] rfl rfl (by decide +kernel) (by decide +kernel) (by decide +kernel) (by decide +kernel) (fun _ => rfl) (fun x414 _ H locs hq hP hD hS => ?_)
                obtain ⟨x414_h, e415⟩ := hq
                have hP : va_P (dC, dI) vwCl ([(o1, .inr (12, [.int v2, .ref o3, .int v5, .ref o6, .int v8, .ref o9, .ref o11, .int v13, .ref o14, .int v16, .ref o17, .int v19, .int v20, .int v21, .ref o22, .ref o24, .ref o26, .ref o28, .ref o30, .int v32, .ref o33, .ref o35, .ref o37, .int v39, .ref o40, .ref o42, .ref o44, .int v46, .ref o47])), (o11, .inl (cI, 12, .inl f307)), (o6, .inl (cI, 12, .inl fw7))]) H := hP
                have hD : va_D A ([(o1, .inr (12, [.int v2, .ref o3, .int v5, .ref o6, .int v8, .ref o9, .ref o11, .int v13, .ref o14, .int v16, .ref o17, .int v19, .int v20, .int v21, .ref o22, .ref o24, .ref o26, .ref o28, .ref o30, .int v32, .ref o33, .ref o35, .ref o37, .int v39, .ref o40, .ref o42, .ref o44, .int v46, .ref o47])), (o11, .inl (cI, 12, .inl f307)), (o6, .inl (cI, 12, .inl fw7))]) := hD
                refine lv_if_eq (tgt := 96) hx hb dX12_goesOn_86 (by decide) (fun h416 => ?_) (fun h416 => ?_)
                ·
                  have j417 : Iv 0 0 x414 := r_eq h416 ik_0
                  have b418 : bt x412 (Int32.toNatClampNeg x413) = false := has_f e415 h416
                  refine lv_iconst (v := 0) hx hb dX12_goesOn_96 (by decide) ?_
                  refine lv_ior hx hb dX12_goesOn_97 (lv_topi (fun x419 x419_e => ?_))
                  have x419_h : Iv 0 1 x419 := iv_e x419_e (iv_or 1 x387_h ik_0 (by decide))
                  refine lv_istore (lv' := [(5, .int x419), (6, .int 1), (7, .int x386), (4, .int x306), (3, .int x1), (0, .ref o1), (1, .int 1), (2, .int a2)]) hx hb dX12_goesOn_98 hl (by decide) rfl (fun ls hl => ?_)
                  obtain ⟨x420, x420_e⟩ : ∃ z : Int32, z = x386 + 1 := ⟨_, rfl⟩
                  have x420_h : Iv 1 1 x420 := iv_e x420_e (iv_add j409 ik_1 (by decide))
                  refine lv_iinc (v := x420) (lv' := [(7, .int x420), (5, .int x419), (6, .int 1), (4, .int x306), (3, .int x1), (0, .ref o1), (1, .int 1), (2, .int a2)]) hx hb dX12_goesOn_100 hl (k := 2) rfl (incN (by decide +kernel) x420_e) (by decide) rfl (fun ls hl => ?_)
                  refine lv_goto (tgt := 37) hx hb dX12_goesOn_103 (by decide) ?_
                  exact ih4 x420 x419 1 _ _ _ (ms_up x420_e j409 (by decide) hM4) (iv_w x420_h (by decide)) x419_h (iv_w ik_1 (by decide)) hP hD hS (lv_sub hl [0, 2, 1, 3, 4, 5, 6, 7] rfl)
                ·
                  have j421 : Iv 1 1 x414 := r_nelo h416 x414_h ik_0 (by decide)
                  have b422 : bt x412 (Int32.toNatClampNeg x413) = true := has_t e415 h416
                  refine lv_iconst (v := 1) hx hb dX12_goesOn_89 (by decide) ?_
                  refine lv_iload hx hb dX12_goesOn_90 (lv_at hl 1 rfl) ?_
                  refine lv_ishl hx hb dX12_goesOn_92 (lv_topi (fun x423 x423_e => ?_))
                  have x423_h : Iv 1 1 x423 := iv_e x423_e (iv_shl1 j409 (by decide))
                  refine lv_goto (tgt := 97) hx hb dX12_goesOn_93 (by decide) ?_
                  refine lv_ior hx hb dX12_goesOn_97 (lv_topi (fun x424 x424_e => ?_))
                  have x424_h : Iv 0 1 x424 := iv_e x424_e (iv_or 1 x387_h x423_h (by decide))
                  refine lv_istore (lv' := [(5, .int x424), (6, .int 1), (7, .int x386), (4, .int x306), (3, .int x1), (0, .ref o1), (1, .int 1), (2, .int a2)]) hx hb dX12_goesOn_98 hl (by decide) rfl (fun ls hl => ?_)
                  obtain ⟨x425, x425_e⟩ : ∃ z : Int32, z = x386 + 1 := ⟨_, rfl⟩
                  have x425_h : Iv 1 1 x425 := iv_e x425_e (iv_add j409 ik_1 (by decide))
                  refine lv_iinc (v := x425) (lv' := [(7, .int x425), (5, .int x424), (6, .int 1), (4, .int x306), (3, .int x1), (0, .ref o1), (1, .int 1), (2, .int a2)]) hx hb dX12_goesOn_100 hl (k := 2) rfl (incN (by decide +kernel) x425_e) (by decide) rfl (fun ls hl => ?_)
                  refine lv_goto (tgt := 37) hx hb dX12_goesOn_103 (by decide) ?_
                  exact ih4 x425 x424 1 _ _ _ (ms_up x425_e j409 (by decide) hM4) (iv_w x425_h (by decide)) x424_h (iv_w ik_1 (by decide)) hP hD hS (lv_sub hl [0, 2, 1, 3, 4, 5, 6, 7] rfl)
              ·
                have j426 : Iv 0 0 x388 := r_eq h410 ik_0
                refine lv_aload_n hx hb dX12_goesOn_48 rfl (lv_at hl 5 rfl) ?_
                refine va_get (D := (dC, dI)) (ci := 12) (v := .ref o11) (C := RX12) (T := TX12) (N := 29) hx hb hts iw_X12_goesOn_X12 hown hK hP 0 rfl rfl 6 (by decide) (hts (.fieldLink RX12 19 "HolelessHouseModel" "ring" "[I") hm_X12_goesOn_1) (fun _ h9 => h9) rfl dX12_goesOn_49 ?_
                refine lv_iload hx hb dX12_goesOn_52 (lv_at hl 0 rfl) ?_
                refine va_iald hx hb hK hP 1 0 rfl rfl (vin_iv j409 (by decide)) dX12_goesOn_54 (lv_topi (fun x427 x427_e => ?_))
                have x427_h : Iv 0 11 x427 := iv_e x427_e (bd_at f307_b (vin_iv j409 (by decide)))
                refine lv_iload hx hb dX12_goesOn_55 (lv_at hl 3 rfl) ?_
                refine lv_icmp_ne (tgt := 64) hx hb dX12_goesOn_57 (by decide) (fun h428 => ?_) (fun h428 => ?_)
                ·
                  refine lv_iconst (v := 0) hx hb dX12_goesOn_64 (by decide) ?_
                  refine lv_istore (lv' := [(6, .int 0), (7, .int x386), (5, .int x387), (4, .int x306), (3, .int x1), (0, .ref o1), (1, .int 1), (2, .int a2)]) hx hb dX12_goesOn_65 hl (by decide) rfl (fun ls hl => ?_)
                  refine lv_iload hx hb dX12_goesOn_67 (lv_at hl 2 rfl) ?_
                  refine lv_aload_n hx hb dX12_goesOn_69 rfl (lv_at hl 5 rfl) ?_
                  refine va_get (D := (dC, dI)) (ci := 12) (v := .ref o6) (C := RX12) (T := TX12) (N := 29) hx hb hts iw_X12_goesOn_X12 hown hK hP 0 rfl rfl 3 (by decide) (hts (.fieldLink RX12 13 "HolelessHouseModel" "near" "[I") hm_X12_goesOn_3) (fun _ h9 => h9) rfl dX12_goesOn_70 ?_
                  refine lv_iload hx hb dX12_goesOn_73 (lv_at hl 3 rfl) ?_
                  refine va_iald hx hb hK hP 2 0 rfl rfl (vin_iv j309 (by decide)) dX12_goesOn_75 (lv_topi (fun x429 x429_e => ?_))
                  have x429_h : Iv 0 4095 x429 := iv_e x429_e (bd_at fw7_b (vin_iv j309 (by decide)))
                  refine lv_aload_n hx hb dX12_goesOn_76 rfl (lv_at hl 5 rfl) ?_
                  refine va_get (D := (dC, dI)) (ci := 12) (v := .ref o11) (C := RX12) (T := TX12) (N := 29) hx hb hts iw_X12_goesOn_X12 hown hK hP 0 rfl rfl 6 (by decide) (hts (.fieldLink RX12 19 "HolelessHouseModel" "ring" "[I") hm_X12_goesOn_1) (fun _ h9 => h9) rfl dX12_goesOn_77 ?_
                  refine lv_iload hx hb dX12_goesOn_80 (lv_at hl 1 rfl) ?_
                  refine va_iald hx hb hK hP 1 0 rfl rfl (vin_iv j409 (by decide)) dX12_goesOn_82 (lv_topi (fun x430 x430_e => ?_))
                  have x430_h : Iv 0 11 x430 := iv_e x430_e (bd_at f307_b (vin_iv j409 (by decide)))
                  refine kc_i (D := (dC, dI)) (S := Unit) (wc := []) (wr := [(o1, .inr (12, [.int v2, .ref o3, .int v5, .ref o6, .int v8, .ref o9, .ref o11, .int v13, .ref o14, .int v16, .ref o17, .int v19, .int v20, .int v21, .ref o22, .ref o24, .ref o26, .ref o28, .ref o30, .int v32, .ref o33, .ref o35, .ref o37, .int v39, .ref o40, .ref o42, .ref o44, .int v46, .ref o47])), (o11, .inl (cI, 12, .inl f307)), (o6, .inl (cI, 12, .inl fw7))]) (w1 := fun _ => []) (wn := fun _ => [(o1, .inr (12, [.int v2, .ref o3, .int v5, .ref o6, .int v8, .ref o9, .ref o11, .int v13, .ref o14, .int v16, .ref o17, .int v19, .int v20, .int v21, .ref o22, .ref o24, .ref o26, .ref o28, .ref o30, .int v32, .ref o33, .ref o35, .ref o37, .int v39, .ref o40, .ref o42, .ref o44, .int v46, .ref o47])), (o11, .inl (cI, 12, .inl f307)), (o6, .inl (cI, 12, .inl fw7))]) (fun hPc hDc => va_runS (As := [.int x429, .int x430]) (rest := [.int x387]) ⟨hx, hb, hml, hown, hts⟩ (kX12_has_1 l dC dI cI c2 cZ x429 x430 H.size (iv_w x430_h (by decide))) (va_cwS 2 hts gX12_goesOn_X12_has rfl rfl rfl (by decide +kernel) ⟨Nat.le_of_ble_eq_true rfl, Nat.le_of_ble_eq_true rfl⟩) (pre_S hPc hK hDc hN) rfl rfl hl.1 rfl (lv_room (Nat.le_of_ble_eq_true rfl)) dX12_goesOn_83 ⟨Nat.le_of_ble_eq_true rfl, Nat.le_of_ble_eq_true rfl⟩) hP hD hS hA [] [0, 1, 2] [0, 1, 2] rfl rfl (by decide +kernel) (by decide +kernel) (by decide +kernel) (by decide +kernel) (fun _ => rfl) (fun x431 _ H locs hq hP hD hS => ?_)
                  obtain ⟨x431_h, e432⟩ := hq
                  have hP : va_P (dC, dI) vwCl ([(o1, .inr (12, [.int v2, .ref o3, .int v5, .ref o6, .int v8, .ref o9, .ref o11, .int v13, .ref o14, .int v16, .ref o17, .int v19, .int v20, .int v21, .ref o22, .ref o24, .ref o26, .ref o28, .ref o30, .int v32, .ref o33, .ref o35, .ref o37, .int v39, .ref o40, .ref o42, .ref o44, .int v46, .ref o47])), (o11, .inl (cI, 12, .inl f307)), (o6, .inl (cI, 12, .inl fw7))]) H := hP
                  have hD : va_D A ([(o1, .inr (12, [.int v2, .ref o3, .int v5, .ref o6, .int v8, .ref o9, .ref o11, .int v13, .ref o14, .int v16, .ref o17, .int v19, .int v20, .int v21, .ref o22, .ref o24, .ref o26, .ref o28, .ref o30, .int v32, .ref o33, .ref o35, .ref o37, .int v39, .ref o40, .ref o42, .ref o44, .int v46, .ref o47])), (o11, .inl (cI, 12, .inl f307)), (o6, .inl (cI, 12, .inl fw7))]) := hD
                  refine lv_if_eq (tgt := 96) hx hb dX12_goesOn_86 (by decide) (fun h433 => ?_) (fun h433 => ?_)
                  ·
                    have j434 : Iv 0 0 x431 := r_eq h433 ik_0
                    have b435 : bt x429 (Int32.toNatClampNeg x430) = false := has_f e432 h433
                    refine lv_iconst (v := 0) hx hb dX12_goesOn_96 (by decide) ?_
                    refine lv_ior hx hb dX12_goesOn_97 (lv_topi (fun x436 x436_e => ?_))
                    have x436_h : Iv 0 1 x436 := iv_e x436_e (iv_or 1 x387_h ik_0 (by decide))
                    refine lv_istore (lv' := [(5, .int x436), (6, .int 0), (7, .int x386), (4, .int x306), (3, .int x1), (0, .ref o1), (1, .int 1), (2, .int a2)]) hx hb dX12_goesOn_98 hl (by decide) rfl (fun ls hl => ?_)
                    obtain ⟨x437, x437_e⟩ : ∃ z : Int32, z = x386 + 1 := ⟨_, rfl⟩
                    have x437_h : Iv 1 1 x437 := iv_e x437_e (iv_add j409 ik_1 (by decide))
                    refine lv_iinc (v := x437) (lv' := [(7, .int x437), (5, .int x436), (6, .int 0), (4, .int x306), (3, .int x1), (0, .ref o1), (1, .int 1), (2, .int a2)]) hx hb dX12_goesOn_100 hl (k := 2) rfl (incN (by decide +kernel) x437_e) (by decide) rfl (fun ls hl => ?_)
                    refine lv_goto (tgt := 37) hx hb dX12_goesOn_103 (by decide) ?_
                    exact ih4 x437 x436 0 _ _ _ (ms_up x437_e j409 (by decide) hM4) (iv_w x437_h (by decide)) x436_h (iv_w ik_0 (by decide)) hP hD hS (lv_sub hl [0, 2, 1, 3, 4, 5, 6, 7] rfl)
                  ·
                    have j438 : Iv 1 1 x431 := r_nelo h433 x431_h ik_0 (by decide)
                    have b439 : bt x429 (Int32.toNatClampNeg x430) = true := has_t e432 h433
                    refine lv_iconst (v := 1) hx hb dX12_goesOn_89 (by decide) ?_
                    refine lv_iload hx hb dX12_goesOn_90 (lv_at hl 1 rfl) ?_
                    refine lv_ishl hx hb dX12_goesOn_92 (lv_topi (fun x440 x440_e => ?_))
                    have x440_h : Iv 1 1 x440 := iv_e x440_e (iv_shl1 j409 (by decide))
                    refine lv_goto (tgt := 97) hx hb dX12_goesOn_93 (by decide) ?_
                    refine lv_ior hx hb dX12_goesOn_97 (lv_topi (fun x441 x441_e => ?_))
                    have x441_h : Iv 0 1 x441 := iv_e x441_e (iv_or 1 x387_h x440_h (by decide))
                    refine lv_istore (lv' := [(5, .int x441), (6, .int 0), (7, .int x386), (4, .int x306), (3, .int x1), (0, .ref o1), (1, .int 1), (2, .int a2)]) hx hb dX12_goesOn_98 hl (by decide) rfl (fun ls hl => ?_)
                    obtain ⟨x442, x442_e⟩ : ∃ z : Int32, z = x386 + 1 := ⟨_, rfl⟩
                    have x442_h : Iv 1 1 x442 := iv_e x442_e (iv_add j409 ik_1 (by decide))
                    refine lv_iinc (v := x442) (lv' := [(7, .int x442), (5, .int x441), (6, .int 0), (4, .int x306), (3, .int x1), (0, .ref o1), (1, .int 1), (2, .int a2)]) hx hb dX12_goesOn_100 hl (k := 2) rfl (incN (by decide +kernel) x442_e) (by decide) rfl (fun ls hl => ?_)
                    refine lv_goto (tgt := 37) hx hb dX12_goesOn_103 (by decide) ?_
                    exact ih4 x442 x441 0 _ _ _ (ms_up x442_e j409 (by decide) hM4) (iv_w x442_h (by decide)) x441_h (iv_w ik_0 (by decide)) hP hD hS (lv_sub hl [0, 2, 1, 3, 4, 5, 6, 7] rfl)
                ·
                  have j443 : Iv 1 11 x427 := r_eq h428 j309
                  refine lv_iconst (v := 1) hx hb dX12_goesOn_60 (by decide) ?_
                  refine lv_goto (tgt := 65) hx hb dX12_goesOn_61 (by decide) ?_
                  refine lv_istore (lv' := [(6, .int 1), (7, .int x386), (5, .int x387), (4, .int x306), (3, .int x1), (0, .ref o1), (1, .int 1), (2, .int a2)]) hx hb dX12_goesOn_65 hl (by decide) rfl (fun ls hl => ?_)
                  refine lv_iload hx hb dX12_goesOn_67 (lv_at hl 2 rfl) ?_
                  refine lv_aload_n hx hb dX12_goesOn_69 rfl (lv_at hl 5 rfl) ?_
                  refine va_get (D := (dC, dI)) (ci := 12) (v := .ref o6) (C := RX12) (T := TX12) (N := 29) hx hb hts iw_X12_goesOn_X12 hown hK hP 0 rfl rfl 3 (by decide) (hts (.fieldLink RX12 13 "HolelessHouseModel" "near" "[I") hm_X12_goesOn_3) (fun _ h9 => h9) rfl dX12_goesOn_70 ?_
                  refine lv_iload hx hb dX12_goesOn_73 (lv_at hl 3 rfl) ?_
                  refine va_iald hx hb hK hP 2 0 rfl rfl (vin_iv j309 (by decide)) dX12_goesOn_75 (lv_topi (fun x444 x444_e => ?_))
                  have x444_h : Iv 0 4095 x444 := iv_e x444_e (bd_at fw7_b (vin_iv j309 (by decide)))
                  refine lv_aload_n hx hb dX12_goesOn_76 rfl (lv_at hl 5 rfl) ?_
                  refine va_get (D := (dC, dI)) (ci := 12) (v := .ref o11) (C := RX12) (T := TX12) (N := 29) hx hb hts iw_X12_goesOn_X12 hown hK hP 0 rfl rfl 6 (by decide) (hts (.fieldLink RX12 19 "HolelessHouseModel" "ring" "[I") hm_X12_goesOn_1) (fun _ h9 => h9) rfl dX12_goesOn_77 ?_
                  refine lv_iload hx hb dX12_goesOn_80 (lv_at hl 1 rfl) ?_
                  refine va_iald hx hb hK hP 1 0 rfl rfl (vin_iv j409 (by decide)) dX12_goesOn_82 (lv_topi (fun x445 x445_e => ?_))
                  have x445_h : Iv 1 11 x445 := iv_e (x445_e.trans x427_e.symm) j443
                  refine kc_i (D := (dC, dI)) (S := Unit) (wc := []) (wr := [(o1, .inr (12, [.int v2, .ref o3, .int v5, .ref o6, .int v8, .ref o9, .ref o11, .int v13, .ref o14, .int v16, .ref o17, .int v19, .int v20, .int v21, .ref o22, .ref o24, .ref o26, .ref o28, .ref o30, .int v32, .ref o33, .ref o35, .ref o37, .int v39, .ref o40, .ref o42, .ref o44, .int v46, .ref o47])), (o11, .inl (cI, 12, .inl f307)), (o6, .inl (cI, 12, .inl fw7))]) (w1 := fun _ => []) (wn := fun _ => [(o1, .inr (12, [.int v2, .ref o3, .int v5, .ref o6, .int v8, .ref o9, .ref o11, .int v13, .ref o14, .int v16, .ref o17, .int v19, .int v20, .int v21, .ref o22, .ref o24, .ref o26, .ref o28, .ref o30, .int v32, .ref o33, .ref o35, .ref o37, .int v39, .ref o40, .ref o42, .ref o44, .int v46, .ref o47])), (o11, .inl (cI, 12, .inl f307)), (o6, .inl (cI, 12, .inl fw7))]) (fun hPc hDc => va_runS (As := [.int x444, .int x445]) (rest := [.int x387]) ⟨hx, hb, hml, hown, hts⟩ (kX12_has_1 l dC dI cI c2 cZ x444 x445 H.size (iv_w x445_h (by decide))) (va_cwS 2 hts gX12_goesOn_X12_has rfl rfl rfl (by decide +kernel) ⟨Nat.le_of_ble_eq_true rfl, Nat.le_of_ble_eq_true rfl⟩) (pre_S hPc hK hDc hN) rfl rfl hl.1 rfl (lv_room (Nat.le_of_ble_eq_true rfl)) dX12_goesOn_83 ⟨Nat.le_of_ble_eq_true rfl, Nat.le_of_ble_eq_true rfl⟩) hP hD hS hA [] [0, 1, 2] [0, 1, 2] rfl rfl (by decide +kernel) (by decide +kernel) (by decide +kernel) (by decide +kernel) (fun _ => rfl) (fun x446 _ H locs hq hP hD hS => ?_)
                  obtain ⟨x446_h, e447⟩ := hq
                  have hP : va_P (dC, dI) vwCl ([(o1, .inr (12, [.int v2, .ref o3, .int v5, .ref o6, .int v8, .ref o9, .ref o11, .int v13, .ref o14, .int v16, .ref o17, .int v19, .int v20, .int v21, .ref o22, .ref o24, .ref o26, .ref o28, .ref o30, .int v32, .ref o33, .ref o35, .ref o37, .int v39, .ref o40, .ref o42, .ref o44, .int v46, .ref o47])), (o11, .inl (cI, 12, .inl f307)), (o6, .inl (cI, 12, .inl fw7))]) H := hP
                  have hD : va_D A ([(o1, .inr (12, [.int v2, .ref o3, .int v5, .ref o6, .int v8, .ref o9, .ref o11, .int v13, .ref o14, .int v16, .ref o17, .int v19, .int v20, .int v21, .ref o22, .ref o24, .ref o26, .ref o28, .ref o30, .int v32, .ref o33, .ref o35, .ref o37, .int v39, .ref o40, .ref o42, .ref o44, .int v46, .ref o47])), (o11, .inl (cI, 12, .inl f307)), (o6, .inl (cI, 12, .inl fw7))]) := hD
                  refine lv_if_eq (tgt := 96) hx hb dX12_goesOn_86 (by decide) (fun h448 => ?_) (fun h448 => ?_)
                  ·
                    have j449 : Iv 0 0 x446 := r_eq h448 ik_0
                    have b450 : bt x444 (Int32.toNatClampNeg x445) = false := has_f e447 h448
                    refine lv_iconst (v := 0) hx hb dX12_goesOn_96 (by decide) ?_
                    refine lv_ior hx hb dX12_goesOn_97 (lv_topi (fun x451 x451_e => ?_))
                    have x451_h : Iv 0 1 x451 := iv_e x451_e (iv_or 1 x387_h ik_0 (by decide))
                    refine lv_istore (lv' := [(5, .int x451), (6, .int 1), (7, .int x386), (4, .int x306), (3, .int x1), (0, .ref o1), (1, .int 1), (2, .int a2)]) hx hb dX12_goesOn_98 hl (by decide) rfl (fun ls hl => ?_)
                    obtain ⟨x452, x452_e⟩ : ∃ z : Int32, z = x386 + 1 := ⟨_, rfl⟩
                    have x452_h : Iv 1 1 x452 := iv_e x452_e (iv_add j409 ik_1 (by decide))
                    refine lv_iinc (v := x452) (lv' := [(7, .int x452), (5, .int x451), (6, .int 1), (4, .int x306), (3, .int x1), (0, .ref o1), (1, .int 1), (2, .int a2)]) hx hb dX12_goesOn_100 hl (k := 2) rfl (incN (by decide +kernel) x452_e) (by decide) rfl (fun ls hl => ?_)
                    refine lv_goto (tgt := 37) hx hb dX12_goesOn_103 (by decide) ?_
                    exact ih4 x452 x451 1 _ _ _ (ms_up x452_e j409 (by decide) hM4) (iv_w x452_h (by decide)) x451_h (iv_w ik_1 (by decide)) hP hD hS (lv_sub hl [0, 2, 1, 3, 4, 5, 6, 7] rfl)
                  ·
                    have j453 : Iv 1 1 x446 := r_nelo h448 x446_h ik_0 (by decide)
                    have b454 : bt x444 (Int32.toNatClampNeg x445) = true := has_t e447 h448
                    refine lv_iconst (v := 1) hx hb dX12_goesOn_89 (by decide) ?_
                    refine lv_iload hx hb dX12_goesOn_90 (lv_at hl 1 rfl) ?_
                    refine lv_ishl hx hb dX12_goesOn_92 (lv_topi (fun x455 x455_e => ?_))
                    have x455_h : Iv 1 1 x455 := iv_e x455_e (iv_shl1 j409 (by decide))
                    refine lv_goto (tgt := 97) hx hb dX12_goesOn_93 (by decide) ?_
                    refine lv_ior hx hb dX12_goesOn_97 (lv_topi (fun x456 x456_e => ?_))
                    have x456_h : Iv 0 1 x456 := iv_e x456_e (iv_or 1 x387_h x455_h (by decide))
                    refine lv_istore (lv' := [(5, .int x456), (6, .int 1), (7, .int x386), (4, .int x306), (3, .int x1), (0, .ref o1), (1, .int 1), (2, .int a2)]) hx hb dX12_goesOn_98 hl (by decide) rfl (fun ls hl => ?_)
                    obtain ⟨x457, x457_e⟩ : ∃ z : Int32, z = x386 + 1 := ⟨_, rfl⟩
                    have x457_h : Iv 1 1 x457 := iv_e x457_e (iv_add j409 ik_1 (by decide))
                    refine lv_iinc (v := x457) (lv' := [(7, .int x457), (5, .int x456), (6, .int 1), (4, .int x306), (3, .int x1), (0, .ref o1), (1, .int 1), (2, .int a2)]) hx hb dX12_goesOn_100 hl (k := 2) rfl (incN (by decide +kernel) x457_e) (by decide) rfl (fun ls hl => ?_)
                    refine lv_goto (tgt := 37) hx hb dX12_goesOn_103 (by decide) ?_
                    exact ih4 x457 x456 1 _ _ _ (ms_up x457_e j409 (by decide) hM4) (iv_w x457_h (by decide)) x456_h (iv_w ik_1 (by decide)) hP hD hS (lv_sub hl [0, 2, 1, 3, 4, 5, 6, 7] rfl)
        exact L4 _ 0 0 0 _ _ _ (Nat.lt_succ_self _) (iv_w ik_0 (by decide)) (iv_w ik_0 (by decide)) (iv_w ik_0 (by decide)) hP hD hS hl
  exact L3 _ x3 fw12 _ _ _ (Nat.lt_succ_self _) x3_h fw12_b hP hD hS hl
theorem iw_X12_findHole_X12 : ∀ w ∈ wsX120, w ∈ wsX12_findHole := fun _ h => List.mem_cons.mpr (Or.inr (List.mem_append.mpr (Or.inr h)))
set_option maxHeartbeats 4000000 in
set_option maxRecDepth 100000 in
theorem kX12_findHole_1 (l : Launch) (dC : Nat → ClassId) (dI : Nat → Nat → Nat) (cI c2 cZ : ClassId) (o1 : Nat) (o3 : Nat) (o6 : Nat) (o9 : Nat) (o11 : Nat) (o14 : Nat) (o17 : Nat) (o22 : Nat) (o24 : Nat) (o26 : Nat) (o28 : Nat) (o30 : Nat) (o33 : Nat) (o35 : Nat) (o37 : Nat) (o40 : Nat) (o42 : Nat) (o44 : Nat) (o47 : Nat) (v2 : Int32) (v5 : Int32) (fw7 : Nat → Int32) (v8 : Int32) (fw12 : Nat → Int32) (v13 : Int32) (v16 : Int32) (v19 : Int32) (v20 : Int32) (v21 : Int32) (v32 : Int32) (v39 : Int32) (v46 : Int32) (sz : Nat) (v5_h : Iv 0 12 v5) (fw7_b : Bd 12 0 4095 fw7) (v8_h : Iv 0 8 v8) (fw12_b : Bd 12 0 11 fw12) (v13_h : Iv 0 12 v13) (v16_h : Iv 0 12 v16) (v19_h : Iv (-9) 12 v19) (v32_h : Iv 0 99 v32) (v39_h : Iv 0 12 v39) (v46_h : Iv 0 12 v46) : Met l yX12_findHole wsX12_findHole ({ frames := 12, cells := 0, slots := 0, locals := 318 }) (va_Pc [.ref o1] (wPre (dC, dI) [(cI, .int), (c2, .array .int), (cZ, .boolean)] ([(o1, .inr (12, [.int v2, .ref o3, .int v5, .ref o6, .int v8, .ref o9, .ref o11, .int v13, .ref o14, .int v16, .ref o17, .int v19, .int v20, .int v21, .ref o22, .ref o24, .ref o26, .ref o28, .ref o30, .int v32, .ref o33, .ref o35, .ref o37, .int v39, .ref o40, .ref o42, .ref o44, .int v46, .ref o47])), (o11, .inl (cI, 12, .inl fw12)), (o6, .inl (cI, 12, .inl fw7))]) sz)) (va_Qv (fun (u : Int32 × (Nat → Int32)) => Iv 0 12 u.1 ∧ Bd 12 0 11 u.2) (fun u t => wPost (dC, dI) [(cI, .int), (c2, .array .int), (cZ, .boolean)] (va_A ([(o1, .inr (12, [.int v2, .ref o3, .int v5, .ref o6, .int v8, .ref o9, .ref o11, .int v13, .ref o14, .int v16, .ref o17, .int v19, .int v20, .int v21, .ref o22, .ref o24, .ref o26, .ref o28, .ref o30, .int v32, .ref o33, .ref o35, .ref o37, .int v39, .ref o40, .ref o42, .ref o44, .int v46, .ref o47])), (o11, .inl (cI, 12, .inl fw12)), (o6, .inl (cI, 12, .inl fw7))]) sz) ([(o1, .inr (12, [.int v2, .ref o3, .int v5, .ref o6, .int v8, .ref o9, .ref o11, .int u.1, .ref o14, .int v16, .ref o17, .int v19, .int v20, .int v21, .ref o22, .ref o24, .ref o26, .ref o28, .ref o30, .int v32, .ref o33, .ref o35, .ref o37, .int v39, .ref o40, .ref o42, .ref o44, .int v46, .ref o47])), (o11, .inl (cI, 12, .inl u.2)), (o6, .inl (cI, 12, .inl fw7))]) t) (va_A ([(o1, .inr (12, [.int v2, .ref o3, .int v5, .ref o6, .int v8, .ref o9, .ref o11, .int v13, .ref o14, .int v16, .ref o17, .int v19, .int v20, .int v21, .ref o22, .ref o24, .ref o26, .ref o28, .ref o30, .int v32, .ref o33, .ref o35, .ref o37, .int v39, .ref o40, .ref o42, .ref o44, .int v46, .ref o47])), (o11, .inl (cI, 12, .inl fw12)), (o6, .inl (cI, 12, .inl fw7))]) sz)) 0 0 (va_A ([(o1, .inr (12, [.int v2, .ref o3, .int v5, .ref o6, .int v8, .ref o9, .ref o11, .int v13, .ref o14, .int v16, .ref o17, .int v19, .int v20, .int v21, .ref o22, .ref o24, .ref o26, .ref o28, .ref o30, .int v32, .ref o33, .ref o35, .ref o37, .int v39, .ref o40, .ref o42, .ref o44, .int v46, .ref o47])), (o11, .inl (cI, 12, .inl fw12)), (o6, .inl (cI, 12, .inl fw7))]) sz) := by
  refine Met.ofW (cc := cX12_findHole) (maxL := 3) (ret := none) (by decide) rfl ?_
  intro p e s m args below meth c s₁ B hml hv
  obtain ⟨rfl, hsz, hP, hK, hD0, hN⟩ := hv
  have hx := B.exec
  have hb := B.bytes
  have hr := B.returns
  have hts := atoms_spec (ws := wsX12_findHole) B.pre
  have hown : s.vm.findClass RX12 = some m.cls := findClass_of_methodNamed B.named
  have hlocks := B.notSynchronized
  subst hsz
  have hD := hD0.self (sz := s.heap.size)
  generalize hAe : va_A ([(o1, .inr (12, [.int v2, .ref o3, .int v5, .ref o6, .int v8, .ref o9, .ref o11, .int v13, .ref o14, .int v16, .ref o17, .int v19, .int v20, .int v21, .ref o22, .ref o24, .ref o26, .ref o28, .ref o30, .int v32, .ref o33, .ref o35, .ref o37, .int v39, .ref o40, .ref o42, .ref o44, .int v46, .ref o47])), (o11, .inl (cI, 12, .inl fw12)), (o6, .inl (cI, 12, .inl fw7))]) s.heap.size = A at hD ⊢
  have hA : ∀ q : Nat, s.heap.size ≤ q → A q := fun q h => by rw [← hAe]; exact Or.inr h
  have hS : va_S A s.heap s.heap [] := va_S.rf
  have hP : va_P (dC, dI) vwCl ([(o1, .inr (12, [.int v2, .ref o3, .int v5, .ref o6, .int v8, .ref o9, .ref o11, .int v13, .ref o14, .int v16, .ref o17, .int v19, .int v20, .int v21, .ref o22, .ref o24, .ref o26, .ref o28, .ref o30, .int v32, .ref o33, .ref o35, .ref o37, .int v39, .ref o40, .ref o42, .ref o44, .int v46, .ref o47])), (o11, .inl (cI, 12, .inl fw12)), (o6, .inl (cI, 12, .inl fw7))]) s.heap := hP
  have hl := lv_entry ([.ref o1]) (n := 3) (Nat.le_of_ble_eq_true rfl)
  rw [lg_entry_eq]
  generalize (lg_sl ([.ref o1]) ++ List.replicate (3 - (lg_sl ([.ref o1])).length) Slot.unset).toArray = ls at hl ⊢
  have hl : lv_has ls 3 [(0, .ref o1)] := hl
  refine gen_Q (fun Q hQ => ?_)
  refine lv_aload_n hx hb dX12_findHole_0 rfl (lv_at hl 0 rfl) ?_
  refine lv_iconst (v := 0) hx hb dX12_findHole_1 (by decide) ?_
  refine va_put (D := (dC, dI)) (ci := 12) (v := .int 0) (ty := .int) (C := RX12) (T := TX12) (N := 29) hx hb hts iw_X12_findHole_X12 tyX12 tyX12_ok nmX12 hown hK hP hD hS 0 rfl rfl 7 (by decide) (hts (.fieldLink RX12 122 "HolelessHouseModel" "ringSize" "I") hm_X12_findHole_1) (fun _ h9 => h9) rfl (by decide +kernel) rfl rfl (Nat.le_of_ble_eq_true rfl) dX12_findHole_2 (fun H locs hP hD hS => ?_)
  have hP : va_P (dC, dI) vwCl ([(o1, .inr (12, [.int v2, .ref o3, .int v5, .ref o6, .int v8, .ref o9, .ref o11, .int 0, .ref o14, .int v16, .ref o17, .int v19, .int v20, .int v21, .ref o22, .ref o24, .ref o26, .ref o28, .ref o30, .int v32, .ref o33, .ref o35, .ref o37, .int v39, .ref o40, .ref o42, .ref o44, .int v46, .ref o47])), (o11, .inl (cI, 12, .inl fw12)), (o6, .inl (cI, 12, .inl fw7))]) H := hP
  have hD : va_D A ([(o1, .inr (12, [.int v2, .ref o3, .int v5, .ref o6, .int v8, .ref o9, .ref o11, .int 0, .ref o14, .int v16, .ref o17, .int v19, .int v20, .int v21, .ref o22, .ref o24, .ref o26, .ref o28, .ref o30, .int v32, .ref o33, .ref o35, .ref o37, .int v39, .ref o40, .ref o42, .ref o44, .int v46, .ref o47])), (o11, .inl (cI, 12, .inl fw12)), (o6, .inl (cI, 12, .inl fw7))]) := hD
  refine lv_iconst (v := 4) hx hb dX12_findHole_5 (by decide) ?_
  refine lv_istore_n (lv' := [(1, .int 4), (0, .ref o1)]) hx hb dX12_findHole_6 rfl hl (by decide) rfl (fun ls hl => ?_)
  have L6 : ∀ (N : Nat) (x502 : Int32) (f503 : Nat → Int32) (H : Heap) (locs : List Loc) (ls : Array Slot), (13 - x502.toInt).toNat < N → Iv 4 13 x502 → Bd 12 0 11 f503 → va_P (dC, dI) vwCl ([(o1, .inr (12, [.int v2, .ref o3, .int v5, .ref o6, .int v8, .ref o9, .ref o11, .int 0, .ref o14, .int v16, .ref o17, .int v19, .int v20, .int v21, .ref o22, .ref o24, .ref o26, .ref o28, .ref o30, .int v32, .ref o33, .ref o35, .ref o37, .int v39, .ref o40, .ref o42, .ref o44, .int v46, .ref o47])), (o11, .inl (cI, 12, .inl f503)), (o6, .inl (cI, 12, .inl fw7))]) H → va_D A ([(o1, .inr (12, [.int v2, .ref o3, .int v5, .ref o6, .int v8, .ref o9, .ref o11, .int 0, .ref o14, .int v16, .ref o17, .int v19, .int v20, .int v21, .ref o22, .ref o24, .ref o26, .ref o28, .ref o30, .int v32, .ref o33, .ref o35, .ref o37, .int v39, .ref o40, .ref o42, .ref o44, .int v46, .ref o47])), (o11, .inl (cI, 12, .inl f503)), (o6, .inl (cI, 12, .inl fw7))]) → va_S A s.heap H locs → lv_has ls 3 [(1, .int x502), (0, .ref o1)] → W p l e ({ frames := 12, cells := 0, slots := 0, locals := 318 }) s m ([.ref o1] : List Value).toArray below meth c H locs 0 0 Q (F0 m 7 ls []) := by
    intro N
    induction N with
    | zero =>
      intro x502 f503 H locs ls hM
      exact absurd hM (Nat.not_lt_zero _)
    | succ N ih6 =>
      intro x502 f503 H locs ls hM6 x502_h f503_b hP hD hS hl
      refine lv_iload_n hx hb dX12_findHole_7 rfl (lv_at hl 0 rfl) ?_
      refine lv_aload_n hx hb dX12_findHole_8 rfl (lv_at hl 1 rfl) ?_
      refine va_get (D := (dC, dI)) (ci := 12) (v := .int v5) (C := RX12) (T := TX12) (N := 29) hx hb hts iw_X12_findHole_X12 hown hK hP 0 rfl rfl 2 (by decide) (hts (.fieldLink RX12 73 "HolelessHouseModel" "n" "I") hm_X12_findHole_2) (fun _ h9 => h9) rfl dX12_findHole_9 ?_
      refine lv_icmp_gt (tgt := 59) hx hb dX12_findHole_12 (by decide) (fun h504 => ?_) (fun h504 => ?_)
      ·
        have qh504 := lt_i h504
        rw [hQ]
        exact W.vret hx hb hr (fun t ht hW => ⟨⟨(0, f503), rfl, ⟨(iv_w ik_0 (by decide)), f503_b⟩, by rw [ht]; exact hP, va_K.moved hW.alike hK, hD⟩, hS.F ht⟩) hS.2.2 dX12_findHole_59
      ·
        have qh504 := nlt_i h504
        have j505 : Iv 4 12 x502 := r_lel qh504 x502_h v5_h (by decide)
        have j506 : Iv 4 12 v5 := r_ler qh504 x502_h v5_h (by decide)
        refine lv_iconst (v := 0) hx hb dX12_findHole_15 (by decide) ?_
        refine lv_istore_n (lv' := [(2, .int 0), (1, .int x502), (0, .ref o1)]) hx hb dX12_findHole_16 rfl hl (by decide) rfl (fun ls hl => ?_)
        have L7 : ∀ (N : Nat) (x591 : Int32) (f592 : Nat → Int32) (H : Heap) (locs : List Loc) (ls : Array Slot), (12 - x591.toInt).toNat < N → Iv 0 12 x591 → Bd 12 0 11 f592 → va_P (dC, dI) vwCl ([(o1, .inr (12, [.int v2, .ref o3, .int v5, .ref o6, .int v8, .ref o9, .ref o11, .int 0, .ref o14, .int v16, .ref o17, .int v19, .int v20, .int v21, .ref o22, .ref o24, .ref o26, .ref o28, .ref o30, .int v32, .ref o33, .ref o35, .ref o37, .int v39, .ref o40, .ref o42, .ref o44, .int v46, .ref o47])), (o11, .inl (cI, 12, .inl f592)), (o6, .inl (cI, 12, .inl fw7))]) H → va_D A ([(o1, .inr (12, [.int v2, .ref o3, .int v5, .ref o6, .int v8, .ref o9, .ref o11, .int 0, .ref o14, .int v16, .ref o17, .int v19, .int v20, .int v21, .ref o22, .ref o24, .ref o26, .ref o28, .ref o30, .int v32, .ref o33, .ref o35, .ref o37, .int v39, .ref o40, .ref o42, .ref o44, .int v46, .ref o47])), (o11, .inl (cI, 12, .inl f592)), (o6, .inl (cI, 12, .inl fw7))]) → va_S A s.heap H locs → lv_has ls 3 [(2, .int x591), (1, .int x502), (0, .ref o1)] → W p l e ({ frames := 12, cells := 0, slots := 0, locals := 318 }) s m ([.ref o1] : List Value).toArray below meth c H locs 0 0 Q (F0 m 17 ls []) := by
          intro N
          induction N with
          | zero =>
            intro x591 f592 H locs ls hM
            exact absurd hM (Nat.not_lt_zero _)
          | succ N ih7 =>
            intro x591 f592 H locs ls hM7 x591_h f592_b hP hD hS hl
            refine lv_iload_n hx hb dX12_findHole_17 rfl (lv_at hl 0 rfl) ?_
            refine lv_aload_n hx hb dX12_findHole_18 rfl (lv_at hl 2 rfl) ?_
            refine va_get (D := (dC, dI)) (ci := 12) (v := .int v5) (C := RX12) (T := TX12) (N := 29) hx hb hts iw_X12_findHole_X12 hown hK hP 0 rfl rfl 2 (by decide) (hts (.fieldLink RX12 73 "HolelessHouseModel" "n" "I") hm_X12_findHole_2) (fun _ h9 => h9) rfl dX12_findHole_19 ?_
            refine lv_icmp_ge (tgt := 53) hx hb dX12_findHole_22 (by decide) (fun h593 => ?_) (fun h593 => ?_)
            ·
              have qh593 := le_i h593
              have j594 : Iv 4 12 x591 := r_ler qh593 j506 x591_h (by decide)
              obtain ⟨x595, x595_e⟩ : ∃ z : Int32, z = x502 + 1 := ⟨_, rfl⟩
              have x595_h : Iv 5 13 x595 := iv_e x595_e (iv_add j505 ik_1 (by decide))
              refine lv_iinc (v := x595) (lv' := [(1, .int x595), (2, .int x591), (0, .ref o1)]) hx hb dX12_findHole_53 hl (k := 1) rfl (incN (by decide +kernel) x595_e) (by decide) rfl (fun ls hl => ?_)
              refine lv_goto (tgt := 7) hx hb dX12_findHole_56 (by decide) ?_
              exact ih6 x595 f592 _ _ _ (ms_up x595_e j505 (by decide) hM6) (iv_w x595_h (by decide)) f592_b hP hD hS (lv_sub hl [0, 2] rfl)
            ·
              have qh593 := nle_i h593
              have j596 : Iv 0 11 x591 := r_ltl qh593 x591_h j506 (by decide)
              refine lv_aload_n hx hb dX12_findHole_25 rfl (lv_at hl 2 rfl) ?_
              refine va_get (D := (dC, dI)) (ci := 12) (v := .ref o11) (C := RX12) (T := TX12) (N := 29) hx hb hts iw_X12_findHole_X12 hown hK hP 0 rfl rfl 6 (by decide) (hts (.fieldLink RX12 19 "HolelessHouseModel" "ring" "[I") hm_X12_findHole_3) (fun _ h9 => h9) rfl dX12_findHole_26 ?_
              refine lv_iconst (v := 0) hx hb dX12_findHole_29 (by decide) ?_
              refine lv_iload_n hx hb dX12_findHole_30 rfl (lv_at hl 0 rfl) ?_
              refine k_iast hx hb hK hP hD hS 1 0 rfl rfl (vin_iv ik_0 (by decide)) dX12_findHole_31 (fun f597 H locs f597_e hP hD hS => ?_)
              have f597_b : Bd 12 0 11 f597 := bd_upd f597_e f592_b j596 (by decide)
              have hP : va_P (dC, dI) vwCl ([(o1, .inr (12, [.int v2, .ref o3, .int v5, .ref o6, .int v8, .ref o9, .ref o11, .int 0, .ref o14, .int v16, .ref o17, .int v19, .int v20, .int v21, .ref o22, .ref o24, .ref o26, .ref o28, .ref o30, .int v32, .ref o33, .ref o35, .ref o37, .int v39, .ref o40, .ref o42, .ref o44, .int v46, .ref o47])), (o11, .inl (cI, 12, .inl f597)), (o6, .inl (cI, 12, .inl fw7))]) H := hP
              have hD : va_D A ([(o1, .inr (12, [.int v2, .ref o3, .int v5, .ref o6, .int v8, .ref o9, .ref o11, .int 0, .ref o14, .int v16, .ref o17, .int v19, .int v20, .int v21, .ref o22, .ref o24, .ref o26, .ref o28, .ref o30, .int v32, .ref o33, .ref o35, .ref o37, .int v39, .ref o40, .ref o42, .ref o44, .int v46, .ref o47])), (o11, .inl (cI, 12, .inl f597)), (o6, .inl (cI, 12, .inl fw7))]) := hD
              refine lv_aload_n hx hb dX12_findHole_32 rfl (lv_at hl 2 rfl) ?_
              refine lv_iconst (v := 1) hx hb dX12_findHole_33 (by decide) ?_
              refine lv_iload_n hx hb dX12_findHole_34 rfl (lv_at hl 1 rfl) ?_
              refine kc_i (D := (dC, dI)) (S := (Nat → Int32)) (wc := [(o1, .inr (12, [.int v2, .ref o3, .int v5, .ref o6, .int v8, .ref o9, .ref o11, .int 0, .ref o14, .int v16, .ref o17, .int v19, .int v20, .int v21, .ref o22, .ref o24, .ref o26, .ref o28, .ref o30, .int v32, .ref o33, .ref o35, .ref o37, .int v39, .ref o40, .ref o42, .ref o44, .int v46, .ref o47])), (o11, .inl (cI, 12, .inl f597)), (o6, .inl (cI, 12, .inl fw7))]) (wr := []) (w1 := fun u => [(o1, .inr (12, [.int v2, .ref o3, .int v5, .ref o6, .int v8, .ref o9, .ref o11, .int 0, .ref o14, .int v16, .ref o17, .int v19, .int v20, .int v21, .ref o22, .ref o24, .ref o26, .ref o28, .ref o30, .int v32, .ref o33, .ref o35, .ref o37, .int v39, .ref o40, .ref o42, .ref o44, .int v46, .ref o47])), (o11, .inl (cI, 12, .inl u)), (o6, .inl (cI, 12, .inl fw7))]) (wn := fun u => [(o1, .inr (12, [.int v2, .ref o3, .int v5, .ref o6, .int v8, .ref o9, .ref o11, .int 0, .ref o14, .int v16, .ref o17, .int v19, .int v20, .int v21, .ref o22, .ref o24, .ref o26, .ref o28, .ref o30, .int v32, .ref o33, .ref o35, .ref o37, .int v39, .ref o40, .ref o42, .ref o44, .int v46, .ref o47])), (o11, .inl (cI, 12, .inl u)), (o6, .inl (cI, 12, .inl fw7))]) (fun hPc hDc => va_runV (As := [.int 1, .int x502]) (rest := []) ⟨hx, hb, hml, hown, hts⟩ (kX12_goesOn_11 l dC dI cI c2 cZ o1 o3 o6 o9 o11 o14 o17 o22 o24 o26 o28 o30 o33 o35 o37 o40 o42 o44 o47 v2 v5 fw7 v8 f597 0 v16 v19 v20 v21 v32 v39 v46 x502 H.size (iv_w j506 (by decide)) fw7_b v8_h f597_b (iv_w ik_0 (by decide)) v16_h v19_h v32_h v39_h v46_h j505) (cwV 2 hts gX12_findHole_X12_goesOn rfl rfl rfl (by decide +kernel) ⟨Nat.le_of_ble_eq_true rfl, Nat.le_of_ble_eq_true rfl⟩) (pre_V hPc hK hDc hN (ci := 12) (q0 := 0) rfl rfl) rfl rfl hl.1 rfl (lv_room (Nat.le_of_ble_eq_true rfl)) dX12_findHole_35 ⟨Nat.le_of_ble_eq_true rfl, Nat.le_of_ble_eq_true rfl⟩) hP hD hS hA [0, 1, 2] [] [0, 1, 2] rfl rfl (by decide +kernel) (by decide +kernel) (by decide +kernel) (by decide +kernel) (fun _ => rfl) (fun x599 f598 H locs hq hP hD hS => ?_)
              obtain ⟨x599_h, f598_b⟩ := hq
              have hP : va_P (dC, dI) vwCl ([(o1, .inr (12, [.int v2, .ref o3, .int v5, .ref o6, .int v8, .ref o9, .ref o11, .int 0, .ref o14, .int v16, .ref o17, .int v19, .int v20, .int v21, .ref o22, .ref o24, .ref o26, .ref o28, .ref o30, .int v32, .ref o33, .ref o35, .ref o37, .int v39, .ref o40, .ref o42, .ref o44, .int v46, .ref o47])), (o11, .inl (cI, 12, .inl f598)), (o6, .inl (cI, 12, .inl fw7))]) H := hP
              have hD : va_D A ([(o1, .inr (12, [.int v2, .ref o3, .int v5, .ref o6, .int v8, .ref o9, .ref o11, .int 0, .ref o14, .int v16, .ref o17, .int v19, .int v20, .int v21, .ref o22, .ref o24, .ref o26, .ref o28, .ref o30, .int v32, .ref o33, .ref o35, .ref o37, .int v39, .ref o40, .ref o42, .ref o44, .int v46, .ref o47])), (o11, .inl (cI, 12, .inl f598)), (o6, .inl (cI, 12, .inl fw7))]) := hD
              refine lv_if_eq (tgt := 47) hx hb dX12_findHole_38 (by decide) (fun h600 => ?_) (fun h600 => ?_)
              ·
                have j601 : Iv 0 0 x599 := r_eq h600 ik_0
                obtain ⟨x602, x602_e⟩ : ∃ z : Int32, z = x591 + 1 := ⟨_, rfl⟩
                have x602_h : Iv 1 12 x602 := iv_e x602_e (iv_add j596 ik_1 (by decide))
                refine lv_iinc (v := x602) (lv' := [(2, .int x602), (1, .int x502), (0, .ref o1)]) hx hb dX12_findHole_47 hl (k := 0) rfl (incN (by decide +kernel) x602_e) (by decide) rfl (fun ls hl => ?_)
                refine lv_goto (tgt := 17) hx hb dX12_findHole_50 (by decide) ?_
                exact ih7 x602 f598 _ _ _ (ms_up x602_e j596 (by decide) hM7) (iv_w x602_h (by decide)) f598_b hP hD hS hl
              ·
                have j603 : Iv 1 1 x599 := r_nelo h600 x599_h ik_0 (by decide)
                refine lv_aload_n hx hb dX12_findHole_41 rfl (lv_at hl 2 rfl) ?_
                refine lv_iload_n hx hb dX12_findHole_42 rfl (lv_at hl 1 rfl) ?_
                refine va_put (D := (dC, dI)) (ci := 12) (v := .int x502) (ty := .int) (C := RX12) (T := TX12) (N := 29) hx hb hts iw_X12_findHole_X12 tyX12 tyX12_ok nmX12 hown hK hP hD hS 0 rfl rfl 7 (by decide) (hts (.fieldLink RX12 122 "HolelessHouseModel" "ringSize" "I") hm_X12_findHole_1) (fun _ h9 => h9) rfl (by decide +kernel) rfl rfl (Nat.le_of_ble_eq_true rfl) dX12_findHole_43 (fun H locs hP hD hS => ?_)
                have hP : va_P (dC, dI) vwCl ([(o1, .inr (12, [.int v2, .ref o3, .int v5, .ref o6, .int v8, .ref o9, .ref o11, .int x502, .ref o14, .int v16, .ref o17, .int v19, .int v20, .int v21, .ref o22, .ref o24, .ref o26, .ref o28, .ref o30, .int v32, .ref o33, .ref o35, .ref o37, .int v39, .ref o40, .ref o42, .ref o44, .int v46, .ref o47])), (o11, .inl (cI, 12, .inl f598)), (o6, .inl (cI, 12, .inl fw7))]) H := hP
                have hD : va_D A ([(o1, .inr (12, [.int v2, .ref o3, .int v5, .ref o6, .int v8, .ref o9, .ref o11, .int x502, .ref o14, .int v16, .ref o17, .int v19, .int v20, .int v21, .ref o22, .ref o24, .ref o26, .ref o28, .ref o30, .int v32, .ref o33, .ref o35, .ref o37, .int v39, .ref o40, .ref o42, .ref o44, .int v46, .ref o47])), (o11, .inl (cI, 12, .inl f598)), (o6, .inl (cI, 12, .inl fw7))]) := hD
                rw [hQ]
                exact W.vret hx hb hr (fun t ht hW => ⟨⟨(x502, f598), rfl, ⟨(iv_w j505 (by decide)), f598_b⟩, by rw [ht]; exact hP, va_K.moved hW.alike hK, hD⟩, hS.F ht⟩) hS.2.2 dX12_findHole_46
        exact L7 _ 0 f503 _ _ _ (Nat.lt_succ_self _) (iv_w ik_0 (by decide)) f503_b hP hD hS hl
  exact L6 _ 4 fw12 _ _ _ (Nat.lt_succ_self _) (iv_w ik_4 (by decide)) fw12_b hP hD hS hl
