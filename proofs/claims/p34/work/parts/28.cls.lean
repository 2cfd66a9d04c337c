theorem hm_X5_leastFrom_1 : (.fieldLink RX5 34 "HolelessHouse$LeastSearch" "size" "I" : Cond) ∈ wsX5_leastFrom := List.mem_of_getElem? (i := 1) rfl
theorem hm_X5_leastFrom_2 : (.fieldLink RX5 18 "HolelessHouse$LeastSearch" "notes" "[I" : Cond) ∈ wsX5_leastFrom := List.mem_of_getElem? (i := 2) rfl
theorem hm_X5_both_1 : (.fieldLink RX5 27 "HolelessHouse$LeastSearch" "rule" "I" : Cond) ∈ wsX5_both := List.mem_of_getElem? (i := 1) rfl
theorem hm_X5_both_2 : (.methodLink RX5 73 Lib.Math.max.name : Cond) ∈ wsX5_both := List.mem_of_getElem? (i := 2) rfl
theorem hm_X5_both_3 : (.static Lib.Math.max.name : Cond) ∈ wsX5_both := List.mem_of_getElem? (i := 3) rfl
theorem hm_X5_both_4 : (.initialized "java/lang/Math" : Cond) ∈ wsX5_both := List.mem_of_getElem? (i := 4) rfl
theorem hm_X5_both_5 : (.code Lib.Math.max.name Lib.Math.max.code 2 (some .int) : Cond) ∈ wsX5_both := List.mem_of_getElem? (i := 5) rfl
set_option maxHeartbeats 4000000 in
set_option maxRecDepth 100000 in
theorem kX3_hasWayOutside_10 (l : Launch) (dC : Nat → ClassId) (dI : Nat → Nat → Nat) (cI c2 cZ : ClassId) (o1 : Nat) (o2 : Nat) (rw3 : Nat → Nat) (Gw4 : Nat → Nat → Int32) (v5 : Int32) (a2 : Int32) (a3 : Int32) (sz : Nat) (Gw4_b : Bg 13 12 0 4095 Gw4) (v5_h : Iv 0 12 v5) (a2_h : Iv 0 11 a2) (a3_h : Iv 0 4095 a3) : Met l yX3_hasWayOutside wsX3_hasWayOutside ({ frames := 2, cells := 0, slots := 0, locals := 47 }) (va_Pc [.ref o1, .int 9, .int a2, .int a3] (wPre (dC, dI) [(cI, .int), (c2, .array .int), (cZ, .boolean)] (([(o1, .inr (3, [.ref o2, .int v5])), (o2, .inl (c2, 13, .inr (.inr (.inr (.inr (fun i => if i < 13 then some (rw3 i) else none))))))] : va_W) ++ (gr13 rw3 cI 12 Gw4 ++ ([] : va_W))) sz)) (va_Qi (fun (r : Int32) (_ : Unit) => Iv 0 1 r) (fun _ t => wPost (dC, dI) [(cI, .int), (c2, .array .int), (cZ, .boolean)] (va_A (([(o1, .inr (3, [.ref o2, .int v5])), (o2, .inl (c2, 13, .inr (.inr (.inr (.inr (fun i => if i < 13 then some (rw3 i) else none))))))] : va_W) ++ (gr13 rw3 cI 12 Gw4 ++ ([] : va_W))) sz) (([(o1, .inr (3, [.ref o2, .int v5])), (o2, .inl (c2, 13, .inr (.inr (.inr (.inr (fun i => if i < 13 then some (rw3 i) else none))))))] : va_W) ++ (gr13 rw3 cI 12 Gw4 ++ ([] : va_W))) t) (va_A (([(o1, .inr (3, [.ref o2, .int v5])), (o2, .inl (c2, 13, .inr (.inr (.inr (.inr (fun i => if i < 13 then some (rw3 i) else none))))))] : va_W) ++ (gr13 rw3 cI 12 Gw4 ++ ([] : va_W))) sz)) 0 0 (va_A (([(o1, .inr (3, [.ref o2, .int v5])), (o2, .inl (c2, 13, .inr (.inr (.inr (.inr (fun i => if i < 13 then some (rw3 i) else none))))))] : va_W) ++ (gr13 rw3 cI 12 Gw4 ++ ([] : va_W))) sz) := by
  refine Met.ofW (cc := cX3_hasWayOutside) (maxL := 8) (ret := (some .boolean)) (by decide) rfl ?_
  intro p e s m args below meth c s₁ B hml hv
  obtain ⟨rfl, hsz, hP, hK, hD0, hN⟩ := hv
  have hx := B.exec
  have hb := B.bytes
  have hr := B.returns
  have hts := atoms_spec (ws := wsX3_hasWayOutside) B.pre
  have hown : s.vm.findClass RX3 = some m.cls := findClass_of_methodNamed B.named
  have hlocks := B.notSynchronized
  subst hsz
  have hD := hD0.self (sz := s.heap.size)
  generalize hAe : va_A (([(o1, .inr (3, [.ref o2, .int v5])), (o2, .inl (c2, 13, .inr (.inr (.inr (.inr (fun i => if i < 13 then some (rw3 i) else none))))))] : va_W) ++ (gr13 rw3 cI 12 Gw4 ++ ([] : va_W))) s.heap.size = A at hD ⊢
  have hA : ∀ q : Nat, s.heap.size ≤ q → A q := fun q h => by rw [← hAe]; exact Or.inr h
  have hS : va_S A s.heap s.heap [] := va_S.rf
  have hP : va_P (dC, dI) vwCl (([(o1, .inr (3, [.ref o2, .int v5])), (o2, .inl (c2, 13, .inr (.inr (.inr (.inr (fun i => if i < 13 then some (rw3 i) else none))))))] : va_W) ++ (gr13 rw3 cI 12 Gw4 ++ ([] : va_W))) s.heap := hP
  have hl := lv_entry ([.ref o1, .int 9, .int a2, .int a3]) (n := 8) (Nat.le_of_ble_eq_true rfl)
  rw [lg_entry_eq]
  generalize (lg_sl ([.ref o1, .int 9, .int a2, .int a3]) ++ List.replicate (8 - (lg_sl ([.ref o1, .int 9, .int a2, .int a3])).length) Slot.unset).toArray = ls at hl ⊢
  have hl : lv_has ls 8 [(0, .ref o1), (1, .int 9), (2, .int a2), (3, .int a3)] := hl
  refine gen_Q (fun Q hQ => ?_)
  refine lv_aload_n hx hb dX3_hasWayOutside_0 rfl (lv_at hl 0 rfl) ?_
  refine va_get (D := (dC, dI)) (ci := 3) (v := .ref o2) (C := RX3) (T := TX3) (N := 2) hx hb hts iw_X3_hasWayOutside_X3 hown hK hP 0 rfl rfl 0 (by decide) (hts (.fieldLink RX3 11 "HolelessHouse$Going" "near" "[[I") hm_X3_hasWayOutside_1) (fun _ h9 => h9) rfl dX3_hasWayOutside_1 ?_
  refine lv_iload_n hx hb dX3_hasWayOutside_4 rfl (lv_at hl 1 rfl) ?_
  refine va_alda hx hb hK hP 1 1 rfl rfl (vin_iv ik_9 (by decide)) dX3_hasWayOutside_5 (tk_r (v := .ref (rw3 9)) rfl ?_)
  refine lv_astore (lv' := [(4, .ref (rw3 9)), (0, .ref o1), (1, .int 9), (2, .int a2), (3, .int a3)]) hx hb dX3_hasWayOutside_6 hl (by decide) rfl (fun ls hl => ?_)
  refine lv_aload hx hb dX3_hasWayOutside_8 (lv_at hl 0 rfl) ?_
  refine lv_iload_n hx hb dX3_hasWayOutside_10 rfl (lv_at hl 3 rfl) ?_
  refine va_iald hx hb hK hP (2 + 9) 0 (gr13_get (pre := ([(o1, .inr (3, [.ref o2, .int v5])), (o2, .inl (c2, 13, .inr (.inr (.inr (.inr (fun i => if i < 13 then some (rw3 i) else none))))))] : va_W)) (post := ([] : va_W)) rfl (by decide)) rfl (vin_iv a2_h (by decide)) dX3_hasWayOutside_11 (lv_topi (fun x1 x1_e => ?_))
  have x1_h : Iv 0 4095 x1 := iv_e x1_e (bg_at Gw4_b (by decide) (vin_iv a2_h (by decide)))
  refine lv_istore (lv' := [(5, .int x1), (4, .ref (rw3 9)), (0, .ref o1), (1, .int 9), (2, .int a2), (3, .int a3)]) hx hb dX3_hasWayOutside_12 hl (by decide) rfl (fun ls hl => ?_)
  refine lv_iconst (v := 0) hx hb dX3_hasWayOutside_14 (by decide) ?_
  refine lv_istore (lv' := [(6, .int 0), (5, .int x1), (4, .ref (rw3 9)), (0, .ref o1), (1, .int 9), (2, .int a2), (3, .int a3)]) hx hb dX3_hasWayOutside_15 hl (by decide) rfl (fun ls hl => ?_)
  refine lv_iconst (v := 0) hx hb dX3_hasWayOutside_17 (by decide) ?_
  refine lv_istore (lv' := [(7, .int 0), (6, .int 0), (5, .int x1), (4, .ref (rw3 9)), (0, .ref o1), (1, .int 9), (2, .int a2), (3, .int a3)]) hx hb dX3_hasWayOutside_18 hl (by decide) rfl (fun ls hl => ?_)
  have L1 : ∀ (N : Nat) (x154 : Int32) (x155 : Int32) (H : Heap) (locs : List Loc) (ls : Array Slot), (12 - x154.toInt).toNat < N → Iv 0 12 x154 → Iv 0 4095 x155 → va_P (dC, dI) vwCl (([(o1, .inr (3, [.ref o2, .int v5])), (o2, .inl (c2, 13, .inr (.inr (.inr (.inr (fun i => if i < 13 then some (rw3 i) else none))))))] : va_W) ++ (gr13 rw3 cI 12 Gw4 ++ ([] : va_W))) H → va_D A (([(o1, .inr (3, [.ref o2, .int v5])), (o2, .inl (c2, 13, .inr (.inr (.inr (.inr (fun i => if i < 13 then some (rw3 i) else none))))))] : va_W) ++ (gr13 rw3 cI 12 Gw4 ++ ([] : va_W))) → va_S A s.heap H locs → lv_has ls 8 [(7, .int x154), (6, .int x155), (5, .int x1), (4, .ref (rw3 9)), (0, .ref o1), (1, .int 9), (2, .int a2), (3, .int a3)] → W p l e ({ frames := 2, cells := 0, slots := 0, locals := 47 }) s m ([.ref o1, .int 9, .int a2, .int a3] : List Value).toArray below meth c H locs 0 0 Q (F0 m 20 ls []) := by
    intro N
    induction N with
    | zero =>
      intro x154 x155 H locs ls hM
      exact absurd hM (Nat.not_lt_zero _)
    | succ N ih1 =>
      intro x154 x155 H locs ls hM1 x154_h x155_h hP hD hS hl
      refine lv_iload hx hb dX3_hasWayOutside_20 (lv_at hl 0 rfl) ?_
      refine lv_aload_n hx hb dX3_hasWayOutside_22 rfl (lv_at hl 4 rfl) ?_
      refine va_get (D := (dC, dI)) (ci := 3) (v := .int v5) (C := RX3) (T := TX3) (N := 2) hx hb hts iw_X3_hasWayOutside_X3 hown hK hP 0 rfl rfl 1 (by decide) (hts (.fieldLink RX3 16 "HolelessHouse$Going" "size" "I") hm_X3_hasWayOutside_2) (fun _ h9 => h9) rfl dX3_hasWayOutside_23 ?_
      refine lv_icmp_ge (tgt := 71) hx hb dX3_hasWayOutside_26 (by decide) (fun h156 => ?_) (fun h156 => ?_)
      ·
        have qh156 := le_i h156
        refine lv_iload_n hx hb dX3_hasWayOutside_71 rfl (lv_at hl 7 rfl) ?_
        refine lv_iload hx hb dX3_hasWayOutside_72 (lv_at hl 2 rfl) ?_
        refine lv_iconst (v := (-1)) hx hb dX3_hasWayOutside_74 (by decide) ?_
        refine lv_ixor hx hb dX3_hasWayOutside_75 (lv_topi (fun x157 x157_e => ?_))
        refine lv_iand hx hb dX3_hasWayOutside_76 (lv_topi (fun x158 x158_e => ?_))
        have x158_h : Iv 0 4095 x158 := iv_e x158_e (iv_andL _ a3_h (by decide))
        refine lv_iconst (v := 1) hx hb dX3_hasWayOutside_77 (by decide) ?_
        refine lv_iload_n hx hb dX3_hasWayOutside_78 rfl (lv_at hl 6 rfl) ?_
        refine lv_ishl hx hb dX3_hasWayOutside_79 (lv_topi (fun x159 x159_e => ?_))
        have x159_h : Iv 1 2048 x159 := iv_e x159_e (iv_shl1 a2_h (by decide))
        refine lv_iconst (v := (-1)) hx hb dX3_hasWayOutside_80 (by decide) ?_
        refine lv_ixor hx hb dX3_hasWayOutside_81 (lv_topi (fun x160 x160_e => ?_))
        refine lv_iand hx hb dX3_hasWayOutside_82 (lv_topi (fun x161 x161_e => ?_))
        have x161_h : Iv 0 4095 x161 := iv_e x161_e (iv_andL _ x158_h (by decide))
        refine lv_istore (lv' := [(7, .int x161), (6, .int x155), (5, .int x1), (4, .ref (rw3 9)), (0, .ref o1), (1, .int 9), (2, .int a2), (3, .int a3)]) hx hb dX3_hasWayOutside_83 hl (by decide) rfl (fun ls hl => ?_)
        refine lv_aload hx hb dX3_hasWayOutside_85 (lv_at hl 3 rfl) ?_
        refine lv_iload hx hb dX3_hasWayOutside_87 (lv_at hl 1 rfl) ?_
        by_cases h162 : x155 = 0
        ·
          refine tk_i (v := 0) h162 ?_
          refine kc_i (D := (dC, dI)) (S := Unit) (wc := []) (wr := ([(o1, .inr (3, [.ref o2, .int v5])), (o2, .inl (c2, 13, .inr (.inr (.inr (.inr (fun i => if i < 13 then some (rw3 i) else none))))))] : va_W) ++ (gr13 rw3 cI 12 Gw4 ++ ([] : va_W))) (w1 := fun _ => []) (wn := fun _ => ([(o1, .inr (3, [.ref o2, .int v5])), (o2, .inl (c2, 13, .inr (.inr (.inr (.inr (fun i => if i < 13 then some (rw3 i) else none))))))] : va_W) ++ (gr13 rw3 cI 12 Gw4 ++ ([] : va_W))) (fun hPc hDc => va_runS (As := [.int 0]) (rest := [.ref (rw3 9)]) ⟨hx, hb, hml, hown, hts⟩ (kJ6_numberOfTrailingZeros_0f7a4_2 l dC dI cI c2 cZ H.size) (va_cwS 1 hts gX3_hasWayOutside_J6_numberOfTrailingZeros_0f7a4 rfl rfl rfl (by decide +kernel) ⟨Nat.le_of_ble_eq_true rfl, Nat.le_of_ble_eq_true rfl⟩) (pre_S hPc hK hDc hN) rfl rfl hl.1 rfl (lv_room (Nat.le_of_ble_eq_true rfl)) dX3_hasWayOutside_89 ⟨Nat.le_of_ble_eq_true rfl, Nat.le_of_ble_eq_true rfl⟩) hP hD hS hA [] [0, 1, 2, 3, 4, 5, 6, 7, 8, 9, 10, 11, 12, 13, 14] [0, 1, 2, 3, 4, 5, 6, 7, 8, 9, 10, 11, 12, 13, 14] rfl rfl (by decide +kernel) (by decide +kernel) (by decide +kernel) (by decide +kernel) (fun _ => rfl) (fun x163 _ H locs hq hP hD hS => ?_)
          have x163_h := hq
          have hP : va_P (dC, dI) vwCl (([(o1, .inr (3, [.ref o2, .int v5])), (o2, .inl (c2, 13, .inr (.inr (.inr (.inr (fun i => if i < 13 then some (rw3 i) else none))))))] : va_W) ++ (gr13 rw3 cI 12 Gw4 ++ ([] : va_W))) H := hP
          have hD : va_D A (([(o1, .inr (3, [.ref o2, .int v5])), (o2, .inl (c2, 13, .inr (.inr (.inr (.inr (fun i => if i < 13 then some (rw3 i) else none))))))] : va_W) ++ (gr13 rw3 cI 12 Gw4 ++ ([] : va_W))) := hD
          refine lv_iload hx hb dX3_hasWayOutside_92 (lv_at hl 0 rfl) ?_
          refine lv_iload hx hb dX3_hasWayOutside_94 (lv_at hl 1 rfl) ?_
          refine lv_ior hx hb dX3_hasWayOutside_96 (lv_topi (fun x164 x164_e => ?_))
          have x164_h : Iv 0 4095 x164 := iv_e x164_e (iv_or 12 x161_h x155_h (by decide))
          refine kc_i (D := (dC, dI)) (S := Unit) (wc := [((rw3 9), .inl (cI, 12, .inl (Gw4 9)))]) (wr := [(o1, .inr (3, [.ref o2, .int v5])), (o2, .inl (c2, 13, .inr (.inr (.inr (.inr (fun i => if i < 13 then some (rw3 i) else none)))))), (rw3 0, .inl (cI, 12, .inl (Gw4 0))), (rw3 1, .inl (cI, 12, .inl (Gw4 1))), (rw3 2, .inl (cI, 12, .inl (Gw4 2))), (rw3 3, .inl (cI, 12, .inl (Gw4 3))), (rw3 4, .inl (cI, 12, .inl (Gw4 4))), (rw3 5, .inl (cI, 12, .inl (Gw4 5))), (rw3 6, .inl (cI, 12, .inl (Gw4 6))), (rw3 7, .inl (cI, 12, .inl (Gw4 7))), (rw3 8, .inl (cI, 12, .inl (Gw4 8))), (rw3 10, .inl (cI, 12, .inl (Gw4 10))), (rw3 11, .inl (cI, 12, .inl (Gw4 11))), (rw3 12, .inl (cI, 12, .inl (Gw4 12)))]) (w1 := fun _ => [((rw3 9), .inl (cI, 12, .inl (Gw4 9)))]) (wn := fun _ => ([(o1, .inr (3, [.ref o2, .int v5])), (o2, .inl (c2, 13, .inr (.inr (.inr (.inr (fun i => if i < 13 then some (rw3 i) else none))))))] : va_W) ++ (gr13 rw3 cI 12 Gw4 ++ ([] : va_W))) (fun hPc hDc => va_runSN (As := [.ref (rw3 9), .int x163, .int x164]) (rest := []) ⟨hx, hb, hml, hown, hts⟩ (kX11_reached_1 l dC dI cI c2 cZ (rw3 9) (Gw4 9) x163 x164 H.size (Gw4_b 9 (by decide)) x163_h x164_h) ⟨va_cnB 3 hts gX3_hasWayOutside_X11_reached_n51 rfl rfl rfl (hN.1 _ ns_99) (hts (.initialized RX11) hm_X3_hasWayOutside_4) (by decide +kernel) ⟨Nat.le_of_ble_eq_true rfl, Nat.le_of_ble_eq_true rfl⟩, (hts (.static yX11_reached) hm_X3_hasWayOutside_11), trivial⟩ (pre_S hPc hK hDc hN) rfl rfl hl.1 rfl (lv_room (Nat.le_of_ble_eq_true rfl)) dX3_hasWayOutside_97 ⟨Nat.le_of_ble_eq_true rfl, Nat.le_of_ble_eq_true rfl⟩) hP hD hS hA [11] [0, 1, 2, 3, 4, 5, 6, 7, 8, 9, 10, 12, 13, 14] [0, 1, 2, 3, 4, 5, 6, 7, 8, 9, 10, 14, 11, 12, 13] rfl rfl (by decide +kernel) (by decide +kernel) (by decide +kernel) (by decide +kernel) (fun _ => rfl) (fun x165 _ H locs hq hP hD hS => ?_)
          have x165_h := hq
          have hP : va_P (dC, dI) vwCl (([(o1, .inr (3, [.ref o2, .int v5])), (o2, .inl (c2, 13, .inr (.inr (.inr (.inr (fun i => if i < 13 then some (rw3 i) else none))))))] : va_W) ++ (gr13 rw3 cI 12 Gw4 ++ ([] : va_W))) H := hP
          have hD : va_D A (([(o1, .inr (3, [.ref o2, .int v5])), (o2, .inl (c2, 13, .inr (.inr (.inr (.inr (fun i => if i < 13 then some (rw3 i) else none))))))] : va_W) ++ (gr13 rw3 cI 12 Gw4 ++ ([] : va_W))) := hD
          refine lv_iload hx hb dX3_hasWayOutside_100 (lv_at hl 1 rfl) ?_
          refine lv_iand hx hb dX3_hasWayOutside_102 (lv_topi (fun x166 x166_e => ?_))
          have x166_h : Iv 0 4095 x166 := iv_e x166_e (iv_andL _ x165_h (by decide))
          refine lv_iload hx hb dX3_hasWayOutside_103 (lv_at hl 1 rfl) ?_
          refine lv_icmp_ne (tgt := 112) hx hb dX3_hasWayOutside_105 (by decide) (fun h167 => ?_) (fun h167 => ?_)
          ·
            refine lv_iconst (v := 0) hx hb dX3_hasWayOutside_112 (by decide) ?_
            rw [hQ]
            exact W.zret (v := 0) (ty := .boolean) hx hb hr rfl (fun t ht hW => ⟨⟨0, (), rfl, (iv_w ik_0 (by decide)), by rw [ht]; exact hP, va_K.moved hW.alike hK, hD⟩, hS.F ht⟩) hS.2.2 dX3_hasWayOutside_113
          ·
            refine lv_iconst (v := 1) hx hb dX3_hasWayOutside_108 (by decide) ?_
            refine lv_goto (tgt := 113) hx hb dX3_hasWayOutside_109 (by decide) ?_
            rw [hQ]
            exact W.zret (v := 1) (ty := .boolean) hx hb hr rfl (fun t ht hW => ⟨⟨1, (), rfl, (iv_w ik_1 (by decide)), by rw [ht]; exact hP, va_K.moved hW.alike hK, hD⟩, hS.F ht⟩) hS.2.2 dX3_hasWayOutside_113
        have j168 : Iv 1 4095 x155 := r_nelo h162 x155_h ik_0 (by decide)
        refine kc_i (D := (dC, dI)) (S := Unit) (wc := []) (wr := ([(o1, .inr (3, [.ref o2, .int v5])), (o2, .inl (c2, 13, .inr (.inr (.inr (.inr (fun i => if i < 13 then some (rw3 i) else none))))))] : va_W) ++ (gr13 rw3 cI 12 Gw4 ++ ([] : va_W))) (w1 := fun _ => []) (wn := fun _ => ([(o1, .inr (3, [.ref o2, .int v5])), (o2, .inl (c2, 13, .inr (.inr (.inr (.inr (fun i => if i < 13 then some (rw3 i) else none))))))] : va_W) ++ (gr13 rw3 cI 12 Gw4 ++ ([] : va_W))) (fun hPc hDc => va_runS (As := [.int x155]) (rest := [.ref (rw3 9)]) ⟨hx, hb, hml, hown, hts⟩ (kJ6_numberOfTrailingZeros_0f7a4_1 l dC dI cI c2 cZ x155 H.size j168) (va_cwS 1 hts gX3_hasWayOutside_J6_numberOfTrailingZeros_0f7a4 rfl rfl rfl (by decide +kernel) ⟨Nat.le_of_ble_eq_true rfl, Nat.le_of_ble_eq_true rfl⟩) (pre_S hPc hK hDc hN) rfl rfl hl.1 rfl (lv_room (Nat.le_of_ble_eq_true rfl)) dX3_hasWayOutside_89 ⟨Nat.le_of_ble_eq_true rfl, Nat.le_of_ble_eq_true rfl⟩) hP hD hS hA [] [0, 1, 2, 3, 4, 5, 6, 7, 8, 9, 10, 11, 12, 13, 14] [0, 1, 2, 3, 4, 5, 6, 7, 8, 9, 10, 11, 12, 13, 14] rfl rfl (by decide +kernel) (by decide +kernel) (by decide +kernel) (by decide +kernel) (fun _ => rfl) (fun x169 _ H locs hq hP hD hS => ?_)
        have x169_h := hq
        have hP : va_P (dC, dI) vwCl (([(o1, .inr (3, [.ref o2, .int v5])), (o2, .inl (c2, 13, .inr (.inr (.inr (.inr (fun i => if i < 13 then some (rw3 i) else none))))))] : va_W) ++ (gr13 rw3 cI 12 Gw4 ++ ([] : va_W))) H := hP
        have hD : va_D A (([(o1, .inr (3, [.ref o2, .int v5])), (o2, .inl (c2, 13, .inr (.inr (.inr (.inr (fun i => if i < 13 then some (rw3 i) else none))))))] : va_W) ++ (gr13 rw3 cI 12 Gw4 ++ ([] : va_W))) := hD
        refine lv_iload hx hb dX3_hasWayOutside_92 (lv_at hl 0 rfl) ?_
        refine lv_iload hx hb dX3_hasWayOutside_94 (lv_at hl 1 rfl) ?_
        refine lv_ior hx hb dX3_hasWayOutside_96 (lv_topi (fun x170 x170_e => ?_))
        have x170_h : Iv 0 4095 x170 := iv_e x170_e (iv_or 12 x161_h j168 (by decide))
        refine kc_i (D := (dC, dI)) (S := Unit) (wc := [((rw3 9), .inl (cI, 12, .inl (Gw4 9)))]) (wr := [(o1, .inr (3, [.ref o2, .int v5])), (o2, .inl (c2, 13, .inr (.inr (.inr (.inr (fun i => if i < 13 then some (rw3 i) else none)))))), (rw3 0, .inl (cI, 12, .inl (Gw4 0))), (rw3 1, .inl (cI, 12, .inl (Gw4 1))), (rw3 2, .inl (cI, 12, .inl (Gw4 2))), (rw3 3, .inl (cI, 12, .inl (Gw4 3))), (rw3 4, .inl (cI, 12, .inl (Gw4 4))), (rw3 5, .inl (cI, 12, .inl (Gw4 5))), (rw3 6, .inl (cI, 12, .inl (Gw4 6))), (rw3 7, .inl (cI, 12, .inl (Gw4 7))), (rw3 8, .inl (cI, 12, .inl (Gw4 8))), (rw3 10, .inl (cI, 12, .inl (Gw4 10))), (rw3 11, .inl (cI, 12, .inl (Gw4 11))), (rw3 12, .inl (cI, 12, .inl (Gw4 12)))]) (w1 := fun _ => [((rw3 9), .inl (cI, 12, .inl (Gw4 9)))]) (wn := fun _ => ([(o1, .inr (3, [.ref o2, .int v5])), (o2, .inl (c2, 13, .inr (.inr (.inr (.inr (fun i => if i < 13 then some (rw3 i) else none))))))] : va_W) ++ (gr13 rw3 cI 12 Gw4 ++ ([] : va_W))) (fun hPc hDc => va_runSN (As := [.ref (rw3 9), .int x169, .int x170]) (rest := []) ⟨hx, hb, hml, hown, hts⟩ (kX11_reached_2 l dC dI cI c2 cZ (rw3 9) (Gw4 9) x169 x170 H.size (Gw4_b 9 (by decide)) x169_h x170_h) ⟨va_cnB 3 hts gX3_hasWayOutside_X11_reached_n51 rfl rfl rfl (hN.1 _ ns_99) (hts (.initialized RX11) hm_X3_hasWayOutside_4) (by decide +kernel) ⟨Nat.le_of_ble_eq_true rfl, Nat.le_of_ble_eq_true rfl⟩, (hts (.static yX11_reached) hm_X3_hasWayOutside_11), trivial⟩ (pre_S hPc hK hDc hN) rfl rfl hl.1 rfl (lv_room (Nat.le_of_ble_eq_true rfl)) dX3_hasWayOutside_97 ⟨Nat.le_of_ble_eq_true rfl, Nat.le_of_ble_eq_true rfl⟩) hP hD hS hA [11] [0, 1, 2, 3, 4, 5, 6, 7, 8, 9, 10, 12, 13, 14] [0, 1, 2, 3, 4, 5, 6, 7, 8, 9, 10, 14, 11, 12, 13] rfl rfl (by decide +kernel) (by decide +kernel) (by decide +kernel) (by decide +kernel) (fun _ => rfl) (fun x171 _ H locs hq hP hD hS => ?_)
        have x171_h := hq
        have hP : va_P (dC, dI) vwCl (([(o1, .inr (3, [.ref o2, .int v5])), (o2, .inl (c2, 13, .inr (.inr (.inr (.inr (fun i => if i < 13 then some (rw3 i) else none))))))] : va_W) ++ (gr13 rw3 cI 12 Gw4 ++ ([] : va_W))) H := hP
        have hD : va_D A (([(o1, .inr (3, [.ref o2, .int v5])), (o2, .inl (c2, 13, .inr (.inr (.inr (.inr (fun i => if i < 13 then some (rw3 i) else none))))))] : va_W) ++ (gr13 rw3 cI 12 Gw4 ++ ([] : va_W))) := hD
        refine lv_iload hx hb dX3_hasWayOutside_100 (lv_at hl 1 rfl) ?_
        refine lv_iand hx hb dX3_hasWayOutside_102 (lv_topi (fun x172 x172_e => ?_))
        have x172_h : Iv 0 4095 x172 := iv_e x172_e (iv_andL _ x171_h (by decide))
        refine lv_iload hx hb dX3_hasWayOutside_103 (lv_at hl 1 rfl) ?_
        refine lv_icmp_ne (tgt := 112) hx hb dX3_hasWayOutside_105 (by decide) (fun h173 => ?_) (fun h173 => ?_)
        ·
          refine lv_iconst (v := 0) hx hb dX3_hasWayOutside_112 (by decide) ?_
          rw [hQ]
          exact W.zret (v := 0) (ty := .boolean) hx hb hr rfl (fun t ht hW => ⟨⟨0, (), rfl, (iv_w ik_0 (by decide)), by rw [ht]; exact hP, va_K.moved hW.alike hK, hD⟩, hS.F ht⟩) hS.2.2 dX3_hasWayOutside_113
        ·
          have j174 : Iv 1 4095 x172 := r_eq h173 j168
          refine lv_iconst (v := 1) hx hb dX3_hasWayOutside_108 (by decide) ?_
          refine lv_goto (tgt := 113) hx hb dX3_hasWayOutside_109 (by decide) ?_
          rw [hQ]
          exact W.zret (v := 1) (ty := .boolean) hx hb hr rfl (fun t ht hW => ⟨⟨1, (), rfl, (iv_w ik_1 (by decide)), by rw [ht]; exact hP, va_K.moved hW.alike hK, hD⟩, hS.F ht⟩) hS.2.2 dX3_hasWayOutside_113
      ·
        have qh156 := nle_i h156
        have j175 : Iv 0 11 x154 := r_ltl qh156 x154_h v5_h (by decide)
        have j176 : Iv 1 12 v5 := r_ltr qh156 x154_h v5_h (by decide)
        refine lv_iload hx hb dX3_hasWayOutside_29 (lv_at hl 2 rfl) ?_
        refine lv_iload hx hb dX3_hasWayOutside_31 (lv_at hl 0 rfl) ?_
        refine kc_i (D := (dC, dI)) (S := Unit) (wc := []) (wr := ([(o1, .inr (3, [.ref o2, .int v5])), (o2, .inl (c2, 13, .inr (.inr (.inr (.inr (fun i => if i < 13 then some (rw3 i) else none))))))] : va_W) ++ (gr13 rw3 cI 12 Gw4 ++ ([] : va_W))) (w1 := fun _ => []) (wn := fun _ => ([(o1, .inr (3, [.ref o2, .int v5])), (o2, .inl (c2, 13, .inr (.inr (.inr (.inr (fun i => if i < 13 then some (rw3 i) else none))))))] : va_W) ++ (gr13 rw3 cI 12 Gw4 ++ ([] : va_W))) (fun hPc hDc => va_runSN (As := [.int x1, .int x154]) (rest := []) ⟨hx, hb, hml, hown, hts⟩ (kX11_in_1 l dC dI cI c2 cZ x1 x154 H.size) ⟨va_cnB 2 hts gX3_hasWayOutside_X11_in_n44 rfl rfl rfl (hN.1 _ ns_74) (hts (.initialized RX11) hm_X3_hasWayOutside_4) (by decide +kernel) ⟨Nat.le_of_ble_eq_true rfl, Nat.le_of_ble_eq_true rfl⟩, (hts (.static yX11_in) hm_X3_hasWayOutside_3), trivial⟩ (pre_S hPc hK hDc hN) rfl rfl hl.1 rfl (lv_room (Nat.le_of_ble_eq_true rfl)) dX3_hasWayOutside_33 ⟨Nat.le_of_ble_eq_true rfl, Nat.le_of_ble_eq_true rfl⟩) hP hD hS hA [] [0, 1, 2, 3, 4, 5, 6, 7, 8, 9, 10, 11, 12, 13, 14] [0, 1, 2, 3, 4, 5, 6, 7, 8, 9, 10, 11, 12, 13, 14] rfl rfl (by decide +kernel) (by decide +kernel) (by decide +kernel) (by decide +kernel) (fun _ => rfl) (fun x177 _ H locs hq hP hD hS => ?_)
        have x177_h := hq
        have hP : va_P (dC, dI) vwCl (([(o1, .inr (3, [.ref o2, .int v5])), (o2, .inl (c2, 13, .inr (.inr (.inr (.inr (fun i => if i < 13 then some (rw3 i) else none))))))] : va_W) ++ (gr13 rw3 cI 12 Gw4 ++ ([] : va_W))) H := hP
        have hD : va_D A (([(o1, .inr (3, [.ref o2, .int v5])), (o2, .inl (c2, 13, .inr (.inr (.inr (.inr (fun i => if i < 13 then some (rw3 i) else none))))))] : va_W) ++ (gr13 rw3 cI 12 Gw4 ++ ([] : va_W))) := hD
        refine lv_if_eq (tgt := 65) hx hb dX3_hasWayOutside_36 (by decide) (fun h178 => ?_) (fun h178 => ?_)
        ·
          have j179 : Iv 0 0 x177 := r_eq h178 ik_0
          obtain ⟨x180, x180_e⟩ : ∃ z : Int32, z = x154 + 1 := ⟨_, rfl⟩
          have x180_h : Iv 1 12 x180 := iv_e x180_e (iv_add j175 ik_1 (by decide))
          refine lv_iinc (v := x180) (lv' := [(7, .int x180), (6, .int x155), (5, .int x1), (4, .ref (rw3 9)), (0, .ref o1), (1, .int 9), (2, .int a2), (3, .int a3)]) hx hb dX3_hasWayOutside_65 hl (k := 0) rfl (incN (by decide +kernel) x180_e) (by decide) rfl (fun ls hl => ?_)
          refine lv_goto (tgt := 20) hx hb dX3_hasWayOutside_68 (by decide) ?_
          exact ih1 x180 x155 _ _ _ (ms_up x180_e j175 (by decide) hM1) (iv_w x180_h (by decide)) x155_h hP hD hS hl
        ·
          have j181 : Iv 1 1 x177 := r_nelo h178 x177_h ik_0 (by decide)
          refine lv_iload hx hb dX3_hasWayOutside_39 (lv_at hl 2 rfl) ?_
          refine lv_aload hx hb dX3_hasWayOutside_41 (lv_at hl 3 rfl) ?_
          refine lv_iload hx hb dX3_hasWayOutside_43 (lv_at hl 0 rfl) ?_
          refine va_iald hx hb hK hP (2 + 9) 0 (gr13_get (pre := ([(o1, .inr (3, [.ref o2, .int v5])), (o2, .inl (c2, 13, .inr (.inr (.inr (.inr (fun i => if i < 13 then some (rw3 i) else none))))))] : va_W)) (post := ([] : va_W)) rfl (by decide)) rfl (vin_iv j175 (by decide)) dX3_hasWayOutside_45 (lv_topi (fun x182 x182_e => ?_))
          have x182_h : Iv 0 4095 x182 := iv_e x182_e (bg_at Gw4_b (by decide) (vin_iv j175 (by decide)))
          refine lv_iconst (v := (-1)) hx hb dX3_hasWayOutside_46 (by decide) ?_
          refine lv_ixor hx hb dX3_hasWayOutside_47 (lv_topi (fun x183 x183_e => ?_))
          refine lv_iand hx hb dX3_hasWayOutside_48 (lv_topi (fun x184 x184_e => ?_))
          have x184_h : Iv 0 4095 x184 := iv_e x184_e (iv_andL _ x1_h (by decide))
          refine lv_iconst (v := 1) hx hb dX3_hasWayOutside_49 (by decide) ?_
          refine lv_iload hx hb dX3_hasWayOutside_50 (lv_at hl 0 rfl) ?_
          refine lv_ishl hx hb dX3_hasWayOutside_52 (lv_topi (fun x185 x185_e => ?_))
          have x185_h : Iv 1 2048 x185 := iv_e x185_e (iv_shl1 j175 (by decide))
          refine lv_icmp_eq (tgt := 65) hx hb dX3_hasWayOutside_53 (by decide) (fun h186 => ?_) (fun h186 => ?_)
          ·
            have j187 : Iv 1 2048 x184 := r_eq h186 x185_h
            obtain ⟨x188, x188_e⟩ : ∃ z : Int32, z = x154 + 1 := ⟨_, rfl⟩
            have x188_h : Iv 1 12 x188 := iv_e x188_e (iv_add j175 ik_1 (by decide))
            refine lv_iinc (v := x188) (lv' := [(7, .int x188), (6, .int x155), (5, .int x1), (4, .ref (rw3 9)), (0, .ref o1), (1, .int 9), (2, .int a2), (3, .int a3)]) hx hb dX3_hasWayOutside_65 hl (k := 0) rfl (incN (by decide +kernel) x188_e) (by decide) rfl (fun ls hl => ?_)
            refine lv_goto (tgt := 20) hx hb dX3_hasWayOutside_68 (by decide) ?_
            exact ih1 x188 x155 _ _ _ (ms_up x188_e j175 (by decide) hM1) (iv_w x188_h (by decide)) x155_h hP hD hS hl
          ·
            refine lv_iload hx hb dX3_hasWayOutside_56 (lv_at hl 1 rfl) ?_
            refine lv_iconst (v := 1) hx hb dX3_hasWayOutside_58 (by decide) ?_
            refine lv_iload hx hb dX3_hasWayOutside_59 (lv_at hl 0 rfl) ?_
            refine lv_ishl hx hb dX3_hasWayOutside_61 (lv_topi (fun x189 x189_e => ?_))
            have x189_h : Iv 1 2048 x189 := iv_e x189_e (iv_shl1 j175 (by decide))
            refine lv_ior hx hb dX3_hasWayOutside_62 (lv_topi (fun x190 x190_e => ?_))
            have x190_h : Iv 0 4095 x190 := iv_e x190_e (iv_or 12 x155_h x189_h (by decide))
            refine lv_istore (lv' := [(6, .int x190), (7, .int x154), (5, .int x1), (4, .ref (rw3 9)), (0, .ref o1), (1, .int 9), (2, .int a2), (3, .int a3)]) hx hb dX3_hasWayOutside_63 hl (by decide) rfl (fun ls hl => ?_)
            obtain ⟨x191, x191_e⟩ : ∃ z : Int32, z = x154 + 1 := ⟨_, rfl⟩
            have x191_h : Iv 1 12 x191 := iv_e x191_e (iv_add j175 ik_1 (by decide))
            refine lv_iinc (v := x191) (lv' := [(7, .int x191), (6, .int x190), (5, .int x1), (4, .ref (rw3 9)), (0, .ref o1), (1, .int 9), (2, .int a2), (3, .int a3)]) hx hb dX3_hasWayOutside_65 hl (k := 1) rfl (incN (by decide +kernel) x191_e) (by decide) rfl (fun ls hl => ?_)
            refine lv_goto (tgt := 20) hx hb dX3_hasWayOutside_68 (by decide) ?_
            exact ih1 x191 x190 _ _ _ (ms_up x191_e j175 (by decide) hM1) (iv_w x191_h (by decide)) x190_h hP hD hS hl
  exact L1 _ 0 0 _ _ _ (Nat.lt_succ_self _) (iv_w ik_0 (by decide)) (iv_w ik_0 (by decide)) hP hD hS hl
set_option maxHeartbeats 4000000 in
set_option maxRecDepth 100000 in
theorem kX5_neverWrong_10 (l : Launch) (dC : Nat → ClassId) (dI : Nat → Nat → Nat) (cI c2 cZ : ClassId) (o1 : Nat) (o2 : Nat) (o7 : Nat) (o9 : Nat) (o3 : Nat) (rw4 : Nat → Nat) (Gw5 : Nat → Nat → Int32) (v6 : Int32) (rw10 : Nat → Nat) (Gw11 : Nat → Nat → Int32) (v12 : Int32) (v13 : Int32) (v14 : Int32) (a2 : Int32) (a3 : Int32) (sz : Nat) (Gw5_b : Bg 13 12 0 4095 Gw5) (v6_h : Iv 0 12 v6) (v13_h : Iv 0 4095 v13) (v14_h : Iv 0 12 v14) (a2_h : Iv 0 4095 a2) (a3_h : Iv 0 11 a3) : Met l yX5_neverWrong wsX5_neverWrong ({ frames := 3, cells := 0, slots := 0, locals := 74 }) (va_Pc [.ref o1, .int 9, .int a2, .int a3] (wPre (dC, dI) [(cI, .int), (c2, .array .int), (cZ, .boolean)] (([(o1, .inr (5, [.ref o2, .ref o7, .ref o9, .int v12, .int v13, .int v14])), (o9, .inl (c2, 12, .inr (.inr (.inr (.inr (fun i => if i < 12 then some (rw10 i) else none)))))), (o2, .inr (3, [.ref o3, .int v6])), (o3, .inl (c2, 13, .inr (.inr (.inr (.inr (fun i => if i < 13 then some (rw4 i) else none))))))] : va_W) ++ (gr12 rw10 cI 12 Gw11 ++ (gr13 rw4 cI 12 Gw5 ++ ([] : va_W)))) sz)) (va_Qi (fun (r : Int32) (_ : Unit) => Iv (-1) 11 r) (fun _ t => wPost (dC, dI) [(cI, .int), (c2, .array .int), (cZ, .boolean)] (va_A (([(o1, .inr (5, [.ref o2, .ref o7, .ref o9, .int v12, .int v13, .int v14])), (o9, .inl (c2, 12, .inr (.inr (.inr (.inr (fun i => if i < 12 then some (rw10 i) else none)))))), (o2, .inr (3, [.ref o3, .int v6])), (o3, .inl (c2, 13, .inr (.inr (.inr (.inr (fun i => if i < 13 then some (rw4 i) else none))))))] : va_W) ++ (gr12 rw10 cI 12 Gw11 ++ (gr13 rw4 cI 12 Gw5 ++ ([] : va_W)))) sz) (([(o1, .inr (5, [.ref o2, .ref o7, .ref o9, .int v12, .int v13, .int v14])), (o9, .inl (c2, 12, .inr (.inr (.inr (.inr (fun i => if i < 12 then some (rw10 i) else none)))))), (o2, .inr (3, [.ref o3, .int v6])), (o3, .inl (c2, 13, .inr (.inr (.inr (.inr (fun i => if i < 13 then some (rw4 i) else none))))))] : va_W) ++ (gr12 rw10 cI 12 Gw11 ++ (gr13 rw4 cI 12 Gw5 ++ ([] : va_W)))) t) (va_A (([(o1, .inr (5, [.ref o2, .ref o7, .ref o9, .int v12, .int v13, .int v14])), (o9, .inl (c2, 12, .inr (.inr (.inr (.inr (fun i => if i < 12 then some (rw10 i) else none)))))), (o2, .inr (3, [.ref o3, .int v6])), (o3, .inl (c2, 13, .inr (.inr (.inr (.inr (fun i => if i < 13 then some (rw4 i) else none))))))] : va_W) ++ (gr12 rw10 cI 12 Gw11 ++ (gr13 rw4 cI 12 Gw5 ++ ([] : va_W)))) sz)) 0 0 (va_A (([(o1, .inr (5, [.ref o2, .ref o7, .ref o9, .int v12, .int v13, .int v14])), (o9, .inl (c2, 12, .inr (.inr (.inr (.inr (fun i => if i < 12 then some (rw10 i) else none)))))), (o2, .inr (3, [.ref o3, .int v6])), (o3, .inl (c2, 13, .inr (.inr (.inr (.inr (fun i => if i < 13 then some (rw4 i) else none))))))] : va_W) ++ (gr12 rw10 cI 12 Gw11 ++ (gr13 rw4 cI 12 Gw5 ++ ([] : va_W)))) sz) := by
  refine Met.ofW (cc := cX5_neverWrong) (maxL := 6) (ret := (some .int)) (by decide) rfl ?_
  intro p e s m args below meth c s₁ B hml hv
  obtain ⟨rfl, hsz, hP, hK, hD0, hN⟩ := hv
  have hx := B.exec
  have hb := B.bytes
  have hr := B.returns
  have hts := atoms_spec (ws := wsX5_neverWrong) B.pre
  have hown : s.vm.findClass RX5 = some m.cls := findClass_of_methodNamed B.named
  have hlocks := B.notSynchronized
  subst hsz
  have hD := hD0.self (sz := s.heap.size)
  generalize hAe : va_A (([(o1, .inr (5, [.ref o2, .ref o7, .ref o9, .int v12, .int v13, .int v14])), (o9, .inl (c2, 12, .inr (.inr (.inr (.inr (fun i => if i < 12 then some (rw10 i) else none)))))), (o2, .inr (3, [.ref o3, .int v6])), (o3, .inl (c2, 13, .inr (.inr (.inr (.inr (fun i => if i < 13 then some (rw4 i) else none))))))] : va_W) ++ (gr12 rw10 cI 12 Gw11 ++ (gr13 rw4 cI 12 Gw5 ++ ([] : va_W)))) s.heap.size = A at hD ⊢
  have hA : ∀ q : Nat, s.heap.size ≤ q → A q := fun q h => by rw [← hAe]; exact Or.inr h
  have hS : va_S A s.heap s.heap [] := va_S.rf
  have hP : va_P (dC, dI) vwCl (([(o1, .inr (5, [.ref o2, .ref o7, .ref o9, .int v12, .int v13, .int v14])), (o9, .inl (c2, 12, .inr (.inr (.inr (.inr (fun i => if i < 12 then some (rw10 i) else none)))))), (o2, .inr (3, [.ref o3, .int v6])), (o3, .inl (c2, 13, .inr (.inr (.inr (.inr (fun i => if i < 13 then some (rw4 i) else none))))))] : va_W) ++ (gr12 rw10 cI 12 Gw11 ++ (gr13 rw4 cI 12 Gw5 ++ ([] : va_W)))) s.heap := hP
  have hl := lv_entry ([.ref o1, .int 9, .int a2, .int a3]) (n := 6) (Nat.le_of_ble_eq_true rfl)
  rw [lg_entry_eq]
  generalize (lg_sl ([.ref o1, .int 9, .int a2, .int a3]) ++ List.replicate (6 - (lg_sl ([.ref o1, .int 9, .int a2, .int a3])).length) Slot.unset).toArray = ls at hl ⊢
  have hl : lv_has ls 6 [(0, .ref o1), (1, .int 9), (2, .int a2), (3, .int a3)] := hl
  refine gen_Q (fun Q hQ => ?_)
  refine lv_aload_n hx hb dX5_neverWrong_0 rfl (lv_at hl 0 rfl) ?_
  refine va_get (D := (dC, dI)) (ci := 5) (v := .int v12) (C := RX5) (T := TX5) (N := 6) hx hb hts iw_X5_neverWrong_X5 hown hK hP 0 rfl rfl 3 (by decide) (hts (.fieldLink RX5 27 "HolelessHouse$LeastSearch" "rule" "I") hm_X5_neverWrong_1) (fun _ h9 => h9) rfl dX5_neverWrong_1 ?_
  refine lv_iconst (v := 1) hx hb dX5_neverWrong_4 (by decide) ?_
  refine lv_icmp_ne (tgt := 18) hx hb dX5_neverWrong_5 (by decide) (fun h1 => ?_) (fun h1 => ?_)
  ·
    refine lv_aload_n hx hb dX5_neverWrong_18 rfl (lv_at hl 0 rfl) ?_
    refine va_get (D := (dC, dI)) (ci := 5) (v := .ref o9) (C := RX5) (T := TX5) (N := 6) hx hb hts iw_X5_neverWrong_X5 hown hK hP 0 rfl rfl 2 (by decide) (hts (.fieldLink RX5 24 "HolelessHouse$LeastSearch" "prices" "[[I") hm_X5_neverWrong_3) (fun _ h9 => h9) rfl dX5_neverWrong_19 ?_
    refine lv_iload_n hx hb dX5_neverWrong_22 rfl (lv_at hl 1 rfl) ?_
    refine va_alda hx hb hK hP 1 1 rfl rfl (vin_iv ik_9 (by decide)) dX5_neverWrong_23 (tk_r (v := .ref (rw10 9)) rfl ?_)
    refine lv_iload_n hx hb dX5_neverWrong_24 rfl (lv_at hl 3 rfl) ?_
    refine va_iald hx hb hK hP (4 + 9) 0 (gr12_get (pre := ([(o1, .inr (5, [.ref o2, .ref o7, .ref o9, .int v12, .int v13, .int v14])), (o9, .inl (c2, 12, .inr (.inr (.inr (.inr (fun i => if i < 12 then some (rw10 i) else none)))))), (o2, .inr (3, [.ref o3, .int v6])), (o3, .inl (c2, 13, .inr (.inr (.inr (.inr (fun i => if i < 13 then some (rw4 i) else none))))))] : va_W)) (post := (gr13 rw4 cI 12 Gw5 ++ ([] : va_W))) rfl (by decide)) rfl (vin_iv a3_h (by decide)) dX5_neverWrong_25 (lv_topi (fun x2 x2_e => ?_))
    refine lv_istore (lv' := [(4, .int x2), (0, .ref o1), (1, .int 9), (2, .int a2), (3, .int a3)]) hx hb dX5_neverWrong_26 hl (by decide) rfl (fun ls hl => ?_)
    refine lv_iload_n hx hb dX5_neverWrong_28 rfl (lv_at hl 4 rfl) ?_
    refine lv_istore (lv' := [(5, .int a3), (4, .int x2), (0, .ref o1), (1, .int 9), (2, .int a2), (3, .int a3)]) hx hb dX5_neverWrong_29 hl (by decide) rfl (fun ls hl => ?_)
    have L1 : ∀ (N : Nat) (x32 : Int32) (H : Heap) (locs : List Loc) (ls : Array Slot), (12 - x32.toInt).toNat < N → Iv 0 12 x32 → va_P (dC, dI) vwCl (([(o1, .inr (5, [.ref o2, .ref o7, .ref o9, .int v12, .int v13, .int v14])), (o9, .inl (c2, 12, .inr (.inr (.inr (.inr (fun i => if i < 12 then some (rw10 i) else none)))))), (o2, .inr (3, [.ref o3, .int v6])), (o3, .inl (c2, 13, .inr (.inr (.inr (.inr (fun i => if i < 13 then some (rw4 i) else none))))))] : va_W) ++ (gr12 rw10 cI 12 Gw11 ++ (gr13 rw4 cI 12 Gw5 ++ ([] : va_W)))) H → va_D A (([(o1, .inr (5, [.ref o2, .ref o7, .ref o9, .int v12, .int v13, .int v14])), (o9, .inl (c2, 12, .inr (.inr (.inr (.inr (fun i => if i < 12 then some (rw10 i) else none)))))), (o2, .inr (3, [.ref o3, .int v6])), (o3, .inl (c2, 13, .inr (.inr (.inr (.inr (fun i => if i < 13 then some (rw4 i) else none))))))] : va_W) ++ (gr12 rw10 cI 12 Gw11 ++ (gr13 rw4 cI 12 Gw5 ++ ([] : va_W)))) → va_S A s.heap H locs → lv_has ls 6 [(5, .int x32), (4, .int x2), (0, .ref o1), (1, .int 9), (2, .int a2), (3, .int a3)] → W p l e ({ frames := 3, cells := 0, slots := 0, locals := 74 }) s m ([.ref o1, .int 9, .int a2, .int a3] : List Value).toArray below meth c H locs 0 0 Q (F0 m 31 ls []) := by
      intro N
      induction N with
      | zero =>
        intro x32 H locs ls hM
        exact absurd hM (Nat.not_lt_zero _)
      | succ N ih1 =>
        intro x32 H locs ls hM1 x32_h hP hD hS hl
        refine lv_iload hx hb dX5_neverWrong_31 (lv_at hl 0 rfl) ?_
        refine lv_aload_n hx hb dX5_neverWrong_33 rfl (lv_at hl 2 rfl) ?_
        refine va_get (D := (dC, dI)) (ci := 5) (v := .int v14) (C := RX5) (T := TX5) (N := 6) hx hb hts iw_X5_neverWrong_X5 hown hK hP 0 rfl rfl 5 (by decide) (hts (.fieldLink RX5 34 "HolelessHouse$LeastSearch" "size" "I") hm_X5_neverWrong_4) (fun _ h9 => h9) rfl dX5_neverWrong_34 ?_
        refine lv_icmp_ge (tgt := 82) hx hb dX5_neverWrong_37 (by decide) (fun h33 => ?_) (fun h33 => ?_)
        ·
          have qh33 := le_i h33
          refine lv_iload hx hb dX5_neverWrong_82 (lv_at hl 1 rfl) ?_
          refine lv_if_ne (tgt := 91) hx hb dX5_neverWrong_84 (by decide) (fun h34 => ?_) (fun h34 => ?_)
          ·
            refine lv_iconst (v := (-1)) hx hb dX5_neverWrong_91 (by decide) ?_
            rw [hQ]
            exact W.iret (v := (-1)) hx hb hr (fun t ht hW => ⟨⟨(-1), (), rfl, (iv_w ikm_1 (by decide)), by rw [ht]; exact hP, va_K.moved hW.alike hK, hD⟩, hS.F ht⟩) hS.2.2 dX5_neverWrong_92
          ·
            have j35 : Iv 0 0 x2 := r_eq h34 ik_0
            refine lv_iload_n hx hb dX5_neverWrong_87 rfl (lv_at hl 5 rfl) ?_
            refine lv_goto (tgt := 92) hx hb dX5_neverWrong_88 (by decide) ?_
            rw [hQ]
            exact W.iret (v := a3) hx hb hr (fun t ht hW => ⟨⟨a3, (), rfl, (iv_w a3_h (by decide)), by rw [ht]; exact hP, va_K.moved hW.alike hK, hD⟩, hS.F ht⟩) hS.2.2 dX5_neverWrong_92
        ·
          have qh33 := nle_i h33
          have j36 : Iv 0 11 x32 := r_ltl qh33 x32_h v14_h (by decide)
          have j37 : Iv 1 12 v14 := r_ltr qh33 x32_h v14_h (by decide)
          refine lv_iload hx hb dX5_neverWrong_40 (lv_at hl 1 rfl) ?_
          refine lv_iconst (v := 1) hx hb dX5_neverWrong_42 (by decide) ?_
          refine lv_icmp_ne (tgt := 82) hx hb dX5_neverWrong_43 (by decide) (fun h38 => ?_) (fun h38 => ?_)
          ·
            refine lv_iload hx hb dX5_neverWrong_82 (lv_at hl 1 rfl) ?_
            refine lv_if_ne (tgt := 91) hx hb dX5_neverWrong_84 (by decide) (fun h39 => ?_) (fun h39 => ?_)
            ·
              refine lv_iconst (v := (-1)) hx hb dX5_neverWrong_91 (by decide) ?_
              rw [hQ]
              exact W.iret (v := (-1)) hx hb hr (fun t ht hW => ⟨⟨(-1), (), rfl, (iv_w ikm_1 (by decide)), by rw [ht]; exact hP, va_K.moved hW.alike hK, hD⟩, hS.F ht⟩) hS.2.2 dX5_neverWrong_92
            ·
              have j40 : Iv 0 0 x2 := r_eq h39 ik_0
              refine lv_iload_n hx hb dX5_neverWrong_87 rfl (lv_at hl 5 rfl) ?_
              refine lv_goto (tgt := 92) hx hb dX5_neverWrong_88 (by decide) ?_
              rw [hQ]
              exact W.iret (v := a3) hx hb hr (fun t ht hW => ⟨⟨a3, (), rfl, (iv_w a3_h (by decide)), by rw [ht]; exact hP, va_K.moved hW.alike hK, hD⟩, hS.F ht⟩) hS.2.2 dX5_neverWrong_92
          ·
            have j41 : Iv 1 1 x2 := r_eq h38 ik_1
            refine lv_aload_n hx hb dX5_neverWrong_46 rfl (lv_at hl 2 rfl) ?_
            refine va_get (D := (dC, dI)) (ci := 5) (v := .ref o9) (C := RX5) (T := TX5) (N := 6) hx hb hts iw_X5_neverWrong_X5 hown hK hP 0 rfl rfl 2 (by decide) (hts (.fieldLink RX5 24 "HolelessHouse$LeastSearch" "prices" "[[I") hm_X5_neverWrong_3) (fun _ h9 => h9) rfl dX5_neverWrong_47 ?_
            refine lv_iload_n hx hb dX5_neverWrong_50 rfl (lv_at hl 3 rfl) ?_
            refine va_alda hx hb hK hP 1 1 rfl rfl (vin_iv ik_9 (by decide)) dX5_neverWrong_51 (tk_r (v := .ref (rw10 9)) rfl ?_)
            refine lv_iload hx hb dX5_neverWrong_52 (lv_at hl 0 rfl) ?_
            refine va_iald hx hb hK hP (4 + 9) 0 (gr12_get (pre := ([(o1, .inr (5, [.ref o2, .ref o7, .ref o9, .int v12, .int v13, .int v14])), (o9, .inl (c2, 12, .inr (.inr (.inr (.inr (fun i => if i < 12 then some (rw10 i) else none)))))), (o2, .inr (3, [.ref o3, .int v6])), (o3, .inl (c2, 13, .inr (.inr (.inr (.inr (fun i => if i < 13 then some (rw4 i) else none))))))] : va_W)) (post := (gr13 rw4 cI 12 Gw5 ++ ([] : va_W))) rfl (by decide)) rfl (vin_iv j36 (by decide)) dX5_neverWrong_54 (lv_topi (fun x42 x42_e => ?_))
            refine lv_iconst (v := 1) hx hb dX5_neverWrong_55 (by decide) ?_
            refine lv_icmp_ne (tgt := 76) hx hb dX5_neverWrong_56 (by decide) (fun h43 => ?_) (fun h43 => ?_)
            ·
              obtain ⟨x44, x44_e⟩ : ∃ z : Int32, z = x32 + 1 := ⟨_, rfl⟩
              have x44_h : Iv 1 12 x44 := iv_e x44_e (iv_add j36 ik_1 (by decide))
              refine lv_iinc (v := x44) (lv' := [(5, .int x44), (4, .int x2), (0, .ref o1), (1, .int 9), (2, .int a2), (3, .int a3)]) hx hb dX5_neverWrong_76 hl (k := 0) rfl (incN (by decide +kernel) x44_e) (by decide) rfl (fun ls hl => ?_)
              refine lv_goto (tgt := 31) hx hb dX5_neverWrong_79 (by decide) ?_
              exact ih1 x44 _ _ _ (ms_up x44_e j36 (by decide) hM1) (iv_w x44_h (by decide)) hP hD hS hl
            ·
              have j45 : Iv 1 1 x42 := r_eq h43 ik_1
              refine lv_aload_n hx hb dX5_neverWrong_59 rfl (lv_at hl 2 rfl) ?_
              refine va_get (D := (dC, dI)) (ci := 5) (v := .ref o2) (C := RX5) (T := TX5) (N := 6) hx hb hts iw_X5_neverWrong_X5 hown hK hP 0 rfl rfl 0 (by decide) (hts (.fieldLink RX5 12 "HolelessHouse$LeastSearch" "going" "LHolelessHouse$Going;") hm_X5_neverWrong_2) (fun _ h9 => h9) rfl dX5_neverWrong_60 ?_
              refine lv_iload_n hx hb dX5_neverWrong_63 rfl (lv_at hl 3 rfl) ?_
              refine lv_iload hx hb dX5_neverWrong_64 (lv_at hl 0 rfl) ?_
              refine lv_iload_n hx hb dX5_neverWrong_66 rfl (lv_at hl 4 rfl) ?_
              refine kc_i (D := (dC, dI)) (S := Unit) (wc := ([(o2, .inr (3, [.ref o3, .int v6])), (o3, .inl (c2, 13, .inr (.inr (.inr (.inr (fun i => if i < 13 then some (rw4 i) else none))))))] : va_W) ++ (gr13 rw4 cI 12 Gw5 ++ ([] : va_W))) (wr := ([(o1, .inr (5, [.ref o2, .ref o7, .ref o9, .int v12, .int v13, .int v14])), (o9, .inl (c2, 12, .inr (.inr (.inr (.inr (fun i => if i < 12 then some (rw10 i) else none))))))] : va_W) ++ (gr12 rw10 cI 12 Gw11 ++ ([] : va_W))) (w1 := fun _ => ([(o2, .inr (3, [.ref o3, .int v6])), (o3, .inl (c2, 13, .inr (.inr (.inr (.inr (fun i => if i < 13 then some (rw4 i) else none))))))] : va_W) ++ (gr13 rw4 cI 12 Gw5 ++ ([] : va_W))) (wn := fun _ => ([(o1, .inr (5, [.ref o2, .ref o7, .ref o9, .int v12, .int v13, .int v14])), (o9, .inl (c2, 12, .inr (.inr (.inr (.inr (fun i => if i < 12 then some (rw10 i) else none)))))), (o2, .inr (3, [.ref o3, .int v6])), (o3, .inl (c2, 13, .inr (.inr (.inr (.inr (fun i => if i < 13 then some (rw4 i) else none))))))] : va_W) ++ (gr12 rw10 cI 12 Gw11 ++ (gr13 rw4 cI 12 Gw5 ++ ([] : va_W)))) (fun hPc hDc => va_runVN (As := [.int 9, .int x32, .int a2]) (rest := []) ⟨hx, hb, hml, hown, hts⟩ (kX3_hasWayOutside_10 l dC dI cI c2 cZ o2 o3 rw4 Gw5 v6 x32 a2 H.size Gw5_b v6_h j36 a2_h) ⟨va_cnB 3 hts gX5_neverWrong_X3_hasWayOutside_n90 rfl rfl rfl (hN.1 _ ns_98) (hts (.initialized RX3) hm_X5_neverWrong_6) (by decide +kernel) ⟨Nat.le_of_ble_eq_true rfl, Nat.le_of_ble_eq_true rfl⟩, (hts (.instanceMethod yX3_hasWayOutside) hm_X5_neverWrong_25), (hts (.selects RX3 yX3_hasWayOutside yX3_hasWayOutside) hm_X5_neverWrong_26)⟩ (pre_V hPc hK hDc hN (ci := 3) (q0 := 0) rfl rfl) rfl rfl hl.1 rfl (lv_room (Nat.le_of_ble_eq_true rfl)) dX5_neverWrong_67 ⟨Nat.le_of_ble_eq_true rfl, Nat.le_of_ble_eq_true rfl⟩) hP hD hS hA [2, 3, 16, 17, 18, 19, 20, 21, 22, 23, 24, 25, 26, 27, 28] [0, 1, 4, 5, 6, 7, 8, 9, 10, 11, 12, 13, 14, 15] [0, 1, 14, 15, 2, 3, 4, 5, 6, 7, 8, 9, 10, 11, 12, 13, 16, 17, 18, 19, 20, 21, 22, 23, 24, 25, 26, 27, 28] rfl rfl (by decide +kernel) (by decide +kernel) (by decide +kernel) (by decide +kernel) (fun _ => rfl) (fun x46 _ H locs hq hP hD hS => ?_)
              have x46_h := hq
              have hP : va_P (dC, dI) vwCl (([(o1, .inr (5, [.ref o2, .ref o7, .ref o9, .int v12, .int v13, .int v14])), (o9, .inl (c2, 12, .inr (.inr (.inr (.inr (fun i => if i < 12 then some (rw10 i) else none)))))), (o2, .inr (3, [.ref o3, .int v6])), (o3, .inl (c2, 13, .inr (.inr (.inr (.inr (fun i => if i < 13 then some (rw4 i) else none))))))] : va_W) ++ (gr12 rw10 cI 12 Gw11 ++ (gr13 rw4 cI 12 Gw5 ++ ([] : va_W)))) H := hP
              have hD : va_D A (([(o1, .inr (5, [.ref o2, .ref o7, .ref o9, .int v12, .int v13, .int v14])), (o9, .inl (c2, 12, .inr (.inr (.inr (.inr (fun i => if i < 12 then some (rw10 i) else none)))))), (o2, .inr (3, [.ref o3, .int v6])), (o3, .inl (c2, 13, .inr (.inr (.inr (.inr (fun i => if i < 13 then some (rw4 i) else none))))))] : va_W) ++ (gr12 rw10 cI 12 Gw11 ++ (gr13 rw4 cI 12 Gw5 ++ ([] : va_W)))) := hD
              refine lv_if_eq (tgt := 76) hx hb dX5_neverWrong_70 (by decide) (fun h47 => ?_) (fun h47 => ?_)
              ·
                have j48 : Iv 0 0 x46 := r_eq h47 ik_0
                obtain ⟨x49, x49_e⟩ : ∃ z : Int32, z = x32 + 1 := ⟨_, rfl⟩
                have x49_h : Iv 1 12 x49 := iv_e x49_e (iv_add j36 ik_1 (by decide))
                refine lv_iinc (v := x49) (lv' := [(5, .int x49), (4, .int x2), (0, .ref o1), (1, .int 9), (2, .int a2), (3, .int a3)]) hx hb dX5_neverWrong_76 hl (k := 0) rfl (incN (by decide +kernel) x49_e) (by decide) rfl (fun ls hl => ?_)
                refine lv_goto (tgt := 31) hx hb dX5_neverWrong_79 (by decide) ?_
                exact ih1 x49 _ _ _ (ms_up x49_e j36 (by decide) hM1) (iv_w x49_h (by decide)) hP hD hS hl
              ·
                have j50 : Iv 1 1 x46 := r_nelo h47 x46_h ik_0 (by decide)
                refine lv_iload hx hb dX5_neverWrong_73 (lv_at hl 0 rfl) ?_
                rw [hQ]
                exact W.iret (v := x32) hx hb hr (fun t ht hW => ⟨⟨x32, (), rfl, (iv_w j36 (by decide)), by rw [ht]; exact hP, va_K.moved hW.alike hK, hD⟩, hS.F ht⟩) hS.2.2 dX5_neverWrong_75
    exact L1 _ a3 _ _ _ (Nat.lt_succ_self _) (iv_w a3_h (by decide)) hP hD hS hl
  ·
    have j51 : Iv 1 1 v12 := r_eq h1 ik_1
    refine lv_aload_n hx hb dX5_neverWrong_8 rfl (lv_at hl 0 rfl) ?_
    refine va_get (D := (dC, dI)) (ci := 5) (v := .ref o2) (C := RX5) (T := TX5) (N := 6) hx hb hts iw_X5_neverWrong_X5 hown hK hP 0 rfl rfl 0 (by decide) (hts (.fieldLink RX5 12 "HolelessHouse$LeastSearch" "going" "LHolelessHouse$Going;") hm_X5_neverWrong_2) (fun _ h9 => h9) rfl dX5_neverWrong_9 ?_
    refine lv_iload_n hx hb dX5_neverWrong_12 rfl (lv_at hl 1 rfl) ?_
    refine lv_iload_n hx hb dX5_neverWrong_13 rfl (lv_at hl 2 rfl) ?_
    refine kc_i (D := (dC, dI)) (S := Unit) (wc := ([(o2, .inr (3, [.ref o3, .int v6])), (o3, .inl (c2, 13, .inr (.inr (.inr (.inr (fun i => if i < 13 then some (rw4 i) else none))))))] : va_W) ++ (gr13 rw4 cI 12 Gw5 ++ ([] : va_W))) (wr := ([(o1, .inr (5, [.ref o2, .ref o7, .ref o9, .int v12, .int v13, .int v14])), (o9, .inl (c2, 12, .inr (.inr (.inr (.inr (fun i => if i < 12 then some (rw10 i) else none))))))] : va_W) ++ (gr12 rw10 cI 12 Gw11 ++ ([] : va_W))) (w1 := fun _ => ([(o2, .inr (3, [.ref o3, .int v6])), (o3, .inl (c2, 13, .inr (.inr (.inr (.inr (fun i => if i < 13 then some (rw4 i) else none))))))] : va_W) ++ (gr13 rw4 cI 12 Gw5 ++ ([] : va_W))) (wn := fun _ => ([(o1, .inr (5, [.ref o2, .ref o7, .ref o9, .int v12, .int v13, .int v14])), (o9, .inl (c2, 12, .inr (.inr (.inr (.inr (fun i => if i < 12 then some (rw10 i) else none)))))), (o2, .inr (3, [.ref o3, .int v6])), (o3, .inl (c2, 13, .inr (.inr (.inr (.inr (fun i => if i < 13 then some (rw4 i) else none))))))] : va_W) ++ (gr12 rw10 cI 12 Gw11 ++ (gr13 rw4 cI 12 Gw5 ++ ([] : va_W)))) (fun hPc hDc => va_runVN (As := [.int 9, .int a2]) (rest := []) ⟨hx, hb, hml, hown, hts⟩ (kX3_leastTight_1 l dC dI cI c2 cZ o2 o3 rw4 Gw5 v6 9 a2 s.heap.size Gw5_b v6_h (iv_w ik_9 (by decide)) a2_h) ⟨va_cnB 2 hts gX5_neverWrong_X3_leastTight_n87 rfl rfl rfl (hN.1 _ ns_97) (hts (.initialized RX3) hm_X5_neverWrong_6) (by decide +kernel) ⟨Nat.le_of_ble_eq_true rfl, Nat.le_of_ble_eq_true rfl⟩, (hts (.instanceMethod yX3_leastTight) hm_X5_neverWrong_5), (hts (.selects RX3 yX3_leastTight yX3_leastTight) hm_X5_neverWrong_7)⟩ (pre_V hPc hK hDc hN (ci := 3) (q0 := 0) rfl rfl) rfl rfl hl.1 rfl (lv_room (Nat.le_of_ble_eq_true rfl)) dX5_neverWrong_14 ⟨Nat.le_of_ble_eq_true rfl, Nat.le_of_ble_eq_true rfl⟩) hP hD hS hA [2, 3, 16, 17, 18, 19, 20, 21, 22, 23, 24, 25, 26, 27, 28] [0, 1, 4, 5, 6, 7, 8, 9, 10, 11, 12, 13, 14, 15] [0, 1, 14, 15, 2, 3, 4, 5, 6, 7, 8, 9, 10, 11, 12, 13, 16, 17, 18, 19, 20, 21, 22, 23, 24, 25, 26, 27, 28] rfl rfl (by decide +kernel) (by decide +kernel) (by decide +kernel) (by decide +kernel) (fun _ => rfl) (fun x52 _ H locs hq hP hD hS => ?_)
    have x52_h := hq
    have hP : va_P (dC, dI) vwCl (([(o1, .inr (5, [.ref o2, .ref o7, .ref o9, .int v12, .int v13, .int v14])), (o9, .inl (c2, 12, .inr (.inr (.inr (.inr (fun i => if i < 12 then some (rw10 i) else none)))))), (o2, .inr (3, [.ref o3, .int v6])), (o3, .inl (c2, 13, .inr (.inr (.inr (.inr (fun i => if i < 13 then some (rw4 i) else none))))))] : va_W) ++ (gr12 rw10 cI 12 Gw11 ++ (gr13 rw4 cI 12 Gw5 ++ ([] : va_W)))) H := hP
    have hD : va_D A (([(o1, .inr (5, [.ref o2, .ref o7, .ref o9, .int v12, .int v13, .int v14])), (o9, .inl (c2, 12, .inr (.inr (.inr (.inr (fun i => if i < 12 then some (rw10 i) else none)))))), (o2, .inr (3, [.ref o3, .int v6])), (o3, .inl (c2, 13, .inr (.inr (.inr (.inr (fun i => if i < 13 then some (rw4 i) else none))))))] : va_W) ++ (gr12 rw10 cI 12 Gw11 ++ (gr13 rw4 cI 12 Gw5 ++ ([] : va_W)))) := hD
    rw [hQ]
    exact W.iret (v := x52) hx hb hr (fun t ht hW => ⟨⟨x52, (), rfl, x52_h, by rw [ht]; exact hP, va_K.moved hW.alike hK, hD⟩, hS.F ht⟩) hS.2.2 dX5_neverWrong_17
set_option maxHeartbeats 4000000 in
set_option maxRecDepth 100000 in
theorem kX3_hasWayOutside_11 (l : Launch) (dC : Nat → ClassId) (dI : Nat → Nat → Nat) (cI c2 cZ : ClassId) (o1 : Nat) (o2 : Nat) (rw3 : Nat → Nat) (Gw4 : Nat → Nat → Int32) (v5 : Int32) (a2 : Int32) (a3 : Int32) (sz : Nat) (Gw4_b : Bg 13 12 0 4095 Gw4) (v5_h : Iv 0 12 v5) (a2_h : Iv 0 11 a2) (a3_h : Iv 0 4095 a3) : Met l yX3_hasWayOutside wsX3_hasWayOutside ({ frames := 2, cells := 0, slots := 0, locals := 47 }) (va_Pc [.ref o1, .int 10, .int a2, .int a3] (wPre (dC, dI) [(cI, .int), (c2, .array .int), (cZ, .boolean)] (([(o1, .inr (3, [.ref o2, .int v5])), (o2, .inl (c2, 13, .inr (.inr (.inr (.inr (fun i => if i < 13 then some (rw3 i) else none))))))] : va_W) ++ (gr13 rw3 cI 12 Gw4 ++ ([] : va_W))) sz)) (va_Qi (fun (r : Int32) (_ : Unit) => Iv 0 1 r) (fun _ t => wPost (dC, dI) [(cI, .int), (c2, .array .int), (cZ, .boolean)] (va_A (([(o1, .inr (3, [.ref o2, .int v5])), (o2, .inl (c2, 13, .inr (.inr (.inr (.inr (fun i => if i < 13 then some (rw3 i) else none))))))] : va_W) ++ (gr13 rw3 cI 12 Gw4 ++ ([] : va_W))) sz) (([(o1, .inr (3, [.ref o2, .int v5])), (o2, .inl (c2, 13, .inr (.inr (.inr (.inr (fun i => if i < 13 then some (rw3 i) else none))))))] : va_W) ++ (gr13 rw3 cI 12 Gw4 ++ ([] : va_W))) t) (va_A (([(o1, .inr (3, [.ref o2, .int v5])), (o2, .inl (c2, 13, .inr (.inr (.inr (.inr (fun i => if i < 13 then some (rw3 i) else none))))))] : va_W) ++ (gr13 rw3 cI 12 Gw4 ++ ([] : va_W))) sz)) 0 0 (va_A (([(o1, .inr (3, [.ref o2, .int v5])), (o2, .inl (c2, 13, .inr (.inr (.inr (.inr (fun i => if i < 13 then some (rw3 i) else none))))))] : va_W) ++ (gr13 rw3 cI 12 Gw4 ++ ([] : va_W))) sz) := by
  refine Met.ofW (cc := cX3_hasWayOutside) (maxL := 8) (ret := (some .boolean)) (by decide) rfl ?_
  intro p e s m args below meth c s₁ B hml hv
  obtain ⟨rfl, hsz, hP, hK, hD0, hN⟩ := hv
  have hx := B.exec
  have hb := B.bytes
  have hr := B.returns
  have hts := atoms_spec (ws := wsX3_hasWayOutside) B.pre
  have hown : s.vm.findClass RX3 = some m.cls := findClass_of_methodNamed B.named
  have hlocks := B.notSynchronized
  subst hsz
  have hD := hD0.self (sz := s.heap.size)
  generalize hAe : va_A (([(o1, .inr (3, [.ref o2, .int v5])), (o2, .inl (c2, 13, .inr (.inr (.inr (.inr (fun i => if i < 13 then some (rw3 i) else none))))))] : va_W) ++ (gr13 rw3 cI 12 Gw4 ++ ([] : va_W))) s.heap.size = A at hD ⊢
  have hA : ∀ q : Nat, s.heap.size ≤ q → A q := fun q h => by rw [← hAe]; exact Or.inr h
  have hS : va_S A s.heap s.heap [] := va_S.rf
  have hP : va_P (dC, dI) vwCl (([(o1, .inr (3, [.ref o2, .int v5])), (o2, .inl (c2, 13, .inr (.inr (.inr (.inr (fun i => if i < 13 then some (rw3 i) else none))))))] : va_W) ++ (gr13 rw3 cI 12 Gw4 ++ ([] : va_W))) s.heap := hP
  have hl := lv_entry ([.ref o1, .int 10, .int a2, .int a3]) (n := 8) (Nat.le_of_ble_eq_true rfl)
  rw [lg_entry_eq]
  generalize (lg_sl ([.ref o1, .int 10, .int a2, .int a3]) ++ List.replicate (8 - (lg_sl ([.ref o1, .int 10, .int a2, .int a3])).length) Slot.unset).toArray = ls at hl ⊢
  have hl : lv_has ls 8 [(0, .ref o1), (1, .int 10), (2, .int a2), (3, .int a3)] := hl
  refine gen_Q (fun Q hQ => ?_)
  refine lv_aload_n hx hb dX3_hasWayOutside_0 rfl (lv_at hl 0 rfl) ?_
  refine va_get (D := (dC, dI)) (ci := 3) (v := .ref o2) (C := RX3) (T := TX3) (N := 2) hx hb hts iw_X3_hasWayOutside_X3 hown hK hP 0 rfl rfl 0 (by decide) (hts (.fieldLink RX3 11 "HolelessHouse$Going" "near" "[[I") hm_X3_hasWayOutside_1) (fun _ h9 => h9) rfl dX3_hasWayOutside_1 ?_
  refine lv_iload_n hx hb dX3_hasWayOutside_4 rfl (lv_at hl 1 rfl) ?_
  refine va_alda hx hb hK hP 1 1 rfl rfl (vin_iv ik_10 (by decide)) dX3_hasWayOutside_5 (tk_r (v := .ref (rw3 10)) rfl ?_)
  refine lv_astore (lv' := [(4, .ref (rw3 10)), (0, .ref o1), (1, .int 10), (2, .int a2), (3, .int a3)]) hx hb dX3_hasWayOutside_6 hl (by decide) rfl (fun ls hl => ?_)
  refine lv_aload hx hb dX3_hasWayOutside_8 (lv_at hl 0 rfl) ?_
  refine lv_iload_n hx hb dX3_hasWayOutside_10 rfl (lv_at hl 3 rfl) ?_
  refine va_iald hx hb hK hP (2 + 10) 0 (gr13_get (pre := ([(o1, .inr (3, [.ref o2, .int v5])), (o2, .inl (c2, 13, .inr (.inr (.inr (.inr (fun i => if i < 13 then some (rw3 i) else none))))))] : va_W)) (post := ([] : va_W)) rfl (by decide)) rfl (vin_iv a2_h (by decide)) dX3_hasWayOutside_11 (lv_topi (fun x1 x1_e => ?_))
  have x1_h : Iv 0 4095 x1 := iv_e x1_e (bg_at Gw4_b (by decide) (vin_iv a2_h (by decide)))
  refine lv_istore (lv' := [(5, .int x1), (4, .ref (rw3 10)), (0, .ref o1), (1, .int 10), (2, .int a2), (3, .int a3)]) hx hb dX3_hasWayOutside_12 hl (by decide) rfl (fun ls hl => ?_)
  refine lv_iconst (v := 0) hx hb dX3_hasWayOutside_14 (by decide) ?_
  refine lv_istore (lv' := [(6, .int 0), (5, .int x1), (4, .ref (rw3 10)), (0, .ref o1), (1, .int 10), (2, .int a2), (3, .int a3)]) hx hb dX3_hasWayOutside_15 hl (by decide) rfl (fun ls hl => ?_)
  refine lv_iconst (v := 0) hx hb dX3_hasWayOutside_17 (by decide) ?_
  refine lv_istore (lv' := [(7, .int 0), (6, .int 0), (5, .int x1), (4, .ref (rw3 10)), (0, .ref o1), (1, .int 10), (2, .int a2), (3, .int a3)]) hx hb dX3_hasWayOutside_18 hl (by decide) rfl (fun ls hl => ?_)
  have L1 : ∀ (N : Nat) (x154 : Int32) (x155 : Int32) (H : Heap) (locs : List Loc) (ls : Array Slot), (12 - x154.toInt).toNat < N → Iv 0 12 x154 → Iv 0 4095 x155 → va_P (dC, dI) vwCl (([(o1, .inr (3, [.ref o2, .int v5])), (o2, .inl (c2, 13, .inr (.inr (.inr (.inr (fun i => if i < 13 then some (rw3 i) else none))))))] : va_W) ++ (gr13 rw3 cI 12 Gw4 ++ ([] : va_W))) H → va_D A (([(o1, .inr (3, [.ref o2, .int v5])), (o2, .inl (c2, 13, .inr (.inr (.inr (.inr (fun i => if i < 13 then some (rw3 i) else none))))))] : va_W) ++ (gr13 rw3 cI 12 Gw4 ++ ([] : va_W))) → va_S A s.heap H locs → lv_has ls 8 [(7, .int x154), (6, .int x155), (5, .int x1), (4, .ref (rw3 10)), (0, .ref o1), (1, .int 10), (2, .int a2), (3, .int a3)] → W p l e ({ frames := 2, cells := 0, slots := 0, locals := 47 }) s m ([.ref o1, .int 10, .int a2, .int a3] : List Value).toArray below meth c H locs 0 0 Q (F0 m 20 ls []) := by
    intro N
    induction N with
    | zero =>
      intro x154 x155 H locs ls hM
      exact absurd hM (Nat.not_lt_zero _)
    | succ N ih1 =>
      intro x154 x155 H locs ls hM1 x154_h x155_h hP hD hS hl
      refine lv_iload hx hb dX3_hasWayOutside_20 (lv_at hl 0 rfl) ?_
      refine lv_aload_n hx hb dX3_hasWayOutside_22 rfl (lv_at hl 4 rfl) ?_
      refine va_get (D := (dC, dI)) (ci := 3) (v := .int v5) (C := RX3) (T := TX3) (N := 2) hx hb hts iw_X3_hasWayOutside_X3 hown hK hP 0 rfl rfl 1 (by decide) (hts (.fieldLink RX3 16 "HolelessHouse$Going" "size" "I") hm_X3_hasWayOutside_2) (fun _ h9 => h9) rfl dX3_hasWayOutside_23 ?_
      refine lv_icmp_ge (tgt := 71) hx hb dX3_hasWayOutside_26 (by decide) (fun h156 => ?_) (fun h156 => ?_)
      ·
        have qh156 := le_i h156
        refine lv_iload_n hx hb dX3_hasWayOutside_71 rfl (lv_at hl 7 rfl) ?_
        refine lv_iload hx hb dX3_hasWayOutside_72 (lv_at hl 2 rfl) ?_
        refine lv_iconst (v := (-1)) hx hb dX3_hasWayOutside_74 (by decide) ?_
        refine lv_ixor hx hb dX3_hasWayOutside_75 (lv_topi (fun x157 x157_e => ?_))
        refine lv_iand hx hb dX3_hasWayOutside_76 (lv_topi (fun x158 x158_e => ?_))
        have x158_h : Iv 0 4095 x158 := iv_e x158_e (iv_andL _ a3_h (by decide))
        refine lv_iconst (v := 1) hx hb dX3_hasWayOutside_77 (by decide) ?_
        refine lv_iload_n hx hb dX3_hasWayOutside_78 rfl (lv_at hl 6 rfl) ?_
        refine lv_ishl hx hb dX3_hasWayOutside_79 (lv_topi (fun x159 x159_e => ?_))
        have x159_h : Iv 1 2048 x159 := iv_e x159_e (iv_shl1 a2_h (by decide))
        refine lv_iconst (v := (-1)) hx hb dX3_hasWayOutside_80 (by decide) ?_
        refine lv_ixor hx hb dX3_hasWayOutside_81 (lv_topi (fun x160 x160_e => ?_))
        refine lv_iand hx hb dX3_hasWayOutside_82 (lv_topi (fun x161 x161_e => ?_))
        have x161_h : Iv 0 4095 x161 := iv_e x161_e (iv_andL _ x158_h (by decide))
        refine lv_istore (lv' := [(7, .int x161), (6, .int x155), (5, .int x1), (4, .ref (rw3 10)), (0, .ref o1), (1, .int 10), (2, .int a2), (3, .int a3)]) hx hb dX3_hasWayOutside_83 hl (by decide) rfl (fun ls hl => ?_)
        refine lv_aload hx hb dX3_hasWayOutside_85 (lv_at hl 3 rfl) ?_
        refine lv_iload hx hb dX3_hasWayOutside_87 (lv_at hl 1 rfl) ?_
        by_cases h162 : x155 = 0
        ·
          refine tk_i (v := 0) h162 ?_
          refine kc_i (D := (dC, dI)) (S := Unit) (wc := []) (wr := ([(o1, .inr (3, [.ref o2, .int v5])), (o2, .inl (c2, 13, .inr (.inr (.inr (.inr (fun i => if i < 13 then some (rw3 i) else none))))))] : va_W) ++ (gr13 rw3 cI 12 Gw4 ++ ([] : va_W))) (w1 := fun _ => []) (wn := fun _ => ([(o1, .inr (3, [.ref o2, .int v5])), (o2, .inl (c2, 13, .inr (.inr (.inr (.inr (fun i => if i < 13 then some (rw3 i) else none))))))] : va_W) ++ (gr13 rw3 cI 12 Gw4 ++ ([] : va_W))) (fun hPc hDc => va_runS (As := [.int 0]) (rest := [.ref (rw3 10)]) ⟨hx, hb, hml, hown, hts⟩ (kJ6_numberOfTrailingZeros_0f7a4_2 l dC dI cI c2 cZ H.size) (va_cwS 1 hts gX3_hasWayOutside_J6_numberOfTrailingZeros_0f7a4 rfl rfl rfl (by decide +kernel) ⟨Nat.le_of_ble_eq_true rfl, Nat.le_of_ble_eq_true rfl⟩) (pre_S hPc hK hDc hN) rfl rfl hl.1 rfl (lv_room (Nat.le_of_ble_eq_true rfl)) dX3_hasWayOutside_89 ⟨Nat.le_of_ble_eq_true rfl, Nat.le_of_ble_eq_true rfl⟩) hP hD hS hA [] [0, 1, 2, 3, 4, 5, 6, 7, 8, 9, 10, 11, 12, 13, 14] [0, 1, 2, 3, 4, 5, 6, 7, 8, 9, 10, 11, 12, 13, 14] rfl rfl (by decide +kernel) (by decide +kernel) (by decide +kernel) (by decide +kernel) (fun _ => rfl) (fun x163 _ H locs hq hP hD hS => ?_)
          have x163_h := hq
          have hP : va_P (dC, dI) vwCl (([(o1, .inr (3, [.ref o2, .int v5])), (o2, .inl (c2, 13, .inr (.inr (.inr (.inr (fun i => if i < 13 then some (rw3 i) else none))))))] : va_W) ++ (gr13 rw3 cI 12 Gw4 ++ ([] : va_W))) H := hP
          have hD : va_D A (([(o1, .inr (3, [.ref o2, .int v5])), (o2, .inl (c2, 13, .inr (.inr (.inr (.inr (fun i => if i < 13 then some (rw3 i) else none))))))] : va_W) ++ (gr13 rw3 cI 12 Gw4 ++ ([] : va_W))) := hD
          refine lv_iload hx hb dX3_hasWayOutside_92 (lv_at hl 0 rfl) ?_
          refine lv_iload hx hb dX3_hasWayOutside_94 (lv_at hl 1 rfl) ?_
          refine lv_ior hx hb dX3_hasWayOutside_96 (lv_topi (fun x164 x164_e => ?_))
          have x164_h : Iv 0 4095 x164 := iv_e x164_e (iv_or 12 x161_h x155_h (by decide))
          refine kc_i (D := (dC, dI)) (S := Unit) (wc := [((rw3 10), .inl (cI, 12, .inl (Gw4 10)))]) (wr := [(o1, .inr (3, [.ref o2, .int v5])), (o2, .inl (c2, 13, .inr (.inr (.inr (.inr (fun i => if i < 13 then some (rw3 i) else none)))))), (rw3 0, .inl (cI, 12, .inl (Gw4 0))), (rw3 1, .inl (cI, 12, .inl (Gw4 1))), (rw3 2, .inl (cI, 12, .inl (Gw4 2))), (rw3 3, .inl (cI, 12, .inl (Gw4 3))), (rw3 4, .inl (cI, 12, .inl (Gw4 4))), (rw3 5, .inl (cI, 12, .inl (Gw4 5))), (rw3 6, .inl (cI, 12, .inl (Gw4 6))), (rw3 7, .inl (cI, 12, .inl (Gw4 7))), (rw3 8, .inl (cI, 12, .inl (Gw4 8))), (rw3 9, .inl (cI, 12, .inl (Gw4 9))), (rw3 11, .inl (cI, 12, .inl (Gw4 11))), (rw3 12, .inl (cI, 12, .inl (Gw4 12)))]) (w1 := fun _ => [((rw3 10), .inl (cI, 12, .inl (Gw4 10)))]) (wn := fun _ => ([(o1, .inr (3, [.ref o2, .int v5])), (o2, .inl (c2, 13, .inr (.inr (.inr (.inr (fun i => if i < 13 then some (rw3 i) else none))))))] : va_W) ++ (gr13 rw3 cI 12 Gw4 ++ ([] : va_W))) (fun hPc hDc => va_runSN (As := [.ref (rw3 10), .int x163, .int x164]) (rest := []) ⟨hx, hb, hml, hown, hts⟩ (kX11_reached_1 l dC dI cI c2 cZ (rw3 10) (Gw4 10) x163 x164 H.size (Gw4_b 10 (by decide)) x163_h x164_h) ⟨va_cnB 3 hts gX3_hasWayOutside_X11_reached_n51 rfl rfl rfl (hN.1 _ ns_99) (hts (.initialized RX11) hm_X3_hasWayOutside_4) (by decide +kernel) ⟨Nat.le_of_ble_eq_true rfl, Nat.le_of_ble_eq_true rfl⟩, (hts (.static yX11_reached) hm_X3_hasWayOutside_11), trivial⟩ (pre_S hPc hK hDc hN) rfl rfl hl.1 rfl (lv_room (Nat.le_of_ble_eq_true rfl)) dX3_hasWayOutside_97 ⟨Nat.le_of_ble_eq_true rfl, Nat.le_of_ble_eq_true rfl⟩) hP hD hS hA [12] [0, 1, 2, 3, 4, 5, 6, 7, 8, 9, 10, 11, 13, 14] [0, 1, 2, 3, 4, 5, 6, 7, 8, 9, 10, 11, 14, 12, 13] rfl rfl (by decide +kernel) (by decide +kernel) (by decide +kernel) (by decide +kernel) (fun _ => rfl) (fun x165 _ H locs hq hP hD hS => ?_)
          have x165_h := hq
          have hP : va_P (dC, dI) vwCl (([(o1, .inr (3, [.ref o2, .int v5])), (o2, .inl (c2, 13, .inr (.inr (.inr (.inr (fun i => if i < 13 then some (rw3 i) else none))))))] : va_W) ++ (gr13 rw3 cI 12 Gw4 ++ ([] : va_W))) H := hP
          have hD : va_D A (([(o1, .inr (3, [.ref o2, .int v5])), (o2, .inl (c2, 13, .inr (.inr (.inr (.inr (fun i => if i < 13 then some (rw3 i) else none))))))] : va_W) ++ (gr13 rw3 cI 12 Gw4 ++ ([] : va_W))) := hD
          refine lv_iload hx hb dX3_hasWayOutside_100 (lv_at hl 1 rfl) ?_
          refine lv_iand hx hb dX3_hasWayOutside_102 (lv_topi (fun x166 x166_e => ?_))
          have x166_h : Iv 0 4095 x166 := iv_e x166_e (iv_andL _ x165_h (by decide))
          refine lv_iload hx hb dX3_hasWayOutside_103 (lv_at hl 1 rfl) ?_
          refine lv_icmp_ne (tgt := 112) hx hb dX3_hasWayOutside_105 (by decide) (fun h167 => ?_) (fun h167 => ?_)
          ·
            refine lv_iconst (v := 0) hx hb dX3_hasWayOutside_112 (by decide) ?_
            rw [hQ]
            exact W.zret (v := 0) (ty := .boolean) hx hb hr rfl (fun t ht hW => ⟨⟨0, (), rfl, (iv_w ik_0 (by decide)), by rw [ht]; exact hP, va_K.moved hW.alike hK, hD⟩, hS.F ht⟩) hS.2.2 dX3_hasWayOutside_113
          ·
            refine lv_iconst (v := 1) hx hb dX3_hasWayOutside_108 (by decide) ?_
            refine lv_goto (tgt := 113) hx hb dX3_hasWayOutside_109 (by decide) ?_
            rw [hQ]
            exact W.zret (v := 1) (ty := .boolean) hx hb hr rfl (fun t ht hW => ⟨⟨1, (), rfl, (iv_w ik_1 (by decide)), by rw [ht]; exact hP, va_K.moved hW.alike hK, hD⟩, hS.F ht⟩) hS.2.2 dX3_hasWayOutside_113
        have j168 : Iv 1 4095 x155 := r_nelo h162 x155_h ik_0 (by decide)
        refine kc_i (D := (dC, dI)) (S := Unit) (wc := []) (wr := ([(o1, .inr (3, [.ref o2, .int v5])), (o2, .inl (c2, 13, .inr (.inr (.inr (.inr (fun i => if i < 13 then some (rw3 i) else none))))))] : va_W) ++ (gr13 rw3 cI 12 Gw4 ++ ([] : va_W))) (w1 := fun _ => []) (wn := fun _ => ([(o1, .inr (3, [.ref o2, .int v5])), (o2, .inl (c2, 13, .inr (.inr (.inr (.inr (fun i => if i < 13 then some (rw3 i) else none))))))] : va_W) ++ (gr13 rw3 cI 12 Gw4 ++ ([] : va_W))) (fun hPc hDc => va_runS (As := [.int x155]) (rest := [.ref (rw3 10)]) ⟨hx, hb, hml, hown, hts⟩ (kJ6_numberOfTrailingZeros_0f7a4_1 l dC dI cI c2 cZ x155 H.size j168) (va_cwS 1 hts gX3_hasWayOutside_J6_numberOfTrailingZeros_0f7a4 rfl rfl rfl (by decide +kernel) ⟨Nat.le_of_ble_eq_true rfl, Nat.le_of_ble_eq_true rfl⟩) (pre_S hPc hK hDc hN) rfl rfl hl.1 rfl (lv_room (Nat.le_of_ble_eq_true rfl)) dX3_hasWayOutside_89 ⟨Nat.le_of_ble_eq_true rfl, Nat.le_of_ble_eq_true rfl⟩) hP hD hS hA [] [0, 1, 2, 3, 4, 5, 6, 7, 8, 9, 10, 11, 12, 13, 14] [0, 1, 2, 3, 4, 5, 6, 7, 8, 9, 10, 11, 12, 13, 14] rfl rfl (by decide +kernel) (by decide +kernel) (by decide +kernel) (by decide +kernel) (fun _ => rfl) (fun x169 _ H locs hq hP hD hS => ?_)
        have x169_h := hq
        have hP : va_P (dC, dI) vwCl (([(o1, .inr (3, [.ref o2, .int v5])), (o2, .inl (c2, 13, .inr (.inr (.inr (.inr (fun i => if i < 13 then some (rw3 i) else none))))))] : va_W) ++ (gr13 rw3 cI 12 Gw4 ++ ([] : va_W))) H := hP
        have hD : va_D A (([(o1, .inr (3, [.ref o2, .int v5])), (o2, .inl (c2, 13, .inr (.inr (.inr (.inr (fun i => if i < 13 then some (rw3 i) else none))))))] : va_W) ++ (gr13 rw3 cI 12 Gw4 ++ ([] : va_W))) := hD
        refine lv_iload hx hb dX3_hasWayOutside_92 (lv_at hl 0 rfl) ?_
        refine lv_iload hx hb dX3_hasWayOutside_94 (lv_at hl 1 rfl) ?_
        refine lv_ior hx hb dX3_hasWayOutside_96 (lv_topi (fun x170 x170_e => ?_))
        have x170_h : Iv 0 4095 x170 := iv_e x170_e (iv_or 12 x161_h j168 (by decide))
        refine kc_i (D := (dC, dI)) (S := Unit) (wc := [((rw3 10), .inl (cI, 12, .inl (Gw4 10)))]) (wr := [(o1, .inr (3, [.ref o2, .int v5])), (o2, .inl (c2, 13, .inr (.inr (.inr (.inr (fun i => if i < 13 then some (rw3 i) else none)))))), (rw3 0, .inl (cI, 12, .inl (Gw4 0))), (rw3 1, .inl (cI, 12, .inl (Gw4 1))), (rw3 2, .inl (cI, 12, .inl (Gw4 2))), (rw3 3, .inl (cI, 12, .inl (Gw4 3))), (rw3 4, .inl (cI, 12, .inl (Gw4 4))), (rw3 5, .inl (cI, 12, .inl (Gw4 5))), (rw3 6, .inl (cI, 12, .inl (Gw4 6))), (rw3 7, .inl (cI, 12, .inl (Gw4 7))), (rw3 8, .inl (cI, 12, .inl (Gw4 8))), (rw3 9, .inl (cI, 12, .inl (Gw4 9))), (rw3 11, .inl (cI, 12, .inl (Gw4 11))), (rw3 12, .inl (cI, 12, .inl (Gw4 12)))]) (w1 := fun _ => [((rw3 10), .inl (cI, 12, .inl (Gw4 10)))]) (wn := fun _ => ([(o1, .inr (3, [.ref o2, .int v5])), (o2, .inl (c2, 13, .inr (.inr (.inr (.inr (fun i => if i < 13 then some (rw3 i) else none))))))] : va_W) ++ (gr13 rw3 cI 12 Gw4 ++ ([] : va_W))) (fun hPc hDc => va_runSN (As := [.ref (rw3 10), .int x169, .int x170]) (rest := []) ⟨hx, hb, hml, hown, hts⟩ (kX11_reached_2 l dC dI cI c2 cZ (rw3 10) (Gw4 10) x169 x170 H.size (Gw4_b 10 (by decide)) x169_h x170_h) ⟨va_cnB 3 hts gX3_hasWayOutside_X11_reached_n51 rfl rfl rfl (hN.1 _ ns_99) (hts (.initialized RX11) hm_X3_hasWayOutside_4) (by decide +kernel) ⟨Nat.le_of_ble_eq_true rfl, Nat.le_of_ble_eq_true rfl⟩, (hts (.static yX11_reached) hm_X3_hasWayOutside_11), trivial⟩ (pre_S hPc hK hDc hN) rfl rfl hl.1 rfl (lv_room (Nat.le_of_ble_eq_true rfl)) dX3_hasWayOutside_97 ⟨Nat.le_of_ble_eq_true rfl, Nat.le_of_ble_eq_true rfl⟩) hP hD hS hA [12] [0, 1, 2, 3, 4, 5, 6, 7, 8, 9, 10, 11, 13, 14] [0, 1, 2, 3, 4, 5, 6, 7, 8, 9, 10, 11, 14, 12, 13] rfl rfl (by decide +kernel) (by decide +kernel) (by decide +kernel) (by decide +kernel) (fun _ => rfl) (fun x171 _ H locs hq hP hD hS => ?_)
        have x171_h := hq
        have hP : va_P (dC, dI) vwCl (([(o1, .inr (3, [.ref o2, .int v5])), (o2, .inl (c2, 13, .inr (.inr (.inr (.inr (fun i => if i < 13 then some (rw3 i) else none))))))] : va_W) ++ (gr13 rw3 cI 12 Gw4 ++ ([] : va_W))) H := hP
        have hD : va_D A (([(o1, .inr (3, [.ref o2, .int v5])), (o2, .inl (c2, 13, .inr (.inr (.inr (.inr (fun i => if i < 13 then some (rw3 i) else none))))))] : va_W) ++ (gr13 rw3 cI 12 Gw4 ++ ([] : va_W))) := hD
        refine lv_iload hx hb dX3_hasWayOutside_100 (lv_at hl 1 rfl) ?_
        refine lv_iand hx hb dX3_hasWayOutside_102 (lv_topi (fun x172 x172_e => ?_))
        have x172_h : Iv 0 4095 x172 := iv_e x172_e (iv_andL _ x171_h (by decide))
        refine lv_iload hx hb dX3_hasWayOutside_103 (lv_at hl 1 rfl) ?_
        refine lv_icmp_ne (tgt := 112) hx hb dX3_hasWayOutside_105 (by decide) (fun h173 => ?_) (fun h173 => ?_)
        ·
          refine lv_iconst (v := 0) hx hb dX3_hasWayOutside_112 (by decide) ?_
          rw [hQ]
          exact W.zret (v := 0) (ty := .boolean) hx hb hr rfl (fun t ht hW => ⟨⟨0, (), rfl, (iv_w ik_0 (by decide)), by rw [ht]; exact hP, va_K.moved hW.alike hK, hD⟩, hS.F ht⟩) hS.2.2 dX3_hasWayOutside_113
        ·
          have j174 : Iv 1 4095 x172 := r_eq h173 j168
          refine lv_iconst (v := 1) hx hb dX3_hasWayOutside_108 (by decide) ?_
          refine lv_goto (tgt := 113) hx hb dX3_hasWayOutside_109 (by decide) ?_
          rw [hQ]
          exact W.zret (v := 1) (ty := .boolean) hx hb hr rfl (fun t ht hW => ⟨⟨1, (), rfl, (iv_w ik_1 (by decide)), by rw [ht]; exact hP, va_K.moved hW.alike hK, hD⟩, hS.F ht⟩) hS.2.2 dX3_hasWayOutside_113
      ·
        have qh156 := nle_i h156
        have j175 : Iv 0 11 x154 := r_ltl qh156 x154_h v5_h (by decide)
        have j176 : Iv 1 12 v5 := r_ltr qh156 x154_h v5_h (by decide)
        refine lv_iload hx hb dX3_hasWayOutside_29 (lv_at hl 2 rfl) ?_
        refine lv_iload hx hb dX3_hasWayOutside_31 (lv_at hl 0 rfl) ?_
        refine kc_i (D := (dC, dI)) (S := Unit) (wc := []) (wr := ([(o1, .inr (3, [.ref o2, .int v5])), (o2, .inl (c2, 13, .inr (.inr (.inr (.inr (fun i => if i < 13 then some (rw3 i) else none))))))] : va_W) ++ (gr13 rw3 cI 12 Gw4 ++ ([] : va_W))) (w1 := fun _ => []) (wn := fun _ => ([(o1, .inr (3, [.ref o2, .int v5])), (o2, .inl (c2, 13, .inr (.inr (.inr (.inr (fun i => if i < 13 then some (rw3 i) else none))))))] : va_W) ++ (gr13 rw3 cI 12 Gw4 ++ ([] : va_W))) (fun hPc hDc => va_runSN (As := [.int x1, .int x154]) (rest := []) ⟨hx, hb, hml, hown, hts⟩ (kX11_in_1 l dC dI cI c2 cZ x1 x154 H.size) ⟨va_cnB 2 hts gX3_hasWayOutside_X11_in_n44 rfl rfl rfl (hN.1 _ ns_74) (hts (.initialized RX11) hm_X3_hasWayOutside_4) (by decide +kernel) ⟨Nat.le_of_ble_eq_true rfl, Nat.le_of_ble_eq_true rfl⟩, (hts (.static yX11_in) hm_X3_hasWayOutside_3), trivial⟩ (pre_S hPc hK hDc hN) rfl rfl hl.1 rfl (lv_room (Nat.le_of_ble_eq_true rfl)) dX3_hasWayOutside_33 ⟨Nat.le_of_ble_eq_true rfl, Nat.le_of_ble_eq_true rfl⟩) hP hD hS hA [] [0, 1, 2, 3, 4, 5, 6, 7, 8, 9, 10, 11, 12, 13, 14] [0, 1, 2, 3, 4, 5, 6, 7, 8, 9, 10, 11, 12, 13, 14] rfl rfl (by decide +kernel) (by decide +kernel) (by decide +kernel) (by decide +kernel) (fun _ => rfl) (fun x177 _ H locs hq hP hD hS => ?_)
        have x177_h := hq
        have hP : va_P (dC, dI) vwCl (([(o1, .inr (3, [.ref o2, .int v5])), (o2, .inl (c2, 13, .inr (.inr (.inr (.inr (fun i => if i < 13 then some (rw3 i) else none))))))] : va_W) ++ (gr13 rw3 cI 12 Gw4 ++ ([] : va_W))) H := hP
        have hD : va_D A (([(o1, .inr (3, [.ref o2, .int v5])), (o2, .inl (c2, 13, .inr (.inr (.inr (.inr (fun i => if i < 13 then some (rw3 i) else none))))))] : va_W) ++ (gr13 rw3 cI 12 Gw4 ++ ([] : va_W))) := hD
        refine lv_if_eq (tgt := 65) hx hb dX3_hasWayOutside_36 (by decide) (fun h178 => ?_) (fun h178 => ?_)
        ·
          have j179 : Iv 0 0 x177 := r_eq h178 ik_0
          obtain ⟨x180, x180_e⟩ : ∃ z : Int32, z = x154 + 1 := ⟨_, rfl⟩
          have x180_h : Iv 1 12 x180 := iv_e x180_e (iv_add j175 ik_1 (by decide))
          refine lv_iinc (v := x180) (lv' := [(7, .int x180), (6, .int x155), (5, .int x1), (4, .ref (rw3 10)), (0, .ref o1), (1, .int 10), (2, .int a2), (3, .int a3)]) hx hb dX3_hasWayOutside_65 hl (k := 0) rfl (incN (by decide +kernel) x180_e) (by decide) rfl (fun ls hl => ?_)
          refine lv_goto (tgt := 20) hx hb dX3_hasWayOutside_68 (by decide) ?_
          exact ih1 x180 x155 _ _ _ (ms_up x180_e j175 (by decide) hM1) (iv_w x180_h (by decide)) x155_h hP hD hS hl
        ·
          have j181 : Iv 1 1 x177 := r_nelo h178 x177_h ik_0 (by decide)
          refine lv_iload hx hb dX3_hasWayOutside_39 (lv_at hl 2 rfl) ?_
          refine lv_aload hx hb dX3_hasWayOutside_41 (lv_at hl 3 rfl) ?_
          refine lv_iload hx hb dX3_hasWayOutside_43 (lv_at hl 0 rfl) ?_
          refine va_iald hx hb hK hP (2 + 10) 0 (gr13_get (pre := ([(o1, .inr (3, [.ref o2, .int v5])), (o2, .inl (c2, 13, .inr (.inr (.inr (.inr (fun i => if i < 13 then some (rw3 i) else none))))))] : va_W)) (post := ([] : va_W)) rfl (by decide)) rfl (vin_iv j175 (by decide)) dX3_hasWayOutside_45 (lv_topi (fun x182 x182_e => ?_))
          have x182_h : Iv 0 4095 x182 := iv_e x182_e (bg_at Gw4_b (by decide) (vin_iv j175 (by decide)))
          refine lv_iconst (v := (-1)) hx hb dX3_hasWayOutside_46 (by decide) ?_
          refine lv_ixor hx hb dX3_hasWayOutside_47 (lv_topi (fun x183 x183_e => ?_))
          refine lv_iand hx hb dX3_hasWayOutside_48 (lv_topi (fun x184 x184_e => ?_))
          have x184_h : Iv 0 4095 x184 := iv_e x184_e (iv_andL _ x1_h (by decide))
          refine lv_iconst (v := 1) hx hb dX3_hasWayOutside_49 (by decide) ?_
          refine lv_iload hx hb dX3_hasWayOutside_50 (lv_at hl 0 rfl) ?_
          refine lv_ishl hx hb dX3_hasWayOutside_52 (lv_topi (fun x185 x185_e => ?_))
          have x185_h : Iv 1 2048 x185 := iv_e x185_e (iv_shl1 j175 (by decide))
          refine lv_icmp_eq (tgt := 65) hx hb dX3_hasWayOutside_53 (by decide) (fun h186 => ?_) (fun h186 => ?_)
          ·
            have j187 : Iv 1 2048 x184 := r_eq h186 x185_h
            obtain ⟨x188, x188_e⟩ : ∃ z : Int32, z = x154 + 1 := ⟨_, rfl⟩
            have x188_h : Iv 1 12 x188 := iv_e x188_e (iv_add j175 ik_1 (by decide))
            refine lv_iinc (v := x188) (lv' := [(7, .int x188), (6, .int x155), (5, .int x1), (4, .ref (rw3 10)), (0, .ref o1), (1, .int 10), (2, .int a2), (3, .int a3)]) hx hb dX3_hasWayOutside_65 hl (k := 0) rfl (incN (by decide +kernel) x188_e) (by decide) rfl (fun ls hl => ?_)
            refine lv_goto (tgt := 20) hx hb dX3_hasWayOutside_68 (by decide) ?_
            exact ih1 x188 x155 _ _ _ (ms_up x188_e j175 (by decide) hM1) (iv_w x188_h (by decide)) x155_h hP hD hS hl
          ·
            refine lv_iload hx hb dX3_hasWayOutside_56 (lv_at hl 1 rfl) ?_
            refine lv_iconst (v := 1) hx hb dX3_hasWayOutside_58 (by decide) ?_
            refine lv_iload hx hb dX3_hasWayOutside_59 (lv_at hl 0 rfl) ?_
            refine lv_ishl hx hb dX3_hasWayOutside_61 (lv_topi (fun x189 x189_e => ?_))
            have x189_h : Iv 1 2048 x189 := iv_e x189_e (iv_shl1 j175 (by decide))
            refine lv_ior hx hb dX3_hasWayOutside_62 (lv_topi (fun x190 x190_e => ?_))
            have x190_h : Iv 0 4095 x190 := iv_e x190_e (iv_or 12 x155_h x189_h (by decide))
            refine lv_istore (lv' := [(6, .int x190), (7, .int x154), (5, .int x1), (4, .ref (rw3 10)), (0, .ref o1), (1, .int 10), (2, .int a2), (3, .int a3)]) hx hb dX3_hasWayOutside_63 hl (by decide) rfl (fun ls hl => ?_)
            obtain ⟨x191, x191_e⟩ : ∃ z : Int32, z = x154 + 1 := ⟨_, rfl⟩
            have x191_h : Iv 1 12 x191 := iv_e x191_e (iv_add j175 ik_1 (by decide))
            refine lv_iinc (v := x191) (lv' := [(7, .int x191), (6, .int x190), (5, .int x1), (4, .ref (rw3 10)), (0, .ref o1), (1, .int 10), (2, .int a2), (3, .int a3)]) hx hb dX3_hasWayOutside_65 hl (k := 1) rfl (incN (by decide +kernel) x191_e) (by decide) rfl (fun ls hl => ?_)
            refine lv_goto (tgt := 20) hx hb dX3_hasWayOutside_68 (by decide) ?_
            exact ih1 x191 x190 _ _ _ (ms_up x191_e j175 (by decide) hM1) (iv_w x191_h (by decide)) x190_h hP hD hS hl
  exact L1 _ 0 0 _ _ _ (Nat.lt_succ_self _) (iv_w ik_0 (by decide)) (iv_w ik_0 (by decide)) hP hD hS hl
set_option maxHeartbeats 4000000 in
set_option maxRecDepth 100000 in
theorem kX5_neverWrong_11 (l : Launch) (dC : Nat → ClassId) (dI : Nat → Nat → Nat) (cI c2 cZ : ClassId) (o1 : Nat) (o2 : Nat) (o7 : Nat) (o9 : Nat) (o3 : Nat) (rw4 : Nat → Nat) (Gw5 : Nat → Nat → Int32) (v6 : Int32) (rw10 : Nat → Nat) (Gw11 : Nat → Nat → Int32) (v12 : Int32) (v13 : Int32) (v14 : Int32) (a2 : Int32) (a3 : Int32) (sz : Nat) (Gw5_b : Bg 13 12 0 4095 Gw5) (v6_h : Iv 0 12 v6) (v13_h : Iv 0 4095 v13) (v14_h : Iv 0 12 v14) (a2_h : Iv 0 4095 a2) (a3_h : Iv 0 11 a3) : Met l yX5_neverWrong wsX5_neverWrong ({ frames := 3, cells := 0, slots := 0, locals := 74 }) (va_Pc [.ref o1, .int 10, .int a2, .int a3] (wPre (dC, dI) [(cI, .int), (c2, .array .int), (cZ, .boolean)] (([(o1, .inr (5, [.ref o2, .ref o7, .ref o9, .int v12, .int v13, .int v14])), (o9, .inl (c2, 12, .inr (.inr (.inr (.inr (fun i => if i < 12 then some (rw10 i) else none)))))), (o2, .inr (3, [.ref o3, .int v6])), (o3, .inl (c2, 13, .inr (.inr (.inr (.inr (fun i => if i < 13 then some (rw4 i) else none))))))] : va_W) ++ (gr12 rw10 cI 12 Gw11 ++ (gr13 rw4 cI 12 Gw5 ++ ([] : va_W)))) sz)) (va_Qi (fun (r : Int32) (_ : Unit) => Iv (-1) 11 r) (fun _ t => wPost (dC, dI) [(cI, .int), (c2, .array .int), (cZ, .boolean)] (va_A (([(o1, .inr (5, [.ref o2, .ref o7, .ref o9, .int v12, .int v13, .int v14])), (o9, .inl (c2, 12, .inr (.inr (.inr (.inr (fun i => if i < 12 then some (rw10 i) else none)))))), (o2, .inr (3, [.ref o3, .int v6])), (o3, .inl (c2, 13, .inr (.inr (.inr (.inr (fun i => if i < 13 then some (rw4 i) else none))))))] : va_W) ++ (gr12 rw10 cI 12 Gw11 ++ (gr13 rw4 cI 12 Gw5 ++ ([] : va_W)))) sz) (([(o1, .inr (5, [.ref o2, .ref o7, .ref o9, .int v12, .int v13, .int v14])), (o9, .inl (c2, 12, .inr (.inr (.inr (.inr (fun i => if i < 12 then some (rw10 i) else none)))))), (o2, .inr (3, [.ref o3, .int v6])), (o3, .inl (c2, 13, .inr (.inr (.inr (.inr (fun i => if i < 13 then some (rw4 i) else none))))))] : va_W) ++ (gr12 rw10 cI 12 Gw11 ++ (gr13 rw4 cI 12 Gw5 ++ ([] : va_W)))) t) (va_A (([(o1, .inr (5, [.ref o2, .ref o7, .ref o9, .int v12, .int v13, .int v14])), (o9, .inl (c2, 12, .inr (.inr (.inr (.inr (fun i => if i < 12 then some (rw10 i) else none)))))), (o2, .inr (3, [.ref o3, .int v6])), (o3, .inl (c2, 13, .inr (.inr (.inr (.inr (fun i => if i < 13 then some (rw4 i) else none))))))] : va_W) ++ (gr12 rw10 cI 12 Gw11 ++ (gr13 rw4 cI 12 Gw5 ++ ([] : va_W)))) sz)) 0 0 (va_A (([(o1, .inr (5, [.ref o2, .ref o7, .ref o9, .int v12, .int v13, .int v14])), (o9, .inl (c2, 12, .inr (.inr (.inr (.inr (fun i => if i < 12 then some (rw10 i) else none)))))), (o2, .inr (3, [.ref o3, .int v6])), (o3, .inl (c2, 13, .inr (.inr (.inr (.inr (fun i => if i < 13 then some (rw4 i) else none))))))] : va_W) ++ (gr12 rw10 cI 12 Gw11 ++ (gr13 rw4 cI 12 Gw5 ++ ([] : va_W)))) sz) := by
  refine Met.ofW (cc := cX5_neverWrong) (maxL := 6) (ret := (some .int)) (by decide) rfl ?_
  intro p e s m args below meth c s₁ B hml hv
  obtain ⟨rfl, hsz, hP, hK, hD0, hN⟩ := hv
  have hx := B.exec
  have hb := B.bytes
  have hr := B.returns
  have hts := atoms_spec (ws := wsX5_neverWrong) B.pre
  have hown : s.vm.findClass RX5 = some m.cls := findClass_of_methodNamed B.named
  have hlocks := B.notSynchronized
  subst hsz
  have hD := hD0.self (sz := s.heap.size)
  generalize hAe : va_A (([(o1, .inr (5, [.ref o2, .ref o7, .ref o9, .int v12, .int v13, .int v14])), (o9, .inl (c2, 12, .inr (.inr (.inr (.inr (fun i => if i < 12 then some (rw10 i) else none)))))), (o2, .inr (3, [.ref o3, .int v6])), (o3, .inl (c2, 13, .inr (.inr (.inr (.inr (fun i => if i < 13 then some (rw4 i) else none))))))] : va_W) ++ (gr12 rw10 cI 12 Gw11 ++ (gr13 rw4 cI 12 Gw5 ++ ([] : va_W)))) s.heap.size = A at hD ⊢
  have hA : ∀ q : Nat, s.heap.size ≤ q → A q := fun q h => by rw [← hAe]; exact Or.inr h
  have hS : va_S A s.heap s.heap [] := va_S.rf
  have hP : va_P (dC, dI) vwCl (([(o1, .inr (5, [.ref o2, .ref o7, .ref o9, .int v12, .int v13, .int v14])), (o9, .inl (c2, 12, .inr (.inr (.inr (.inr (fun i => if i < 12 then some (rw10 i) else none)))))), (o2, .inr (3, [.ref o3, .int v6])), (o3, .inl (c2, 13, .inr (.inr (.inr (.inr (fun i => if i < 13 then some (rw4 i) else none))))))] : va_W) ++ (gr12 rw10 cI 12 Gw11 ++ (gr13 rw4 cI 12 Gw5 ++ ([] : va_W)))) s.heap := hP
  have hl := lv_entry ([.ref o1, .int 10, .int a2, .int a3]) (n := 6) (Nat.le_of_ble_eq_true rfl)
  rw [lg_entry_eq]
  generalize (lg_sl ([.ref o1, .int 10, .int a2, .int a3]) ++ List.replicate (6 - (lg_sl ([.ref o1, .int 10, .int a2, .int a3])).length) Slot.unset).toArray = ls at hl ⊢
  have hl : lv_has ls 6 [(0, .ref o1), (1, .int 10), (2, .int a2), (3, .int a3)] := hl
  refine gen_Q (fun Q hQ => ?_)
  refine lv_aload_n hx hb dX5_neverWrong_0 rfl (lv_at hl 0 rfl) ?_
  refine va_get (D := (dC, dI)) (ci := 5) (v := .int v12) (C := RX5) (T := TX5) (N := 6) hx hb hts iw_X5_neverWrong_X5 hown hK hP 0 rfl rfl 3 (by decide) (hts (.fieldLink RX5 27 "HolelessHouse$LeastSearch" "rule" "I") hm_X5_neverWrong_1) (fun _ h9 => h9) rfl dX5_neverWrong_1 ?_
  refine lv_iconst (v := 1) hx hb dX5_neverWrong_4 (by decide) ?_
  refine lv_icmp_ne (tgt := 18) hx hb dX5_neverWrong_5 (by decide) (fun h1 => ?_) (fun h1 => ?_)
  ·
    refine lv_aload_n hx hb dX5_neverWrong_18 rfl (lv_at hl 0 rfl) ?_
    refine va_get (D := (dC, dI)) (ci := 5) (v := .ref o9) (C := RX5) (T := TX5) (N := 6) hx hb hts iw_X5_neverWrong_X5 hown hK hP 0 rfl rfl 2 (by decide) (hts (.fieldLink RX5 24 "HolelessHouse$LeastSearch" "prices" "[[I") hm_X5_neverWrong_3) (fun _ h9 => h9) rfl dX5_neverWrong_19 ?_
    refine lv_iload_n hx hb dX5_neverWrong_22 rfl (lv_at hl 1 rfl) ?_
    refine va_alda hx hb hK hP 1 1 rfl rfl (vin_iv ik_10 (by decide)) dX5_neverWrong_23 (tk_r (v := .ref (rw10 10)) rfl ?_)
    refine lv_iload_n hx hb dX5_neverWrong_24 rfl (lv_at hl 3 rfl) ?_
    refine va_iald hx hb hK hP (4 + 10) 0 (gr12_get (pre := ([(o1, .inr (5, [.ref o2, .ref o7, .ref o9, .int v12, .int v13, .int v14])), (o9, .inl (c2, 12, .inr (.inr (.inr (.inr (fun i => if i < 12 then some (rw10 i) else none)))))), (o2, .inr (3, [.ref o3, .int v6])), (o3, .inl (c2, 13, .inr (.inr (.inr (.inr (fun i => if i < 13 then some (rw4 i) else none))))))] : va_W)) (post := (gr13 rw4 cI 12 Gw5 ++ ([] : va_W))) rfl (by decide)) rfl (vin_iv a3_h (by decide)) dX5_neverWrong_25 (lv_topi (fun x2 x2_e => ?_))
    refine lv_istore (lv' := [(4, .int x2), (0, .ref o1), (1, .int 10), (2, .int a2), (3, .int a3)]) hx hb dX5_neverWrong_26 hl (by decide) rfl (fun ls hl => ?_)
    refine lv_iload_n hx hb dX5_neverWrong_28 rfl (lv_at hl 4 rfl) ?_
    refine lv_istore (lv' := [(5, .int a3), (4, .int x2), (0, .ref o1), (1, .int 10), (2, .int a2), (3, .int a3)]) hx hb dX5_neverWrong_29 hl (by decide) rfl (fun ls hl => ?_)
    have L1 : ∀ (N : Nat) (x32 : Int32) (H : Heap) (locs : List Loc) (ls : Array Slot), (12 - x32.toInt).toNat < N → Iv 0 12 x32 → va_P (dC, dI) vwCl (([(o1, .inr (5, [.ref o2, .ref o7, .ref o9, .int v12, .int v13, .int v14])), (o9, .inl (c2, 12, .inr (.inr (.inr (.inr (fun i => if i < 12 then some (rw10 i) else none)))))), (o2, .inr (3, [.ref o3, .int v6])), (o3, .inl (c2, 13, .inr (.inr (.inr (.inr (fun i => if i < 13 then some (rw4 i) else none))))))] : va_W) ++ (gr12 rw10 cI 12 Gw11 ++ (gr13 rw4 cI 12 Gw5 ++ ([] : va_W)))) H → va_D A (([(o1, .inr (5, [.ref o2, .ref o7, .ref o9, .int v12, .int v13, .int v14])), (o9, .inl (c2, 12, .inr (.inr (.inr (.inr (fun i => if i < 12 then some (rw10 i) else none)))))), (o2, .inr (3, [.ref o3, .int v6])), (o3, .inl (c2, 13, .inr (.inr (.inr (.inr (fun i => if i < 13 then some (rw4 i) else none))))))] : va_W) ++ (gr12 rw10 cI 12 Gw11 ++ (gr13 rw4 cI 12 Gw5 ++ ([] : va_W)))) → va_S A s.heap H locs → lv_has ls 6 [(5, .int x32), (4, .int x2), (0, .ref o1), (1, .int 10), (2, .int a2), (3, .int a3)] → W p l e ({ frames := 3, cells := 0, slots := 0, locals := 74 }) s m ([.ref o1, .int 10, .int a2, .int a3] : List Value).toArray below meth c H locs 0 0 Q (F0 m 31 ls []) := by
      intro N
      induction N with
      | zero =>
        intro x32 H locs ls hM
        exact absurd hM (Nat.not_lt_zero _)
      | succ N ih1 =>
        intro x32 H locs ls hM1 x32_h hP hD hS hl
        refine lv_iload hx hb dX5_neverWrong_31 (lv_at hl 0 rfl) ?_
        refine lv_aload_n hx hb dX5_neverWrong_33 rfl (lv_at hl 2 rfl) ?_
        refine va_get (D := (dC, dI)) (ci := 5) (v := .int v14) (C := RX5) (T := TX5) (N := 6) hx hb hts iw_X5_neverWrong_X5 hown hK hP 0 rfl rfl 5 (by decide) (hts (.fieldLink RX5 34 "HolelessHouse$LeastSearch" "size" "I") hm_X5_neverWrong_4) (fun _ h9 => h9) rfl dX5_neverWrong_34 ?_
        refine lv_icmp_ge (tgt := 82) hx hb dX5_neverWrong_37 (by decide) (fun h33 => ?_) (fun h33 => ?_)
        ·
          have qh33 := le_i h33
          refine lv_iload hx hb dX5_neverWrong_82 (lv_at hl 1 rfl) ?_
          refine lv_if_ne (tgt := 91) hx hb dX5_neverWrong_84 (by decide) (fun h34 => ?_) (fun h34 => ?_)
          ·
            refine lv_iconst (v := (-1)) hx hb dX5_neverWrong_91 (by decide) ?_
            rw [hQ]
            exact W.iret (v := (-1)) hx hb hr (fun t ht hW => ⟨⟨(-1), (), rfl, (iv_w ikm_1 (by decide)), by rw [ht]; exact hP, va_K.moved hW.alike hK, hD⟩, hS.F ht⟩) hS.2.2 dX5_neverWrong_92
          ·
            have j35 : Iv 0 0 x2 := r_eq h34 ik_0
            refine lv_iload_n hx hb dX5_neverWrong_87 rfl (lv_at hl 5 rfl) ?_
            refine lv_goto (tgt := 92) hx hb dX5_neverWrong_88 (by decide) ?_
            rw [hQ]
            exact W.iret (v := a3) hx hb hr (fun t ht hW => ⟨⟨a3, (), rfl, (iv_w a3_h (by decide)), by rw [ht]; exact hP, va_K.moved hW.alike hK, hD⟩, hS.F ht⟩) hS.2.2 dX5_neverWrong_92
        ·
          have qh33 := nle_i h33
          have j36 : Iv 0 11 x32 := r_ltl qh33 x32_h v14_h (by decide)
          have j37 : Iv 1 12 v14 := r_ltr qh33 x32_h v14_h (by decide)
          refine lv_iload hx hb dX5_neverWrong_40 (lv_at hl 1 rfl) ?_
          refine lv_iconst (v := 1) hx hb dX5_neverWrong_42 (by decide) ?_
          refine lv_icmp_ne (tgt := 82) hx hb dX5_neverWrong_43 (by decide) (fun h38 => ?_) (fun h38 => ?_)
          ·
            refine lv_iload hx hb dX5_neverWrong_82 (lv_at hl 1 rfl) ?_
            refine lv_if_ne (tgt := 91) hx hb dX5_neverWrong_84 (by decide) (fun h39 => ?_) (fun h39 => ?_)
            ·
              refine lv_iconst (v := (-1)) hx hb dX5_neverWrong_91 (by decide) ?_
              rw [hQ]
              exact W.iret (v := (-1)) hx hb hr (fun t ht hW => ⟨⟨(-1), (), rfl, (iv_w ikm_1 (by decide)), by rw [ht]; exact hP, va_K.moved hW.alike hK, hD⟩, hS.F ht⟩) hS.2.2 dX5_neverWrong_92
            ·
              have j40 : Iv 0 0 x2 := r_eq h39 ik_0
              refine lv_iload_n hx hb dX5_neverWrong_87 rfl (lv_at hl 5 rfl) ?_
              refine lv_goto (tgt := 92) hx hb dX5_neverWrong_88 (by decide) ?_
              rw [hQ]
              exact W.iret (v := a3) hx hb hr (fun t ht hW => ⟨⟨a3, (), rfl, (iv_w a3_h (by decide)), by rw [ht]; exact hP, va_K.moved hW.alike hK, hD⟩, hS.F ht⟩) hS.2.2 dX5_neverWrong_92
          ·
            have j41 : Iv 1 1 x2 := r_eq h38 ik_1
            refine lv_aload_n hx hb dX5_neverWrong_46 rfl (lv_at hl 2 rfl) ?_
            refine va_get (D := (dC, dI)) (ci := 5) (v := .ref o9) (C := RX5) (T := TX5) (N := 6) hx hb hts iw_X5_neverWrong_X5 hown hK hP 0 rfl rfl 2 (by decide) (hts (.fieldLink RX5 24 "HolelessHouse$LeastSearch" "prices" "[[I") hm_X5_neverWrong_3) (fun _ h9 => h9) rfl dX5_neverWrong_47 ?_
            refine lv_iload_n hx hb dX5_neverWrong_50 rfl (lv_at hl 3 rfl) ?_
            refine va_alda hx hb hK hP 1 1 rfl rfl (vin_iv ik_10 (by decide)) dX5_neverWrong_51 (tk_r (v := .ref (rw10 10)) rfl ?_)
            refine lv_iload hx hb dX5_neverWrong_52 (lv_at hl 0 rfl) ?_
            refine va_iald hx hb hK hP (4 + 10) 0 (gr12_get (pre := ([(o1, .inr (5, [.ref o2, .ref o7, .ref o9, .int v12, .int v13, .int v14])), (o9, .inl (c2, 12, .inr (.inr (.inr (.inr (fun i => if i < 12 then some (rw10 i) else none)))))), (o2, .inr (3, [.ref o3, .int v6])), (o3, .inl (c2, 13, .inr (.inr (.inr (.inr (fun i => if i < 13 then some (rw4 i) else none))))))] : va_W)) (post := (gr13 rw4 cI 12 Gw5 ++ ([] : va_W))) rfl (by decide)) rfl (vin_iv j36 (by decide)) dX5_neverWrong_54 (lv_topi (fun x42 x42_e => ?_))
            refine lv_iconst (v := 1) hx hb dX5_neverWrong_55 (by decide) ?_
            refine lv_icmp_ne (tgt := 76) hx hb dX5_neverWrong_56 (by decide) (fun h43 => ?_) (fun h43 => ?_)
            ·
              obtain ⟨x44, x44_e⟩ : ∃ z : Int32, z = x32 + 1 := ⟨_, rfl⟩
              have x44_h : Iv 1 12 x44 := iv_e x44_e (iv_add j36 ik_1 (by decide))
              refine lv_iinc (v := x44) (lv' := [(5, .int x44), (4, .int x2), (0, .ref o1), (1, .int 10), (2, .int a2), (3, .int a3)]) hx hb dX5_neverWrong_76 hl (k := 0) rfl (incN (by decide +kernel) x44_e) (by decide) rfl (fun ls hl => ?_)
              refine lv_goto (tgt := 31) hx hb dX5_neverWrong_79 (by decide) ?_
              exact ih1 x44 _ _ _ (ms_up x44_e j36 (by decide) hM1) (iv_w x44_h (by decide)) hP hD hS hl
            ·
              have j45 : Iv 1 1 x42 := r_eq h43 ik_1
              refine lv_aload_n hx hb dX5_neverWrong_59 rfl (lv_at hl 2 rfl) ?_
              refine va_get (D := (dC, dI)) (ci := 5) (v := .ref o2) (C := RX5) (T := TX5) (N := 6) hx hb hts iw_X5_neverWrong_X5 hown hK hP 0 rfl rfl 0 (by decide) (hts (.fieldLink RX5 12 "HolelessHouse$LeastSearch" "going" "LHolelessHouse$Going;") hm_X5_neverWrong_2) (fun _ h9 => h9) rfl dX5_neverWrong_60 ?_
              refine lv_iload_n hx hb dX5_neverWrong_63 rfl (lv_at hl 3 rfl) ?_
              refine lv_iload hx hb dX5_neverWrong_64 (lv_at hl 0 rfl) ?_
              refine lv_iload_n hx hb dX5_neverWrong_66 rfl (lv_at hl 4 rfl) ?_
              refine kc_i (D := (dC, dI)) (S := Unit) (wc := ([(o2, .inr (3, [.ref o3, .int v6])), (o3, .inl (c2, 13, .inr (.inr (.inr (.inr (fun i => if i < 13 then some (rw4 i) else none))))))] : va_W) ++ (gr13 rw4 cI 12 Gw5 ++ ([] : va_W))) (wr := ([(o1, .inr (5, [.ref o2, .ref o7, .ref o9, .int v12, .int v13, .int v14])), (o9, .inl (c2, 12, .inr (.inr (.inr (.inr (fun i => if i < 12 then some (rw10 i) else none))))))] : va_W) ++ (gr12 rw10 cI 12 Gw11 ++ ([] : va_W))) (w1 := fun _ => ([(o2, .inr (3, [.ref o3, .int v6])), (o3, .inl (c2, 13, .inr (.inr (.inr (.inr (fun i => if i < 13 then some (rw4 i) else none))))))] : va_W) ++ (gr13 rw4 cI 12 Gw5 ++ ([] : va_W))) (wn := fun _ => ([(o1, .inr (5, [.ref o2, .ref o7, .ref o9, .int v12, .int v13, .int v14])), (o9, .inl (c2, 12, .inr (.inr (.inr (.inr (fun i => if i < 12 then some (rw10 i) else none)))))), (o2, .inr (3, [.ref o3, .int v6])), (o3, .inl (c2, 13, .inr (.inr (.inr (.inr (fun i => if i < 13 then some (rw4 i) else none))))))] : va_W) ++ (gr12 rw10 cI 12 Gw11 ++ (gr13 rw4 cI 12 Gw5 ++ ([] : va_W)))) (fun hPc hDc => va_runVN (As := [.int 10, .int x32, .int a2]) (rest := []) ⟨hx, hb, hml, hown, hts⟩ (kX3_hasWayOutside_11 l dC dI cI c2 cZ o2 o3 rw4 Gw5 v6 x32 a2 H.size Gw5_b v6_h j36 a2_h) ⟨va_cnB 3 hts gX5_neverWrong_X3_hasWayOutside_n90 rfl rfl rfl (hN.1 _ ns_98) (hts (.initialized RX3) hm_X5_neverWrong_6) (by decide +kernel) ⟨Nat.le_of_ble_eq_true rfl, Nat.le_of_ble_eq_true rfl⟩, (hts (.instanceMethod yX3_hasWayOutside) hm_X5_neverWrong_25), (hts (.selects RX3 yX3_hasWayOutside yX3_hasWayOutside) hm_X5_neverWrong_26)⟩ (pre_V hPc hK hDc hN (ci := 3) (q0 := 0) rfl rfl) rfl rfl hl.1 rfl (lv_room (Nat.le_of_ble_eq_true rfl)) dX5_neverWrong_67 ⟨Nat.le_of_ble_eq_true rfl, Nat.le_of_ble_eq_true rfl⟩) hP hD hS hA [2, 3, 16, 17, 18, 19, 20, 21, 22, 23, 24, 25, 26, 27, 28] [0, 1, 4, 5, 6, 7, 8, 9, 10, 11, 12, 13, 14, 15] [0, 1, 14, 15, 2, 3, 4, 5, 6, 7, 8, 9, 10, 11, 12, 13, 16, 17, 18, 19, 20, 21, 22, 23, 24, 25, 26, 27, 28] rfl rfl (by decide +kernel) (by decide +kernel) (by decide +kernel) (by decide +kernel) (fun _ => rfl) (fun x46 _ H locs hq hP hD hS => ?_)
              have x46_h := hq
              have hP : va_P (dC, dI) vwCl (([(o1, .inr (5, [.ref o2, .ref o7, .ref o9, .int v12, .int v13, .int v14])), (o9, .inl (c2, 12, .inr (.inr (.inr (.inr (fun i => if i < 12 then some (rw10 i) else none)))))), (o2, .inr (3, [.ref o3, .int v6])), (o3, .inl (c2, 13, .inr (.inr (.inr (.inr (fun i => if i < 13 then some (rw4 i) else none))))))] : va_W) ++ (gr12 rw10 cI 12 Gw11 ++ (gr13 rw4 cI 12 Gw5 ++ ([] : va_W)))) H := hP
              have hD : va_D A (([(o1, .inr (5, [.ref o2, .ref o7, .ref o9, .int v12, .int v13, .int v14])), (o9, .inl (c2, 12, .inr (.inr (.inr (.inr (fun i => if i < 12 then some (rw10 i) else none)))))), (o2, .inr (3, [.ref o3, .int v6])), (o3, .inl (c2, 13, .inr (.inr (.inr (.inr (fun i => if i < 13 then some (rw4 i) else none))))))] : va_W) ++ (gr12 rw10 cI 12 Gw11 ++ (gr13 rw4 cI 12 Gw5 ++ ([] : va_W)))) := hD
              refine lv_if_eq (tgt := 76) hx hb dX5_neverWrong_70 (by decide) (fun h47 => ?_) (fun h47 => ?_)
              ·
                have j48 : Iv 0 0 x46 := r_eq h47 ik_0
                obtain ⟨x49, x49_e⟩ : ∃ z : Int32, z = x32 + 1 := ⟨_, rfl⟩
                have x49_h : Iv 1 12 x49 := iv_e x49_e (iv_add j36 ik_1 (by decide))
                refine lv_iinc (v := x49) (lv' := [(5, .int x49), (4, .int x2), (0, .ref o1), (1, .int 10), (2, .int a2), (3, .int a3)]) hx hb dX5_neverWrong_76 hl (k := 0) rfl (incN (by decide +kernel) x49_e) (by decide) rfl (fun ls hl => ?_)
                refine lv_goto (tgt := 31) hx hb dX5_neverWrong_79 (by decide) ?_
                exact ih1 x49 _ _ _ (ms_up x49_e j36 (by decide) hM1) (iv_w x49_h (by decide)) hP hD hS hl
              ·
                have j50 : Iv 1 1 x46 := r_nelo h47 x46_h ik_0 (by decide)
                refine lv_iload hx hb dX5_neverWrong_73 (lv_at hl 0 rfl) ?_
                rw [hQ]
                exact W.iret (v := x32) hx hb hr (fun t ht hW => ⟨⟨x32, (), rfl, (iv_w j36 (by decide)), by rw [ht]; exact hP, va_K.moved hW.alike hK, hD⟩, hS.F ht⟩) hS.2.2 dX5_neverWrong_75
    exact L1 _ a3 _ _ _ (Nat.lt_succ_self _) (iv_w a3_h (by decide)) hP hD hS hl
  ·
    have j51 : Iv 1 1 v12 := r_eq h1 ik_1
    refine lv_aload_n hx hb dX5_neverWrong_8 rfl (lv_at hl 0 rfl) ?_
    refine va_get (D := (dC, dI)) (ci := 5) (v := .ref o2) (C := RX5) (T := TX5) (N := 6) hx hb hts iw_X5_neverWrong_X5 hown hK hP 0 rfl rfl 0 (by decide) (hts (.fieldLink RX5 12 "HolelessHouse$LeastSearch" "going" "LHolelessHouse$Going;") hm_X5_neverWrong_2) (fun _ h9 => h9) rfl dX5_neverWrong_9 ?_
    refine lv_iload_n hx hb dX5_neverWrong_12 rfl (lv_at hl 1 rfl) ?_
    refine lv_iload_n hx hb dX5_neverWrong_13 rfl (lv_at hl 2 rfl) ?_
    refine kc_i (D := (dC, dI)) (S := Unit) (wc := ([(o2, .inr (3, [.ref o3, .int v6])), (o3, .inl (c2, 13, .inr (.inr (.inr (.inr (fun i => if i < 13 then some (rw4 i) else none))))))] : va_W) ++ (gr13 rw4 cI 12 Gw5 ++ ([] : va_W))) (wr := ([(o1, .inr (5, [.ref o2, .ref o7, .ref o9, .int v12, .int v13, .int v14])), (o9, .inl (c2, 12, .inr (.inr (.inr (.inr (fun i => if i < 12 then some (rw10 i) else none))))))] : va_W) ++ (gr12 rw10 cI 12 Gw11 ++ ([] : va_W))) (w1 := fun _ => ([(o2, .inr (3, [.ref o3, .int v6])), (o3, .inl (c2, 13, .inr (.inr (.inr (.inr (fun i => if i < 13 then some (rw4 i) else none))))))] : va_W) ++ (gr13 rw4 cI 12 Gw5 ++ ([] : va_W))) (wn := fun _ => ([(o1, .inr (5, [.ref o2, .ref o7, .ref o9, .int v12, .int v13, .int v14])), (o9, .inl (c2, 12, .inr (.inr (.inr (.inr (fun i => if i < 12 then some (rw10 i) else none)))))), (o2, .inr (3, [.ref o3, .int v6])), (o3, .inl (c2, 13, .inr (.inr (.inr (.inr (fun i => if i < 13 then some (rw4 i) else none))))))] : va_W) ++ (gr12 rw10 cI 12 Gw11 ++ (gr13 rw4 cI 12 Gw5 ++ ([] : va_W)))) (fun hPc hDc => va_runVN (As := [.int 10, .int a2]) (rest := []) ⟨hx, hb, hml, hown, hts⟩ (kX3_leastTight_1 l dC dI cI c2 cZ o2 o3 rw4 Gw5 v6 10 a2 s.heap.size Gw5_b v6_h (iv_w ik_10 (by decide)) a2_h) ⟨va_cnB 2 hts gX5_neverWrong_X3_leastTight_n87 rfl rfl rfl (hN.1 _ ns_97) (hts (.initialized RX3) hm_X5_neverWrong_6) (by decide +kernel) ⟨Nat.le_of_ble_eq_true rfl, Nat.le_of_ble_eq_true rfl⟩, (hts (.instanceMethod yX3_leastTight) hm_X5_neverWrong_5), (hts (.selects RX3 yX3_leastTight yX3_leastTight) hm_X5_neverWrong_7)⟩ (pre_V hPc hK hDc hN (ci := 3) (q0 := 0) rfl rfl) rfl rfl hl.1 rfl (lv_room (Nat.le_of_ble_eq_true rfl)) dX5_neverWrong_14 ⟨Nat.le_of_ble_eq_true rfl, Nat.le_of_ble_eq_true rfl⟩) hP hD hS hA [2, 3, 16, 17, 18, 19, 20, 21, 22, 23, 24, 25, 26, 27, 28] [0, 1, 4, 5, 6, 7, 8, 9, 10, 11, 12, 13, 14, 15] [0, 1, 14, 15, 2, 3, 4, 5, 6, 7, 8, 9, 10, 11, 12, 13, 16, 17, 18, 19, 20, 21, 22, 23, 24, 25, 26, 27, 28] rfl rfl (by decide +kernel) (by decide +kernel) (by decide +kernel) (by decide +kernel) (fun _ => rfl) (fun x52 _ H locs hq hP hD hS => ?_)
    have x52_h := hq
    have hP : va_P (dC, dI) vwCl (([(o1, .inr (5, [.ref o2, .ref o7, .ref o9, .int v12, .int v13, .int v14])), (o9, .inl (c2, 12, .inr (.inr (.inr (.inr (fun i => if i < 12 then some (rw10 i) else none)))))), (o2, .inr (3, [.ref o3, .int v6])), (o3, .inl (c2, 13, .inr (.inr (.inr (.inr (fun i => if i < 13 then some (rw4 i) else none))))))] : va_W) ++ (gr12 rw10 cI 12 Gw11 ++ (gr13 rw4 cI 12 Gw5 ++ ([] : va_W)))) H := hP
    have hD : va_D A (([(o1, .inr (5, [.ref o2, .ref o7, .ref o9, .int v12, .int v13, .int v14])), (o9, .inl (c2, 12, .inr (.inr (.inr (.inr (fun i => if i < 12 then some (rw10 i) else none)))))), (o2, .inr (3, [.ref o3, .int v6])), (o3, .inl (c2, 13, .inr (.inr (.inr (.inr (fun i => if i < 13 then some (rw4 i) else none))))))] : va_W) ++ (gr12 rw10 cI 12 Gw11 ++ (gr13 rw4 cI 12 Gw5 ++ ([] : va_W)))) := hD
    rw [hQ]
    exact W.iret (v := x52) hx hb hr (fun t ht hW => ⟨⟨x52, (), rfl, x52_h, by rw [ht]; exact hP, va_K.moved hW.alike hK, hD⟩, hS.F ht⟩) hS.2.2 dX5_neverWrong_17
set_option maxHeartbeats 4000000 in
set_option maxRecDepth 100000 in
theorem kX3_hasWayOutside_12 (l : Launch) (dC : Nat → ClassId) (dI : Nat → Nat → Nat) (cI c2 cZ : ClassId) (o1 : Nat) (o2 : Nat) (rw3 : Nat → Nat) (Gw4 : Nat → Nat → Int32) (v5 : Int32) (a2 : Int32) (a3 : Int32) (sz : Nat) (Gw4_b : Bg 13 12 0 4095 Gw4) (v5_h : Iv 0 12 v5) (a2_h : Iv 0 11 a2) (a3_h : Iv 0 4095 a3) : Met l yX3_hasWayOutside wsX3_hasWayOutside ({ frames := 2, cells := 0, slots := 0, locals := 47 }) (va_Pc [.ref o1, .int 11, .int a2, .int a3] (wPre (dC, dI) [(cI, .int), (c2, .array .int), (cZ, .boolean)] (([(o1, .inr (3, [.ref o2, .int v5])), (o2, .inl (c2, 13, .inr (.inr (.inr (.inr (fun i => if i < 13 then some (rw3 i) else none))))))] : va_W) ++ (gr13 rw3 cI 12 Gw4 ++ ([] : va_W))) sz)) (va_Qi (fun (r : Int32) (_ : Unit) => Iv 0 1 r) (fun _ t => wPost (dC, dI) [(cI, .int), (c2, .array .int), (cZ, .boolean)] (va_A (([(o1, .inr (3, [.ref o2, .int v5])), (o2, .inl (c2, 13, .inr (.inr (.inr (.inr (fun i => if i < 13 then some (rw3 i) else none))))))] : va_W) ++ (gr13 rw3 cI 12 Gw4 ++ ([] : va_W))) sz) (([(o1, .inr (3, [.ref o2, .int v5])), (o2, .inl (c2, 13, .inr (.inr (.inr (.inr (fun i => if i < 13 then some (rw3 i) else none))))))] : va_W) ++ (gr13 rw3 cI 12 Gw4 ++ ([] : va_W))) t) (va_A (([(o1, .inr (3, [.ref o2, .int v5])), (o2, .inl (c2, 13, .inr (.inr (.inr (.inr (fun i => if i < 13 then some (rw3 i) else none))))))] : va_W) ++ (gr13 rw3 cI 12 Gw4 ++ ([] : va_W))) sz)) 0 0 (va_A (([(o1, .inr (3, [.ref o2, .int v5])), (o2, .inl (c2, 13, .inr (.inr (.inr (.inr (fun i => if i < 13 then some (rw3 i) else none))))))] : va_W) ++ (gr13 rw3 cI 12 Gw4 ++ ([] : va_W))) sz) := by
  refine Met.ofW (cc := cX3_hasWayOutside) (maxL := 8) (ret := (some .boolean)) (by decide) rfl ?_
  intro p e s m args below meth c s₁ B hml hv
  obtain ⟨rfl, hsz, hP, hK, hD0, hN⟩ := hv
  have hx := B.exec
  have hb := B.bytes
  have hr := B.returns
  have hts := atoms_spec (ws := wsX3_hasWayOutside) B.pre
  have hown : s.vm.findClass RX3 = some m.cls := findClass_of_methodNamed B.named
  have hlocks := B.notSynchronized
  subst hsz
  have hD := hD0.self (sz := s.heap.size)
  generalize hAe : va_A (([(o1, .inr (3, [.ref o2, .int v5])), (o2, .inl (c2, 13, .inr (.inr (.inr (.inr (fun i => if i < 13 then some (rw3 i) else none))))))] : va_W) ++ (gr13 rw3 cI 12 Gw4 ++ ([] : va_W))) s.heap.size = A at hD ⊢
  have hA : ∀ q : Nat, s.heap.size ≤ q → A q := fun q h => by rw [← hAe]; exact Or.inr h
  have hS : va_S A s.heap s.heap [] := va_S.rf
  have hP : va_P (dC, dI) vwCl (([(o1, .inr (3, [.ref o2, .int v5])), (o2, .inl (c2, 13, .inr (.inr (.inr (.inr (fun i => if i < 13 then some (rw3 i) else none))))))] : va_W) ++ (gr13 rw3 cI 12 Gw4 ++ ([] : va_W))) s.heap := hP
  have hl := lv_entry ([.ref o1, .int 11, .int a2, .int a3]) (n := 8) (Nat.le_of_ble_eq_true rfl)
  rw [lg_entry_eq]
  generalize (lg_sl ([.ref o1, .int 11, .int a2, .int a3]) ++ List.replicate (8 - (lg_sl ([.ref o1, .int 11, .int a2, .int a3])).length) Slot.unset).toArray = ls at hl ⊢
  have hl : lv_has ls 8 [(0, .ref o1), (1, .int 11), (2, .int a2), (3, .int a3)] := hl
  refine gen_Q (fun Q hQ => ?_)
  refine lv_aload_n hx hb dX3_hasWayOutside_0 rfl (lv_at hl 0 rfl) ?_
  refine va_get (D := (dC, dI)) (ci := 3) (v := .ref o2) (C := RX3) (T := TX3) (N := 2) hx hb hts iw_X3_hasWayOutside_X3 hown hK hP 0 rfl rfl 0 (by decide) (hts (.fieldLink RX3 11 "HolelessHouse$Going" "near" "[[I") hm_X3_hasWayOutside_1) (fun _ h9 => h9) rfl dX3_hasWayOutside_1 ?_
  refine lv_iload_n hx hb dX3_hasWayOutside_4 rfl (lv_at hl 1 rfl) ?_
  refine va_alda hx hb hK hP 1 1 rfl rfl (vin_iv ik_11 (by decide)) dX3_hasWayOutside_5 (tk_r (v := .ref (rw3 11)) rfl ?_)
  refine lv_astore (lv' := [(4, .ref (rw3 11)), (0, .ref o1), (1, .int 11), (2, .int a2), (3, .int a3)]) hx hb dX3_hasWayOutside_6 hl (by decide) rfl (fun ls hl => ?_)
  refine lv_aload hx hb dX3_hasWayOutside_8 (lv_at hl 0 rfl) ?_
  refine lv_iload_n hx hb dX3_hasWayOutside_10 rfl (lv_at hl 3 rfl) ?_
  refine va_iald hx hb hK hP (2 + 11) 0 (gr13_get (pre := ([(o1, .inr (3, [.ref o2, .int v5])), (o2, .inl (c2, 13, .inr (.inr (.inr (.inr (fun i => if i < 13 then some (rw3 i) else none))))))] : va_W)) (post := ([] : va_W)) rfl (by decide)) rfl (vin_iv a2_h (by decide)) dX3_hasWayOutside_11 (lv_topi (fun x1 x1_e => ?_))
  have x1_h : Iv 0 4095 x1 := iv_e x1_e (bg_at Gw4_b (by decide) (vin_iv a2_h (by decide)))
  refine lv_istore (lv' := [(5, .int x1), (4, .ref (rw3 11)), (0, .ref o1), (1, .int 11), (2, .int a2), (3, .int a3)]) hx hb dX3_hasWayOutside_12 hl (by decide) rfl (fun ls hl => ?_)
  refine lv_iconst (v := 0) hx hb dX3_hasWayOutside_14 (by decide) ?_
  refine lv_istore (lv' := [(6, .int 0), (5, .int x1), (4, .ref (rw3 11)), (0, .ref o1), (1, .int 11), (2, .int a2), (3, .int a3)]) hx hb dX3_hasWayOutside_15 hl (by decide) rfl (fun ls hl => ?_)
  refine lv_iconst (v := 0) hx hb dX3_hasWayOutside_17 (by decide) ?_
  refine lv_istore (lv' := [(7, .int 0), (6, .int 0), (5, .int x1), (4, .ref (rw3 11)), (0, .ref o1), (1, .int 11), (2, .int a2), (3, .int a3)]) hx hb dX3_hasWayOutside_18 hl (by decide) rfl (fun ls hl => ?_)
  have L1 : ∀ (N : Nat) (x154 : Int32) (x155 : Int32) (H : Heap) (locs : List Loc) (ls : Array Slot), (12 - x154.toInt).toNat < N → Iv 0 12 x154 → Iv 0 4095 x155 → va_P (dC, dI) vwCl (([(o1, .inr (3, [.ref o2, .int v5])), (o2, .inl (c2, 13, .inr (.inr (.inr (.inr (fun i => if i < 13 then some (rw3 i) else none))))))] : va_W) ++ (gr13 rw3 cI 12 Gw4 ++ ([] : va_W))) H → va_D A (([(o1, .inr (3, [.ref o2, .int v5])), (o2, .inl (c2, 13, .inr (.inr (.inr (.inr (fun i => if i < 13 then some (rw3 i) else none))))))] : va_W) ++ (gr13 rw3 cI 12 Gw4 ++ ([] : va_W))) → va_S A s.heap H locs → lv_has ls 8 [(7, .int x154), (6, .int x155), (5, .int x1), (4, .ref (rw3 11)), (0, .ref o1), (1, .int 11), (2, .int a2), (3, .int a3)] → W p l e ({ frames := 2, cells := 0, slots := 0, locals := 47 }) s m ([.ref o1, .int 11, .int a2, .int a3] : List Value).toArray below meth c H locs 0 0 Q (F0 m 20 ls []) := by
    intro N
    induction N with
    | zero =>
      intro x154 x155 H locs ls hM
      exact absurd hM (Nat.not_lt_zero _)
    | succ N ih1 =>
      intro x154 x155 H locs ls hM1 x154_h x155_h hP hD hS hl
      refine lv_iload hx hb dX3_hasWayOutside_20 (lv_at hl 0 rfl) ?_
      refine lv_aload_n hx hb dX3_hasWayOutside_22 rfl (lv_at hl 4 rfl) ?_
      refine va_get (D := (dC, dI)) (ci := 3) (v := .int v5) (C := RX3) (T := TX3) (N := 2) hx hb hts iw_X3_hasWayOutside_X3 hown hK hP 0 rfl rfl 1 (by decide) (hts (.fieldLink RX3 16 "HolelessHouse$Going" "size" "I") hm_X3_hasWayOutside_2) (fun _ h9 => h9) rfl dX3_hasWayOutside_23 ?_
      refine lv_icmp_ge (tgt := 71) hx hb dX3_hasWayOutside_26 (by decide) (fun h156 => ?_) (fun h156 => ?_)
      ·
        have qh156 := le_i h156
        refine lv_iload_n hx hb dX3_hasWayOutside_71 rfl (lv_at hl 7 rfl) ?_
        refine lv_iload hx hb dX3_hasWayOutside_72 (lv_at hl 2 rfl) ?_
        refine lv_iconst (v := (-1)) hx hb dX3_hasWayOutside_74 (by decide) ?_
        refine lv_ixor hx hb dX3_hasWayOutside_75 (lv_topi (fun x157 x157_e => ?_))
        refine lv_iand hx hb dX3_hasWayOutside_76 (lv_topi (fun x158 x158_e => ?_))
        have x158_h : Iv 0 4095 x158 := iv_e x158_e (iv_andL _ a3_h (by decide))
        refine lv_iconst (v := 1) hx hb dX3_hasWayOutside_77 (by decide) ?_
        refine lv_iload_n hx hb dX3_hasWayOutside_78 rfl (lv_at hl 6 rfl) ?_
        refine lv_ishl hx hb dX3_hasWayOutside_79 (lv_topi (fun x159 x159_e => ?_))
        have x159_h : Iv 1 2048 x159 := iv_e x159_e (iv_shl1 a2_h (by decide))
        refine lv_iconst (v := (-1)) hx hb dX3_hasWayOutside_80 (by decide) ?_
        refine lv_ixor hx hb dX3_hasWayOutside_81 (lv_topi (fun x160 x160_e => ?_))
        refine lv_iand hx hb dX3_hasWayOutside_82 (lv_topi (fun x161 x161_e => ?_))
        have x161_h : Iv 0 4095 x161 := iv_e x161_e (iv_andL _ x158_h (by decide))
        refine lv_istore (lv' := [(7, .int x161), (6, .int x155), (5, .int x1), (4, .ref (rw3 11)), (0, .ref o1), (1, .int 11), (2, .int a2), (3, .int a3)]) hx hb dX3_hasWayOutside_83 hl (by decide) rfl (fun ls hl => ?_)
        refine lv_aload hx hb dX3_hasWayOutside_85 (lv_at hl 3 rfl) ?_
        refine lv_iload hx hb dX3_hasWayOutside_87 (lv_at hl 1 rfl) ?_
        by_cases h162 : x155 = 0
        ·
          refine tk_i (v := 0) h162 ?_
          refine kc_i (D := (dC, dI)) (S := Unit) (wc := []) (wr := ([(o1, .inr (3, [.ref o2, .int v5])), (o2, .inl (c2, 13, .inr (.inr (.inr (.inr (fun i => if i < 13 then some (rw3 i) else none))))))] : va_W) ++ (gr13 rw3 cI 12 Gw4 ++ ([] : va_W))) (w1 := fun _ => []) (wn := fun _ => ([(o1, .inr (3, [.ref o2, .int v5])), (o2, .inl (c2, 13, .inr (.inr (.inr (.inr (fun i => if i < 13 then some (rw3 i) else none))))))] : va_W) ++ (gr13 rw3 cI 12 Gw4 ++ ([] : va_W))) (fun hPc hDc => va_runS (As := [.int 0]) (rest := [.ref (rw3 11)]) ⟨hx, hb, hml, hown, hts⟩ (kJ6_numberOfTrailingZeros_0f7a4_2 l dC dI cI c2 cZ H.size) (va_cwS 1 hts gX3_hasWayOutside_J6_numberOfTrailingZeros_0f7a4 rfl rfl rfl (by decide +kernel) ⟨Nat.le_of_ble_eq_true rfl, Nat.le_of_ble_eq_true rfl⟩) (pre_S hPc hK hDc hN) rfl rfl hl.1 rfl (lv_room (Nat.le_of_ble_eq_true rfl)) dX3_hasWayOutside_89 ⟨Nat.le_of_ble_eq_true rfl, Nat.le_of_ble_eq_true rfl⟩) hP hD hS hA [] [0, 1, 2, 3, 4, 5, 6, 7, 8, 9, 10, 11, 12, 13, 14] [0, 1, 2, 3, 4, 5, 6, 7, 8, 9, 10, 11, 12, 13, 14] rfl rfl (by decide +kernel) (by decide +kernel) (by decide +kernel) (by decide +kernel) (fun _ => rfl) (fun x163 _ H locs hq hP hD hS => ?_)
          have x163_h := hq
          have hP : va_P (dC, dI) vwCl (([(o1, .inr (3, [.ref o2, .int v5])), (o2, .inl (c2, 13, .inr (.inr (.inr (.inr (fun i => if i < 13 then some (rw3 i) else none))))))] : va_W) ++ (gr13 rw3 cI 12 Gw4 ++ ([] : va_W))) H := hP
          have hD : va_D A (([(o1, .inr (3, [.ref o2, .int v5])), (o2, .inl (c2, 13, .inr (.inr (.inr (.inr (fun i => if i < 13 then some (rw3 i) else none))))))] : va_W) ++ (gr13 rw3 cI 12 Gw4 ++ ([] : va_W))) := hD
          refine lv_iload hx hb dX3_hasWayOutside_92 (lv_at hl 0 rfl) ?_
          refine lv_iload hx hb dX3_hasWayOutside_94 (lv_at hl 1 rfl) ?_
          refine lv_ior hx hb dX3_hasWayOutside_96 (lv_topi (fun x164 x164_e => ?_))
          have x164_h : Iv 0 4095 x164 := iv_e x164_e (iv_or 12 x161_h x155_h (by decide))
          refine kc_i (D := (dC, dI)) (S := Unit) (wc := [((rw3 11), .inl (cI, 12, .inl (Gw4 11)))]) (wr := [(o1, .inr (3, [.ref o2, .int v5])), (o2, .inl (c2, 13, .inr (.inr (.inr (.inr (fun i => if i < 13 then some (rw3 i) else none)))))), (rw3 0, .inl (cI, 12, .inl (Gw4 0))), (rw3 1, .inl (cI, 12, .inl (Gw4 1))), (rw3 2, .inl (cI, 12, .inl (Gw4 2))), (rw3 3, .inl (cI, 12, .inl (Gw4 3))), (rw3 4, .inl (cI, 12, .inl (Gw4 4))), (rw3 5, .inl (cI, 12, .inl (Gw4 5))), (rw3 6, .inl (cI, 12, .inl (Gw4 6))), (rw3 7, .inl (cI, 12, .inl (Gw4 7))), (rw3 8, .inl (cI, 12, .inl (Gw4 8))), (rw3 9, .inl (cI, 12, .inl (Gw4 9))), (rw3 10, .inl (cI, 12, .inl (Gw4 10))), (rw3 12, .inl (cI, 12, .inl (Gw4 12)))]) (w1 := fun _ => [((rw3 11), .inl (cI, 12, .inl (Gw4 11)))]) (wn := fun _ => ([(o1, .inr (3, [.ref o2, .int v5])), (o2, .inl (c2, 13, .inr (.inr (.inr (.inr (fun i => if i < 13 then some (rw3 i) else none))))))] : va_W) ++ (gr13 rw3 cI 12 Gw4 ++ ([] : va_W))) (fun hPc hDc => va_runSN (As := [.ref (rw3 11), .int x163, .int x164]) (rest := []) ⟨hx, hb, hml, hown, hts⟩ (kX11_reached_1 l dC dI cI c2 cZ (rw3 11) (Gw4 11) x163 x164 H.size (Gw4_b 11 (by decide)) x163_h x164_h) ⟨va_cnB 3 hts gX3_hasWayOutside_X11_reached_n51 rfl rfl rfl (hN.1 _ ns_99) (hts (.initialized RX11) hm_X3_hasWayOutside_4) (by decide +kernel) ⟨Nat.le_of_ble_eq_true rfl, Nat.le_of_ble_eq_true rfl⟩, (hts (.static yX11_reached) hm_X3_hasWayOutside_11), trivial⟩ (pre_S hPc hK hDc hN) rfl rfl hl.1 rfl (lv_room (Nat.le_of_ble_eq_true rfl)) dX3_hasWayOutside_97 ⟨Nat.le_of_ble_eq_true rfl, Nat.le_of_ble_eq_true rfl⟩) hP hD hS hA [13] [0, 1, 2, 3, 4, 5, 6, 7, 8, 9, 10, 11, 12, 14] [0, 1, 2, 3, 4, 5, 6, 7, 8, 9, 10, 11, 12, 14, 13] rfl rfl (by decide +kernel) (by decide +kernel) (by decide +kernel) (by decide +kernel) (fun _ => rfl) (fun x165 _ H locs hq hP hD hS => ?_)
          have x165_h := hq
          have hP : va_P (dC, dI) vwCl (([(o1, .inr (3, [.ref o2, .int v5])), (o2, .inl (c2, 13, .inr (.inr (.inr (.inr (fun i => if i < 13 then some (rw3 i) else none))))))] : va_W) ++ (gr13 rw3 cI 12 Gw4 ++ ([] : va_W))) H := hP
          have hD : va_D A (([(o1, .inr (3, [.ref o2, .int v5])), (o2, .inl (c2, 13, .inr (.inr (.inr (.inr (fun i => if i < 13 then some (rw3 i) else none))))))] : va_W) ++ (gr13 rw3 cI 12 Gw4 ++ ([] : va_W))) := hD
          refine lv_iload hx hb dX3_hasWayOutside_100 (lv_at hl 1 rfl) ?_
          refine lv_iand hx hb dX3_hasWayOutside_102 (lv_topi (fun x166 x166_e => ?_))
          have x166_h : Iv 0 4095 x166 := iv_e x166_e (iv_andL _ x165_h (by decide))
          refine lv_iload hx hb dX3_hasWayOutside_103 (lv_at hl 1 rfl) ?_
          refine lv_icmp_ne (tgt := 112) hx hb dX3_hasWayOutside_105 (by decide) (fun h167 => ?_) (fun h167 => ?_)
          ·
            refine lv_iconst (v := 0) hx hb dX3_hasWayOutside_112 (by decide) ?_
            rw [hQ]
            exact W.zret (v := 0) (ty := .boolean) hx hb hr rfl (fun t ht hW => ⟨⟨0, (), rfl, (iv_w ik_0 (by decide)), by rw [ht]; exact hP, va_K.moved hW.alike hK, hD⟩, hS.F ht⟩) hS.2.2 dX3_hasWayOutside_113
          ·
            refine lv_iconst (v := 1) hx hb dX3_hasWayOutside_108 (by decide) ?_
            refine lv_goto (tgt := 113) hx hb dX3_hasWayOutside_109 (by decide) ?_
            rw [hQ]
            exact W.zret (v := 1) (ty := .boolean) hx hb hr rfl (fun t ht hW => ⟨⟨1, (), rfl, (iv_w ik_1 (by decide)), by rw [ht]; exact hP, va_K.moved hW.alike hK, hD⟩, hS.F ht⟩) hS.2.2 dX3_hasWayOutside_113
        have j168 : Iv 1 4095 x155 := r_nelo h162 x155_h ik_0 (by decide)
        refine kc_i (D := (dC, dI)) (S := Unit) (wc := []) (wr := ([(o1, .inr (3, [.ref o2, .int v5])), (o2, .inl (c2, 13, .inr (.inr (.inr (.inr (fun i => if i < 13 then some (rw3 i) else none))))))] : va_W) ++ (gr13 rw3 cI 12 Gw4 ++ ([] : va_W))) (w1 := fun _ => []) (wn := fun _ => ([(o1, .inr (3, [.ref o2, .int v5])), (o2, .inl (c2, 13, .inr (.inr (.inr (.inr (fun i => if i < 13 then some (rw3 i) else none))))))] : va_W) ++ (gr13 rw3 cI 12 Gw4 ++ ([] : va_W))) (fun hPc hDc => va_runS (As := [.int x155]) (rest := [.ref (rw3 11)]) ⟨hx, hb, hml, hown, hts⟩ (kJ6_numberOfTrailingZeros_0f7a4_1 l dC dI cI c2 cZ x155 H.size j168) (va_cwS 1 hts gX3_hasWayOutside_J6_numberOfTrailingZeros_0f7a4 rfl rfl rfl (by decide +kernel) ⟨Nat.le_of_ble_eq_true rfl, Nat.le_of_ble_eq_true rfl⟩) (pre_S hPc hK hDc hN) rfl rfl hl.1 rfl (lv_room (Nat.le_of_ble_eq_true rfl)) dX3_hasWayOutside_89 ⟨Nat.le_of_ble_eq_true rfl, Nat.le_of_ble_eq_true rfl⟩) hP hD hS hA [] [0, 1, 2, 3, 4, 5, 6, 7, 8, 9, 10, 11, 12, 13, 14] [0, 1, 2, 3, 4, 5, 6, 7, 8, 9, 10, 11, 12, 13, 14] rfl rfl (by decide +kernel) (by decide +kernel) (by decide +kernel) (by decide +kernel) (fun _ => rfl) (fun x169 _ H locs hq hP hD hS => ?_)
        have x169_h := hq
        have hP : va_P (dC, dI) vwCl (([(o1, .inr (3, [.ref o2, .int v5])), (o2, .inl (c2, 13, .inr (.inr (.inr (.inr (fun i => if i < 13 then some (rw3 i) else none))))))] : va_W) ++ (gr13 rw3 cI 12 Gw4 ++ ([] : va_W))) H := hP
        have hD : va_D A (([(o1, .inr (3, [.ref o2, .int v5])), (o2, .inl (c2, 13, .inr (.inr (.inr (.inr (fun i => if i < 13 then some (rw3 i) else none))))))] : va_W) ++ (gr13 rw3 cI 12 Gw4 ++ ([] : va_W))) := hD
        refine lv_iload hx hb dX3_hasWayOutside_92 (lv_at hl 0 rfl) ?_
        refine lv_iload hx hb dX3_hasWayOutside_94 (lv_at hl 1 rfl) ?_
        refine lv_ior hx hb dX3_hasWayOutside_96 (lv_topi (fun x170 x170_e => ?_))
        have x170_h : Iv 0 4095 x170 := iv_e x170_e (iv_or 12 x161_h j168 (by decide))
        refine kc_i (D := (dC, dI)) (S := Unit) (wc := [((rw3 11), .inl (cI, 12, .inl (Gw4 11)))]) (wr := [(o1, .inr (3, [.ref o2, .int v5])), (o2, .inl (c2, 13, .inr (.inr (.inr (.inr (fun i => if i < 13 then some (rw3 i) else none)))))), (rw3 0, .inl (cI, 12, .inl (Gw4 0))), (rw3 1, .inl (cI, 12, .inl (Gw4 1))), (rw3 2, .inl (cI, 12, .inl (Gw4 2))), (rw3 3, .inl (cI, 12, .inl (Gw4 3))), (rw3 4, .inl (cI, 12, .inl (Gw4 4))), (rw3 5, .inl (cI, 12, .inl (Gw4 5))), (rw3 6, .inl (cI, 12, .inl (Gw4 6))), (rw3 7, .inl (cI, 12, .inl (Gw4 7))), (rw3 8, .inl (cI, 12, .inl (Gw4 8))), (rw3 9, .inl (cI, 12, .inl (Gw4 9))), (rw3 10, .inl (cI, 12, .inl (Gw4 10))), (rw3 12, .inl (cI, 12, .inl (Gw4 12)))]) (w1 := fun _ => [((rw3 11), .inl (cI, 12, .inl (Gw4 11)))]) (wn := fun _ => ([(o1, .inr (3, [.ref o2, .int v5])), (o2, .inl (c2, 13, .inr (.inr (.inr (.inr (fun i => if i < 13 then some (rw3 i) else none))))))] : va_W) ++ (gr13 rw3 cI 12 Gw4 ++ ([] : va_W))) (fun hPc hDc => va_runSN (As := [.ref (rw3 11), .int x169, .int x170]) (rest := []) ⟨hx, hb, hml, hown, hts⟩ (kX11_reached_2 l dC dI cI c2 cZ (rw3 11) (Gw4 11) x169 x170 H.size (Gw4_b 11 (by decide)) x169_h x170_h) ⟨va_cnB 3 hts gX3_hasWayOutside_X11_reached_n51 rfl rfl rfl (hN.1 _ ns_99) (hts (.initialized RX11) hm_X3_hasWayOutside_4) (by decide +kernel) ⟨Nat.le_of_ble_eq_true rfl, Nat.le_of_ble_eq_true rfl⟩, (hts (.static yX11_reached) hm_X3_hasWayOutside_11), trivial⟩ (pre_S hPc hK hDc hN) rfl rfl hl.1 rfl (lv_room (Nat.le_of_ble_eq_true rfl)) dX3_hasWayOutside_97 ⟨Nat.le_of_ble_eq_true rfl, Nat.le_of_ble_eq_true rfl⟩) hP hD hS hA [13] [0, 1, 2, 3, 4, 5, 6, 7, 8, 9, 10, 11, 12, 14] [0, 1, 2, 3, 4, 5, 6, 7, 8, 9, 10, 11, 12, 14, 13] rfl rfl (by decide +kernel) (by decide +kernel) (by decide +kernel) (by decide +kernel) (fun _ => rfl) (fun x171 _ H locs hq hP hD hS => ?_)
        have x171_h := hq
        have hP : va_P (dC, dI) vwCl (([(o1, .inr (3, [.ref o2, .int v5])), (o2, .inl (c2, 13, .inr (.inr (.inr (.inr (fun i => if i < 13 then some (rw3 i) else none))))))] : va_W) ++ (gr13 rw3 cI 12 Gw4 ++ ([] : va_W))) H := hP
        have hD : va_D A (([(o1, .inr (3, [.ref o2, .int v5])), (o2, .inl (c2, 13, .inr (.inr (.inr (.inr (fun i => if i < 13 then some (rw3 i) else none))))))] : va_W) ++ (gr13 rw3 cI 12 Gw4 ++ ([] : va_W))) := hD
        refine lv_iload hx hb dX3_hasWayOutside_100 (lv_at hl 1 rfl) ?_
        refine lv_iand hx hb dX3_hasWayOutside_102 (lv_topi (fun x172 x172_e => ?_))
        have x172_h : Iv 0 4095 x172 := iv_e x172_e (iv_andL _ x171_h (by decide))
        refine lv_iload hx hb dX3_hasWayOutside_103 (lv_at hl 1 rfl) ?_
        refine lv_icmp_ne (tgt := 112) hx hb dX3_hasWayOutside_105 (by decide) (fun h173 => ?_) (fun h173 => ?_)
        ·
          refine lv_iconst (v := 0) hx hb dX3_hasWayOutside_112 (by decide) ?_
          rw [hQ]
          exact W.zret (v := 0) (ty := .boolean) hx hb hr rfl (fun t ht hW => ⟨⟨0, (), rfl, (iv_w ik_0 (by decide)), by rw [ht]; exact hP, va_K.moved hW.alike hK, hD⟩, hS.F ht⟩) hS.2.2 dX3_hasWayOutside_113
        ·
          have j174 : Iv 1 4095 x172 := r_eq h173 j168
          refine lv_iconst (v := 1) hx hb dX3_hasWayOutside_108 (by decide) ?_
          refine lv_goto (tgt := 113) hx hb dX3_hasWayOutside_109 (by decide) ?_
          rw [hQ]
          exact W.zret (v := 1) (ty := .boolean) hx hb hr rfl (fun t ht hW => ⟨⟨1, (), rfl, (iv_w ik_1 (by decide)), by rw [ht]; exact hP, va_K.moved hW.alike hK, hD⟩, hS.F ht⟩) hS.2.2 dX3_hasWayOutside_113
      ·
        have qh156 := nle_i h156
        have j175 : Iv 0 11 x154 := r_ltl qh156 x154_h v5_h (by decide)
        have j176 : Iv 1 12 v5 := r_ltr qh156 x154_h v5_h (by decide)
        refine lv_iload hx hb dX3_hasWayOutside_29 (lv_at hl 2 rfl) ?_
        refine lv_iload hx hb dX3_hasWayOutside_31 (lv_at hl 0 rfl) ?_
        refine kc_i (D := (dC, dI)) (S := Unit) (wc := []) (wr := ([(o1, .inr (3, [.ref o2, .int v5])), (o2, .inl (c2, 13, .inr (.inr (.inr (.inr (fun i => if i < 13 then some (rw3 i) else none))))))] : va_W) ++ (gr13 rw3 cI 12 Gw4 ++ ([] : va_W))) (w1 := fun _ => []) (wn := fun _ => ([(o1, .inr (3, [.ref o2, .int v5])), (o2, .inl (c2, 13, .inr (.inr (.inr (.inr (fun i => if i < 13 then some (rw3 i) else none))))))] : va_W) ++ (gr13 rw3 cI 12 Gw4 ++ ([] : va_W))) (fun hPc hDc => va_runSN (As := [.int x1, .int x154]) (rest := []) ⟨hx, hb, hml, hown, hts⟩ (kX11_in_1 l dC dI cI c2 cZ x1 x154 H.size) ⟨va_cnB 2 hts gX3_hasWayOutside_X11_in_n44 rfl rfl rfl (hN.1 _ ns_74) (hts (.initialized RX11) hm_X3_hasWayOutside_4) (by decide +kernel) ⟨Nat.le_of_ble_eq_true rfl, Nat.le_of_ble_eq_true rfl⟩, (hts (.static yX11_in) hm_X3_hasWayOutside_3), trivial⟩ (pre_S hPc hK hDc hN) rfl rfl hl.1 rfl (lv_room (Nat.le_of_ble_eq_true rfl)) dX3_hasWayOutside_33 ⟨Nat.le_of_ble_eq_true rfl, Nat.le_of_ble_eq_true rfl⟩) hP hD hS hA [] [0, 1, 2, 3, 4, 5, 6, 7, 8, 9, 10, 11, 12, 13, 14] [0, 1, 2, 3, 4, 5, 6, 7, 8, 9, 10, 11, 12, 13, 14] rfl rfl (by decide +kernel) (by decide +kernel) (by decide +kernel) (by decide +kernel) (fun _ => rfl) (fun x177 _ H locs hq hP hD hS => ?_)
        have x177_h := hq
        have hP : va_P (dC, dI) vwCl (([(o1, .inr (3, [.ref o2, .int v5])), (o2, .inl (c2, 13, .inr (.inr (.inr (.inr (fun i => if i < 13 then some (rw3 i) else none))))))] : va_W) ++ (gr13 rw3 cI 12 Gw4 ++ ([] : va_W))) H := hP
        have hD : va_D A (([(o1, .inr (3, [.ref o2, .int v5])), (o2, .inl (c2, 13, .inr (.inr (.inr (.inr (fun i => if i < 13 then some (rw3 i) else none))))))] : va_W) ++ (gr13 rw3 cI 12 Gw4 ++ ([] : va_W))) := hD
        refine lv_if_eq (tgt := 65) hx hb dX3_hasWayOutside_36 (by decide) (fun h178 => ?_) (fun h178 => ?_)
        ·
          have j179 : Iv 0 0 x177 := r_eq h178 ik_0
          obtain ⟨x180, x180_e⟩ : ∃ z : Int32, z = x154 + 1 := ⟨_, rfl⟩
          have x180_h : Iv 1 12 x180 := iv_e x180_e (iv_add j175 ik_1 (by decide))
          refine lv_iinc (v := x180) (lv' := [(7, .int x180), (6, .int x155), (5, .int x1), (4, .ref (rw3 11)), (0, .ref o1), (1, .int 11), (2, .int a2), (3, .int a3)]) hx hb dX3_hasWayOutside_65 hl (k := 0) rfl (incN (by decide +kernel) x180_e) (by decide) rfl (fun ls hl => ?_)
          refine lv_goto (tgt := 20) hx hb dX3_hasWayOutside_68 (by decide) ?_
          exact ih1 x180 x155 _ _ _ (ms_up x180_e j175 (by decide) hM1) (iv_w x180_h (by decide)) x155_h hP hD hS hl
        ·
          have j181 : Iv 1 1 x177 := r_nelo h178 x177_h ik_0 (by decide)
          refine lv_iload hx hb dX3_hasWayOutside_39 (lv_at hl 2 rfl) ?_
          refine lv_aload hx hb dX3_hasWayOutside_41 (lv_at hl 3 rfl) ?_
          refine lv_iload hx hb dX3_hasWayOutside_43 (lv_at hl 0 rfl) ?_
          refine va_iald hx hb hK hP (2 + 11) 0 (gr13_get (pre := ([(o1, .inr (3, [.ref o2, .int v5])), (o2, .inl (c2, 13, .inr (.inr (.inr (.inr (fun i => if i < 13 then some (rw3 i) else none))))))] : va_W)) (post := ([] : va_W)) rfl (by decide)) rfl (vin_iv j175 (by decide)) dX3_hasWayOutside_45 (lv_topi (fun x182 x182_e => ?_))
          have x182_h : Iv 0 4095 x182 := iv_e x182_e (bg_at Gw4_b (by decide) (vin_iv j175 (by decide)))
          refine lv_iconst (v := (-1)) hx hb dX3_hasWayOutside_46 (by decide) ?_
          refine lv_ixor hx hb dX3_hasWayOutside_47 (lv_topi (fun x183 x183_e => ?_))
          refine lv_iand hx hb dX3_hasWayOutside_48 (lv_topi (fun x184 x184_e => ?_))
          have x184_h : Iv 0 4095 x184 := iv_e x184_e (iv_andL _ x1_h (by decide))
          refine lv_iconst (v := 1) hx hb dX3_hasWayOutside_49 (by decide) ?_
          refine lv_iload hx hb dX3_hasWayOutside_50 (lv_at hl 0 rfl) ?_
          refine lv_ishl hx hb dX3_hasWayOutside_52 (lv_topi (fun x185 x185_e => ?_))
          have x185_h : Iv 1 2048 x185 := iv_e x185_e (iv_shl1 j175 (by decide))
          refine lv_icmp_eq (tgt := 65) hx hb dX3_hasWayOutside_53 (by decide) (fun h186 => ?_) (fun h186 => ?_)
          ·
            have j187 : Iv 1 2048 x184 := r_eq h186 x185_h
            obtain ⟨x188, x188_e⟩ : ∃ z : Int32, z = x154 + 1 := ⟨_, rfl⟩
            have x188_h : Iv 1 12 x188 := iv_e x188_e (iv_add j175 ik_1 (by decide))
            refine lv_iinc (v := x188) (lv' := [(7, .int x188), (6, .int x155), (5, .int x1), (4, .ref (rw3 11)), (0, .ref o1), (1, .int 11), (2, .int a2), (3, .int a3)]) hx hb dX3_hasWayOutside_65 hl (k := 0) rfl (incN (by decide +kernel) x188_e) (by decide) rfl (fun ls hl => ?_)
            refine lv_goto (tgt := 20) hx hb dX3_hasWayOutside_68 (by decide) ?_
            exact ih1 x188 x155 _ _ _ (ms_up x188_e j175 (by decide) hM1) (iv_w x188_h (by decide)) x155_h hP hD hS hl
          ·
            refine lv_iload hx hb dX3_hasWayOutside_56 (lv_at hl 1 rfl) ?_
            refine lv_iconst (v := 1) hx hb dX3_hasWayOutside_58 (by decide) ?_
            refine lv_iload hx hb dX3_hasWayOutside_59 (lv_at hl 0 rfl) ?_
            refine lv_ishl hx hb dX3_hasWayOutside_61 (lv_topi (fun x189 x189_e => ?_))
            have x189_h : Iv 1 2048 x189 := iv_e x189_e (iv_shl1 j175 (by decide))
            refine lv_ior hx hb dX3_hasWayOutside_62 (lv_topi (fun x190 x190_e => ?_))
            have x190_h : Iv 0 4095 x190 := iv_e x190_e (iv_or 12 x155_h x189_h (by decide))
            refine lv_istore (lv' := [(6, .int x190), (7, .int x154), (5, .int x1), (4, .ref (rw3 11)), (0, .ref o1), (1, .int 11), (2, .int a2), (3, .int a3)]) hx hb dX3_hasWayOutside_63 hl (by decide) rfl (fun ls hl => ?_)
            obtain ⟨x191, x191_e⟩ : ∃ z : Int32, z = x154 + 1 := ⟨_, rfl⟩
            have x191_h : Iv 1 12 x191 := iv_e x191_e (iv_add j175 ik_1 (by decide))
            refine lv_iinc (v := x191) (lv' := [(7, .int x191), (6, .int x190), (5, .int x1), (4, .ref (rw3 11)), (0, .ref o1), (1, .int 11), (2, .int a2), (3, .int a3)]) hx hb dX3_hasWayOutside_65 hl (k := 1) rfl (incN (by decide +kernel) x191_e) (by decide) rfl (fun ls hl => ?_)
            refine lv_goto (tgt := 20) hx hb dX3_hasWayOutside_68 (by decide) ?_
            exact ih1 x191 x190 _ _ _ (ms_up x191_e j175 (by decide) hM1) (iv_w x191_h (by decide)) x190_h hP hD hS hl
  exact L1 _ 0 0 _ _ _ (Nat.lt_succ_self _) (iv_w ik_0 (by decide)) (iv_w ik_0 (by decide)) hP hD hS hl
set_option maxHeartbeats 4000000 in
set_option maxRecDepth 100000 in
theorem kX5_neverWrong_12 (l : Launch) (dC : Nat → ClassId) (dI : Nat → Nat → Nat) (cI c2 cZ : ClassId) (o1 : Nat) (o2 : Nat) (o7 : Nat) (o9 : Nat) (o3 : Nat) (rw4 : Nat → Nat) (Gw5 : Nat → Nat → Int32) (v6 : Int32) (rw10 : Nat → Nat) (Gw11 : Nat → Nat → Int32) (v12 : Int32) (v13 : Int32) (v14 : Int32) (a2 : Int32) (a3 : Int32) (sz : Nat) (Gw5_b : Bg 13 12 0 4095 Gw5) (v6_h : Iv 0 12 v6) (v13_h : Iv 0 4095 v13) (v14_h : Iv 0 12 v14) (a2_h : Iv 0 4095 a2) (a3_h : Iv 0 11 a3) : Met l yX5_neverWrong wsX5_neverWrong ({ frames := 3, cells := 0, slots := 0, locals := 74 }) (va_Pc [.ref o1, .int 11, .int a2, .int a3] (wPre (dC, dI) [(cI, .int), (c2, .array .int), (cZ, .boolean)] (([(o1, .inr (5, [.ref o2, .ref o7, .ref o9, .int v12, .int v13, .int v14])), (o9, .inl (c2, 12, .inr (.inr (.inr (.inr (fun i => if i < 12 then some (rw10 i) else none)))))), (o2, .inr (3, [.ref o3, .int v6])), (o3, .inl (c2, 13, .inr (.inr (.inr (.inr (fun i => if i < 13 then some (rw4 i) else none))))))] : va_W) ++ (gr12 rw10 cI 12 Gw11 ++ (gr13 rw4 cI 12 Gw5 ++ ([] : va_W)))) sz)) (va_Qi (fun (r : Int32) (_ : Unit) => Iv (-1) 11 r) (fun _ t => wPost (dC, dI) [(cI, .int), (c2, .array .int), (cZ, .boolean)] (va_A (([(o1, .inr (5, [.ref o2, .ref o7, .ref o9, .int v12, .int v13, .int v14])), (o9, .inl (c2, 12, .inr (.inr (.inr (.inr (fun i => if i < 12 then some (rw10 i) else none)))))), (o2, .inr (3, [.ref o3, .int v6])), (o3, .inl (c2, 13, .inr (.inr (.inr (.inr (fun i => if i < 13 then some (rw4 i) else none))))))] : va_W) ++ (gr12 rw10 cI 12 Gw11 ++ (gr13 rw4 cI 12 Gw5 ++ ([] : va_W)))) sz) (([(o1, .inr (5, [.ref o2, .ref o7, .ref o9, .int v12, .int v13, .int v14])), (o9, .inl (c2, 12, .inr (.inr (.inr (.inr (fun i => if i < 12 then some (rw10 i) else none)))))), (o2, .inr (3, [.ref o3, .int v6])), (o3, .inl (c2, 13, .inr (.inr (.inr (.inr (fun i => if i < 13 then some (rw4 i) else none))))))] : va_W) ++ (gr12 rw10 cI 12 Gw11 ++ (gr13 rw4 cI 12 Gw5 ++ ([] : va_W)))) t) (va_A (([(o1, .inr (5, [.ref o2, .ref o7, .ref o9, .int v12, .int v13, .int v14])), (o9, .inl (c2, 12, .inr (.inr (.inr (.inr (fun i => if i < 12 then some (rw10 i) else none)))))), (o2, .inr (3, [.ref o3, .int v6])), (o3, .inl (c2, 13, .inr (.inr (.inr (.inr (fun i => if i < 13 then some (rw4 i) else none))))))] : va_W) ++ (gr12 rw10 cI 12 Gw11 ++ (gr13 rw4 cI 12 Gw5 ++ ([] : va_W)))) sz)) 0 0 (va_A (([(o1, .inr (5, [.ref o2, .ref o7, .ref o9, .int v12, .int v13, .int v14])), (o9, .inl (c2, 12, .inr (.inr (.inr (.inr (fun i => if i < 12 then some (rw10 i) else none)))))), (o2, .inr (3, [.ref o3, .int v6])), (o3, .inl (c2, 13, .inr (.inr (.inr (.inr (fun i => if i < 13 then some (rw4 i) else none))))))] : va_W) ++ (gr12 rw10 cI 12 Gw11 ++ (gr13 rw4 cI 12 Gw5 ++ ([] : va_W)))) sz) := by
  refine Met.ofW (cc := cX5_neverWrong) (maxL := 6) (ret := (some .int)) (by decide) rfl ?_
  intro p e s m args below meth c s₁ B hml hv
  obtain ⟨rfl, hsz, hP, hK, hD0, hN⟩ := hv
  have hx := B.exec
  have hb := B.bytes
  have hr := B.returns
  have hts := atoms_spec (ws := wsX5_neverWrong) B.pre
  have hown : s.vm.findClass RX5 = some m.cls := findClass_of_methodNamed B.named
  have hlocks := B.notSynchronized
  subst hsz
  have hD := hD0.self (sz := s.heap.size)
  generalize hAe : va_A (([(o1, .inr (5, [.ref o2, .ref o7, .ref o9, .int v12, .int v13, .int v14])), (o9, .inl (c2, 12, .inr (.inr (.inr (.inr (fun i => if i < 12 then some (rw10 i) else none)))))), (o2, .inr (3, [.ref o3, .int v6])), (o3, .inl (c2, 13, .inr (.inr (.inr (.inr (fun i => if i < 13 then some (rw4 i) else none))))))] : va_W) ++ (gr12 rw10 cI 12 Gw11 ++ (gr13 rw4 cI 12 Gw5 ++ ([] : va_W)))) s.heap.size = A at hD ⊢
  have hA : ∀ q : Nat, s.heap.size ≤ q → A q := fun q h => by rw [← hAe]; exact Or.inr h
  have hS : va_S A s.heap s.heap [] := va_S.rf
  have hP : va_P (dC, dI) vwCl (([(o1, .inr (5, [.ref o2, .ref o7, .ref o9, .int v12, .int v13, .int v14])), (o9, .inl (c2, 12, .inr (.inr (.inr (.inr (fun i => if i < 12 then some (rw10 i) else none)))))), (o2, .inr (3, [.ref o3, .int v6])), (o3, .inl (c2, 13, .inr (.inr (.inr (.inr (fun i => if i < 13 then some (rw4 i) else none))))))] : va_W) ++ (gr12 rw10 cI 12 Gw11 ++ (gr13 rw4 cI 12 Gw5 ++ ([] : va_W)))) s.heap := hP
  have hl := lv_entry ([.ref o1, .int 11, .int a2, .int a3]) (n := 6) (Nat.le_of_ble_eq_true rfl)
  rw [lg_entry_eq]
  generalize (lg_sl ([.ref o1, .int 11, .int a2, .int a3]) ++ List.replicate (6 - (lg_sl ([.ref o1, .int 11, .int a2, .int a3])).length) Slot.unset).toArray = ls at hl ⊢
  have hl : lv_has ls 6 [(0, .ref o1), (1, .int 11), (2, .int a2), (3, .int a3)] := hl
  refine gen_Q (fun Q hQ => ?_)
  refine lv_aload_n hx hb dX5_neverWrong_0 rfl (lv_at hl 0 rfl) ?_
  refine va_get (D := (dC, dI)) (ci := 5) (v := .int v12) (C := RX5) (T := TX5) (N := 6) hx hb hts iw_X5_neverWrong_X5 hown hK hP 0 rfl rfl 3 (by decide) (hts (.fieldLink RX5 27 "HolelessHouse$LeastSearch" "rule" "I") hm_X5_neverWrong_1) (fun _ h9 => h9) rfl dX5_neverWrong_1 ?_
  refine lv_iconst (v := 1) hx hb dX5_neverWrong_4 (by decide) ?_
  refine lv_icmp_ne (tgt := 18) hx hb dX5_neverWrong_5 (by decide) (fun h1 => ?_) (fun h1 => ?_)
  ·
    refine lv_aload_n hx hb dX5_neverWrong_18 rfl (lv_at hl 0 rfl) ?_
    refine va_get (D := (dC, dI)) (ci := 5) (v := .ref o9) (C := RX5) (T := TX5) (N := 6) hx hb hts iw_X5_neverWrong_X5 hown hK hP 0 rfl rfl 2 (by decide) (hts (.fieldLink RX5 24 "HolelessHouse$LeastSearch" "prices" "[[I") hm_X5_neverWrong_3) (fun _ h9 => h9) rfl dX5_neverWrong_19 ?_
    refine lv_iload_n hx hb dX5_neverWrong_22 rfl (lv_at hl 1 rfl) ?_
    refine va_alda hx hb hK hP 1 1 rfl rfl (vin_iv ik_11 (by decide)) dX5_neverWrong_23 (tk_r (v := .ref (rw10 11)) rfl ?_)
    refine lv_iload_n hx hb dX5_neverWrong_24 rfl (lv_at hl 3 rfl) ?_
    refine va_iald hx hb hK hP (4 + 11) 0 (gr12_get (pre := ([(o1, .inr (5, [.ref o2, .ref o7, .ref o9, .int v12, .int v13, .int v14])), (o9, .inl (c2, 12, .inr (.inr (.inr (.inr (fun i => if i < 12 then some (rw10 i) else none)))))), (o2, .inr (3, [.ref o3, .int v6])), (o3, .inl (c2, 13, .inr (.inr (.inr (.inr (fun i => if i < 13 then some (rw4 i) else none))))))] : va_W)) (post := (gr13 rw4 cI 12 Gw5 ++ ([] : va_W))) rfl (by decide)) rfl (vin_iv a3_h (by decide)) dX5_neverWrong_25 (lv_topi (fun x2 x2_e => ?_))
    refine lv_istore (lv' := [(4, .int x2), (0, .ref o1), (1, .int 11), (2, .int a2), (3, .int a3)]) hx hb dX5_neverWrong_26 hl (by decide) rfl (fun ls hl => ?_)
    refine lv_iload_n hx hb dX5_neverWrong_28 rfl (lv_at hl 4 rfl) ?_
    refine lv_istore (lv' := [(5, .int a3), (4, .int x2), (0, .ref o1), (1, .int 11), (2, .int a2), (3, .int a3)]) hx hb dX5_neverWrong_29 hl (by decide) rfl (fun ls hl => ?_)
    have L1 : ∀ (N : Nat) (x32 : Int32) (H : Heap) (locs : List Loc) (ls : Array Slot), (12 - x32.toInt).toNat < N → Iv 0 12 x32 → va_P (dC, dI) vwCl (([(o1, .inr (5, [.ref o2, .ref o7, .ref o9, .int v12, .int v13, .int v14])), (o9, .inl (c2, 12, .inr (.inr (.inr (.inr (fun i => if i < 12 then some (rw10 i) else none)))))), (o2, .inr (3, [.ref o3, .int v6])), (o3, .inl (c2, 13, .inr (.inr (.inr (.inr (fun i => if i < 13 then some (rw4 i) else none))))))] : va_W) ++ (gr12 rw10 cI 12 Gw11 ++ (gr13 rw4 cI 12 Gw5 ++ ([] : va_W)))) H → va_D A (([(o1, .inr (5, [.ref o2, .ref o7, .ref o9, .int v12, .int v13, .int v14])), (o9, .inl (c2, 12, .inr (.inr (.inr (.inr (fun i => if i < 12 then some (rw10 i) else none)))))), (o2, .inr (3, [.ref o3, .int v6])), (o3, .inl (c2, 13, .inr (.inr (.inr (.inr (fun i => if i < 13 then some (rw4 i) else none))))))] : va_W) ++ (gr12 rw10 cI 12 Gw11 ++ (gr13 rw4 cI 12 Gw5 ++ ([] : va_W)))) → va_S A s.heap H locs → lv_has ls 6 [(5, .int x32), (4, .int x2), (0, .ref o1), (1, .int 11), (2, .int a2), (3, .int a3)] → W p l e ({ frames := 3, cells := 0, slots := 0, locals := 74 }) s m ([.ref o1, .int 11, .int a2, .int a3] : List Value).toArray below meth c H locs 0 0 Q (F0 m 31 ls []) := by
      intro N
      induction N with
      | zero =>
        intro x32 H locs ls hM
        exact absurd hM (Nat.not_lt_zero _)
      | succ N ih1 =>
        intro x32 H locs ls hM1 x32_h hP hD hS hl
        refine lv_iload hx hb dX5_neverWrong_31 (lv_at hl 0 rfl) ?_
        refine lv_aload_n hx hb dX5_neverWrong_33 rfl (lv_at hl 2 rfl) ?_
        refine va_get (D := (dC, dI)) (ci := 5) (v := .int v14) (C := RX5) (T := TX5) (N := 6) hx hb hts iw_X5_neverWrong_X5 hown hK hP 0 rfl rfl 5 (by decide) (hts (.fieldLink RX5 34 "HolelessHouse$LeastSearch" "size" "I") hm_X5_neverWrong_4) (fun _ h9 => h9) rfl dX5_neverWrong_34 ?_
        refine lv_icmp_ge (tgt := 82) hx hb dX5_neverWrong_37 (by decide) (fun h33 => ?_) (fun h33 => ?_)
        ·
          have qh33 := le_i h33
          refine lv_iload hx hb dX5_neverWrong_82 (lv_at hl 1 rfl) ?_
          refine lv_if_ne (tgt := 91) hx hb dX5_neverWrong_84 (by decide) (fun h34 => ?_) (fun h34 => ?_)
          ·
            refine lv_iconst (v := (-1)) hx hb dX5_neverWrong_91 (by decide) ?_
            rw [hQ]
            exact W.iret (v := (-1)) hx hb hr (fun t ht hW => ⟨⟨(-1), (), rfl, (iv_w ikm_1 (by decide)), by rw [ht]; exact hP, va_K.moved hW.alike hK, hD⟩, hS.F ht⟩) hS.2.2 dX5_neverWrong_92
          ·
            have j35 : Iv 0 0 x2 := r_eq h34 ik_0
            refine lv_iload_n hx hb dX5_neverWrong_87 rfl (lv_at hl 5 rfl) ?_
            refine lv_goto (tgt := 92) hx hb dX5_neverWrong_88 (by decide) ?_
            rw [hQ]
            exact W.iret (v := a3) hx hb hr (fun t ht hW => ⟨⟨a3, (), rfl, (iv_w a3_h (by decide)), by rw [ht]; exact hP, va_K.moved hW.alike hK, hD⟩, hS.F ht⟩) hS.2.2 dX5_neverWrong_92
        ·
          have qh33 := nle_i h33
          have j36 : Iv 0 11 x32 := r_ltl qh33 x32_h v14_h (by decide)
          have j37 : Iv 1 12 v14 := r_ltr qh33 x32_h v14_h (by decide)
          refine lv_iload hx hb dX5_neverWrong_40 (lv_at hl 1 rfl) ?_
          refine lv_iconst (v := 1) hx hb dX5_neverWrong_42 (by decide) ?_
          refine lv_icmp_ne (tgt := 82) hx hb dX5_neverWrong_43 (by decide) (fun h38 => ?_) (fun h38 => ?_)
          ·
            refine lv_iload hx hb dX5_neverWrong_82 (lv_at hl 1 rfl) ?_
            refine lv_if_ne (tgt := 91) hx hb dX5_neverWrong_84 (by decide) (fun h39 => ?_) (fun h39 => ?_)
            ·
              refine lv_iconst (v := (-1)) hx hb dX5_neverWrong_91 (by decide) ?_
              rw [hQ]
              exact W.iret (v := (-1)) hx hb hr (fun t ht hW => ⟨⟨(-1), (), rfl, (iv_w ikm_1 (by decide)), by rw [ht]; exact hP, va_K.moved hW.alike hK, hD⟩, hS.F ht⟩) hS.2.2 dX5_neverWrong_92
            ·
              have j40 : Iv 0 0 x2 := r_eq h39 ik_0
              refine lv_iload_n hx hb dX5_neverWrong_87 rfl (lv_at hl 5 rfl) ?_
              refine lv_goto (tgt := 92) hx hb dX5_neverWrong_88 (by decide) ?_
              rw [hQ]
              exact W.iret (v := a3) hx hb hr (fun t ht hW => ⟨⟨a3, (), rfl, (iv_w a3_h (by decide)), by rw [ht]; exact hP, va_K.moved hW.alike hK, hD⟩, hS.F ht⟩) hS.2.2 dX5_neverWrong_92
          ·
            have j41 : Iv 1 1 x2 := r_eq h38 ik_1
            refine lv_aload_n hx hb dX5_neverWrong_46 rfl (lv_at hl 2 rfl) ?_
            refine va_get (D := (dC, dI)) (ci := 5) (v := .ref o9) (C := RX5) (T := TX5) (N := 6) hx hb hts iw_X5_neverWrong_X5 hown hK hP 0 rfl rfl 2 (by decide) (hts (.fieldLink RX5 24 "HolelessHouse$LeastSearch" "prices" "[[I") hm_X5_neverWrong_3) (fun _ h9 => h9) rfl dX5_neverWrong_47 ?_
            refine lv_iload_n hx hb dX5_neverWrong_50 rfl (lv_at hl 3 rfl) ?_
            refine va_alda hx hb hK hP 1 1 rfl rfl (vin_iv ik_11 (by decide)) dX5_neverWrong_51 (tk_r (v := .ref (rw10 11)) rfl ?_)
            refine lv_iload hx hb dX5_neverWrong_52 (lv_at hl 0 rfl) ?_
            refine va_iald hx hb hK hP (4 + 11) 0 (gr12_get (pre := ([(o1, .inr (5, [.ref o2, .ref o7, .ref o9, .int v12, .int v13, .int v14])), (o9, .inl (c2, 12, .inr (.inr (.inr (.inr (fun i => if i < 12 then some (rw10 i) else none)))))), (o2, .inr (3, [.ref o3, .int v6])), (o3, .inl (c2, 13, .inr (.inr (.inr (.inr (fun i => if i < 13 then some (rw4 i) else none))))))] : va_W)) (post := (gr13 rw4 cI 12 Gw5 ++ ([] : va_W))) rfl (by decide)) rfl (vin_iv j36 (by decide)) dX5_neverWrong_54 (lv_topi (fun x42 x42_e => ?_))
            refine lv_iconst (v := 1) hx hb dX5_neverWrong_55 (by decide) ?_
            refine lv_icmp_ne (tgt := 76) hx hb dX5_neverWrong_56 (by decide) (fun h43 => ?_) (fun h43 => ?_)
            ·
              obtain ⟨x44, x44_e⟩ : ∃ z : Int32, z = x32 + 1 := ⟨_, rfl⟩
              have x44_h : Iv 1 12 x44 := iv_e x44_e (iv_add j36 ik_1 (by decide))
              refine lv_iinc (v := x44) (lv' := [(5, .int x44), (4, .int x2), (0, .ref o1), (1, .int 11), (2, .int a2), (3, .int a3)]) hx hb dX5_neverWrong_76 hl (k := 0) rfl (incN (by decide +kernel) x44_e) (by decide) rfl (fun ls hl => ?_)
              refine lv_goto (tgt := 31) hx hb dX5_neverWrong_79 (by decide) ?_
              exact ih1 x44 _ _ _ (ms_up x44_e j36 (by decide) hM1) (iv_w x44_h (by decide)) hP hD hS hl
            ·
              have j45 : Iv 1 1 x42 := r_eq h43 ik_1
              refine lv_aload_n hx hb dX5_neverWrong_59 rfl (lv_at hl 2 rfl) ?_
              refine va_get (D := (dC, dI)) (ci := 5) (v := .ref o2) (C := RX5) (T := TX5) (N := 6) hx hb hts iw_X5_neverWrong_X5 hown hK hP 0 rfl rfl 0 (by decide) (hts (.fieldLink RX5 12 "HolelessHouse$LeastSearch" "going" "LHolelessHouse$Going;") hm_X5_neverWrong_2) (fun _ h9 => h9) rfl dX5_neverWrong_60 ?_
              refine lv_iload_n hx hb dX5_neverWrong_63 rfl (lv_at hl 3 rfl) ?_
              refine lv_iload hx hb dX5_neverWrong_64 (lv_at hl 0 rfl) ?_
              refine lv_iload_n hx hb dX5_neverWrong_66 rfl (lv_at hl 4 rfl) ?_
              refine kc_i (D := (dC, dI)) (S := Unit) (wc := ([(o2, .inr (3, [.ref o3, .int v6])), (o3, .inl (c2, 13, .inr (.inr (.inr (.inr (fun i => if i < 13 then some (rw4 i) else none))))))] : va_W) ++ (gr13 rw4 cI 12 Gw5 ++ ([] : va_W))) (wr := ([(o1, .inr (5, [.ref o2, .ref o7, .ref o9, .int v12, .int v13, .int v14])), (o9, .inl (c2, 12, .inr (.inr (.inr (.inr (fun i => if i < 12 then some (rw10 i) else none))))))] : va_W) ++ (gr12 rw10 cI 12 Gw11 ++ ([] : va_W))) (w1 := fun _ => ([(o2, .inr (3, [.ref o3, .int v6])), (o3, .inl (c2, 13, .inr (.inr (.inr (.inr (fun i => if i < 13 then some (rw4 i) else none))))))] : va_W) ++ (gr13 rw4 cI 12 Gw5 ++ ([] : va_W))) (wn := fun _ => ([(o1, .inr (5, [.ref o2, .ref o7, .ref o9, .int v12, .int v13, .int v14])), (o9, .inl (c2, 12, .inr (.inr (.inr (.inr (fun i => if i < 12 then some (rw10 i) else none)))))), (o2, .inr (3, [.ref o3, .int v6])), (o3, .inl (c2, 13, .inr (.inr (.inr (.inr (fun i => if i < 13 then some (rw4 i) else none))))))] : va_W) ++ (gr12 rw10 cI 12 Gw11 ++ (gr13 rw4 cI 12 Gw5 ++ ([] : va_W)))) (fun hPc hDc => va_runVN (As := [.int 11, .int x32, .int a2]) (rest := []) ⟨hx, hb, hml, hown, hts⟩ (kX3_hasWayOutside_12 l dC dI cI c2 cZ o2 o3 rw4 Gw5 v6 x32 a2 H.size Gw5_b v6_h j36 a2_h) ⟨va_cnB 3 hts gX5_neverWrong_X3_hasWayOutside_n90 rfl rfl rfl (hN.1 _ ns_98) (hts (.initialized RX3) hm_X5_neverWrong_6) (by decide +kernel) ⟨Nat.le_of_ble_eq_true rfl, Nat.le_of_ble_eq_true rfl⟩, (hts (.instanceMethod yX3_hasWayOutside) hm_X5_neverWrong_25), (hts (.selects RX3 yX3_hasWayOutside yX3_hasWayOutside) hm_X5_neverWrong_26)⟩ (pre_V hPc hK hDc hN (ci := 3) (q0 := 0) rfl rfl) rfl rfl hl.1 rfl (lv_room (Nat.le_of_ble_eq_true rfl)) dX5_neverWrong_67 ⟨Nat.le_of_ble_eq_true rfl, Nat.le_of_ble_eq_true rfl⟩) hP hD hS hA [2, 3, 16, 17, 18, 19, 20, 21, 22, 23, 24, 25, 26, 27, 28] [0, 1, 4, 5, 6, 7, 8, 9, 10, 11, 12, 13, 14, 15] [0, 1, 14, 15, 2, 3, 4, 5, 6, 7, 8, 9, 10, 11, 12, 13, 16, 17, 18, 19, 20, 21, 22, 23, 24, 25, 26, 27, 28] rfl rfl (by decide +kernel) (by decide +kernel) (by decide +kernel) (by decide +kernel) (fun _ => rfl) (fun x46 _ H locs hq hP hD hS => ?_)
              have x46_h := hq
              have hP : va_P (dC, dI) vwCl (([(o1, .inr (5, [.ref o2, .ref o7, .ref o9, .int v12, .int v13, .int v14])), (o9, .inl (c2, 12, .inr (.inr (.inr (.inr (fun i => if i < 12 then some (rw10 i) else none)))))), (o2, .inr (3, [.ref o3, .int v6])), (o3, .inl (c2, 13, .inr (.inr (.inr (.inr (fun i => if i < 13 then some (rw4 i) else none))))))] : va_W) ++ (gr12 rw10 cI 12 Gw11 ++ (gr13 rw4 cI 12 Gw5 ++ ([] : va_W)))) H := hP
              have hD : va_D A (([(o1, .inr (5, [.ref o2, .ref o7, .ref o9, .int v12, .int v13, .int v14])), (o9, .inl (c2, 12, .inr (.inr (.inr (.inr (fun i => if i < 12 then some (rw10 i) else none)))))), (o2, .inr (3, [.ref o3, .int v6])), (o3, .inl (c2, 13, .inr (.inr (.inr (.inr (fun i => if i < 13 then some (rw4 i) else none))))))] : va_W) ++ (gr12 rw10 cI 12 Gw11 ++ (gr13 rw4 cI 12 Gw5 ++ ([] : va_W)))) := hD
              refine lv_if_eq (tgt := 76) hx hb dX5_neverWrong_70 (by decide) (fun h47 => ?_) (fun h47 => ?_)
              ·
                have j48 : Iv 0 0 x46 := r_eq h47 ik_0
                obtain ⟨x49, x49_e⟩ : ∃ z : Int32, z = x32 + 1 := ⟨_, rfl⟩
                have x49_h : Iv 1 12 x49 := iv_e x49_e (iv_add j36 ik_1 (by decide))
                refine lv_iinc (v := x49) (lv' := [(5, .int x49), (4, .int x2), (0, .ref o1), (1, .int 11), (2, .int a2), (3, .int a3)]) hx hb dX5_neverWrong_76 hl (k := 0) rfl (incN (by decide +kernel) x49_e) (by decide) rfl (fun ls hl => ?_)
                refine lv_goto (tgt := 31) hx hb dX5_neverWrong_79 (by decide) ?_
                exact ih1 x49 _ _ _ (ms_up x49_e j36 (by decide) hM1) (iv_w x49_h (by decide)) hP hD hS hl
              ·
                have j50 : Iv 1 1 x46 := r_nelo h47 x46_h ik_0 (by decide)
                refine lv_iload hx hb dX5_neverWrong_73 (lv_at hl 0 rfl) ?_
                rw [hQ]
                exact W.iret (v := x32) hx hb hr (fun t ht hW => ⟨⟨x32, (), rfl, (iv_w j36 (by decide)), by rw [ht]; exact hP, va_K.moved hW.alike hK, hD⟩, hS.F ht⟩) hS.2.2 dX5_neverWrong_75
    exact L1 _ a3 _ _ _ (Nat.lt_succ_self _) (iv_w a3_h (by decide)) hP hD hS hl
  ·
    have j51 : Iv 1 1 v12 := r_eq h1 ik_1
    refine lv_aload_n hx hb dX5_neverWrong_8 rfl (lv_at hl 0 rfl) ?_
    refine va_get (D := (dC, dI)) (ci := 5) (v := .ref o2) (C := RX5) (T := TX5) (N := 6) hx hb hts iw_X5_neverWrong_X5 hown hK hP 0 rfl rfl 0 (by decide) (hts (.fieldLink RX5 12 "HolelessHouse$LeastSearch" "going" "LHolelessHouse$Going;") hm_X5_neverWrong_2) (fun _ h9 => h9) rfl dX5_neverWrong_9 ?_
    refine lv_iload_n hx hb dX5_neverWrong_12 rfl (lv_at hl 1 rfl) ?_
    refine lv_iload_n hx hb dX5_neverWrong_13 rfl (lv_at hl 2 rfl) ?_
    refine kc_i (D := (dC, dI)) (S := Unit) (wc := ([(o2, .inr (3, [.ref o3, .int v6])), (o3, .inl (c2, 13, .inr (.inr (.inr (.inr (fun i => if i < 13 then some (rw4 i) else none))))))] : va_W) ++ (gr13 rw4 cI 12 Gw5 ++ ([] : va_W))) (wr := ([(o1, .inr (5, [.ref o2, .ref o7, .ref o9, .int v12, .int v13, .int v14])), (o9, .inl (c2, 12, .inr (.inr (.inr (.inr (fun i => if i < 12 then some (rw10 i) else none))))))] : va_W) ++ (gr12 rw10 cI 12 Gw11 ++ ([] : va_W))) (w1 := fun _ => ([(o2, .inr (3, [.ref o3, .int v6])), (o3, .inl (c2, 13, .inr (.inr (.inr (.inr (fun i => if i < 13 then some (rw4 i) else none))))))] : va_W) ++ (gr13 rw4 cI 12 Gw5 ++ ([] : va_W))) (wn := fun _ => ([(o1, .inr (5, [.ref o2, .ref o7, .ref o9, .int v12, .int v13, .int v14])), (o9, .inl (c2, 12, .inr (.inr (.inr (.inr (fun i => if i < 12 then some (rw10 i) else none)))))), (o2, .inr (3, [.ref o3, .int v6])), (o3, .inl (c2, 13, .inr (.inr (.inr (.inr (fun i => if i < 13 then some (rw4 i) else none))))))] : va_W) ++ (gr12 rw10 cI 12 Gw11 ++ (gr13 rw4 cI 12 Gw5 ++ ([] : va_W)))) (fun hPc hDc => va_runVN (As := [.int 11, .int a2]) (rest := []) ⟨hx, hb, hml, hown, hts⟩ (kX3_leastTight_1 l dC dI cI c2 cZ o2 o3 rw4 Gw5 v6 11 a2 s.heap.size Gw5_b v6_h (iv_w ik_11 (by decide)) a2_h) ⟨va_cnB 2 hts gX5_neverWrong_X3_leastTight_n87 rfl rfl rfl (hN.1 _ ns_97) (hts (.initialized RX3) hm_X5_neverWrong_6) (by decide +kernel) ⟨Nat.le_of_ble_eq_true rfl, Nat.le_of_ble_eq_true rfl⟩, (hts (.instanceMethod yX3_leastTight) hm_X5_neverWrong_5), (hts (.selects RX3 yX3_leastTight yX3_leastTight) hm_X5_neverWrong_7)⟩ (pre_V hPc hK hDc hN (ci := 3) (q0 := 0) rfl rfl) rfl rfl hl.1 rfl (lv_room (Nat.le_of_ble_eq_true rfl)) dX5_neverWrong_14 ⟨Nat.le_of_ble_eq_true rfl, Nat.le_of_ble_eq_true rfl⟩) hP hD hS hA [2, 3, 16, 17, 18, 19, 20, 21, 22, 23, 24, 25, 26, 27, 28] [0, 1, 4, 5, 6, 7, 8, 9, 10, 11, 12, 13, 14, 15] [0, 1, 14, 15, 2, 3, 4, 5, 6, 7, 8, 9, 10, 11, 12, 13, 16, 17, 18, 19, 20, 21, 22, 23, 24, 25, 26, 27, 28] rfl rfl (by decide +kernel) (by decide +kernel) (by decide +kernel) (by decide +kernel) (fun _ => rfl) (fun x52 _ H locs hq hP hD hS => ?_)
    have x52_h := hq
    have hP : va_P (dC, dI) vwCl (([(o1, .inr (5, [.ref o2, .ref o7, .ref o9, .int v12, .int v13, .int v14])), (o9, .inl (c2, 12, .inr (.inr (.inr (.inr (fun i => if i < 12 then some (rw10 i) else none)))))), (o2, .inr (3, [.ref o3, .int v6])), (o3, .inl (c2, 13, .inr (.inr (.inr (.inr (fun i => if i < 13 then some (rw4 i) else none))))))] : va_W) ++ (gr12 rw10 cI 12 Gw11 ++ (gr13 rw4 cI 12 Gw5 ++ ([] : va_W)))) H := hP
    have hD : va_D A (([(o1, .inr (5, [.ref o2, .ref o7, .ref o9, .int v12, .int v13, .int v14])), (o9, .inl (c2, 12, .inr (.inr (.inr (.inr (fun i => if i < 12 then some (rw10 i) else none)))))), (o2, .inr (3, [.ref o3, .int v6])), (o3, .inl (c2, 13, .inr (.inr (.inr (.inr (fun i => if i < 13 then some (rw4 i) else none))))))] : va_W) ++ (gr12 rw10 cI 12 Gw11 ++ (gr13 rw4 cI 12 Gw5 ++ ([] : va_W)))) := hD
    rw [hQ]
    exact W.iret (v := x52) hx hb hr (fun t ht hW => ⟨⟨x52, (), rfl, x52_h, by rw [ht]; exact hP, va_K.moved hW.alike hK, hD⟩, hS.F ht⟩) hS.2.2 dX5_neverWrong_17
theorem iw_X5_leastFrom_X5 : ∀ w ∈ wsX50, w ∈ wsX5_leastFrom := fun _ h => List.mem_cons.mpr (Or.inr (List.mem_append.mpr (Or.inl (List.mem_append.mpr (Or.inr h)))))
set_option maxHeartbeats 4000000 in
set_option maxRecDepth 100000 in
theorem kX5_leastFrom_1 (l : Launch) (dC : Nat → ClassId) (dI : Nat → Nat → Nat) (cI c2 cZ : ClassId) (o1 : Nat) (o2 : Nat) (o7 : Nat) (o9 : Nat) (fw8 : Nat → Int32) (v12 : Int32) (v13 : Int32) (v14 : Int32) (a1 : Int32) (sz : Nat) (v13_h : Iv 0 4095 v13) (v14_h : Iv 0 12 v14) (a1_h : Iv 0 4095 a1) : Met l yX5_leastFrom wsX5_leastFrom ({ frames := 0, cells := 0, slots := 0, locals := 0 }) (va_Pc [.ref o1, .int a1, .int 12] (wPre (dC, dI) [(cI, .int), (c2, .array .int), (cZ, .boolean)] ([(o1, .inr (5, [.ref o2, .ref o7, .ref o9, .int v12, .int v13, .int v14])), (o7, .inl (cI, 4096, .inl fw8))]) sz)) (va_Qi (fun (r : Int32) (_ : Unit) => True) (fun _ t => wPost (dC, dI) [(cI, .int), (c2, .array .int), (cZ, .boolean)] (va_A ([(o1, .inr (5, [.ref o2, .ref o7, .ref o9, .int v12, .int v13, .int v14])), (o7, .inl (cI, 4096, .inl fw8))]) sz) ([(o1, .inr (5, [.ref o2, .ref o7, .ref o9, .int v12, .int v13, .int v14])), (o7, .inl (cI, 4096, .inl fw8))]) t) (va_A ([(o1, .inr (5, [.ref o2, .ref o7, .ref o9, .int v12, .int v13, .int v14])), (o7, .inl (cI, 4096, .inl fw8))]) sz)) 0 0 (va_A ([(o1, .inr (5, [.ref o2, .ref o7, .ref o9, .int v12, .int v13, .int v14])), (o7, .inl (cI, 4096, .inl fw8))]) sz) := by
  refine Met.ofW (cc := cX5_leastFrom) (maxL := 13) (ret := (some .int)) (by decide) rfl ?_
  intro p e s m args below meth c s₁ B hml hv
  obtain ⟨rfl, hsz, hP, hK, hD0, hN⟩ := hv
  have hx := B.exec
  have hb := B.bytes
  have hr := B.returns
  have hts := atoms_spec (ws := wsX5_leastFrom) B.pre
  have hown : s.vm.findClass RX5 = some m.cls := findClass_of_methodNamed B.named
  have hlocks := B.notSynchronized
  subst hsz
  have hD := hD0.self (sz := s.heap.size)
  generalize hAe : va_A ([(o1, .inr (5, [.ref o2, .ref o7, .ref o9, .int v12, .int v13, .int v14])), (o7, .inl (cI, 4096, .inl fw8))]) s.heap.size = A at hD ⊢
  have hA : ∀ q : Nat, s.heap.size ≤ q → A q := fun q h => by rw [← hAe]; exact Or.inr h
  have hS : va_S A s.heap s.heap [] := va_S.rf
  have hP : va_P (dC, dI) vwCl ([(o1, .inr (5, [.ref o2, .ref o7, .ref o9, .int v12, .int v13, .int v14])), (o7, .inl (cI, 4096, .inl fw8))]) s.heap := hP
  have hl := lv_entry ([.ref o1, .int a1, .int 12]) (n := 13) (Nat.le_of_ble_eq_true rfl)
  rw [lg_entry_eq]
  generalize (lg_sl ([.ref o1, .int a1, .int 12]) ++ List.replicate (13 - (lg_sl ([.ref o1, .int a1, .int 12])).length) Slot.unset).toArray = ls at hl ⊢
  have hl : lv_has ls 13 [(0, .ref o1), (1, .int a1), (2, .int 12)] := hl
  refine gen_Q (fun Q hQ => ?_)
  refine lv_iload_n hx hb dX5_leastFrom_0 rfl (lv_at hl 2 rfl) ?_
  refine lv_aload_n hx hb dX5_leastFrom_1 rfl (lv_at hl 0 rfl) ?_
  refine va_get (D := (dC, dI)) (ci := 5) (v := .int v14) (C := RX5) (T := TX5) (N := 6) hx hb hts iw_X5_leastFrom_X5 hown hK hP 0 rfl rfl 5 (by decide) (hts (.fieldLink RX5 34 "HolelessHouse$LeastSearch" "size" "I") hm_X5_leastFrom_1) (fun _ h9 => h9) rfl dX5_leastFrom_2 ?_
  refine lv_icmp_ge (tgt := 18) hx hb dX5_leastFrom_5 (by decide) (fun _ => ?_) (fun h9 => absurd (d_le v14_h ik_12 (by decide)) h9)
  refine lv_aload_n hx hb dX5_leastFrom_18 rfl (lv_at hl 0 rfl) ?_
  refine va_get (D := (dC, dI)) (ci := 5) (v := .ref o7) (C := RX5) (T := TX5) (N := 6) hx hb hts iw_X5_leastFrom_X5 hown hK hP 0 rfl rfl 1 (by decide) (hts (.fieldLink RX5 18 "HolelessHouse$LeastSearch" "notes" "[I") hm_X5_leastFrom_2) (fun _ h9 => h9) rfl dX5_leastFrom_19 ?_
  refine lv_iload_n hx hb dX5_leastFrom_22 rfl (lv_at hl 1 rfl) ?_
  refine va_iald hx hb hK hP 1 0 rfl rfl (vin_iv a1_h (by decide)) dX5_leastFrom_23 (lv_topi (fun x1 x1_e => ?_))
  rw [hQ]
  exact W.iret (v := x1) hx hb hr (fun t ht hW => ⟨⟨x1, (), rfl, trivial, by rw [ht]; exact hP, va_K.moved hW.alike hK, hD⟩, hS.F ht⟩) hS.2.2 dX5_leastFrom_24
theorem iw_X5_both_X5 : ∀ w ∈ wsX50, w ∈ wsX5_both := fun _ h => List.mem_cons.mpr (Or.inr (List.mem_append.mpr (Or.inr h)))
set_option maxHeartbeats 4000000 in
set_option maxRecDepth 100000 in
theorem kX5_both_1 (l : Launch) (dC : Nat → ClassId) (dI : Nat → Nat → Nat) (cI c2 cZ : ClassId) (o1 : Nat) (o2 : Nat) (o7 : Nat) (o9 : Nat) (v12 : Int32) (v13 : Int32) (v14 : Int32) (a1 : Int32) (a2 : Int32) (sz : Nat) (v13_h : Iv 0 4095 v13) (v14_h : Iv 0 12 v14) : Met l yX5_both wsX5_both ({ frames := 1, cells := 0, slots := 0, locals := 13 }) (va_Pc [.ref o1, .int a1, .int a2] (wPre (dC, dI) [(cI, .int), (c2, .array .int), (cZ, .boolean)] ([(o1, .inr (5, [.ref o2, .ref o7, .ref o9, .int v12, .int v13, .int v14]))]) sz)) (va_Qi (fun (r : Int32) (_ : Unit) => True) (fun _ t => wPost (dC, dI) [(cI, .int), (c2, .array .int), (cZ, .boolean)] (va_A ([(o1, .inr (5, [.ref o2, .ref o7, .ref o9, .int v12, .int v13, .int v14]))]) sz) ([(o1, .inr (5, [.ref o2, .ref o7, .ref o9, .int v12, .int v13, .int v14]))]) t) (va_A ([(o1, .inr (5, [.ref o2, .ref o7, .ref o9, .int v12, .int v13, .int v14]))]) sz)) 0 0 (va_A ([(o1, .inr (5, [.ref o2, .ref o7, .ref o9, .int v12, .int v13, .int v14]))]) sz) := by
  refine Met.ofW (cc := cX5_both) (maxL := 3) (ret := (some .int)) (by decide) rfl ?_
  intro p e s m args below meth c s₁ B hml hv
  obtain ⟨rfl, hsz, hP, hK, hD0, hN⟩ := hv
  have hx := B.exec
  have hb := B.bytes
  have hr := B.returns
  have hts := atoms_spec (ws := wsX5_both) B.pre
  have hown : s.vm.findClass RX5 = some m.cls := findClass_of_methodNamed B.named
  have hlocks := B.notSynchronized
  subst hsz
  have hD := hD0.self (sz := s.heap.size)
  generalize hAe : va_A ([(o1, .inr (5, [.ref o2, .ref o7, .ref o9, .int v12, .int v13, .int v14]))]) s.heap.size = A at hD ⊢
  have hA : ∀ q : Nat, s.heap.size ≤ q → A q := fun q h => by rw [← hAe]; exact Or.inr h
  have hS : va_S A s.heap s.heap [] := va_S.rf
  have hP : va_P (dC, dI) vwCl ([(o1, .inr (5, [.ref o2, .ref o7, .ref o9, .int v12, .int v13, .int v14]))]) s.heap := hP
  have hl := lv_entry ([.ref o1, .int a1, .int a2]) (n := 3) (Nat.le_of_ble_eq_true rfl)
  rw [lg_entry_eq]
  generalize (lg_sl ([.ref o1, .int a1, .int a2]) ++ List.replicate (3 - (lg_sl ([.ref o1, .int a1, .int a2])).length) Slot.unset).toArray = ls at hl ⊢
  have hl : lv_has ls 3 [(0, .ref o1), (1, .int a1), (2, .int a2)] := hl
  refine gen_Q (fun Q hQ => ?_)
  refine lv_aload_n hx hb dX5_both_0 rfl (lv_at hl 0 rfl) ?_
  refine va_get (D := (dC, dI)) (ci := 5) (v := .int v12) (C := RX5) (T := TX5) (N := 6) hx hb hts iw_X5_both_X5 hown hK hP 0 rfl rfl 3 (by decide) (hts (.fieldLink RX5 27 "HolelessHouse$LeastSearch" "rule" "I") hm_X5_both_1) (fun _ h9 => h9) rfl dX5_both_1 ?_
  refine lv_iconst (v := 2) hx hb dX5_both_4 (by decide) ?_
  refine lv_icmp_ne (tgt := 14) hx hb dX5_both_5 (by decide) (fun h1 => ?_) (fun h1 => ?_)
  ·
    refine lv_iload_n hx hb dX5_both_14 rfl (lv_at hl 1 rfl) ?_
    refine lv_iload_n hx hb dX5_both_15 rfl (lv_at hl 2 rfl) ?_
    refine va_mmax hx hb (hml.trans hl.1.symm) hown (hts (.methodLink RX5 73 Lib.Math.max.name) hm_X5_both_2) (hts (.static Lib.Math.max.name) hm_X5_both_3) (hts (.initialized "java/lang/Math") hm_X5_both_4) (hts (.code Lib.Math.max.name Lib.Math.max.code 2 (some .int)) hm_X5_both_5) (Nat.le_of_ble_eq_true rfl) (Nat.le_of_ble_eq_true rfl) (Nat.le_of_ble_eq_true rfl) (Nat.le_of_ble_eq_true rfl) dX5_both_16 (lv_topi (fun x2 x2_e => ?_))
    rw [hQ]
    exact W.iret (v := x2) hx hb hr (fun t ht hW => ⟨⟨x2, (), rfl, trivial, by rw [ht]; exact hP, va_K.moved hW.alike hK, hD⟩, hS.F ht⟩) hS.2.2 dX5_both_19
  ·
    have j3 : Iv 2 2 v12 := r_eq h1 ik_2
    refine lv_iload_n hx hb dX5_both_8 rfl (lv_at hl 1 rfl) ?_
    refine lv_iload_n hx hb dX5_both_9 rfl (lv_at hl 2 rfl) ?_
    refine lv_iadd hx hb dX5_both_10 (lv_topi (fun x4 x4_e => ?_))
    refine lv_goto (tgt := 19) hx hb dX5_both_11 (by decide) ?_
    rw [hQ]
    exact W.iret (v := x4) hx hb hr (fun t ht hW => ⟨⟨x4, (), rfl, trivial, by rw [ht]; exact hP, va_K.moved hW.alike hK, hD⟩, hS.F ht⟩) hS.2.2 dX5_both_19
