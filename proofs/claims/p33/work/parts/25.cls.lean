theorem hm_X5_priceAll_1 : (.fieldLink RX5 24 "HolelessHouse$LeastSearch" "prices" "[[I" : Cond) ∈ wsX5_priceAll := List.mem_of_getElem? (i := 1) rfl
theorem hm_X5_priceAll_2 : (.fieldLink RX5 34 "HolelessHouse$LeastSearch" "size" "I" : Cond) ∈ wsX5_priceAll := List.mem_of_getElem? (i := 2) rfl
theorem hm_X5_priceAll_6 : (.initialized RX11 : Cond) ∈ wsX5_priceAll := List.mem_of_getElem? (i := 6) rfl
theorem hm_X5_priceAll_5 : (.static yX11_in : Cond) ∈ wsX5_priceAll := List.mem_of_getElem? (i := 5) rfl
theorem hm_X5_priceAll_3 : (.fieldLink RX5 12 "HolelessHouse$LeastSearch" "going" "LHolelessHouse$Going;" : Cond) ∈ wsX5_priceAll := List.mem_of_getElem? (i := 3) rfl
theorem hm_X5_priceAll_4 : (.fieldLink RX5 27 "HolelessHouse$LeastSearch" "rule" "I" : Cond) ∈ wsX5_priceAll := List.mem_of_getElem? (i := 4) rfl
theorem hm_X5_priceAll_9 : (.initialized RX3 : Cond) ∈ wsX5_priceAll := List.mem_of_getElem? (i := 9) rfl
theorem hm_X5_priceAll_8 : (.instanceMethod yX3_price : Cond) ∈ wsX5_priceAll := List.mem_of_getElem? (i := 8) rfl
theorem hm_X5_priceAll_10 : (.selects RX3 yX3_price yX3_price : Cond) ∈ wsX5_priceAll := List.mem_of_getElem? (i := 10) rfl
theorem hm_X3_hasWayOutside_1 : (.fieldLink RX3 11 "HolelessHouse$Going" "near" "[[I" : Cond) ∈ wsX3_hasWayOutside := List.mem_of_getElem? (i := 1) rfl
theorem hm_X3_hasWayOutside_2 : (.fieldLink RX3 16 "HolelessHouse$Going" "size" "I" : Cond) ∈ wsX3_hasWayOutside := List.mem_of_getElem? (i := 2) rfl
theorem hm_X3_hasWayOutside_4 : (.initialized RX11 : Cond) ∈ wsX3_hasWayOutside := List.mem_of_getElem? (i := 4) rfl
theorem hm_X3_hasWayOutside_11 : (.static yX11_reached : Cond) ∈ wsX3_hasWayOutside := List.mem_of_getElem? (i := 11) rfl
theorem hm_X3_hasWayOutside_3 : (.static yX11_in : Cond) ∈ wsX3_hasWayOutside := List.mem_of_getElem? (i := 3) rfl
theorem hm_X5_neverWrong_1 : (.fieldLink RX5 27 "HolelessHouse$LeastSearch" "rule" "I" : Cond) ∈ wsX5_neverWrong := List.mem_of_getElem? (i := 1) rfl
theorem hm_X5_neverWrong_3 : (.fieldLink RX5 24 "HolelessHouse$LeastSearch" "prices" "[[I" : Cond) ∈ wsX5_neverWrong := List.mem_of_getElem? (i := 3) rfl
theorem hm_X5_neverWrong_4 : (.fieldLink RX5 34 "HolelessHouse$LeastSearch" "size" "I" : Cond) ∈ wsX5_neverWrong := List.mem_of_getElem? (i := 4) rfl
theorem hm_X5_neverWrong_2 : (.fieldLink RX5 12 "HolelessHouse$LeastSearch" "going" "LHolelessHouse$Going;" : Cond) ∈ wsX5_neverWrong := List.mem_of_getElem? (i := 2) rfl
theorem hm_X5_neverWrong_6 : (.initialized RX3 : Cond) ∈ wsX5_neverWrong := List.mem_of_getElem? (i := 6) rfl
theorem hm_X5_neverWrong_25 : (.instanceMethod yX3_hasWayOutside : Cond) ∈ wsX5_neverWrong := List.mem_of_getElem? (i := 25) rfl
theorem hm_X5_neverWrong_26 : (.selects RX3 yX3_hasWayOutside yX3_hasWayOutside : Cond) ∈ wsX5_neverWrong := List.mem_of_getElem? (i := 26) rfl
theorem hm_X5_neverWrong_5 : (.instanceMethod yX3_leastTight : Cond) ∈ wsX5_neverWrong := List.mem_of_getElem? (i := 5) rfl
theorem hm_X5_neverWrong_7 : (.selects RX3 yX3_leastTight yX3_leastTight : Cond) ∈ wsX5_neverWrong := List.mem_of_getElem? (i := 7) rfl
set_option maxHeartbeats 4000000 in
set_option maxRecDepth 100000 in
theorem kJ7_rangeCheck_23922_1 (l : Launch) (dC : Nat → ClassId) (dI : Nat → Nat → Nat) (cI c2 cZ : ClassId) (a0 : Int32) (a1 : Int32) (a2 : Int32) (sz : Nat) (a0_h : Iv 4096 4096 a0) (a1_h : Iv 0 0 a1) (a2_h : Iv 1 4096 a2) : Met l yJ7_rangeCheck_23922 wsJ7_rangeCheck_23922 ({ frames := 0, cells := 0, slots := 0, locals := 0 }) (va_Pc [.int a0, .int a1, .int a2] (wPre (dC, dI) [(cI, .int), (c2, .array .int), (cZ, .boolean)] ([]) sz)) (va_Qv (fun (_ : Unit) => True) (fun _ t => wPost (dC, dI) [(cI, .int), (c2, .array .int), (cZ, .boolean)] (va_A ([]) sz) ([]) t) (va_A ([]) sz)) 0 0 (va_A ([]) sz) := by
  refine Met.ofW (cc := cJ7_rangeCheck_23922) (maxL := 3) (ret := none) (by decide) rfl ?_
  intro p e s m args below meth c s₁ B hml hv
  obtain ⟨rfl, hsz, hP, hK, hD0, hN⟩ := hv
  have hx := B.exec
  have hb := B.bytes
  have hr := B.returns
  have hts := atoms_spec (ws := wsJ7_rangeCheck_23922) B.pre
  have hown : s.vm.findClass RJ7 = some m.cls := findClass_of_methodNamed B.named
  have hlocks := B.notSynchronized
  subst hsz
  have hD := hD0.self (sz := s.heap.size)
  generalize hAe : va_A ([]) s.heap.size = A at hD ⊢
  have hA : ∀ q : Nat, s.heap.size ≤ q → A q := fun q h => by rw [← hAe]; exact Or.inr h
  have hS : va_S A s.heap s.heap [] := va_S.rf
  have hP : va_P (dC, dI) vwCl ([]) s.heap := hP
  have hl := lv_entry ([.int a0, .int a1, .int a2]) (n := 3) (Nat.le_of_ble_eq_true rfl)
  rw [lg_entry_eq]
  generalize (lg_sl ([.int a0, .int a1, .int a2]) ++ List.replicate (3 - (lg_sl ([.int a0, .int a1, .int a2])).length) Slot.unset).toArray = ls at hl ⊢
  have hl : lv_has ls 3 [(0, .int a0), (1, .int a1), (2, .int a2)] := hl
  refine gen_Q (fun Q hQ => ?_)
  refine lv_iload_n hx hb dJ7_rangeCheck_23922_0 rfl (lv_at hl 1 rfl) ?_
  refine lv_iload_n hx hb dJ7_rangeCheck_23922_1 rfl (lv_at hl 2 rfl) ?_
  refine lv_icmp_le (tgt := 46) hx hb dJ7_rangeCheck_23922_2 (by decide) (fun _ => ?_) (fun h9 => absurd (d_le a1_h a2_h (by decide)) h9)
  refine lv_iload_n hx hb dJ7_rangeCheck_23922_46 rfl (lv_at hl 1 rfl) ?_
  refine lv_if_ge (tgt := 59) hx hb dJ7_rangeCheck_23922_47 (by decide) (fun _ => ?_) (fun h9 => absurd (d_le ik_0 a1_h (by decide)) h9)
  refine lv_iload_n hx hb dJ7_rangeCheck_23922_59 rfl (lv_at hl 2 rfl) ?_
  refine lv_iload_n hx hb dJ7_rangeCheck_23922_60 rfl (lv_at hl 0 rfl) ?_
  refine lv_icmp_le (tgt := 73) hx hb dJ7_rangeCheck_23922_61 (by decide) (fun _ => ?_) (fun h9 => absurd (d_le a2_h a0_h (by decide)) h9)
  rw [hQ]
  exact W.vret hx hb hr (fun t ht hW => ⟨⟨(), rfl, trivial, by rw [ht]; exact hP, va_K.moved hW.alike hK, hD⟩, hS.F ht⟩) hS.2.2 dJ7_rangeCheck_23922_73
set_option maxHeartbeats 4000000 in
set_option maxRecDepth 100000 in
theorem kJ7_fill_fda19_1 (l : Launch) (dC : Nat → ClassId) (dI : Nat → Nat → Nat) (cI c2 cZ : ClassId) (o1 : Nat) (fw2 : Nat → Int32) (a1 : Int32) (a2 : Int32) (a3 : Int32) (sz : Nat) (a1_h : Iv 0 0 a1) (a2_h : Iv 1 4096 a2) (a3_h : Iv (-1) (-1) a3) : Met l yJ7_fill_fda19 wsJ7_fill_fda19 ({ frames := 1, cells := 0, slots := 0, locals := 22 }) (va_Pc [.ref o1, .int a1, .int a2, .int a3] (wPre (dC, dI) [(cI, .int), (c2, .array .int), (cZ, .boolean)] ([(o1, .inl (cI, 4096, .inl fw2))]) sz)) (va_Qv (fun (u : (Nat → Int32)) => True) (fun u t => wPost (dC, dI) [(cI, .int), (c2, .array .int), (cZ, .boolean)] (va_A ([(o1, .inl (cI, 4096, .inl fw2))]) sz) ([(o1, .inl (cI, 4096, .inl u))]) t) (va_A ([(o1, .inl (cI, 4096, .inl fw2))]) sz)) 0 0 (va_A ([(o1, .inl (cI, 4096, .inl fw2))]) sz) := by
  refine Met.ofW (cc := cJ7_fill_fda19) (maxL := 5) (ret := none) (by decide) rfl ?_
  intro p e s m args below meth c s₁ B hml hv
  obtain ⟨rfl, hsz, hP, hK, hD0, hN⟩ := hv
  have hx := B.exec
  have hb := B.bytes
  have hr := B.returns
  have hts := atoms_spec (ws := wsJ7_fill_fda19) B.pre
  have hown : s.vm.findClass RJ7 = some m.cls := findClass_of_methodNamed B.named
  have hlocks := B.notSynchronized
  subst hsz
  have hD := hD0.self (sz := s.heap.size)
  generalize hAe : va_A ([(o1, .inl (cI, 4096, .inl fw2))]) s.heap.size = A at hD ⊢
  have hA : ∀ q : Nat, s.heap.size ≤ q → A q := fun q h => by rw [← hAe]; exact Or.inr h
  have hS : va_S A s.heap s.heap [] := va_S.rf
  have hP : va_P (dC, dI) vwCl ([(o1, .inl (cI, 4096, .inl fw2))]) s.heap := hP
  have hl := lv_entry ([.ref o1, .int a1, .int a2, .int a3]) (n := 5) (Nat.le_of_ble_eq_true rfl)
  rw [lg_entry_eq]
  generalize (lg_sl ([.ref o1, .int a1, .int a2, .int a3]) ++ List.replicate (5 - (lg_sl ([.ref o1, .int a1, .int a2, .int a3])).length) Slot.unset).toArray = ls at hl ⊢
  have hl : lv_has ls 5 [(0, .ref o1), (1, .int a1), (2, .int a2), (3, .int a3)] := hl
  refine gen_Q (fun Q hQ => ?_)
  refine lv_aload_n hx hb dJ7_fill_fda19_0 rfl (lv_at hl 0 rfl) ?_
  refine va_alen (v := 4096) hx hb hK hP 0 0 rfl rfl (by show Int32.ofNat 4096 = 4096; decide +kernel) dJ7_fill_fda19_1 ?_
  refine lv_iload_n hx hb dJ7_fill_fda19_2 rfl (lv_at hl 1 rfl) ?_
  refine lv_iload_n hx hb dJ7_fill_fda19_3 rfl (lv_at hl 2 rfl) ?_
  refine kc_v (D := (dC, dI)) (S := Unit) (wc := []) (wr := [(o1, .inl (cI, 4096, .inl fw2))]) (w1 := fun _ => []) (wn := fun _ => [(o1, .inl (cI, 4096, .inl fw2))]) (fun hPc hDc => va_runS (As := [.int 4096, .int a1, .int a2]) (rest := []) ⟨hx, hb, hml, hown, hts⟩ (kJ7_rangeCheck_23922_1 l dC dI cI c2 cZ 4096 a1 a2 s.heap.size ik_4096 a1_h a2_h) (va_cwS 3 hts gJ7_fill_fda19_J7_rangeCheck_23922 rfl rfl rfl (by decide +kernel) ⟨Nat.le_of_ble_eq_true rfl, Nat.le_of_ble_eq_true rfl⟩) (pre_S hPc hK hDc hN) rfl rfl hl.1 rfl (lv_room (Nat.le_of_ble_eq_true rfl)) dJ7_fill_fda19_4 ⟨Nat.le_of_ble_eq_true rfl, Nat.le_of_ble_eq_true rfl⟩) hP hD hS hA [] [0] [0] rfl rfl (by decide +kernel) (by decide +kernel) (by decide +kernel) (by decide +kernel) (fun _ => rfl) (fun _ H locs hq hP hD hS => ?_)
  have hP : va_P (dC, dI) vwCl ([(o1, .inl (cI, 4096, .inl fw2))]) H := hP
  have hD : va_D A ([(o1, .inl (cI, 4096, .inl fw2))]) := hD
  refine lv_iload_n hx hb dJ7_fill_fda19_7 rfl (lv_at hl 1 rfl) ?_
  refine lv_istore (lv' := [(4, .int a1), (0, .ref o1), (1, .int a1), (2, .int a2), (3, .int a3)]) hx hb dJ7_fill_fda19_8 hl (by decide) rfl (fun ls hl => ?_)
  have L1 : ∀ (N : Nat) (x150 : Int32) (f151 : Nat → Int32) (H : Heap) (locs : List Loc) (ls : Array Slot), (4096 - x150.toInt).toNat < N → Iv 0 4096 x150 → va_P (dC, dI) vwCl ([(o1, .inl (cI, 4096, .inl f151))]) H → va_D A ([(o1, .inl (cI, 4096, .inl f151))]) → va_S A s.heap H locs → lv_has ls 5 [(4, .int x150), (0, .ref o1), (1, .int a1), (2, .int a2), (3, .int a3)] → W p l e ({ frames := 1, cells := 0, slots := 0, locals := 22 }) s m ([.ref o1, .int a1, .int a2, .int a3] : List Value).toArray below meth c H locs 0 0 Q (F0 m 10 ls []) := by
    intro N
    induction N with
    | zero =>
      intro x150 f151 H locs ls hM
      exact absurd hM (Nat.not_lt_zero _)
    | succ N ih1 =>
      intro x150 f151 H locs ls hM1 x150_h hP hD hS hl
      refine lv_iload hx hb dJ7_fill_fda19_10 (lv_at hl 0 rfl) ?_
      refine lv_iload_n hx hb dJ7_fill_fda19_12 rfl (lv_at hl 3 rfl) ?_
      refine lv_icmp_ge (tgt := 27) hx hb dJ7_fill_fda19_13 (by decide) (fun h152 => ?_) (fun h152 => ?_)
      ·
        have qh152 := le_i h152
        have j153 : Iv 1 4096 x150 := r_ler qh152 a2_h x150_h (by decide)
        rw [hQ]
        exact W.vret hx hb hr (fun t ht hW => ⟨⟨f151, rfl, trivial, by rw [ht]; exact hP, va_K.moved hW.alike hK, hD⟩, hS.F ht⟩) hS.2.2 dJ7_fill_fda19_27
      ·
        have qh152 := nle_i h152
        have j154 : Iv 0 4095 x150 := r_ltl qh152 x150_h a2_h (by decide)
        refine lv_aload_n hx hb dJ7_fill_fda19_16 rfl (lv_at hl 1 rfl) ?_
        refine lv_iload hx hb dJ7_fill_fda19_17 (lv_at hl 0 rfl) ?_
        refine lv_iload_n hx hb dJ7_fill_fda19_19 rfl (lv_at hl 4 rfl) ?_
        refine k_iast hx hb hK hP hD hS 0 0 rfl rfl (vin_iv j154 (by decide)) dJ7_fill_fda19_20 (fun f155 H locs f155_e hP hD hS => ?_)
        have hP : va_P (dC, dI) vwCl ([(o1, .inl (cI, 4096, .inl f155))]) H := hP
        have hD : va_D A ([(o1, .inl (cI, 4096, .inl f155))]) := hD
        obtain ⟨x156, x156_e⟩ : ∃ z : Int32, z = x150 + 1 := ⟨_, rfl⟩
        have x156_h : Iv 1 4096 x156 := iv_e x156_e (iv_add j154 ik_1 (by decide))
        refine lv_iinc (v := x156) (lv' := [(4, .int x156), (0, .ref o1), (1, .int a1), (2, .int a2), (3, .int a3)]) hx hb dJ7_fill_fda19_21 hl (k := 0) rfl (incN (by decide +kernel) x156_e) (by decide) rfl (fun ls hl => ?_)
        refine lv_goto (tgt := 10) hx hb dJ7_fill_fda19_24 (by decide) ?_
        exact ih1 x156 f155 _ _ _ (ms_up x156_e j154 (by decide) hM1) (iv_w x156_h (by decide)) hP hD hS hl
  exact L1 _ a1 fw2 _ _ _ (Nat.lt_succ_self _) (iv_w a1_h (by decide)) hP hD hS hl
theorem iw_X5_priceAll_X5 : ∀ w ∈ wsX50, w ∈ wsX5_priceAll := fun _ h => List.mem_cons.mpr (Or.inr (List.mem_append.mpr (Or.inl (List.mem_append.mpr (Or.inr h)))))
set_option maxHeartbeats 4000000 in
set_option maxRecDepth 100000 in
theorem kX5_priceAll_1 (l : Launch) (dC : Nat → ClassId) (dI : Nat → Nat → Nat) (cI c2 cZ : ClassId) (o1 : Nat) (o2 : Nat) (o7 : Nat) (o9 : Nat) (o3 : Nat) (rw4 : Nat → Nat) (Gw5 : Nat → Nat → Int32) (v6 : Int32) (rw10 : Nat → Nat) (Gw11 : Nat → Nat → Int32) (v12 : Int32) (v13 : Int32) (v14 : Int32) (a1 : Int32) (a2 : Int32) (sz : Nat) (Gw5_b : Bg 13 12 0 4095 Gw5) (v6_h : Iv 0 12 v6) (v13_h : Iv 0 4095 v13) (v14_h : Iv 0 12 v14) (a1_h : Iv 0 11 a1) (a2_h : Iv 0 4095 a2) : Met l yX5_priceAll wsX5_priceAll ({ frames := 3, cells := 0, slots := 0, locals := 71 }) (va_Pc [.ref o1, .int a1, .int a2] (wPre (dC, dI) [(cI, .int), (c2, .array .int), (cZ, .boolean)] (([(o1, .inr (5, [.ref o2, .ref o7, .ref o9, .int v12, .int v13, .int v14])), (o9, .inl (c2, 12, .inr (.inr (.inr (.inr (fun i => if i < 12 then some (rw10 i) else none)))))), (o2, .inr (3, [.ref o3, .int v6])), (o3, .inl (c2, 13, .inr (.inr (.inr (.inr (fun i => if i < 13 then some (rw4 i) else none))))))] : va_W) ++ (gr12 rw10 cI 12 Gw11 ++ (gr13 rw4 cI 12 Gw5 ++ ([] : va_W)))) sz)) (va_Qi (fun (r : Int32) (u : (Nat → Nat → Int32)) => Iv 0 11 r) (fun u t => wPost (dC, dI) [(cI, .int), (c2, .array .int), (cZ, .boolean)] (va_A (([(o1, .inr (5, [.ref o2, .ref o7, .ref o9, .int v12, .int v13, .int v14])), (o9, .inl (c2, 12, .inr (.inr (.inr (.inr (fun i => if i < 12 then some (rw10 i) else none)))))), (o2, .inr (3, [.ref o3, .int v6])), (o3, .inl (c2, 13, .inr (.inr (.inr (.inr (fun i => if i < 13 then some (rw4 i) else none))))))] : va_W) ++ (gr12 rw10 cI 12 Gw11 ++ (gr13 rw4 cI 12 Gw5 ++ ([] : va_W)))) sz) (([(o1, .inr (5, [.ref o2, .ref o7, .ref o9, .int v12, .int v13, .int v14])), (o9, .inl (c2, 12, .inr (.inr (.inr (.inr (fun i => if i < 12 then some (rw10 i) else none)))))), (o2, .inr (3, [.ref o3, .int v6])), (o3, .inl (c2, 13, .inr (.inr (.inr (.inr (fun i => if i < 13 then some (rw4 i) else none))))))] : va_W) ++ (gr12 rw10 cI 12 u ++ (gr13 rw4 cI 12 Gw5 ++ ([] : va_W)))) t) (va_A (([(o1, .inr (5, [.ref o2, .ref o7, .ref o9, .int v12, .int v13, .int v14])), (o9, .inl (c2, 12, .inr (.inr (.inr (.inr (fun i => if i < 12 then some (rw10 i) else none)))))), (o2, .inr (3, [.ref o3, .int v6])), (o3, .inl (c2, 13, .inr (.inr (.inr (.inr (fun i => if i < 13 then some (rw4 i) else none))))))] : va_W) ++ (gr12 rw10 cI 12 Gw11 ++ (gr13 rw4 cI 12 Gw5 ++ ([] : va_W)))) sz)) 0 0 (va_A (([(o1, .inr (5, [.ref o2, .ref o7, .ref o9, .int v12, .int v13, .int v14])), (o9, .inl (c2, 12, .inr (.inr (.inr (.inr (fun i => if i < 12 then some (rw10 i) else none)))))), (o2, .inr (3, [.ref o3, .int v6])), (o3, .inl (c2, 13, .inr (.inr (.inr (.inr (fun i => if i < 13 then some (rw4 i) else none))))))] : va_W) ++ (gr12 rw10 cI 12 Gw11 ++ (gr13 rw4 cI 12 Gw5 ++ ([] : va_W)))) sz) := by
  refine Met.ofW (cc := cX5_priceAll) (maxL := 6) (ret := (some .int)) (by decide) rfl ?_
  intro p e s m args below meth c s₁ B hml hv
  obtain ⟨rfl, hsz, hP, hK, hD0, hN⟩ := hv
  have hx := B.exec
  have hb := B.bytes
  have hr := B.returns
  have hts := atoms_spec (ws := wsX5_priceAll) B.pre
  have hown : s.vm.findClass RX5 = some m.cls := findClass_of_methodNamed B.named
  have hlocks := B.notSynchronized
  subst hsz
  have hD := hD0.self (sz := s.heap.size)
  generalize hAe : va_A (([(o1, .inr (5, [.ref o2, .ref o7, .ref o9, .int v12, .int v13, .int v14])), (o9, .inl (c2, 12, .inr (.inr (.inr (.inr (fun i => if i < 12 then some (rw10 i) else none)))))), (o2, .inr (3, [.ref o3, .int v6])), (o3, .inl (c2, 13, .inr (.inr (.inr (.inr (fun i => if i < 13 then some (rw4 i) else none))))))] : va_W) ++ (gr12 rw10 cI 12 Gw11 ++ (gr13 rw4 cI 12 Gw5 ++ ([] : va_W)))) s.heap.size = A at hD ⊢
  have hA : ∀ q : Nat, s.heap.size ≤ q → A q := fun q h => by rw [← hAe]; exact Or.inr h
  have hS : va_S A s.heap s.heap [] := va_S.rf
  have hP : va_P (dC, dI) vwCl (([(o1, .inr (5, [.ref o2, .ref o7, .ref o9, .int v12, .int v13, .int v14])), (o9, .inl (c2, 12, .inr (.inr (.inr (.inr (fun i => if i < 12 then some (rw10 i) else none)))))), (o2, .inr (3, [.ref o3, .int v6])), (o3, .inl (c2, 13, .inr (.inr (.inr (.inr (fun i => if i < 13 then some (rw4 i) else none))))))] : va_W) ++ (gr12 rw10 cI 12 Gw11 ++ (gr13 rw4 cI 12 Gw5 ++ ([] : va_W)))) s.heap := hP
  have hl := lv_entry ([.ref o1, .int a1, .int a2]) (n := 6) (Nat.le_of_ble_eq_true rfl)
  rw [lg_entry_eq]
  generalize (lg_sl ([.ref o1, .int a1, .int a2]) ++ List.replicate (6 - (lg_sl ([.ref o1, .int a1, .int a2])).length) Slot.unset).toArray = ls at hl ⊢
  have hl : lv_has ls 6 [(0, .ref o1), (1, .int a1), (2, .int a2)] := hl
  refine gen_Q (fun Q hQ => ?_)
  refine lv_aload_n hx hb dX5_priceAll_0 rfl (lv_at hl 0 rfl) ?_
  refine va_get (D := (dC, dI)) (ci := 5) (v := .ref o9) (C := RX5) (T := TX5) (N := 6) hx hb hts iw_X5_priceAll_X5 hown hK hP 0 rfl rfl 2 (by decide) (hts (.fieldLink RX5 24 "HolelessHouse$LeastSearch" "prices" "[[I") hm_X5_priceAll_1) (fun _ h9 => h9) rfl dX5_priceAll_1 ?_
  refine lv_iload_n hx hb dX5_priceAll_4 rfl (lv_at hl 1 rfl) ?_
  refine va_alda hx hb hK hP 1 1 rfl rfl (vin_iv a1_h (by decide)) dX5_priceAll_5 (tk_r (v := .ref (rw10 (Int32.toNatClampNeg a1))) (gr_ref (cl_lt a1_h (by decide))) ?_)
  refine lv_astore_n (lv' := [(3, .ref (rw10 (Int32.toNatClampNeg a1))), (0, .ref o1), (1, .int a1), (2, .int a2)]) hx hb dX5_priceAll_6 rfl hl (by decide) rfl (fun ls hl => ?_)
  refine lv_iconst (v := 0) hx hb dX5_priceAll_7 (by decide) ?_
  refine lv_istore (lv' := [(4, .int 0), (3, .ref (rw10 (Int32.toNatClampNeg a1))), (0, .ref o1), (1, .int a1), (2, .int a2)]) hx hb dX5_priceAll_8 hl (by decide) rfl (fun ls hl => ?_)
  refine lv_iconst (v := 0) hx hb dX5_priceAll_10 (by decide) ?_
  refine lv_istore (lv' := [(5, .int 0), (4, .int 0), (3, .ref (rw10 (Int32.toNatClampNeg a1))), (0, .ref o1), (1, .int a1), (2, .int a2)]) hx hb dX5_priceAll_11 hl (by decide) rfl (fun ls hl => ?_)
  have L1 : ∀ (N : Nat) (x225 : Int32) (G226 : Nat → Nat → Int32) (x227 : Int32) (H : Heap) (locs : List Loc) (ls : Array Slot), (12 - x225.toInt).toNat < N → Iv 0 12 x225 → Iv 0 11 x227 → va_P (dC, dI) vwCl (([(o1, .inr (5, [.ref o2, .ref o7, .ref o9, .int v12, .int v13, .int v14])), (o9, .inl (c2, 12, .inr (.inr (.inr (.inr (fun i => if i < 12 then some (rw10 i) else none)))))), (o2, .inr (3, [.ref o3, .int v6])), (o3, .inl (c2, 13, .inr (.inr (.inr (.inr (fun i => if i < 13 then some (rw4 i) else none))))))] : va_W) ++ (gr12 rw10 cI 12 G226 ++ (gr13 rw4 cI 12 Gw5 ++ ([] : va_W)))) H → va_D A (([(o1, .inr (5, [.ref o2, .ref o7, .ref o9, .int v12, .int v13, .int v14])), (o9, .inl (c2, 12, .inr (.inr (.inr (.inr (fun i => if i < 12 then some (rw10 i) else none)))))), (o2, .inr (3, [.ref o3, .int v6])), (o3, .inl (c2, 13, .inr (.inr (.inr (.inr (fun i => if i < 13 then some (rw4 i) else none))))))] : va_W) ++ (gr12 rw10 cI 12 G226 ++ (gr13 rw4 cI 12 Gw5 ++ ([] : va_W)))) → va_S A s.heap H locs → lv_has ls 6 [(5, .int x225), (4, .int x227), (3, .ref (rw10 (Int32.toNatClampNeg a1))), (0, .ref o1), (1, .int a1), (2, .int a2)] → W p l e ({ frames := 3, cells := 0, slots := 0, locals := 71 }) s m ([.ref o1, .int a1, .int a2] : List Value).toArray below meth c H locs 0 0 Q (F0 m 13 ls []) := by
    intro N
    induction N with
    | zero =>
      intro x225 G226 x227 H locs ls hM
      exact absurd hM (Nat.not_lt_zero _)
    | succ N ih1 =>
      intro x225 G226 x227 H locs ls hM1 x225_h x227_h hP hD hS hl
      refine lv_iload hx hb dX5_priceAll_13 (lv_at hl 0 rfl) ?_
      refine lv_aload_n hx hb dX5_priceAll_15 rfl (lv_at hl 3 rfl) ?_
      refine va_get (D := (dC, dI)) (ci := 5) (v := .int v14) (C := RX5) (T := TX5) (N := 6) hx hb hts iw_X5_priceAll_X5 hown hK hP 0 rfl rfl 5 (by decide) (hts (.fieldLink RX5 34 "HolelessHouse$LeastSearch" "size" "I") hm_X5_priceAll_2) (fun _ h9 => h9) rfl dX5_priceAll_16 ?_
      refine lv_icmp_ge (tgt := 81) hx hb dX5_priceAll_19 (by decide) (fun h228 => ?_) (fun h228 => ?_)
      ·
        have qh228 := le_i h228
        refine lv_iload hx hb dX5_priceAll_81 (lv_at hl 1 rfl) ?_
        rw [hQ]
        exact W.iret (v := x227) hx hb hr (fun t ht hW => ⟨⟨x227, G226, rfl, x227_h, by rw [ht]; exact hP, va_K.moved hW.alike hK, hD⟩, hS.F ht⟩) hS.2.2 dX5_priceAll_83
      ·
        have qh228 := nle_i h228
        have j229 : Iv 0 11 x225 := r_ltl qh228 x225_h v14_h (by decide)
        have j230 : Iv 1 12 v14 := r_ltr qh228 x225_h v14_h (by decide)
        refine lv_aload_n hx hb dX5_priceAll_22 rfl (lv_at hl 2 rfl) ?_
        refine lv_iload hx hb dX5_priceAll_23 (lv_at hl 0 rfl) ?_
        refine lv_iload_n hx hb dX5_priceAll_25 rfl (lv_at hl 5 rfl) ?_
        refine lv_iload hx hb dX5_priceAll_26 (lv_at hl 0 rfl) ?_
        refine kc_i (D := (dC, dI)) (S := Unit) (wc := []) (wr := ([(o1, .inr (5, [.ref o2, .ref o7, .ref o9, .int v12, .int v13, .int v14])), (o9, .inl (c2, 12, .inr (.inr (.inr (.inr (fun i => if i < 12 then some (rw10 i) else none)))))), (o2, .inr (3, [.ref o3, .int v6])), (o3, .inl (c2, 13, .inr (.inr (.inr (.inr (fun i => if i < 13 then some (rw4 i) else none))))))] : va_W) ++ (gr12 rw10 cI 12 G226 ++ (gr13 rw4 cI 12 Gw5 ++ ([] : va_W)))) (w1 := fun _ => []) (wn := fun _ => ([(o1, .inr (5, [.ref o2, .ref o7, .ref o9, .int v12, .int v13, .int v14])), (o9, .inl (c2, 12, .inr (.inr (.inr (.inr (fun i => if i < 12 then some (rw10 i) else none)))))), (o2, .inr (3, [.ref o3, .int v6])), (o3, .inl (c2, 13, .inr (.inr (.inr (.inr (fun i => if i < 13 then some (rw4 i) else none))))))] : va_W) ++ (gr12 rw10 cI 12 G226 ++ (gr13 rw4 cI 12 Gw5 ++ ([] : va_W)))) (fun hPc hDc => va_runSN (As := [.int a2, .int x225]) (rest := [.int x225, .ref (rw10 (Int32.toNatClampNeg a1))]) ⟨hx, hb, hml, hown, hts⟩ (kX11_in_1 l dC dI cI c2 cZ a2 x225 H.size) ⟨va_cnB 2 hts gX5_priceAll_X11_in_n57 rfl rfl rfl (hN.1 _ ns_95) (hts (.initialized RX11) hm_X5_priceAll_6) (by decide +kernel) ⟨Nat.le_of_ble_eq_true rfl, Nat.le_of_ble_eq_true rfl⟩, (hts (.static yX11_in) hm_X5_priceAll_5), trivial⟩ (pre_S hPc hK hDc hN) rfl rfl hl.1 rfl (lv_room (Nat.le_of_ble_eq_true rfl)) dX5_priceAll_28 ⟨Nat.le_of_ble_eq_true rfl, Nat.le_of_ble_eq_true rfl⟩) hP hD hS hA [] [0, 1, 2, 3, 4, 5, 6, 7, 8, 9, 10, 11, 12, 13, 14, 15, 16, 17, 18, 19, 20, 21, 22, 23, 24, 25, 26, 27, 28] [0, 1, 2, 3, 4, 5, 6, 7, 8, 9, 10, 11, 12, 13, 14, 15, 16, 17, 18, 19, 20, 21, 22, 23, 24, 25, 26, 27, 28] rfl (sp_R [true, true, true, true, true, true, true, true, true, true, true, true, true, true, true, true, true, true, true, true, true, true, true, true, true, true, true, true, true] rfl rfl (by decide +kernel)) (by decide +kernel) (by decide +kernel) (by decide +kernel) (by decide +kernel) (fun u => sp_N [true, true, true, true, true, true, true, true, true, true, true, true, true, true, true, true, true, true, true, true, true, true, true, true, true, true, true, true, true] [] [] ([] : va_W) 29 rfl rfl (by decide +kernel) (by decide +kernel) rfl rfl (by decide +kernel)) (fun x231 _ H locs hq hP hD hS => ?_)
        have x231_h := hq
        have hP : va_P (dC, dI) vwCl (([(o1, .inr (5, [.ref o2, .ref o7, .ref o9, .int v12, .int v13, .int v14])), (o9, .inl (c2, 12, .inr (.inr (.inr (.inr (fun i => if i < 12 then some (rw10 i) else none)))))), (o2, .inr (3, [.ref o3, .int v6])), (o3, .inl (c2, 13, .inr (.inr (.inr (.inr (fun i => if i < 13 then some (rw4 i) else none))))))] : va_W) ++ (gr12 rw10 cI 12 G226 ++ (gr13 rw4 cI 12 Gw5 ++ ([] : va_W)))) H := hP
        have hD : va_D A (([(o1, .inr (5, [.ref o2, .ref o7, .ref o9, .int v12, .int v13, .int v14])), (o9, .inl (c2, 12, .inr (.inr (.inr (.inr (fun i => if i < 12 then some (rw10 i) else none)))))), (o2, .inr (3, [.ref o3, .int v6])), (o3, .inl (c2, 13, .inr (.inr (.inr (.inr (fun i => if i < 13 then some (rw4 i) else none))))))] : va_W) ++ (gr12 rw10 cI 12 G226 ++ (gr13 rw4 cI 12 Gw5 ++ ([] : va_W)))) := hD
        refine lv_if_eq (tgt := 51) hx hb dX5_priceAll_31 (by decide) (fun h232 => ?_) (fun h232 => ?_)
        ·
          have j233 : Iv 0 0 x231 := r_eq h232 ik_0
          refine lv_sipush (v := 1000) hx hb dX5_priceAll_51 (by decide) ?_
          refine k_gast12 (i0 := (Int32.toNatClampNeg a1)) hx hb hK (pre := ([(o1, .inr (5, [.ref o2, .ref o7, .ref o9, .int v12, .int v13, .int v14])), (o9, .inl (c2, 12, .inr (.inr (.inr (.inr (fun i => if i < 12 then some (rw10 i) else none)))))), (o2, .inr (3, [.ref o3, .int v6])), (o3, .inl (c2, 13, .inr (.inr (.inr (.inr (fun i => if i < 13 then some (rw4 i) else none))))))] : va_W)) (po := (gr13 rw4 cI 12 Gw5 ++ ([] : va_W))) hP hD hS rfl (cl_lt a1_h (by decide)) 0 rfl (vin_iv j229 (by decide)) dX5_priceAll_54 (fun f234 G235 H locs f234_e G235_e hP hD hS => ?_)
          have hP : va_P (dC, dI) vwCl (([(o1, .inr (5, [.ref o2, .ref o7, .ref o9, .int v12, .int v13, .int v14])), (o9, .inl (c2, 12, .inr (.inr (.inr (.inr (fun i => if i < 12 then some (rw10 i) else none)))))), (o2, .inr (3, [.ref o3, .int v6])), (o3, .inl (c2, 13, .inr (.inr (.inr (.inr (fun i => if i < 13 then some (rw4 i) else none))))))] : va_W) ++ (gr12 rw10 cI 12 G235 ++ (gr13 rw4 cI 12 Gw5 ++ ([] : va_W)))) H := by simpa only [List.append_assoc] using hP
          have hD : va_D A (([(o1, .inr (5, [.ref o2, .ref o7, .ref o9, .int v12, .int v13, .int v14])), (o9, .inl (c2, 12, .inr (.inr (.inr (.inr (fun i => if i < 12 then some (rw10 i) else none)))))), (o2, .inr (3, [.ref o3, .int v6])), (o3, .inl (c2, 13, .inr (.inr (.inr (.inr (fun i => if i < 13 then some (rw4 i) else none))))))] : va_W) ++ (gr12 rw10 cI 12 G235 ++ (gr13 rw4 cI 12 Gw5 ++ ([] : va_W)))) := by simpa only [List.append_assoc] using hD
          refine lv_aload_n hx hb dX5_priceAll_55 rfl (lv_at hl 2 rfl) ?_
          refine lv_iload hx hb dX5_priceAll_56 (lv_at hl 0 rfl) ?_
          refine va_iald hx hb hK hP (4 + (Int32.toNatClampNeg a1)) 0 (gr12_get (pre := ([(o1, .inr (5, [.ref o2, .ref o7, .ref o9, .int v12, .int v13, .int v14])), (o9, .inl (c2, 12, .inr (.inr (.inr (.inr (fun i => if i < 12 then some (rw10 i) else none)))))), (o2, .inr (3, [.ref o3, .int v6])), (o3, .inl (c2, 13, .inr (.inr (.inr (.inr (fun i => if i < 13 then some (rw4 i) else none))))))] : va_W)) (post := (gr13 rw4 cI 12 Gw5 ++ ([] : va_W))) rfl (cl_lt a1_h (by decide))) rfl (vin_iv j229 (by decide)) dX5_priceAll_58 (lv_topi (fun x236 x236_e => ?_))
          refine lv_aload_n hx hb dX5_priceAll_59 rfl (lv_at hl 2 rfl) ?_
          refine lv_iload hx hb dX5_priceAll_60 (lv_at hl 1 rfl) ?_
          refine va_iald hx hb hK hP (4 + (Int32.toNatClampNeg a1)) 0 (gr12_get (pre := ([(o1, .inr (5, [.ref o2, .ref o7, .ref o9, .int v12, .int v13, .int v14])), (o9, .inl (c2, 12, .inr (.inr (.inr (.inr (fun i => if i < 12 then some (rw10 i) else none)))))), (o2, .inr (3, [.ref o3, .int v6])), (o3, .inl (c2, 13, .inr (.inr (.inr (.inr (fun i => if i < 13 then some (rw4 i) else none))))))] : va_W)) (post := (gr13 rw4 cI 12 Gw5 ++ ([] : va_W))) rfl (cl_lt a1_h (by decide))) rfl (vin_iv x227_h (by decide)) dX5_priceAll_62 (lv_topi (fun x237 x237_e => ?_))
          refine lv_icmp_ge (tgt := 71) hx hb dX5_priceAll_63 (by decide) (fun h238 => ?_) (fun h238 => ?_)
          ·
            have qh238 := le_i h238
            refine lv_iload hx hb dX5_priceAll_71 (lv_at hl 1 rfl) ?_
            refine lv_istore (lv' := [(4, .int x227), (5, .int x225), (3, .ref (rw10 (Int32.toNatClampNeg a1))), (0, .ref o1), (1, .int a1), (2, .int a2)]) hx hb dX5_priceAll_73 hl (by decide) rfl (fun ls hl => ?_)
            obtain ⟨x239, x239_e⟩ : ∃ z : Int32, z = x225 + 1 := ⟨_, rfl⟩
            have x239_h : Iv 1 12 x239 := iv_e x239_e (iv_add j229 ik_1 (by decide))
            refine lv_iinc (v := x239) (lv' := [(5, .int x239), (4, .int x227), (3, .ref (rw10 (Int32.toNatClampNeg a1))), (0, .ref o1), (1, .int a1), (2, .int a2)]) hx hb dX5_priceAll_75 hl (k := 1) rfl (incN (by decide +kernel) x239_e) (by decide) rfl (fun ls hl => ?_)
            refine lv_goto (tgt := 13) hx hb dX5_priceAll_78 (by decide) ?_
            exact ih1 x239 G235 x227 _ _ _ (ms_up x239_e j229 (by decide) hM1) (iv_w x239_h (by decide)) x227_h hP hD hS hl
          ·
            have qh238 := nle_i h238
            have j240 : Iv (-2147483648) 2147483646 x236 := r_ltl qh238 (iv_full x236) (iv_full x237) (by decide)
            have j241 : Iv (-2147483647) 2147483647 x237 := r_ltr qh238 (iv_full x236) (iv_full x237) (by decide)
            refine lv_iload hx hb dX5_priceAll_66 (lv_at hl 0 rfl) ?_
            refine lv_goto (tgt := 73) hx hb dX5_priceAll_68 (by decide) ?_
            refine lv_istore (lv' := [(4, .int x225), (5, .int x225), (3, .ref (rw10 (Int32.toNatClampNeg a1))), (0, .ref o1), (1, .int a1), (2, .int a2)]) hx hb dX5_priceAll_73 hl (by decide) rfl (fun ls hl => ?_)
            obtain ⟨x242, x242_e⟩ : ∃ z : Int32, z = x225 + 1 := ⟨_, rfl⟩
            have x242_h : Iv 1 12 x242 := iv_e x242_e (iv_add j229 ik_1 (by decide))
            refine lv_iinc (v := x242) (lv' := [(5, .int x242), (4, .int x225), (3, .ref (rw10 (Int32.toNatClampNeg a1))), (0, .ref o1), (1, .int a1), (2, .int a2)]) hx hb dX5_priceAll_75 hl (k := 1) rfl (incN (by decide +kernel) x242_e) (by decide) rfl (fun ls hl => ?_)
            refine lv_goto (tgt := 13) hx hb dX5_priceAll_78 (by decide) ?_
            exact ih1 x242 G235 x225 _ _ _ (ms_up x242_e j229 (by decide) hM1) (iv_w x242_h (by decide)) j229 hP hD hS hl
        ·
          have j243 : Iv 1 1 x231 := r_nelo h232 x231_h ik_0 (by decide)
          refine lv_aload_n hx hb dX5_priceAll_34 rfl (lv_at hl 3 rfl) ?_
          refine va_get (D := (dC, dI)) (ci := 5) (v := .ref o2) (C := RX5) (T := TX5) (N := 6) hx hb hts iw_X5_priceAll_X5 hown hK hP 0 rfl rfl 0 (by decide) (hts (.fieldLink RX5 12 "HolelessHouse$LeastSearch" "going" "LHolelessHouse$Going;") hm_X5_priceAll_3) (fun _ h9 => h9) rfl dX5_priceAll_35 ?_
          refine lv_aload_n hx hb dX5_priceAll_38 rfl (lv_at hl 3 rfl) ?_
          refine va_get (D := (dC, dI)) (ci := 5) (v := .int v12) (C := RX5) (T := TX5) (N := 6) hx hb hts iw_X5_priceAll_X5 hown hK hP 0 rfl rfl 3 (by decide) (hts (.fieldLink RX5 27 "HolelessHouse$LeastSearch" "rule" "I") hm_X5_priceAll_4) (fun _ h9 => h9) rfl dX5_priceAll_39 ?_
          refine lv_iload_n hx hb dX5_priceAll_42 rfl (lv_at hl 4 rfl) ?_
          refine lv_iload hx hb dX5_priceAll_43 (lv_at hl 0 rfl) ?_
          refine kc_i (D := (dC, dI)) (S := Unit) (wc := ([(o2, .inr (3, [.ref o3, .int v6])), (o3, .inl (c2, 13, .inr (.inr (.inr (.inr (fun i => if i < 13 then some (rw4 i) else none))))))] : va_W) ++ (gr13 rw4 cI 12 Gw5 ++ ([] : va_W))) (wr := ([(o1, .inr (5, [.ref o2, .ref o7, .ref o9, .int v12, .int v13, .int v14])), (o9, .inl (c2, 12, .inr (.inr (.inr (.inr (fun i => if i < 12 then some (rw10 i) else none))))))] : va_W) ++ (gr12 rw10 cI 12 G226 ++ ([] : va_W))) (w1 := fun _ => ([(o2, .inr (3, [.ref o3, .int v6])), (o3, .inl (c2, 13, .inr (.inr (.inr (.inr (fun i => if i < 13 then some (rw4 i) else none))))))] : va_W) ++ (gr13 rw4 cI 12 Gw5 ++ ([] : va_W))) (wn := fun _ => ([(o1, .inr (5, [.ref o2, .ref o7, .ref o9, .int v12, .int v13, .int v14])), (o9, .inl (c2, 12, .inr (.inr (.inr (.inr (fun i => if i < 12 then some (rw10 i) else none)))))), (o2, .inr (3, [.ref o3, .int v6])), (o3, .inl (c2, 13, .inr (.inr (.inr (.inr (fun i => if i < 13 then some (rw4 i) else none))))))] : va_W) ++ (gr12 rw10 cI 12 G226 ++ (gr13 rw4 cI 12 Gw5 ++ ([] : va_W)))) (fun hPc hDc => va_runVN (As := [.int v12, .int a1, .int x225]) (rest := [.int x225, .ref (rw10 (Int32.toNatClampNeg a1))]) ⟨hx, hb, hml, hown, hts⟩ (kX3_price_1 l dC dI cI c2 cZ o2 o3 rw4 Gw5 v6 v12 a1 x225 H.size Gw5_b v6_h a1_h j229) ⟨va_cnB 3 hts gX5_priceAll_X3_price_n61 rfl rfl rfl (hN.1 _ ns_96) (hts (.initialized RX3) hm_X5_priceAll_9) (by decide +kernel) ⟨Nat.le_of_ble_eq_true rfl, Nat.le_of_ble_eq_true rfl⟩, (hts (.instanceMethod yX3_price) hm_X5_priceAll_8), (hts (.selects RX3 yX3_price yX3_price) hm_X5_priceAll_10)⟩ (pre_V hPc hK hDc hN (ci := 3) (q0 := 0) rfl rfl) rfl rfl hl.1 rfl (lv_room (Nat.le_of_ble_eq_true rfl)) dX5_priceAll_45 ⟨Nat.le_of_ble_eq_true rfl, Nat.le_of_ble_eq_true rfl⟩) hP hD hS hA [2, 3, 16, 17, 18, 19, 20, 21, 22, 23, 24, 25, 26, 27, 28] [0, 1, 4, 5, 6, 7, 8, 9, 10, 11, 12, 13, 14, 15] [0, 1, 14, 15, 2, 3, 4, 5, 6, 7, 8, 9, 10, 11, 12, 13, 16, 17, 18, 19, 20, 21, 22, 23, 24, 25, 26, 27, 28] rfl rfl (by decide +kernel) (by decide +kernel) (by decide +kernel) (by decide +kernel) (fun _ => rfl) (fun x244 _ H locs hq hP hD hS => ?_)
          have hP : va_P (dC, dI) vwCl (([(o1, .inr (5, [.ref o2, .ref o7, .ref o9, .int v12, .int v13, .int v14])), (o9, .inl (c2, 12, .inr (.inr (.inr (.inr (fun i => if i < 12 then some (rw10 i) else none)))))), (o2, .inr (3, [.ref o3, .int v6])), (o3, .inl (c2, 13, .inr (.inr (.inr (.inr (fun i => if i < 13 then some (rw4 i) else none))))))] : va_W) ++ (gr12 rw10 cI 12 G226 ++ (gr13 rw4 cI 12 Gw5 ++ ([] : va_W)))) H := hP
          have hD : va_D A (([(o1, .inr (5, [.ref o2, .ref o7, .ref o9, .int v12, .int v13, .int v14])), (o9, .inl (c2, 12, .inr (.inr (.inr (.inr (fun i => if i < 12 then some (rw10 i) else none)))))), (o2, .inr (3, [.ref o3, .int v6])), (o3, .inl (c2, 13, .inr (.inr (.inr (.inr (fun i => if i < 13 then some (rw4 i) else none))))))] : va_W) ++ (gr12 rw10 cI 12 G226 ++ (gr13 rw4 cI 12 Gw5 ++ ([] : va_W)))) := hD
          refine lv_goto (tgt := 54) hx hb dX5_priceAll_48 (by decide) ?_
          refine k_gast12 (i0 := (Int32.toNatClampNeg a1)) hx hb hK (pre := ([(o1, .inr (5, [.ref o2, .ref o7, .ref o9, .int v12, .int v13, .int v14])), (o9, .inl (c2, 12, .inr (.inr (.inr (.inr (fun i => if i < 12 then some (rw10 i) else none)))))), (o2, .inr (3, [.ref o3, .int v6])), (o3, .inl (c2, 13, .inr (.inr (.inr (.inr (fun i => if i < 13 then some (rw4 i) else none))))))] : va_W)) (po := (gr13 rw4 cI 12 Gw5 ++ ([] : va_W))) hP hD hS rfl (cl_lt a1_h (by decide)) 0 rfl (vin_iv j229 (by decide)) dX5_priceAll_54 (fun f245 G246 H locs f245_e G246_e hP hD hS => ?_)
          have hP : va_P (dC, dI) vwCl (([(o1, .inr (5, [.ref o2, .ref o7, .ref o9, .int v12, .int v13, .int v14])), (o9, .inl (c2, 12, .inr (.inr (.inr (.inr (fun i => if i < 12 then some (rw10 i) else none)))))), (o2, .inr (3, [.ref o3, .int v6])), (o3, .inl (c2, 13, .inr (.inr (.inr (.inr (fun i => if i < 13 then some (rw4 i) else none))))))] : va_W) ++ (gr12 rw10 cI 12 G246 ++ (gr13 rw4 cI 12 Gw5 ++ ([] : va_W)))) H := by simpa only [List.append_assoc] using hP
          have hD : va_D A (([(o1, .inr (5, [.ref o2, .ref o7, .ref o9, .int v12, .int v13, .int v14])), (o9, .inl (c2, 12, .inr (.inr (.inr (.inr (fun i => if i < 12 then some (rw10 i) else none)))))), (o2, .inr (3, [.ref o3, .int v6])), (o3, .inl (c2, 13, .inr (.inr (.inr (.inr (fun i => if i < 13 then some (rw4 i) else none))))))] : va_W) ++ (gr12 rw10 cI 12 G246 ++ (gr13 rw4 cI 12 Gw5 ++ ([] : va_W)))) := by simpa only [List.append_assoc] using hD
          refine lv_aload_n hx hb dX5_priceAll_55 rfl (lv_at hl 2 rfl) ?_
          refine lv_iload hx hb dX5_priceAll_56 (lv_at hl 0 rfl) ?_
          refine va_iald hx hb hK hP (4 + (Int32.toNatClampNeg a1)) 0 (gr12_get (pre := ([(o1, .inr (5, [.ref o2, .ref o7, .ref o9, .int v12, .int v13, .int v14])), (o9, .inl (c2, 12, .inr (.inr (.inr (.inr (fun i => if i < 12 then some (rw10 i) else none)))))), (o2, .inr (3, [.ref o3, .int v6])), (o3, .inl (c2, 13, .inr (.inr (.inr (.inr (fun i => if i < 13 then some (rw4 i) else none))))))] : va_W)) (post := (gr13 rw4 cI 12 Gw5 ++ ([] : va_W))) rfl (cl_lt a1_h (by decide))) rfl (vin_iv j229 (by decide)) dX5_priceAll_58 (lv_topi (fun x247 x247_e => ?_))
          refine lv_aload_n hx hb dX5_priceAll_59 rfl (lv_at hl 2 rfl) ?_
          refine lv_iload hx hb dX5_priceAll_60 (lv_at hl 1 rfl) ?_
          refine va_iald hx hb hK hP (4 + (Int32.toNatClampNeg a1)) 0 (gr12_get (pre := ([(o1, .inr (5, [.ref o2, .ref o7, .ref o9, .int v12, .int v13, .int v14])), (o9, .inl (c2, 12, .inr (.inr (.inr (.inr (fun i => if i < 12 then some (rw10 i) else none)))))), (o2, .inr (3, [.ref o3, .int v6])), (o3, .inl (c2, 13, .inr (.inr (.inr (.inr (fun i => if i < 13 then some (rw4 i) else none))))))] : va_W)) (post := (gr13 rw4 cI 12 Gw5 ++ ([] : va_W))) rfl (cl_lt a1_h (by decide))) rfl (vin_iv x227_h (by decide)) dX5_priceAll_62 (lv_topi (fun x248 x248_e => ?_))
          refine lv_icmp_ge (tgt := 71) hx hb dX5_priceAll_63 (by decide) (fun h249 => ?_) (fun h249 => ?_)
          ·
            have qh249 := le_i h249
            refine lv_iload hx hb dX5_priceAll_71 (lv_at hl 1 rfl) ?_
            refine lv_istore (lv' := [(4, .int x227), (5, .int x225), (3, .ref (rw10 (Int32.toNatClampNeg a1))), (0, .ref o1), (1, .int a1), (2, .int a2)]) hx hb dX5_priceAll_73 hl (by decide) rfl (fun ls hl => ?_)
            obtain ⟨x250, x250_e⟩ : ∃ z : Int32, z = x225 + 1 := ⟨_, rfl⟩
            have x250_h : Iv 1 12 x250 := iv_e x250_e (iv_add j229 ik_1 (by decide))
            refine lv_iinc (v := x250) (lv' := [(5, .int x250), (4, .int x227), (3, .ref (rw10 (Int32.toNatClampNeg a1))), (0, .ref o1), (1, .int a1), (2, .int a2)]) hx hb dX5_priceAll_75 hl (k := 1) rfl (incN (by decide +kernel) x250_e) (by decide) rfl (fun ls hl => ?_)
            refine lv_goto (tgt := 13) hx hb dX5_priceAll_78 (by decide) ?_
            exact ih1 x250 G246 x227 _ _ _ (ms_up x250_e j229 (by decide) hM1) (iv_w x250_h (by decide)) x227_h hP hD hS hl
          ·
            have qh249 := nle_i h249
            have j251 : Iv (-2147483648) 2147483646 x247 := r_ltl qh249 (iv_full x247) (iv_full x248) (by decide)
            have j252 : Iv (-2147483647) 2147483647 x248 := r_ltr qh249 (iv_full x247) (iv_full x248) (by decide)
            refine lv_iload hx hb dX5_priceAll_66 (lv_at hl 0 rfl) ?_
            refine lv_goto (tgt := 73) hx hb dX5_priceAll_68 (by decide) ?_
            refine lv_istore (lv' := [(4, .int x225), (5, .int x225), (3, .ref (rw10 (Int32.toNatClampNeg a1))), (0, .ref o1), (1, .int a1), (2, .int a2)]) hx hb dX5_priceAll_73 hl (by decide) rfl (fun ls hl => ?_)
            obtain ⟨x253, x253_e⟩ : ∃ z : Int32, z = x225 + 1 := ⟨_, rfl⟩
            have x253_h : Iv 1 12 x253 := iv_e x253_e (iv_add j229 ik_1 (by decide))
            refine lv_iinc (v := x253) (lv' := [(5, .int x253), (4, .int x225), (3, .ref (rw10 (Int32.toNatClampNeg a1))), (0, .ref o1), (1, .int a1), (2, .int a2)]) hx hb dX5_priceAll_75 hl (k := 1) rfl (incN (by decide +kernel) x253_e) (by decide) rfl (fun ls hl => ?_)
            refine lv_goto (tgt := 13) hx hb dX5_priceAll_78 (by decide) ?_
            exact ih1 x253 G246 x225 _ _ _ (ms_up x253_e j229 (by decide) hM1) (iv_w x253_h (by decide)) j229 hP hD hS hl
  exact L1 _ 0 Gw11 0 _ _ _ (Nat.lt_succ_self _) (iv_w ik_0 (by decide)) (iv_w ik_0 (by decide)) hP hD hS hl
set_option maxHeartbeats 4000000 in
set_option maxRecDepth 100000 in
theorem kJ6_numberOfTrailingZeros_0f7a4_2 (l : Launch) (dC : Nat → ClassId) (dI : Nat → Nat → Nat) (cI c2 cZ : ClassId) (sz : Nat) : Met l yJ6_numberOfTrailingZeros_0f7a4 wsJ6_numberOfTrailingZeros_0f7a4 ({ frames := 0, cells := 0, slots := 0, locals := 0 }) (va_Pc [.int 0] (wPre (dC, dI) [(cI, .int), (c2, .array .int), (cZ, .boolean)] ([]) sz)) (va_Qi (fun (r : Int32) (_ : Unit) => Iv 32 32 r) (fun _ t => wPost (dC, dI) [(cI, .int), (c2, .array .int), (cZ, .boolean)] (va_A ([]) sz) ([]) t) (va_A ([]) sz)) 0 0 (va_A ([]) sz) := by
  refine Met.ofW (cc := cJ6_numberOfTrailingZeros_0f7a4) (maxL := 2) (ret := (some .int)) (by decide) rfl ?_
  intro p e s m args below meth c s₁ B hml hv
  obtain ⟨rfl, hsz, hP, hK, hD0, hN⟩ := hv
  have hx := B.exec
  have hb := B.bytes
  have hr := B.returns
  have hts := atoms_spec (ws := wsJ6_numberOfTrailingZeros_0f7a4) B.pre
  have hown : s.vm.findClass RJ6 = some m.cls := findClass_of_methodNamed B.named
  have hlocks := B.notSynchronized
  subst hsz
  have hD := hD0.self (sz := s.heap.size)
  generalize hAe : va_A ([]) s.heap.size = A at hD ⊢
  have hA : ∀ q : Nat, s.heap.size ≤ q → A q := fun q h => by rw [← hAe]; exact Or.inr h
  have hS : va_S A s.heap s.heap [] := va_S.rf
  have hP : va_P (dC, dI) vwCl ([]) s.heap := hP
  have hl := lv_entry ([.int 0]) (n := 2) (Nat.le_of_ble_eq_true rfl)
  rw [lg_entry_eq]
  generalize (lg_sl ([.int 0]) ++ List.replicate (2 - (lg_sl ([.int 0])).length) Slot.unset).toArray = ls at hl ⊢
  have hl : lv_has ls 2 [(0, .int 0)] := hl
  refine gen_Q (fun Q hQ => ?_)
  refine lv_iload_n hx hb dJ6_numberOfTrailingZeros_0f7a4_0 rfl (lv_at hl 0 rfl) ?_
  refine lv_iconst (v := (-1)) hx hb dJ6_numberOfTrailingZeros_0f7a4_1 (by decide) ?_
  refine lv_ixor hx hb dJ6_numberOfTrailingZeros_0f7a4_2 (tk_i (v := (-1)) (by decide +kernel) ?_)
  refine lv_iload_n hx hb dJ6_numberOfTrailingZeros_0f7a4_3 rfl (lv_at hl 0 rfl) ?_
  refine lv_iconst (v := 1) hx hb dJ6_numberOfTrailingZeros_0f7a4_4 (by decide) ?_
  refine lv_isub hx hb dJ6_numberOfTrailingZeros_0f7a4_5 (tk_i (v := (-1)) (by decide +kernel) ?_)
  refine lv_iand hx hb dJ6_numberOfTrailingZeros_0f7a4_6 (tk_i (v := (-1)) (by decide +kernel) ?_)
  refine lv_istore_n (lv' := [(0, .int (-1))]) hx hb dJ6_numberOfTrailingZeros_0f7a4_7 rfl hl (by decide) rfl (fun ls hl => ?_)
  refine lv_iload_n hx hb dJ6_numberOfTrailingZeros_0f7a4_8 rfl (lv_at hl 0 rfl) ?_
  refine lv_if_gt (tgt := 17) hx hb dJ6_numberOfTrailingZeros_0f7a4_9 (by decide) (fun h9 => absurd h9 (by decide +kernel)) (fun _ => ?_)
  refine lv_iload_n hx hb dJ6_numberOfTrailingZeros_0f7a4_12 rfl (lv_at hl 0 rfl) ?_
  refine lv_bipush (v := 32) hx hb dJ6_numberOfTrailingZeros_0f7a4_13 (by decide) ?_
  refine lv_iand hx hb dJ6_numberOfTrailingZeros_0f7a4_15 (tk_i (v := 32) (by decide +kernel) ?_)
  rw [hQ]
  exact W.iret (v := 32) hx hb hr (fun t ht hW => ⟨⟨32, (), rfl, ik_32, by rw [ht]; exact hP, va_K.moved hW.alike hK, hD⟩, hS.F ht⟩) hS.2.2 dJ6_numberOfTrailingZeros_0f7a4_16
set_option maxHeartbeats 4000000 in
set_option maxRecDepth 100000 in
theorem kJ6_numberOfTrailingZeros_0f7a4_3 (l : Launch) (dC : Nat → ClassId) (dI : Nat → Nat → Nat) (cI c2 cZ : ClassId) (sz : Nat) : Met l yJ6_numberOfTrailingZeros_0f7a4 wsJ6_numberOfTrailingZeros_0f7a4 ({ frames := 0, cells := 0, slots := 0, locals := 0 }) (va_Pc [.int 1] (wPre (dC, dI) [(cI, .int), (c2, .array .int), (cZ, .boolean)] ([]) sz)) (va_Qi (fun (r : Int32) (_ : Unit) => Iv 0 0 r) (fun _ t => wPost (dC, dI) [(cI, .int), (c2, .array .int), (cZ, .boolean)] (va_A ([]) sz) ([]) t) (va_A ([]) sz)) 0 0 (va_A ([]) sz) := by
  refine Met.ofW (cc := cJ6_numberOfTrailingZeros_0f7a4) (maxL := 2) (ret := (some .int)) (by decide) rfl ?_
  intro p e s m args below meth c s₁ B hml hv
  obtain ⟨rfl, hsz, hP, hK, hD0, hN⟩ := hv
  have hx := B.exec
  have hb := B.bytes
  have hr := B.returns
  have hts := atoms_spec (ws := wsJ6_numberOfTrailingZeros_0f7a4) B.pre
  have hown : s.vm.findClass RJ6 = some m.cls := findClass_of_methodNamed B.named
  have hlocks := B.notSynchronized
  subst hsz
  have hD := hD0.self (sz := s.heap.size)
  generalize hAe : va_A ([]) s.heap.size = A at hD ⊢
  have hA : ∀ q : Nat, s.heap.size ≤ q → A q := fun q h => by rw [← hAe]; exact Or.inr h
  have hS : va_S A s.heap s.heap [] := va_S.rf
  have hP : va_P (dC, dI) vwCl ([]) s.heap := hP
  have hl := lv_entry ([.int 1]) (n := 2) (Nat.le_of_ble_eq_true rfl)
  rw [lg_entry_eq]
  generalize (lg_sl ([.int 1]) ++ List.replicate (2 - (lg_sl ([.int 1])).length) Slot.unset).toArray = ls at hl ⊢
  have hl : lv_has ls 2 [(0, .int 1)] := hl
  refine gen_Q (fun Q hQ => ?_)
  refine lv_iload_n hx hb dJ6_numberOfTrailingZeros_0f7a4_0 rfl (lv_at hl 0 rfl) ?_
  refine lv_iconst (v := (-1)) hx hb dJ6_numberOfTrailingZeros_0f7a4_1 (by decide) ?_
  refine lv_ixor hx hb dJ6_numberOfTrailingZeros_0f7a4_2 (tk_i (v := (-2)) (by decide +kernel) ?_)
  refine lv_iload_n hx hb dJ6_numberOfTrailingZeros_0f7a4_3 rfl (lv_at hl 0 rfl) ?_
  refine lv_iconst (v := 1) hx hb dJ6_numberOfTrailingZeros_0f7a4_4 (by decide) ?_
  refine lv_isub hx hb dJ6_numberOfTrailingZeros_0f7a4_5 (tk_i (v := 0) (by decide +kernel) ?_)
  refine lv_iand hx hb dJ6_numberOfTrailingZeros_0f7a4_6 (tk_i (v := 0) (by decide +kernel) ?_)
  refine lv_istore_n (lv' := [(0, .int 0)]) hx hb dJ6_numberOfTrailingZeros_0f7a4_7 rfl hl (by decide) rfl (fun ls hl => ?_)
  refine lv_iload_n hx hb dJ6_numberOfTrailingZeros_0f7a4_8 rfl (lv_at hl 0 rfl) ?_
  refine lv_if_gt (tgt := 17) hx hb dJ6_numberOfTrailingZeros_0f7a4_9 (by decide) (fun h9 => absurd h9 (by decide +kernel)) (fun _ => ?_)
  refine lv_iload_n hx hb dJ6_numberOfTrailingZeros_0f7a4_12 rfl (lv_at hl 0 rfl) ?_
  refine lv_bipush (v := 32) hx hb dJ6_numberOfTrailingZeros_0f7a4_13 (by decide) ?_
  refine lv_iand hx hb dJ6_numberOfTrailingZeros_0f7a4_15 (tk_i (v := 0) (by decide +kernel) ?_)
  rw [hQ]
  exact W.iret (v := 0) hx hb hr (fun t ht hW => ⟨⟨0, (), rfl, ik_0, by rw [ht]; exact hP, va_K.moved hW.alike hK, hD⟩, hS.F ht⟩) hS.2.2 dJ6_numberOfTrailingZeros_0f7a4_16
set_option maxHeartbeats 4000000 in
set_option maxRecDepth 100000 in
theorem kX11_reached_1 (l : Launch) (dC : Nat → ClassId) (dI : Nat → Nat → Nat) (cI c2 cZ : ClassId) (o1 : Nat) (fw2 : Nat → Int32) (a1 : Int32) (a2 : Int32) (sz : Nat) (fw2_b : Bd 12 0 4095 fw2) (a1_h : Iv 32 32 a1) (a2_h : Iv 0 4095 a2) : Met l yX11_reached wsX11_reached ({ frames := 1, cells := 0, slots := 0, locals := 21 }) (va_Pc [.ref o1, .int a1, .int a2] (wPre (dC, dI) [(cI, .int), (c2, .array .int), (cZ, .boolean)] ([(o1, .inl (cI, 12, .inl fw2))]) sz)) (va_Qi (fun (r : Int32) (_ : Unit) => Iv 0 4095 r) (fun _ t => wPost (dC, dI) [(cI, .int), (c2, .array .int), (cZ, .boolean)] (va_A ([(o1, .inl (cI, 12, .inl fw2))]) sz) ([(o1, .inl (cI, 12, .inl fw2))]) t) (va_A ([(o1, .inl (cI, 12, .inl fw2))]) sz)) 0 0 (va_A ([(o1, .inl (cI, 12, .inl fw2))]) sz) := by
  refine Met.ofW (cc := cX11_reached) (maxL := 7) (ret := (some .int)) (by decide) rfl ?_
  intro p e s m args below meth c s₁ B hml hv
  obtain ⟨rfl, hsz, hP, hK, hD0, hN⟩ := hv
  have hx := B.exec
  have hb := B.bytes
  have hr := B.returns
  have hts := atoms_spec (ws := wsX11_reached) B.pre
  have hown : s.vm.findClass RX11 = some m.cls := findClass_of_methodNamed B.named
  have hlocks := B.notSynchronized
  subst hsz
  have hD := hD0.self (sz := s.heap.size)
  generalize hAe : va_A ([(o1, .inl (cI, 12, .inl fw2))]) s.heap.size = A at hD ⊢
  have hA : ∀ q : Nat, s.heap.size ≤ q → A q := fun q h => by rw [← hAe]; exact Or.inr h
  have hS : va_S A s.heap s.heap [] := va_S.rf
  have hP : va_P (dC, dI) vwCl ([(o1, .inl (cI, 12, .inl fw2))]) s.heap := hP
  have hl := lv_entry ([.ref o1, .int a1, .int a2]) (n := 7) (Nat.le_of_ble_eq_true rfl)
  rw [lg_entry_eq]
  generalize (lg_sl ([.ref o1, .int a1, .int a2]) ++ List.replicate (7 - (lg_sl ([.ref o1, .int a1, .int a2])).length) Slot.unset).toArray = ls at hl ⊢
  have hl : lv_has ls 7 [(0, .ref o1), (1, .int a1), (2, .int a2)] := hl
  refine gen_Q (fun Q hQ => ?_)
  refine lv_iconst (v := 1) hx hb dX11_reached_0 (by decide) ?_
  refine lv_iload_n hx hb dX11_reached_1 rfl (lv_at hl 1 rfl) ?_
  refine lv_ishl hx hb dX11_reached_2 (lv_topi (fun x1 x1_e => ?_))
  have x1_h : Iv 1 1 x1 := iv_e x1_e (shl_32 a1_h)
  refine lv_istore_n (lv' := [(3, .int x1), (0, .ref o1), (1, .int a1), (2, .int a2)]) hx hb dX11_reached_3 rfl hl (by decide) rfl (fun ls hl => ?_)
  refine lv_iload_n hx hb dX11_reached_4 rfl (lv_at hl 0 rfl) ?_
  refine lv_istore (lv' := [(4, .int x1), (3, .int x1), (0, .ref o1), (1, .int a1), (2, .int a2)]) hx hb dX11_reached_5 hl (by decide) rfl (fun ls hl => ?_)
  refine lv_iconst (v := 0) hx hb dX11_reached_7 (by decide) ?_
  refine lv_istore (lv' := [(5, .int 0), (4, .int x1), (3, .int x1), (0, .ref o1), (1, .int a1), (2, .int a2)]) hx hb dX11_reached_8 hl (by decide) rfl (fun ls hl => ?_)
  have L1 : ∀ (N : Nat) (x118 : Int32) (x119 : Int32) (x120 : Int32) (H : Heap) (locs : List Loc) (ls : Array Slot), (12 - x118.toInt).toNat < N → Iv 0 12 x118 → Iv 0 4095 x119 → Iv 0 4095 x120 → va_P (dC, dI) vwCl ([(o1, .inl (cI, 12, .inl fw2))]) H → va_D A ([(o1, .inl (cI, 12, .inl fw2))]) → va_S A s.heap H locs → lv_has ls 7 [(5, .int x118), (4, .int x119), (3, .int x120), (0, .ref o1), (1, .int a1), (2, .int a2)] → W p l e ({ frames := 1, cells := 0, slots := 0, locals := 21 }) s m ([.ref o1, .int a1, .int a2] : List Value).toArray below meth c H locs 0 0 Q (F0 m 10 ls []) := by
    intro N
    induction N with
    | zero =>
      intro x118 x119 x120 H locs ls hM
      exact absurd hM (Nat.not_lt_zero _)
    | succ N ih1 =>
      intro x118 x119 x120 H locs ls hM1 x118_h x119_h x120_h hP hD hS hl
      refine lv_iload hx hb dX11_reached_10 (lv_at hl 0 rfl) ?_
      refine lv_bipush (v := 12) hx hb dX11_reached_12 (by decide) ?_
      refine lv_icmp_ge (tgt := 58) hx hb dX11_reached_14 (by decide) (fun h121 => ?_) (fun h121 => ?_)
      ·
        have qh121 := le_i h121
        have j122 : Iv 12 12 x118 := r_ler qh121 ik_12 x118_h (by decide)
        refine lv_iload_n hx hb dX11_reached_58 rfl (lv_at hl 2 rfl) ?_
        rw [hQ]
        exact W.iret (v := x120) hx hb hr (fun t ht hW => ⟨⟨x120, (), rfl, x120_h, by rw [ht]; exact hP, va_K.moved hW.alike hK, hD⟩, hS.F ht⟩) hS.2.2 dX11_reached_59
      ·
        have qh121 := nle_i h121
        have j123 : Iv 0 11 x118 := r_ltl qh121 x118_h ik_12 (by decide)
        refine lv_iload hx hb dX11_reached_17 (lv_at hl 1 rfl) ?_
        refine lv_if_eq (tgt := 58) hx hb dX11_reached_19 (by decide) (fun h124 => ?_) (fun h124 => ?_)
        ·
          have j125 : Iv 0 0 x119 := r_eq h124 ik_0
          refine lv_iload_n hx hb dX11_reached_58 rfl (lv_at hl 2 rfl) ?_
          rw [hQ]
          exact W.iret (v := x120) hx hb hr (fun t ht hW => ⟨⟨x120, (), rfl, x120_h, by rw [ht]; exact hP, va_K.moved hW.alike hK, hD⟩, hS.F ht⟩) hS.2.2 dX11_reached_59
        ·
          have j126 : Iv 1 4095 x119 := r_nelo h124 x119_h ik_0 (by decide)
          refine lv_aload_n hx hb dX11_reached_22 rfl (lv_at hl 3 rfl) ?_
          refine lv_iload hx hb dX11_reached_23 (lv_at hl 1 rfl) ?_
          refine kc_i (D := (dC, dI)) (S := Unit) (wc := []) (wr := [(o1, .inl (cI, 12, .inl fw2))]) (w1 := fun _ => []) (wn := fun _ => [(o1, .inl (cI, 12, .inl fw2))]) (fun hPc hDc => va_runS (As := [.int x119]) (rest := [.ref o1]) ⟨hx, hb, hml, hown, hts⟩ (kJ6_numberOfTrailingZeros_0f7a4_1 l dC dI cI c2 cZ x119 H.size j126) (va_cwS 1 hts gX11_reached_J6_numberOfTrailingZeros_0f7a4 rfl rfl rfl (by decide +kernel) ⟨Nat.le_of_ble_eq_true rfl, Nat.le_of_ble_eq_true rfl⟩) (pre_S hPc hK hDc hN) rfl rfl hl.1 rfl (lv_room (Nat.le_of_ble_eq_true rfl)) dX11_reached_25 ⟨Nat.le_of_ble_eq_true rfl, Nat.le_of_ble_eq_true rfl⟩) hP hD hS hA [] [0] [0] rfl rfl (by decide +kernel) (by decide +kernel) (by decide +kernel) (by decide +kernel) (fun _ => rfl) (fun x127 _ H locs hq hP hD hS => ?_)
          have x127_h := hq
          have hP : va_P (dC, dI) vwCl ([(o1, .inl (cI, 12, .inl fw2))]) H := hP
          have hD : va_D A ([(o1, .inl (cI, 12, .inl fw2))]) := hD
          refine va_iald hx hb hK hP 0 0 rfl rfl (vin_iv x127_h (by decide)) dX11_reached_28 (lv_topi (fun x128 x128_e => ?_))
          have x128_h : Iv 0 4095 x128 := iv_e x128_e (bd_at fw2_b (vin_iv x127_h (by decide)))
          refine lv_iload_n hx hb dX11_reached_29 rfl (lv_at hl 5 rfl) ?_
          refine lv_iand hx hb dX11_reached_30 (lv_topi (fun x129 x129_e => ?_))
          have x129_h : Iv 0 4095 x129 := iv_e x129_e (iv_andL _ x128_h (by decide))
          refine lv_iload_n hx hb dX11_reached_31 rfl (lv_at hl 2 rfl) ?_
          refine lv_iconst (v := (-1)) hx hb dX11_reached_32 (by decide) ?_
          refine lv_ixor hx hb dX11_reached_33 (lv_topi (fun x130 x130_e => ?_))
          refine lv_iand hx hb dX11_reached_34 (lv_topi (fun x131 x131_e => ?_))
          have x131_h : Iv 0 4095 x131 := iv_e x131_e (iv_andL _ x129_h (by decide))
          refine lv_istore (lv' := [(6, .int x131), (5, .int x118), (4, .int x119), (3, .int x120), (0, .ref o1), (1, .int a1), (2, .int a2)]) hx hb dX11_reached_35 hl (by decide) rfl (fun ls hl => ?_)
          refine lv_iload_n hx hb dX11_reached_37 rfl (lv_at hl 3 rfl) ?_
          refine lv_iload hx hb dX11_reached_38 (lv_at hl 0 rfl) ?_
          refine lv_ior hx hb dX11_reached_40 (lv_topi (fun x132 x132_e => ?_))
          have x132_h : Iv 0 4095 x132 := iv_e x132_e (iv_or 12 x120_h x131_h (by decide))
          refine lv_istore_n (lv' := [(3, .int x132), (6, .int x131), (5, .int x118), (4, .int x119), (0, .ref o1), (1, .int a1), (2, .int a2)]) hx hb dX11_reached_41 rfl hl (by decide) rfl (fun ls hl => ?_)
          refine lv_iload hx hb dX11_reached_42 (lv_at hl 3 rfl) ?_
          refine kc_i (D := (dC, dI)) (S := Unit) (wc := []) (wr := [(o1, .inl (cI, 12, .inl fw2))]) (w1 := fun _ => []) (wn := fun _ => [(o1, .inl (cI, 12, .inl fw2))]) (fun hPc hDc => va_runS (As := [.int x119]) (rest := []) ⟨hx, hb, hml, hown, hts⟩ (kX11_withoutLeast_1 l dC dI cI c2 cZ x119 H.size (iv_w j126 (by decide))) (va_cwS 1 hts gX11_reached_X11_withoutLeast rfl rfl rfl (by decide +kernel) ⟨Nat.le_of_ble_eq_true rfl, Nat.le_of_ble_eq_true rfl⟩) (pre_S hPc hK hDc hN) rfl rfl hl.1 rfl (lv_room (Nat.le_of_ble_eq_true rfl)) dX11_reached_44 ⟨Nat.le_of_ble_eq_true rfl, Nat.le_of_ble_eq_true rfl⟩) hP hD hS hA [] [0] [0] rfl rfl (by decide +kernel) (by decide +kernel) (by decide +kernel) (by decide +kernel) (fun _ => rfl) (fun x133 _ H locs hq hP hD hS => ?_)
          have x133_h := hq
          have hP : va_P (dC, dI) vwCl ([(o1, .inl (cI, 12, .inl fw2))]) H := hP
          have hD : va_D A ([(o1, .inl (cI, 12, .inl fw2))]) := hD
          refine lv_iload hx hb dX11_reached_47 (lv_at hl 1 rfl) ?_
          refine lv_ior hx hb dX11_reached_49 (lv_topi (fun x134 x134_e => ?_))
          have x134_h : Iv 0 4095 x134 := iv_e x134_e (iv_or 12 x133_h x131_h (by decide))
          refine lv_istore (lv' := [(4, .int x134), (3, .int x132), (6, .int x131), (5, .int x118), (0, .ref o1), (1, .int a1), (2, .int a2)]) hx hb dX11_reached_50 hl (by decide) rfl (fun ls hl => ?_)
          obtain ⟨x135, x135_e⟩ : ∃ z : Int32, z = x118 + 1 := ⟨_, rfl⟩
          have x135_h : Iv 1 12 x135 := iv_e x135_e (iv_add j123 ik_1 (by decide))
          refine lv_iinc (v := x135) (lv' := [(5, .int x135), (4, .int x134), (3, .int x132), (6, .int x131), (0, .ref o1), (1, .int a1), (2, .int a2)]) hx hb dX11_reached_52 hl (k := 3) rfl (incN (by decide +kernel) x135_e) (by decide) rfl (fun ls hl => ?_)
          refine lv_goto (tgt := 10) hx hb dX11_reached_55 (by decide) ?_
          exact ih1 x135 x134 x132 _ _ _ (ms_up x135_e j123 (by decide) hM1) (iv_w x135_h (by decide)) x134_h x132_h hP hD hS (lv_sub hl [0, 1, 2, 4, 5, 6] rfl)
  exact L1 _ 0 x1 x1 _ _ _ (Nat.lt_succ_self _) (iv_w ik_0 (by decide)) (iv_w x1_h (by decide)) (iv_w x1_h (by decide)) hP hD hS hl
set_option maxHeartbeats 4000000 in
set_option maxRecDepth 100000 in
theorem kX11_reached_2 (l : Launch) (dC : Nat → ClassId) (dI : Nat → Nat → Nat) (cI c2 cZ : ClassId) (o1 : Nat) (fw2 : Nat → Int32) (a1 : Int32) (a2 : Int32) (sz : Nat) (fw2_b : Bd 12 0 4095 fw2) (a1_h : Iv 0 11 a1) (a2_h : Iv 0 4095 a2) : Met l yX11_reached wsX11_reached ({ frames := 1, cells := 0, slots := 0, locals := 21 }) (va_Pc [.ref o1, .int a1, .int a2] (wPre (dC, dI) [(cI, .int), (c2, .array .int), (cZ, .boolean)] ([(o1, .inl (cI, 12, .inl fw2))]) sz)) (va_Qi (fun (r : Int32) (_ : Unit) => Iv 0 4095 r) (fun _ t => wPost (dC, dI) [(cI, .int), (c2, .array .int), (cZ, .boolean)] (va_A ([(o1, .inl (cI, 12, .inl fw2))]) sz) ([(o1, .inl (cI, 12, .inl fw2))]) t) (va_A ([(o1, .inl (cI, 12, .inl fw2))]) sz)) 0 0 (va_A ([(o1, .inl (cI, 12, .inl fw2))]) sz) := by
  refine Met.ofW (cc := cX11_reached) (maxL := 7) (ret := (some .int)) (by decide) rfl ?_
  intro p e s m args below meth c s₁ B hml hv
  obtain ⟨rfl, hsz, hP, hK, hD0, hN⟩ := hv
  have hx := B.exec
  have hb := B.bytes
  have hr := B.returns
  have hts := atoms_spec (ws := wsX11_reached) B.pre
  have hown : s.vm.findClass RX11 = some m.cls := findClass_of_methodNamed B.named
  have hlocks := B.notSynchronized
  subst hsz
  have hD := hD0.self (sz := s.heap.size)
  generalize hAe : va_A ([(o1, .inl (cI, 12, .inl fw2))]) s.heap.size = A at hD ⊢
  have hA : ∀ q : Nat, s.heap.size ≤ q → A q := fun q h => by rw [← hAe]; exact Or.inr h
  have hS : va_S A s.heap s.heap [] := va_S.rf
  have hP : va_P (dC, dI) vwCl ([(o1, .inl (cI, 12, .inl fw2))]) s.heap := hP
  have hl := lv_entry ([.ref o1, .int a1, .int a2]) (n := 7) (Nat.le_of_ble_eq_true rfl)
  rw [lg_entry_eq]
  generalize (lg_sl ([.ref o1, .int a1, .int a2]) ++ List.replicate (7 - (lg_sl ([.ref o1, .int a1, .int a2])).length) Slot.unset).toArray = ls at hl ⊢
  have hl : lv_has ls 7 [(0, .ref o1), (1, .int a1), (2, .int a2)] := hl
  refine gen_Q (fun Q hQ => ?_)
  refine lv_iconst (v := 1) hx hb dX11_reached_0 (by decide) ?_
  refine lv_iload_n hx hb dX11_reached_1 rfl (lv_at hl 1 rfl) ?_
  refine lv_ishl hx hb dX11_reached_2 (lv_topi (fun x1 x1_e => ?_))
  have x1_h : Iv 1 2048 x1 := iv_e x1_e (iv_shl1 a1_h (by decide))
  refine lv_istore_n (lv' := [(3, .int x1), (0, .ref o1), (1, .int a1), (2, .int a2)]) hx hb dX11_reached_3 rfl hl (by decide) rfl (fun ls hl => ?_)
  refine lv_iload_n hx hb dX11_reached_4 rfl (lv_at hl 0 rfl) ?_
  refine lv_istore (lv' := [(4, .int x1), (3, .int x1), (0, .ref o1), (1, .int a1), (2, .int a2)]) hx hb dX11_reached_5 hl (by decide) rfl (fun ls hl => ?_)
  refine lv_iconst (v := 0) hx hb dX11_reached_7 (by decide) ?_
  refine lv_istore (lv' := [(5, .int 0), (4, .int x1), (3, .int x1), (0, .ref o1), (1, .int a1), (2, .int a2)]) hx hb dX11_reached_8 hl (by decide) rfl (fun ls hl => ?_)
  have L1 : ∀ (N : Nat) (x118 : Int32) (x119 : Int32) (x120 : Int32) (H : Heap) (locs : List Loc) (ls : Array Slot), (12 - x118.toInt).toNat < N → Iv 0 12 x118 → Iv 0 4095 x119 → Iv 0 4095 x120 → va_P (dC, dI) vwCl ([(o1, .inl (cI, 12, .inl fw2))]) H → va_D A ([(o1, .inl (cI, 12, .inl fw2))]) → va_S A s.heap H locs → lv_has ls 7 [(5, .int x118), (4, .int x119), (3, .int x120), (0, .ref o1), (1, .int a1), (2, .int a2)] → W p l e ({ frames := 1, cells := 0, slots := 0, locals := 21 }) s m ([.ref o1, .int a1, .int a2] : List Value).toArray below meth c H locs 0 0 Q (F0 m 10 ls []) := by
    intro N
    induction N with
    | zero =>
      intro x118 x119 x120 H locs ls hM
      exact absurd hM (Nat.not_lt_zero _)
    | succ N ih1 =>
      intro x118 x119 x120 H locs ls hM1 x118_h x119_h x120_h hP hD hS hl
      refine lv_iload hx hb dX11_reached_10 (lv_at hl 0 rfl) ?_
      refine lv_bipush (v := 12) hx hb dX11_reached_12 (by decide) ?_
      refine lv_icmp_ge (tgt := 58) hx hb dX11_reached_14 (by decide) (fun h121 => ?_) (fun h121 => ?_)
      ·
        have qh121 := le_i h121
        have j122 : Iv 12 12 x118 := r_ler qh121 ik_12 x118_h (by decide)
        refine lv_iload_n hx hb dX11_reached_58 rfl (lv_at hl 2 rfl) ?_
        rw [hQ]
        exact W.iret (v := x120) hx hb hr (fun t ht hW => ⟨⟨x120, (), rfl, x120_h, by rw [ht]; exact hP, va_K.moved hW.alike hK, hD⟩, hS.F ht⟩) hS.2.2 dX11_reached_59
      ·
        have qh121 := nle_i h121
        have j123 : Iv 0 11 x118 := r_ltl qh121 x118_h ik_12 (by decide)
        refine lv_iload hx hb dX11_reached_17 (lv_at hl 1 rfl) ?_
        refine lv_if_eq (tgt := 58) hx hb dX11_reached_19 (by decide) (fun h124 => ?_) (fun h124 => ?_)
        ·
          have j125 : Iv 0 0 x119 := r_eq h124 ik_0
          refine lv_iload_n hx hb dX11_reached_58 rfl (lv_at hl 2 rfl) ?_
          rw [hQ]
          exact W.iret (v := x120) hx hb hr (fun t ht hW => ⟨⟨x120, (), rfl, x120_h, by rw [ht]; exact hP, va_K.moved hW.alike hK, hD⟩, hS.F ht⟩) hS.2.2 dX11_reached_59
        ·
          have j126 : Iv 1 4095 x119 := r_nelo h124 x119_h ik_0 (by decide)
          refine lv_aload_n hx hb dX11_reached_22 rfl (lv_at hl 3 rfl) ?_
          refine lv_iload hx hb dX11_reached_23 (lv_at hl 1 rfl) ?_
          refine kc_i (D := (dC, dI)) (S := Unit) (wc := []) (wr := [(o1, .inl (cI, 12, .inl fw2))]) (w1 := fun _ => []) (wn := fun _ => [(o1, .inl (cI, 12, .inl fw2))]) (fun hPc hDc => va_runS (As := [.int x119]) (rest := [.ref o1]) ⟨hx, hb, hml, hown, hts⟩ (kJ6_numberOfTrailingZeros_0f7a4_1 l dC dI cI c2 cZ x119 H.size j126) (va_cwS 1 hts gX11_reached_J6_numberOfTrailingZeros_0f7a4 rfl rfl rfl (by decide +kernel) ⟨Nat.le_of_ble_eq_true rfl, Nat.le_of_ble_eq_true rfl⟩) (pre_S hPc hK hDc hN) rfl rfl hl.1 rfl (lv_room (Nat.le_of_ble_eq_true rfl)) dX11_reached_25 ⟨Nat.le_of_ble_eq_true rfl, Nat.le_of_ble_eq_true rfl⟩) hP hD hS hA [] [0] [0] rfl rfl (by decide +kernel) (by decide +kernel) (by decide +kernel) (by decide +kernel) (fun _ => rfl) (fun x127 _ H locs hq hP hD hS => ?_)
          have x127_h := hq
          have hP : va_P (dC, dI) vwCl ([(o1, .inl (cI, 12, .inl fw2))]) H := hP
          have hD : va_D A ([(o1, .inl (cI, 12, .inl fw2))]) := hD
          refine va_iald hx hb hK hP 0 0 rfl rfl (vin_iv x127_h (by decide)) dX11_reached_28 (lv_topi (fun x128 x128_e => ?_))
          have x128_h : Iv 0 4095 x128 := iv_e x128_e (bd_at fw2_b (vin_iv x127_h (by decide)))
          refine lv_iload_n hx hb dX11_reached_29 rfl (lv_at hl 5 rfl) ?_
          refine lv_iand hx hb dX11_reached_30 (lv_topi (fun x129 x129_e => ?_))
          have x129_h : Iv 0 4095 x129 := iv_e x129_e (iv_andL _ x128_h (by decide))
          refine lv_iload_n hx hb dX11_reached_31 rfl (lv_at hl 2 rfl) ?_
          refine lv_iconst (v := (-1)) hx hb dX11_reached_32 (by decide) ?_
          refine lv_ixor hx hb dX11_reached_33 (lv_topi (fun x130 x130_e => ?_))
          refine lv_iand hx hb dX11_reached_34 (lv_topi (fun x131 x131_e => ?_))
          have x131_h : Iv 0 4095 x131 := iv_e x131_e (iv_andL _ x129_h (by decide))
          refine lv_istore (lv' := [(6, .int x131), (5, .int x118), (4, .int x119), (3, .int x120), (0, .ref o1), (1, .int a1), (2, .int a2)]) hx hb dX11_reached_35 hl (by decide) rfl (fun ls hl => ?_)
          refine lv_iload_n hx hb dX11_reached_37 rfl (lv_at hl 3 rfl) ?_
          refine lv_iload hx hb dX11_reached_38 (lv_at hl 0 rfl) ?_
          refine lv_ior hx hb dX11_reached_40 (lv_topi (fun x132 x132_e => ?_))
          have x132_h : Iv 0 4095 x132 := iv_e x132_e (iv_or 12 x120_h x131_h (by decide))
          refine lv_istore_n (lv' := [(3, .int x132), (6, .int x131), (5, .int x118), (4, .int x119), (0, .ref o1), (1, .int a1), (2, .int a2)]) hx hb dX11_reached_41 rfl hl (by decide) rfl (fun ls hl => ?_)
          refine lv_iload hx hb dX11_reached_42 (lv_at hl 3 rfl) ?_
          refine kc_i (D := (dC, dI)) (S := Unit) (wc := []) (wr := [(o1, .inl (cI, 12, .inl fw2))]) (w1 := fun _ => []) (wn := fun _ => [(o1, .inl (cI, 12, .inl fw2))]) (fun hPc hDc => va_runS (As := [.int x119]) (rest := []) ⟨hx, hb, hml, hown, hts⟩ (kX11_withoutLeast_1 l dC dI cI c2 cZ x119 H.size (iv_w j126 (by decide))) (va_cwS 1 hts gX11_reached_X11_withoutLeast rfl rfl rfl (by decide +kernel) ⟨Nat.le_of_ble_eq_true rfl, Nat.le_of_ble_eq_true rfl⟩) (pre_S hPc hK hDc hN) rfl rfl hl.1 rfl (lv_room (Nat.le_of_ble_eq_true rfl)) dX11_reached_44 ⟨Nat.le_of_ble_eq_true rfl, Nat.le_of_ble_eq_true rfl⟩) hP hD hS hA [] [0] [0] rfl rfl (by decide +kernel) (by decide +kernel) (by decide +kernel) (by decide +kernel) (fun _ => rfl) (fun x133 _ H locs hq hP hD hS => ?_)
          have x133_h := hq
          have hP : va_P (dC, dI) vwCl ([(o1, .inl (cI, 12, .inl fw2))]) H := hP
          have hD : va_D A ([(o1, .inl (cI, 12, .inl fw2))]) := hD
          refine lv_iload hx hb dX11_reached_47 (lv_at hl 1 rfl) ?_
          refine lv_ior hx hb dX11_reached_49 (lv_topi (fun x134 x134_e => ?_))
          have x134_h : Iv 0 4095 x134 := iv_e x134_e (iv_or 12 x133_h x131_h (by decide))
          refine lv_istore (lv' := [(4, .int x134), (3, .int x132), (6, .int x131), (5, .int x118), (0, .ref o1), (1, .int a1), (2, .int a2)]) hx hb dX11_reached_50 hl (by decide) rfl (fun ls hl => ?_)
          obtain ⟨x135, x135_e⟩ : ∃ z : Int32, z = x118 + 1 := ⟨_, rfl⟩
          have x135_h : Iv 1 12 x135 := iv_e x135_e (iv_add j123 ik_1 (by decide))
          refine lv_iinc (v := x135) (lv' := [(5, .int x135), (4, .int x134), (3, .int x132), (6, .int x131), (0, .ref o1), (1, .int a1), (2, .int a2)]) hx hb dX11_reached_52 hl (k := 3) rfl (incN (by decide +kernel) x135_e) (by decide) rfl (fun ls hl => ?_)
          refine lv_goto (tgt := 10) hx hb dX11_reached_55 (by decide) ?_
          exact ih1 x135 x134 x132 _ _ _ (ms_up x135_e j123 (by decide) hM1) (iv_w x135_h (by decide)) x134_h x132_h hP hD hS (lv_sub hl [0, 1, 2, 4, 5, 6] rfl)
  exact L1 _ 0 x1 x1 _ _ _ (Nat.lt_succ_self _) (iv_w ik_0 (by decide)) (iv_w x1_h (by decide)) (iv_w x1_h (by decide)) hP hD hS hl
theorem iw_X3_hasWayOutside_X3 : ∀ w ∈ wsX30, w ∈ wsX3_hasWayOutside := fun _ h => List.mem_cons.mpr (Or.inr (List.mem_append.mpr (Or.inr h)))
set_option maxHeartbeats 4000000 in
set_option maxRecDepth 100000 in
theorem kX3_hasWayOutside_1 (l : Launch) (dC : Nat → ClassId) (dI : Nat → Nat → Nat) (cI c2 cZ : ClassId) (o1 : Nat) (o2 : Nat) (rw3 : Nat → Nat) (Gw4 : Nat → Nat → Int32) (v5 : Int32) (a2 : Int32) (a3 : Int32) (sz : Nat) (Gw4_b : Bg 13 12 0 4095 Gw4) (v5_h : Iv 0 12 v5) (a2_h : Iv 0 11 a2) (a3_h : Iv 0 4095 a3) : Met l yX3_hasWayOutside wsX3_hasWayOutside ({ frames := 2, cells := 0, slots := 0, locals := 47 }) (va_Pc [.ref o1, .int 0, .int a2, .int a3] (wPre (dC, dI) [(cI, .int), (c2, .array .int), (cZ, .boolean)] (([(o1, .inr (3, [.ref o2, .int v5])), (o2, .inl (c2, 13, .inr (.inr (.inr (.inr (fun i => if i < 13 then some (rw3 i) else none))))))] : va_W) ++ (gr13 rw3 cI 12 Gw4 ++ ([] : va_W))) sz)) (va_Qi (fun (r : Int32) (_ : Unit) => Iv 0 1 r) (fun _ t => wPost (dC, dI) [(cI, .int), (c2, .array .int), (cZ, .boolean)] (va_A (([(o1, .inr (3, [.ref o2, .int v5])), (o2, .inl (c2, 13, .inr (.inr (.inr (.inr (fun i => if i < 13 then some (rw3 i) else none))))))] : va_W) ++ (gr13 rw3 cI 12 Gw4 ++ ([] : va_W))) sz) (([(o1, .inr (3, [.ref o2, .int v5])), (o2, .inl (c2, 13, .inr (.inr (.inr (.inr (fun i => if i < 13 then some (rw3 i) else none))))))] : va_W) ++ (gr13 rw3 cI 12 Gw4 ++ ([] : va_W))) t) (va_A (([(o1, .inr (3, [.ref o2, .int v5])), (o2, .inl (c2, 13, .inr (.inr (.inr (.inr (fun i => if i < 13 then some (rw3 i) else none))))))] : va_W) ++ (gr13 rw3 cI 12 Gw4 ++ ([] : va_W))) sz)) 0 0 (va_A (([(o1, .inr (3, [.ref o2, .int v5])), (o2, .inl (c2, 13, .inr (.inr (.inr (.inr (fun i => if i < 13 then some (rw3 i) else none))))))] : va_W) ++ (gr13 rw3 cI 12 Gw4 ++ ([] : va_W))) sz) := by
  refine Met.ofW (cc := cX3_hasWayOutside) (maxL := 8) (ret := (some .boolean)) (by decide) rfl ?_
  intro p e s m args below meth c s₁ B hml hv
  obtain ⟨rfl, hsz, hP, hK, hD0, hN⟩ := hv
  have hx := B.exec
  have hb := B.bytes
  have hr := B.returns
  have hts := atoms_spec (ws := wsX3_hasWayOutside) B.pre
  have hown : s.vm.findClass RX3 = some m.cls := findClass_of_methodNamed B.named
  have hlocks := B.notSynchronized
  subst hsz
  have hD := hD0.self (sz := s.heap.size)
  generalize hAe : va_A (([(o1, .inr (3, [.ref o2, .int v5])), (o2, .inl (c2, 13, .inr (.inr (.inr (.inr (fun i => if i < 13 then some (rw3 i) else none))))))] : va_W) ++ (gr13 rw3 cI 12 Gw4 ++ ([] : va_W))) s.heap.size = A at hD ⊢
  have hA : ∀ q : Nat, s.heap.size ≤ q → A q := fun q h => by rw [← hAe]; exact Or.inr h
  have hS : va_S A s.heap s.heap [] := va_S.rf
  have hP : va_P (dC, dI) vwCl (([(o1, .inr (3, [.ref o2, .int v5])), (o2, .inl (c2, 13, .inr (.inr (.inr (.inr (fun i => if i < 13 then some (rw3 i) else none))))))] : va_W) ++ (gr13 rw3 cI 12 Gw4 ++ ([] : va_W))) s.heap := hP
  have hl := lv_entry ([.ref o1, .int 0, .int a2, .int a3]) (n := 8) (Nat.le_of_ble_eq_true rfl)
  rw [lg_entry_eq]
  generalize (lg_sl ([.ref o1, .int 0, .int a2, .int a3]) ++ List.replicate (8 - (lg_sl ([.ref o1, .int 0, .int a2, .int a3])).length) Slot.unset).toArray = ls at hl ⊢
  have hl : lv_has ls 8 [(0, .ref o1), (1, .int 0), (2, .int a2), (3, .int a3)] := hl
  refine gen_Q (fun Q hQ => ?_)
  refine lv_aload_n hx hb dX3_hasWayOutside_0 rfl (lv_at hl 0 rfl) ?_
  refine va_get (D := (dC, dI)) (ci := 3) (v := .ref o2) (C := RX3) (T := TX3) (N := 2) hx hb hts iw_X3_hasWayOutside_X3 hown hK hP 0 rfl rfl 0 (by decide) (hts (.fieldLink RX3 11 "HolelessHouse$Going" "near" "[[I") hm_X3_hasWayOutside_1) (fun _ h9 => h9) rfl dX3_hasWayOutside_1 ?_
  refine lv_iload_n hx hb dX3_hasWayOutside_4 rfl (lv_at hl 1 rfl) ?_
  refine va_alda hx hb hK hP 1 1 rfl rfl (vin_iv ik_0 (by decide)) dX3_hasWayOutside_5 (tk_r (v := .ref (rw3 0)) rfl ?_)
  refine lv_astore (lv' := [(4, .ref (rw3 0)), (0, .ref o1), (1, .int 0), (2, .int a2), (3, .int a3)]) hx hb dX3_hasWayOutside_6 hl (by decide) rfl (fun ls hl => ?_)
  refine lv_aload hx hb dX3_hasWayOutside_8 (lv_at hl 0 rfl) ?_
  refine lv_iload_n hx hb dX3_hasWayOutside_10 rfl (lv_at hl 3 rfl) ?_
  refine va_iald hx hb hK hP (2 + 0) 0 (gr13_get (pre := ([(o1, .inr (3, [.ref o2, .int v5])), (o2, .inl (c2, 13, .inr (.inr (.inr (.inr (fun i => if i < 13 then some (rw3 i) else none))))))] : va_W)) (post := ([] : va_W)) rfl (by decide)) rfl (vin_iv a2_h (by decide)) dX3_hasWayOutside_11 (lv_topi (fun x1 x1_e => ?_))
  have x1_h : Iv 0 4095 x1 := iv_e x1_e (bg_at Gw4_b (by decide) (vin_iv a2_h (by decide)))
  refine lv_istore (lv' := [(5, .int x1), (4, .ref (rw3 0)), (0, .ref o1), (1, .int 0), (2, .int a2), (3, .int a3)]) hx hb dX3_hasWayOutside_12 hl (by decide) rfl (fun ls hl => ?_)
  refine lv_iconst (v := 0) hx hb dX3_hasWayOutside_14 (by decide) ?_
  refine lv_istore (lv' := [(6, .int 0), (5, .int x1), (4, .ref (rw3 0)), (0, .ref o1), (1, .int 0), (2, .int a2), (3, .int a3)]) hx hb dX3_hasWayOutside_15 hl (by decide) rfl (fun ls hl => ?_)
  refine lv_iconst (v := 0) hx hb dX3_hasWayOutside_17 (by decide) ?_
  refine lv_istore (lv' := [(7, .int 0), (6, .int 0), (5, .int x1), (4, .ref (rw3 0)), (0, .ref o1), (1, .int 0), (2, .int a2), (3, .int a3)]) hx hb dX3_hasWayOutside_18 hl (by decide) rfl (fun ls hl => ?_)
  have L1 : ∀ (N : Nat) (x154 : Int32) (x155 : Int32) (H : Heap) (locs : List Loc) (ls : Array Slot), (12 - x154.toInt).toNat < N → Iv 0 12 x154 → Iv 0 4095 x155 → va_P (dC, dI) vwCl (([(o1, .inr (3, [.ref o2, .int v5])), (o2, .inl (c2, 13, .inr (.inr (.inr (.inr (fun i => if i < 13 then some (rw3 i) else none))))))] : va_W) ++ (gr13 rw3 cI 12 Gw4 ++ ([] : va_W))) H → va_D A (([(o1, .inr (3, [.ref o2, .int v5])), (o2, .inl (c2, 13, .inr (.inr (.inr (.inr (fun i => if i < 13 then some (rw3 i) else none))))))] : va_W) ++ (gr13 rw3 cI 12 Gw4 ++ ([] : va_W))) → va_S A s.heap H locs → lv_has ls 8 [(7, .int x154), (6, .int x155), (5, .int x1), (4, .ref (rw3 0)), (0, .ref o1), (1, .int 0), (2, .int a2), (3, .int a3)] → W p l e ({ frames := 2, cells := 0, slots := 0, locals := 47 }) s m ([.ref o1, .int 0, .int a2, .int a3] : List Value).toArray below meth c H locs 0 0 Q (F0 m 20 ls []) := by
    intro N
    induction N with
    | zero =>
      intro x154 x155 H locs ls hM
      exact absurd hM (Nat.not_lt_zero _)
    | succ N ih1 =>
      intro x154 x155 H locs ls hM1 x154_h x155_h hP hD hS hl
      refine lv_iload hx hb dX3_hasWayOutside_20 (lv_at hl 0 rfl) ?_
      refine lv_aload_n hx hb dX3_hasWayOutside_22 rfl (lv_at hl 4 rfl) ?_
      refine va_get (D := (dC, dI)) (ci := 3) (v := .int v5) (C := RX3) (T := TX3) (N := 2) hx hb hts iw_X3_hasWayOutside_X3 hown hK hP 0 rfl rfl 1 (by decide) (hts (.fieldLink RX3 16 "HolelessHouse$Going" "size" "I") hm_X3_hasWayOutside_2) (fun _ h9 => h9) rfl dX3_hasWayOutside_23 ?_
      refine lv_icmp_ge (tgt := 71) hx hb dX3_hasWayOutside_26 (by decide) (fun h156 => ?_) (fun h156 => ?_)
      ·
        have qh156 := le_i h156
        refine lv_iload_n hx hb dX3_hasWayOutside_71 rfl (lv_at hl 7 rfl) ?_
        refine lv_iload hx hb dX3_hasWayOutside_72 (lv_at hl 2 rfl) ?_
        refine lv_iconst (v := (-1)) hx hb dX3_hasWayOutside_74 (by decide) ?_
        refine lv_ixor hx hb dX3_hasWayOutside_75 (lv_topi (fun x157 x157_e => ?_))
        refine lv_iand hx hb dX3_hasWayOutside_76 (lv_topi (fun x158 x158_e => ?_))
        have x158_h : Iv 0 4095 x158 := iv_e x158_e (iv_andL _ a3_h (by decide))
        refine lv_iconst (v := 1) hx hb dX3_hasWayOutside_77 (by decide) ?_
        refine lv_iload_n hx hb dX3_hasWayOutside_78 rfl (lv_at hl 6 rfl) ?_
        refine lv_ishl hx hb dX3_hasWayOutside_79 (lv_topi (fun x159 x159_e => ?_))
        have x159_h : Iv 1 2048 x159 := iv_e x159_e (iv_shl1 a2_h (by decide))
        refine lv_iconst (v := (-1)) hx hb dX3_hasWayOutside_80 (by decide) ?_
        refine lv_ixor hx hb dX3_hasWayOutside_81 (lv_topi (fun x160 x160_e => ?_))
        refine lv_iand hx hb dX3_hasWayOutside_82 (lv_topi (fun x161 x161_e => ?_))
        have x161_h : Iv 0 4095 x161 := iv_e x161_e (iv_andL _ x158_h (by decide))
        refine lv_istore (lv' := [(7, .int x161), (6, .int x155), (5, .int x1), (4, .ref (rw3 0)), (0, .ref o1), (1, .int 0), (2, .int a2), (3, .int a3)]) hx hb dX3_hasWayOutside_83 hl (by decide) rfl (fun ls hl => ?_)
        refine lv_aload hx hb dX3_hasWayOutside_85 (lv_at hl 3 rfl) ?_
        refine lv_iload hx hb dX3_hasWayOutside_87 (lv_at hl 1 rfl) ?_
        by_cases h162 : x155 = 0
        ·
          refine tk_i (v := 0) h162 ?_
          refine kc_i (D := (dC, dI)) (S := Unit) (wc := []) (wr := ([(o1, .inr (3, [.ref o2, .int v5])), (o2, .inl (c2, 13, .inr (.inr (.inr (.inr (fun i => if i < 13 then some (rw3 i) else none))))))] : va_W) ++ (gr13 rw3 cI 12 Gw4 ++ ([] : va_W))) (w1 := fun _ => []) (wn := fun _ => ([(o1, .inr (3, [.ref o2, .int v5])), (o2, .inl (c2, 13, .inr (.inr (.inr (.inr (fun i => if i < 13 then some (rw3 i) else none))))))] : va_W) ++ (gr13 rw3 cI 12 Gw4 ++ ([] : va_W))) (fun hPc hDc => va_runS (As := [.int 0]) (rest := [.ref (rw3 0)]) ⟨hx, hb, hml, hown, hts⟩ (kJ6_numberOfTrailingZeros_0f7a4_2 l dC dI cI c2 cZ H.size) (va_cwS 1 hts gX3_hasWayOutside_J6_numberOfTrailingZeros_0f7a4 rfl rfl rfl (by decide +kernel) ⟨Nat.le_of_ble_eq_true rfl, Nat.le_of_ble_eq_true rfl⟩) (pre_S hPc hK hDc hN) rfl rfl hl.1 rfl (lv_room (Nat.le_of_ble_eq_true rfl)) dX3_hasWayOutside_89 ⟨Nat.le_of_ble_eq_true rfl, Nat.le_of_ble_eq_true rfl⟩) hP hD hS hA [] [0, 1, 2, 3, 4, 5, 6, 7, 8, 9, 10, 11, 12, 13, 14] [0, 1, 2, 3, 4, 5, 6, 7, 8, 9, 10, 11, 12, 13, 14] rfl rfl (by decide +kernel) (by decide +kernel) (by decide +kernel) (by decide +kernel) (fun _ => rfl) (fun x163 _ H locs hq hP hD hS => ?_)
          have x163_h := hq
          have hP : va_P (dC, dI) vwCl (([(o1, .inr (3, [.ref o2, .int v5])), (o2, .inl (c2, 13, .inr (.inr (.inr (.inr (fun i => if i < 13 then some (rw3 i) else none))))))] : va_W) ++ (gr13 rw3 cI 12 Gw4 ++ ([] : va_W))) H := hP
          have hD : va_D A (([(o1, .inr (3, [.ref o2, .int v5])), (o2, .inl (c2, 13, .inr (.inr (.inr (.inr (fun i => if i < 13 then some (rw3 i) else none))))))] : va_W) ++ (gr13 rw3 cI 12 Gw4 ++ ([] : va_W))) := hD
          refine lv_iload hx hb dX3_hasWayOutside_92 (lv_at hl 0 rfl) ?_
          refine lv_iload hx hb dX3_hasWayOutside_94 (lv_at hl 1 rfl) ?_
          refine lv_ior hx hb dX3_hasWayOutside_96 (lv_topi (fun x164 x164_e => ?_))
          have x164_h : Iv 0 4095 x164 := iv_e x164_e (iv_or 12 x161_h x155_h (by decide))
          refine kc_i (D := (dC, dI)) (S := Unit) (wc := [((rw3 0), .inl (cI, 12, .inl (Gw4 0)))]) (wr := [(o1, .inr (3, [.ref o2, .int v5])), (o2, .inl (c2, 13, .inr (.inr (.inr (.inr (fun i => if i < 13 then some (rw3 i) else none)))))), (rw3 1, .inl (cI, 12, .inl (Gw4 1))), (rw3 2, .inl (cI, 12, .inl (Gw4 2))), (rw3 3, .inl (cI, 12, .inl (Gw4 3))), (rw3 4, .inl (cI, 12, .inl (Gw4 4))), (rw3 5, .inl (cI, 12, .inl (Gw4 5))), (rw3 6, .inl (cI, 12, .inl (Gw4 6))), (rw3 7, .inl (cI, 12, .inl (Gw4 7))), (rw3 8, .inl (cI, 12, .inl (Gw4 8))), (rw3 9, .inl (cI, 12, .inl (Gw4 9))), (rw3 10, .inl (cI, 12, .inl (Gw4 10))), (rw3 11, .inl (cI, 12, .inl (Gw4 11))), (rw3 12, .inl (cI, 12, .inl (Gw4 12)))]) (w1 := fun _ => [((rw3 0), .inl (cI, 12, .inl (Gw4 0)))]) (wn := fun _ => ([(o1, .inr (3, [.ref o2, .int v5])), (o2, .inl (c2, 13, .inr (.inr (.inr (.inr (fun i => if i < 13 then some (rw3 i) else none))))))] : va_W) ++ (gr13 rw3 cI 12 Gw4 ++ ([] : va_W))) (fun hPc hDc => va_runSN (As := [.ref (rw3 0), .int x163, .int x164]) (rest := []) ⟨hx, hb, hml, hown, hts⟩ (kX11_reached_1 l dC dI cI c2 cZ (rw3 0) (Gw4 0) x163 x164 H.size (Gw4_b 0 (by decide)) x163_h x164_h) ⟨va_cnB 3 hts gX3_hasWayOutside_X11_reached_n51 rfl rfl rfl (hN.1 _ ns_99) (hts (.initialized RX11) hm_X3_hasWayOutside_4) (by decide +kernel) ⟨Nat.le_of_ble_eq_true rfl, Nat.le_of_ble_eq_true rfl⟩, (hts (.static yX11_reached) hm_X3_hasWayOutside_11), trivial⟩ (pre_S hPc hK hDc hN) rfl rfl hl.1 rfl (lv_room (Nat.le_of_ble_eq_true rfl)) dX3_hasWayOutside_97 ⟨Nat.le_of_ble_eq_true rfl, Nat.le_of_ble_eq_true rfl⟩) hP hD hS hA [2] [0, 1, 3, 4, 5, 6, 7, 8, 9, 10, 11, 12, 13, 14] [0, 1, 14, 2, 3, 4, 5, 6, 7, 8, 9, 10, 11, 12, 13] rfl rfl (by decide +kernel) (by decide +kernel) (by decide +kernel) (by decide +kernel) (fun _ => rfl) (fun x165 _ H locs hq hP hD hS => ?_)
          have x165_h := hq
          have hP : va_P (dC, dI) vwCl (([(o1, .inr (3, [.ref o2, .int v5])), (o2, .inl (c2, 13, .inr (.inr (.inr (.inr (fun i => if i < 13 then some (rw3 i) else none))))))] : va_W) ++ (gr13 rw3 cI 12 Gw4 ++ ([] : va_W))) H := hP
          have hD : va_D A (([(o1, .inr (3, [.ref o2, .int v5])), (o2, .inl (c2, 13, .inr (.inr (.inr (.inr (fun i => if i < 13 then some (rw3 i) else none))))))] : va_W) ++ (gr13 rw3 cI 12 Gw4 ++ ([] : va_W))) := hD
          refine lv_iload hx hb dX3_hasWayOutside_100 (lv_at hl 1 rfl) ?_
          refine lv_iand hx hb dX3_hasWayOutside_102 (lv_topi (fun x166 x166_e => ?_))
          have x166_h : Iv 0 4095 x166 := iv_e x166_e (iv_andL _ x165_h (by decide))
          refine lv_iload hx hb dX3_hasWayOutside_103 (lv_at hl 1 rfl) ?_
          refine lv_icmp_ne (tgt := 112) hx hb dX3_hasWayOutside_105 (by decide) (fun h167 => ?_) (fun h167 => ?_)
          ·
            refine lv_iconst (v := 0) hx hb dX3_hasWayOutside_112 (by decide) ?_
            rw [hQ]
            exact W.zret (v := 0) (ty := .boolean) hx hb hr rfl (fun t ht hW => ⟨⟨0, (), rfl, (iv_w ik_0 (by decide)), by rw [ht]; exact hP, va_K.moved hW.alike hK, hD⟩, hS.F ht⟩) hS.2.2 dX3_hasWayOutside_113
          ·
            refine lv_iconst (v := 1) hx hb dX3_hasWayOutside_108 (by decide) ?_
            refine lv_goto (tgt := 113) hx hb dX3_hasWayOutside_109 (by decide) ?_
            rw [hQ]
            exact W.zret (v := 1) (ty := .boolean) hx hb hr rfl (fun t ht hW => ⟨⟨1, (), rfl, (iv_w ik_1 (by decide)), by rw [ht]; exact hP, va_K.moved hW.alike hK, hD⟩, hS.F ht⟩) hS.2.2 dX3_hasWayOutside_113
        have j168 : Iv 1 4095 x155 := r_nelo h162 x155_h ik_0 (by decide)
        refine kc_i (D := (dC, dI)) (S := Unit) (wc := []) (wr := ([(o1, .inr (3, [.ref o2, .int v5])), (o2, .inl (c2, 13, .inr (.inr (.inr (.inr (fun i => if i < 13 then some (rw3 i) else none))))))] : va_W) ++ (gr13 rw3 cI 12 Gw4 ++ ([] : va_W))) (w1 := fun _ => []) (wn := fun _ => ([(o1, .inr (3, [.ref o2, .int v5])), (o2, .inl (c2, 13, .inr (.inr (.inr (.inr (fun i => if i < 13 then some (rw3 i) else none))))))] : va_W) ++ (gr13 rw3 cI 12 Gw4 ++ ([] : va_W))) (fun hPc hDc => va_runS (As := [.int x155]) (rest := [.ref (rw3 0)]) ⟨hx, hb, hml, hown, hts⟩ (kJ6_numberOfTrailingZeros_0f7a4_1 l dC dI cI c2 cZ x155 H.size j168) (va_cwS 1 hts gX3_hasWayOutside_J6_numberOfTrailingZeros_0f7a4 rfl rfl rfl (by decide +kernel) ⟨Nat.le_of_ble_eq_true rfl, Nat.le_of_ble_eq_true rfl⟩) (pre_S hPc hK hDc hN) rfl rfl hl.1 rfl (lv_room (Nat.le_of_ble_eq_true rfl)) dX3_hasWayOutside_89 ⟨Nat.le_of_ble_eq_true rfl, Nat.le_of_ble_eq_true rfl⟩) hP hD hS hA [] [0, 1, 2, 3, 4, 5, 6, 7, 8, 9, 10, 11, 12, 13, 14] [0, 1, 2, 3, 4, 5, 6, 7, 8, 9, 10, 11, 12, 13, 14] rfl rfl (by decide +kernel) (by decide +kernel) (by decide +kernel) (by decide +kernel) (fun _ => rfl) (fun x169 _ H locs hq hP hD hS => ?_)
        have x169_h := hq
        have hP : va_P (dC, dI) vwCl (([(o1, .inr (3, [.ref o2, .int v5])), (o2, .inl (c2, 13, .inr (.inr (.inr (.inr (fun i => if i < 13 then some (rw3 i) else none))))))] : va_W) ++ (gr13 rw3 cI 12 Gw4 ++ ([] : va_W))) H := hP
        have hD : va_D A (([(o1, .inr (3, [.ref o2, .int v5])), (o2, .inl (c2, 13, .inr (.inr (.inr (.inr (fun i => if i < 13 then some (rw3 i) else none))))))] : va_W) ++ (gr13 rw3 cI 12 Gw4 ++ ([] : va_W))) := hD
        refine lv_iload hx hb dX3_hasWayOutside_92 (lv_at hl 0 rfl) ?_
        refine lv_iload hx hb dX3_hasWayOutside_94 (lv_at hl 1 rfl) ?_
        refine lv_ior hx hb dX3_hasWayOutside_96 (lv_topi (fun x170 x170_e => ?_))
        have x170_h : Iv 0 4095 x170 := iv_e x170_e (iv_or 12 x161_h j168 (by decide))
        refine kc_i (D := (dC, dI)) (S := Unit) (wc := [((rw3 0), .inl (cI, 12, .inl (Gw4 0)))]) (wr := [(o1, .inr (3, [.ref o2, .int v5])), (o2, .inl (c2, 13, .inr (.inr (.inr (.inr (fun i => if i < 13 then some (rw3 i) else none)))))), (rw3 1, .inl (cI, 12, .inl (Gw4 1))), (rw3 2, .inl (cI, 12, .inl (Gw4 2))), (rw3 3, .inl (cI, 12, .inl (Gw4 3))), (rw3 4, .inl (cI, 12, .inl (Gw4 4))), (rw3 5, .inl (cI, 12, .inl (Gw4 5))), (rw3 6, .inl (cI, 12, .inl (Gw4 6))), (rw3 7, .inl (cI, 12, .inl (Gw4 7))), (rw3 8, .inl (cI, 12, .inl (Gw4 8))), (rw3 9, .inl (cI, 12, .inl (Gw4 9))), (rw3 10, .inl (cI, 12, .inl (Gw4 10))), (rw3 11, .inl (cI, 12, .inl (Gw4 11))), (rw3 12, .inl (cI, 12, .inl (Gw4 12)))]) (w1 := fun _ => [((rw3 0), .inl (cI, 12, .inl (Gw4 0)))]) (wn := fun _ => ([(o1, .inr (3, [.ref o2, .int v5])), (o2, .inl (c2, 13, .inr (.inr (.inr (.inr (fun i => if i < 13 then some (rw3 i) else none))))))] : va_W) ++ (gr13 rw3 cI 12 Gw4 ++ ([] : va_W))) (fun hPc hDc => va_runSN (As := [.ref (rw3 0), .int x169, .int x170]) (rest := []) ⟨hx, hb, hml, hown, hts⟩ (kX11_reached_2 l dC dI cI c2 cZ (rw3 0) (Gw4 0) x169 x170 H.size (Gw4_b 0 (by decide)) x169_h x170_h) ⟨va_cnB 3 hts gX3_hasWayOutside_X11_reached_n51 rfl rfl rfl (hN.1 _ ns_99) (hts (.initialized RX11) hm_X3_hasWayOutside_4) (by decide +kernel) ⟨Nat.le_of_ble_eq_true rfl, Nat.le_of_ble_eq_true rfl⟩, (hts (.static yX11_reached) hm_X3_hasWayOutside_11), trivial⟩ (pre_S hPc hK hDc hN) rfl rfl hl.1 rfl (lv_room (Nat.le_of_ble_eq_true rfl)) dX3_hasWayOutside_97 ⟨Nat.le_of_ble_eq_true rfl, Nat.le_of_ble_eq_true rfl⟩) hP hD hS hA [2] [0, 1, 3, 4, 5, 6, 7, 8, 9, 10, 11, 12, 13, 14] [0, 1, 14, 2, 3, 4, 5, 6, 7, 8, 9, 10, 11, 12, 13] rfl rfl (by decide +kernel) (by decide +kernel) (by decide +kernel) (by decide +kernel) (fun _ => rfl) (fun x171 _ H locs hq hP hD hS => ?_)
        have x171_h := hq
        have hP : va_P (dC, dI) vwCl (([(o1, .inr (3, [.ref o2, .int v5])), (o2, .inl (c2, 13, .inr (.inr (.inr (.inr (fun i => if i < 13 then some (rw3 i) else none))))))] : va_W) ++ (gr13 rw3 cI 12 Gw4 ++ ([] : va_W))) H := hP
        have hD : va_D A (([(o1, .inr (3, [.ref o2, .int v5])), (o2, .inl (c2, 13, .inr (.inr (.inr (.inr (fun i => if i < 13 then some (rw3 i) else none))))))] : va_W) ++ (gr13 rw3 cI 12 Gw4 ++ ([] : va_W))) := hD
        refine lv_iload hx hb dX3_hasWayOutside_100 (lv_at hl 1 rfl) ?_
        refine lv_iand hx hb dX3_hasWayOutside_102 (lv_topi (fun x172 x172_e => ?_))
        have x172_h : Iv 0 4095 x172 := iv_e x172_e (iv_andL _ x171_h (by decide))
        refine lv_iload hx hb dX3_hasWayOutside_103 (lv_at hl 1 rfl) ?_
        refine lv_icmp_ne (tgt := 112) hx hb dX3_hasWayOutside_105 (by decide) (fun h173 => ?_) (fun h173 => ?_)
        ·
          refine lv_iconst (v := 0) hx hb dX3_hasWayOutside_112 (by decide) ?_
          rw [hQ]
          exact W.zret (v := 0) (ty := .boolean) hx hb hr rfl (fun t ht hW => ⟨⟨0, (), rfl, (iv_w ik_0 (by decide)), by rw [ht]; exact hP, va_K.moved hW.alike hK, hD⟩, hS.F ht⟩) hS.2.2 dX3_hasWayOutside_113
        ·
          have j174 : Iv 1 4095 x172 := r_eq h173 j168
          refine lv_iconst (v := 1) hx hb dX3_hasWayOutside_108 (by decide) ?_
          refine lv_goto (tgt := 113) hx hb dX3_hasWayOutside_109 (by decide) ?_
          rw [hQ]
          exact W.zret (v := 1) (ty := .boolean) hx hb hr rfl (fun t ht hW => ⟨⟨1, (), rfl, (iv_w ik_1 (by decide)), by rw [ht]; exact hP, va_K.moved hW.alike hK, hD⟩, hS.F ht⟩) hS.2.2 dX3_hasWayOutside_113
      ·
        have qh156 := nle_i h156
        have j175 : Iv 0 11 x154 := r_ltl qh156 x154_h v5_h (by decide)
        have j176 : Iv 1 12 v5 := r_ltr qh156 x154_h v5_h (by decide)
        refine lv_iload hx hb dX3_hasWayOutside_29 (lv_at hl 2 rfl) ?_
        refine lv_iload hx hb dX3_hasWayOutside_31 (lv_at hl 0 rfl) ?_
        refine kc_i (D := (dC, dI)) (S := Unit) (wc := []) (wr := ([(o1, .inr (3, [.ref o2, .int v5])), (o2, .inl (c2, 13, .inr (.inr (.inr (.inr (fun i => if i < 13 then some (rw3 i) else none))))))] : va_W) ++ (gr13 rw3 cI 12 Gw4 ++ ([] : va_W))) (w1 := fun _ => []) (wn := fun _ => ([(o1, .inr (3, [.ref o2, .int v5])), (o2, .inl (c2, 13, .inr (.inr (.inr (.inr (fun i => if i < 13 then some (rw3 i) else none))))))] : va_W) ++ (gr13 rw3 cI 12 Gw4 ++ ([] : va_W))) (fun hPc hDc => va_runSN (As := [.int x1, .int x154]) (rest := []) ⟨hx, hb, hml, hown, hts⟩ (kX11_in_1 l dC dI cI c2 cZ x1 x154 H.size) ⟨va_cnB 2 hts gX3_hasWayOutside_X11_in_n44 rfl rfl rfl (hN.1 _ ns_74) (hts (.initialized RX11) hm_X3_hasWayOutside_4) (by decide +kernel) ⟨Nat.le_of_ble_eq_true rfl, Nat.le_of_ble_eq_true rfl⟩, (hts (.static yX11_in) hm_X3_hasWayOutside_3), trivial⟩ (pre_S hPc hK hDc hN) rfl rfl hl.1 rfl (lv_room (Nat.le_of_ble_eq_true rfl)) dX3_hasWayOutside_33 ⟨Nat.le_of_ble_eq_true rfl, Nat.le_of_ble_eq_true rfl⟩) hP hD hS hA [] [0, 1, 2, 3, 4, 5, 6, 7, 8, 9, 10, 11, 12, 13, 14] [0, 1, 2, 3, 4, 5, 6, 7, 8, 9, 10, 11, 12, 13, 14] rfl rfl (by decide +kernel) (by decide +kernel) (by decide +kernel) (by decide +kernel) (fun _ => rfl) (fun x177 _ H locs hq hP hD hS => ?_)
        have x177_h := hq
        have hP : va_P (dC, dI) vwCl (([(o1, .inr (3, [.ref o2, .int v5])), (o2, .inl (c2, 13, .inr (.inr (.inr (.inr (fun i => if i < 13 then some (rw3 i) else none))))))] : va_W) ++ (gr13 rw3 cI 12 Gw4 ++ ([] : va_W))) H := hP
        have hD : va_D A (([(o1, .inr (3, [.ref o2, .int v5])), (o2, .inl (c2, 13, .inr (.inr (.inr (.inr (fun i => if i < 13 then some (rw3 i) else none))))))] : va_W) ++ (gr13 rw3 cI 12 Gw4 ++ ([] : va_W))) := hD
        refine lv_if_eq (tgt := 65) hx hb dX3_hasWayOutside_36 (by decide) (fun h178 => ?_) (fun h178 => ?_)
        ·
          have j179 : Iv 0 0 x177 := r_eq h178 ik_0
          obtain ⟨x180, x180_e⟩ : ∃ z : Int32, z = x154 + 1 := ⟨_, rfl⟩
          have x180_h : Iv 1 12 x180 := iv_e x180_e (iv_add j175 ik_1 (by decide))
          refine lv_iinc (v := x180) (lv' := [(7, .int x180), (6, .int x155), (5, .int x1), (4, .ref (rw3 0)), (0, .ref o1), (1, .int 0), (2, .int a2), (3, .int a3)]) hx hb dX3_hasWayOutside_65 hl (k := 0) rfl (incN (by decide +kernel) x180_e) (by decide) rfl (fun ls hl => ?_)
          refine lv_goto (tgt := 20) hx hb dX3_hasWayOutside_68 (by decide) ?_
          exact ih1 x180 x155 _ _ _ (ms_up x180_e j175 (by decide) hM1) (iv_w x180_h (by decide)) x155_h hP hD hS hl
        ·
          have j181 : Iv 1 1 x177 := r_nelo h178 x177_h ik_0 (by decide)
          refine lv_iload hx hb dX3_hasWayOutside_39 (lv_at hl 2 rfl) ?_
          refine lv_aload hx hb dX3_hasWayOutside_41 (lv_at hl 3 rfl) ?_
          refine lv_iload hx hb dX3_hasWayOutside_43 (lv_at hl 0 rfl) ?_
          refine va_iald hx hb hK hP (2 + 0) 0 (gr13_get (pre := ([(o1, .inr (3, [.ref o2, .int v5])), (o2, .inl (c2, 13, .inr (.inr (.inr (.inr (fun i => if i < 13 then some (rw3 i) else none))))))] : va_W)) (post := ([] : va_W)) rfl (by decide)) rfl (vin_iv j175 (by decide)) dX3_hasWayOutside_45 (lv_topi (fun x182 x182_e => ?_))
          have x182_h : Iv 0 4095 x182 := iv_e x182_e (bg_at Gw4_b (by decide) (vin_iv j175 (by decide)))
          refine lv_iconst (v := (-1)) hx hb dX3_hasWayOutside_46 (by decide) ?_
          refine lv_ixor hx hb dX3_hasWayOutside_47 (lv_topi (fun x183 x183_e => ?_))
          refine lv_iand hx hb dX3_hasWayOutside_48 (lv_topi (fun x184 x184_e => ?_))
          have x184_h : Iv 0 4095 x184 := iv_e x184_e (iv_andL _ x1_h (by decide))
          refine lv_iconst (v := 1) hx hb dX3_hasWayOutside_49 (by decide) ?_
          refine lv_iload hx hb dX3_hasWayOutside_50 (lv_at hl 0 rfl) ?_
          refine lv_ishl hx hb dX3_hasWayOutside_52 (lv_topi (fun x185 x185_e => ?_))
          have x185_h : Iv 1 2048 x185 := iv_e x185_e (iv_shl1 j175 (by decide))
          refine lv_icmp_eq (tgt := 65) hx hb dX3_hasWayOutside_53 (by decide) (fun h186 => ?_) (fun h186 => ?_)
          ·
            have j187 : Iv 1 2048 x184 := r_eq h186 x185_h
            obtain ⟨x188, x188_e⟩ : ∃ z : Int32, z = x154 + 1 := ⟨_, rfl⟩
            have x188_h : Iv 1 12 x188 := iv_e x188_e (iv_add j175 ik_1 (by decide))
            refine lv_iinc (v := x188) (lv' := [(7, .int x188), (6, .int x155), (5, .int x1), (4, .ref (rw3 0)), (0, .ref o1), (1, .int 0), (2, .int a2), (3, .int a3)]) hx hb dX3_hasWayOutside_65 hl (k := 0) rfl (incN (by decide +kernel) x188_e) (by decide) rfl (fun ls hl => ?_)
            refine lv_goto (tgt := 20) hx hb dX3_hasWayOutside_68 (by decide) ?_
            exact ih1 x188 x155 _ _ _ (ms_up x188_e j175 (by decide) hM1) (iv_w x188_h (by decide)) x155_h hP hD hS hl
          ·
            refine lv_iload hx hb dX3_hasWayOutside_56 (lv_at hl 1 rfl) ?_
            refine lv_iconst (v := 1) hx hb dX3_hasWayOutside_58 (by decide) ?_
            refine lv_iload hx hb dX3_hasWayOutside_59 (lv_at hl 0 rfl) ?_
            refine lv_ishl hx hb dX3_hasWayOutside_61 (lv_topi (fun x189 x189_e => ?_))
            have x189_h : Iv 1 2048 x189 := iv_e x189_e (iv_shl1 j175 (by decide))
            refine lv_ior hx hb dX3_hasWayOutside_62 (lv_topi (fun x190 x190_e => ?_))
            have x190_h : Iv 0 4095 x190 := iv_e x190_e (iv_or 12 x155_h x189_h (by decide))
            refine lv_istore (lv' := [(6, .int x190), (7, .int x154), (5, .int x1), (4, .ref (rw3 0)), (0, .ref o1), (1, .int 0), (2, .int a2), (3, .int a3)]) hx hb dX3_hasWayOutside_63 hl (by decide) rfl (fun ls hl => ?_)
            obtain ⟨x191, x191_e⟩ : ∃ z : Int32, z = x154 + 1 := ⟨_, rfl⟩
            have x191_h : Iv 1 12 x191 := iv_e x191_e (iv_add j175 ik_1 (by decide))
            refine lv_iinc (v := x191) (lv' := [(7, .int x191), (6, .int x190), (5, .int x1), (4, .ref (rw3 0)), (0, .ref o1), (1, .int 0), (2, .int a2), (3, .int a3)]) hx hb dX3_hasWayOutside_65 hl (k := 1) rfl (incN (by decide +kernel) x191_e) (by decide) rfl (fun ls hl => ?_)
            refine lv_goto (tgt := 20) hx hb dX3_hasWayOutside_68 (by decide) ?_
            exact ih1 x191 x190 _ _ _ (ms_up x191_e j175 (by decide) hM1) (iv_w x191_h (by decide)) x190_h hP hD hS hl
  exact L1 _ 0 0 _ _ _ (Nat.lt_succ_self _) (iv_w ik_0 (by decide)) (iv_w ik_0 (by decide)) hP hD hS hl
theorem iw_X5_neverWrong_X5 : ∀ w ∈ wsX50, w ∈ wsX5_neverWrong := fun _ h => List.mem_cons.mpr (Or.inr (List.mem_append.mpr (Or.inl (List.mem_append.mpr (Or.inr h)))))
set_option maxHeartbeats 4000000 in
set_option maxRecDepth 100000 in
theorem kX5_neverWrong_1 (l : Launch) (dC : Nat → ClassId) (dI : Nat → Nat → Nat) (cI c2 cZ : ClassId) (o1 : Nat) (o2 : Nat) (o7 : Nat) (o9 : Nat) (o3 : Nat) (rw4 : Nat → Nat) (Gw5 : Nat → Nat → Int32) (v6 : Int32) (rw10 : Nat → Nat) (Gw11 : Nat → Nat → Int32) (v12 : Int32) (v13 : Int32) (v14 : Int32) (a2 : Int32) (a3 : Int32) (sz : Nat) (Gw5_b : Bg 13 12 0 4095 Gw5) (v6_h : Iv 0 12 v6) (v13_h : Iv 0 4095 v13) (v14_h : Iv 0 12 v14) (a2_h : Iv 0 4095 a2) (a3_h : Iv 0 11 a3) : Met l yX5_neverWrong wsX5_neverWrong ({ frames := 3, cells := 0, slots := 0, locals := 74 }) (va_Pc [.ref o1, .int 0, .int a2, .int a3] (wPre (dC, dI) [(cI, .int), (c2, .array .int), (cZ, .boolean)] (([(o1, .inr (5, [.ref o2, .ref o7, .ref o9, .int v12, .int v13, .int v14])), (o9, .inl (c2, 12, .inr (.inr (.inr (.inr (fun i => if i < 12 then some (rw10 i) else none)))))), (o2, .inr (3, [.ref o3, .int v6])), (o3, .inl (c2, 13, .inr (.inr (.inr (.inr (fun i => if i < 13 then some (rw4 i) else none))))))] : va_W) ++ (gr12 rw10 cI 12 Gw11 ++ (gr13 rw4 cI 12 Gw5 ++ ([] : va_W)))) sz)) (va_Qi (fun (r : Int32) (_ : Unit) => Iv (-1) 11 r) (fun _ t => wPost (dC, dI) [(cI, .int), (c2, .array .int), (cZ, .boolean)] (va_A (([(o1, .inr (5, [.ref o2, .ref o7, .ref o9, .int v12, .int v13, .int v14])), (o9, .inl (c2, 12, .inr (.inr (.inr (.inr (fun i => if i < 12 then some (rw10 i) else none)))))), (o2, .inr (3, [.ref o3, .int v6])), (o3, .inl (c2, 13, .inr (.inr (.inr (.inr (fun i => if i < 13 then some (rw4 i) else none))))))] : va_W) ++ (gr12 rw10 cI 12 Gw11 ++ (gr13 rw4 cI 12 Gw5 ++ ([] : va_W)))) sz) (([(o1, .inr (5, [.ref o2, .ref o7, .ref o9, .int v12, .int v13, .int v14])), (o9, .inl (c2, 12, .inr (.inr (.inr (.inr (fun i => if i < 12 then some (rw10 i) else none)))))), (o2, .inr (3, [.ref o3, .int v6])), (o3, .inl (c2, 13, .inr (.inr (.inr (.inr (fun i => if i < 13 then some (rw4 i) else none))))))] : va_W) ++ (gr12 rw10 cI 12 Gw11 ++ (gr13 rw4 cI 12 Gw5 ++ ([] : va_W)))) t) (va_A (([(o1, .inr (5, [.ref o2, .ref o7, .ref o9, .int v12, .int v13, .int v14])), (o9, .inl (c2, 12, .inr (.inr (.inr (.inr (fun i => if i < 12 then some (rw10 i) else none)))))), (o2, .inr (3, [.ref o3, .int v6])), (o3, .inl (c2, 13, .inr (.inr (.inr (.inr (fun i => if i < 13 then some (rw4 i) else none))))))] : va_W) ++ (gr12 rw10 cI 12 Gw11 ++ (gr13 rw4 cI 12 Gw5 ++ ([] : va_W)))) sz)) 0 0 (va_A (([(o1, .inr (5, [.ref o2, .ref o7, .ref o9, .int v12, .int v13, .int v14])), (o9, .inl (c2, 12, .inr (.inr (.inr (.inr (fun i => if i < 12 then some (rw10 i) else none)))))), (o2, .inr (3, [.ref o3, .int v6])), (o3, .inl (c2, 13, .inr (.inr (.inr (.inr (fun i => if i < 13 then some (rw4 i) else none))))))] : va_W) ++ (gr12 rw10 cI 12 Gw11 ++ (gr13 rw4 cI 12 Gw5 ++ ([] : va_W)))) sz) := by
  refine Met.ofW (cc := cX5_neverWrong) (maxL := 6) (ret := (some .int)) (by decide) rfl ?_
  intro p e s m args below meth c s₁ B hml hv
  obtain ⟨rfl, hsz, hP, hK, hD0, hN⟩ := hv
  have hx := B.exec
  have hb := B.bytes
  have hr := B.returns
  have hts := atoms_spec (ws := wsX5_neverWrong) B.pre
  have hown : s.vm.findClass RX5 = some m.cls := findClass_of_methodNamed B.named
  have hlocks := B.notSynchronized
  subst hsz
  have hD := hD0.self (sz := s.heap.size)
  generalize hAe : va_A (([(o1, .inr (5, [.ref o2, .ref o7, .ref o9, .int v12, .int v13, .int v14])), (o9, .inl (c2, 12, .inr (.inr (.inr (.inr (fun i => if i < 12 then some (rw10 i) else none)))))), (o2, .inr (3, [.ref o3, .int v6])), (o3, .inl (c2, 13, .inr (.inr (.inr (.inr (fun i => if i < 13 then some (rw4 i) else none))))))] : va_W) ++ (gr12 rw10 cI 12 Gw11 ++ (gr13 rw4 cI 12 Gw5 ++ ([] : va_W)))) s.heap.size = A at hD ⊢
  have hA : ∀ q : Nat, s.heap.size ≤ q → A q := fun q h => by rw [← hAe]; exact Or.inr h
  have hS : va_S A s.heap s.heap [] := va_S.rf
  have hP : va_P (dC, dI) vwCl (([(o1, .inr (5, [.ref o2, .ref o7, .ref o9, .int v12, .int v13, .int v14])), (o9, .inl (c2, 12, .inr (.inr (.inr (.inr (fun i => if i < 12 then some (rw10 i) else none)))))), (o2, .inr (3, [.ref o3, .int v6])), (o3, .inl (c2, 13, .inr (.inr (.inr (.inr (fun i => if i < 13 then some (rw4 i) else none))))))] : va_W) ++ (gr12 rw10 cI 12 Gw11 ++ (gr13 rw4 cI 12 Gw5 ++ ([] : va_W)))) s.heap := hP
  have hl := lv_entry ([.ref o1, .int 0, .int a2, .int a3]) (n := 6) (Nat.le_of_ble_eq_true rfl)
  rw [lg_entry_eq]
  generalize (lg_sl ([.ref o1, .int 0, .int a2, .int a3]) ++ List.replicate (6 - (lg_sl ([.ref o1, .int 0, .int a2, .int a3])).length) Slot.unset).toArray = ls at hl ⊢
  have hl : lv_has ls 6 [(0, .ref o1), (1, .int 0), (2, .int a2), (3, .int a3)] := hl
  refine gen_Q (fun Q hQ => ?_)
  refine lv_aload_n hx hb dX5_neverWrong_0 rfl (lv_at hl 0 rfl) ?_
  refine va_get (D := (dC, dI)) (ci := 5) (v := .int v12) (C := RX5) (T := TX5) (N := 6) hx hb hts iw_X5_neverWrong_X5 hown hK hP 0 rfl rfl 3 (by decide) (hts (.fieldLink RX5 27 "HolelessHouse$LeastSearch" "rule" "I") hm_X5_neverWrong_1) (fun _ h9 => h9) rfl dX5_neverWrong_1 ?_
  refine lv_iconst (v := 1) hx hb dX5_neverWrong_4 (by decide) ?_
  refine lv_icmp_ne (tgt := 18) hx hb dX5_neverWrong_5 (by decide) (fun h1 => ?_) (fun h1 => ?_)
  ·
    refine lv_aload_n hx hb dX5_neverWrong_18 rfl (lv_at hl 0 rfl) ?_
    refine va_get (D := (dC, dI)) (ci := 5) (v := .ref o9) (C := RX5) (T := TX5) (N := 6) hx hb hts iw_X5_neverWrong_X5 hown hK hP 0 rfl rfl 2 (by decide) (hts (.fieldLink RX5 24 "HolelessHouse$LeastSearch" "prices" "[[I") hm_X5_neverWrong_3) (fun _ h9 => h9) rfl dX5_neverWrong_19 ?_
    refine lv_iload_n hx hb dX5_neverWrong_22 rfl (lv_at hl 1 rfl) ?_
    refine va_alda hx hb hK hP 1 1 rfl rfl (vin_iv ik_0 (by decide)) dX5_neverWrong_23 (tk_r (v := .ref (rw10 0)) rfl ?_)
    refine lv_iload_n hx hb dX5_neverWrong_24 rfl (lv_at hl 3 rfl) ?_
    refine va_iald hx hb hK hP (4 + 0) 0 (gr12_get (pre := ([(o1, .inr (5, [.ref o2, .ref o7, .ref o9, .int v12, .int v13, .int v14])), (o9, .inl (c2, 12, .inr (.inr (.inr (.inr (fun i => if i < 12 then some (rw10 i) else none)))))), (o2, .inr (3, [.ref o3, .int v6])), (o3, .inl (c2, 13, .inr (.inr (.inr (.inr (fun i => if i < 13 then some (rw4 i) else none))))))] : va_W)) (post := (gr13 rw4 cI 12 Gw5 ++ ([] : va_W))) rfl (by decide)) rfl (vin_iv a3_h (by decide)) dX5_neverWrong_25 (lv_topi (fun x2 x2_e => ?_))
    refine lv_istore (lv' := [(4, .int x2), (0, .ref o1), (1, .int 0), (2, .int a2), (3, .int a3)]) hx hb dX5_neverWrong_26 hl (by decide) rfl (fun ls hl => ?_)
    refine lv_iload_n hx hb dX5_neverWrong_28 rfl (lv_at hl 4 rfl) ?_
    refine lv_istore (lv' := [(5, .int a3), (4, .int x2), (0, .ref o1), (1, .int 0), (2, .int a2), (3, .int a3)]) hx hb dX5_neverWrong_29 hl (by decide) rfl (fun ls hl => ?_)
    have L1 : ∀ (N : Nat) (x32 : Int32) (H : Heap) (locs : List Loc) (ls : Array Slot), (12 - x32.toInt).toNat < N → Iv 0 12 x32 → va_P (dC, dI) vwCl (([(o1, .inr (5, [.ref o2, .ref o7, .ref o9, .int v12, .int v13, .int v14])), (o9, .inl (c2, 12, .inr (.inr (.inr (.inr (fun i => if i < 12 then some (rw10 i) else none)))))), (o2, .inr (3, [.ref o3, .int v6])), (o3, .inl (c2, 13, .inr (.inr (.inr (.inr (fun i => if i < 13 then some (rw4 i) else none))))))] : va_W) ++ (gr12 rw10 cI 12 Gw11 ++ (gr13 rw4 cI 12 Gw5 ++ ([] : va_W)))) H → va_D A (([(o1, .inr (5, [.ref o2, .ref o7, .ref o9, .int v12, .int v13, .int v14])), (o9, .inl (c2, 12, .inr (.inr (.inr (.inr (fun i => if i < 12 then some (rw10 i) else none)))))), (o2, .inr (3, [.ref o3, .int v6])), (o3, .inl (c2, 13, .inr (.inr (.inr (.inr (fun i => if i < 13 then some (rw4 i) else none))))))] : va_W) ++ (gr12 rw10 cI 12 Gw11 ++ (gr13 rw4 cI 12 Gw5 ++ ([] : va_W)))) → va_S A s.heap H locs → lv_has ls 6 [(5, .int x32), (4, .int x2), (0, .ref o1), (1, .int 0), (2, .int a2), (3, .int a3)] → W p l e ({ frames := 3, cells := 0, slots := 0, locals := 74 }) s m ([.ref o1, .int 0, .int a2, .int a3] : List Value).toArray below meth c H locs 0 0 Q (F0 m 31 ls []) := by
      intro N
      induction N with
      | zero =>
        intro x32 H locs ls hM
        exact absurd hM (Nat.not_lt_zero _)
      | succ N ih1 =>
        intro x32 H locs ls hM1 x32_h hP hD hS hl
        refine lv_iload hx hb dX5_neverWrong_31 (lv_at hl 0 rfl) ?_
        refine lv_aload_n hx hb dX5_neverWrong_33 rfl (lv_at hl 2 rfl) ?_
        refine va_get (D := (dC, dI)) (ci := 5) (v := .int v14) (C := RX5) (T := TX5) (N := 6) hx hb hts iw_X5_neverWrong_X5 hown hK hP 0 rfl rfl 5 (by decide) (hts (.fieldLink RX5 34 "HolelessHouse$LeastSearch" "size" "I") hm_X5_neverWrong_4) (fun _ h9 => h9) rfl dX5_neverWrong_34 ?_
        refine lv_icmp_ge (tgt := 82) hx hb dX5_neverWrong_37 (by decide) (fun h33 => ?_) (fun h33 => ?_)
        ·
          have qh33 := le_i h33
          refine lv_iload hx hb dX5_neverWrong_82 (lv_at hl 1 rfl) ?_
          refine lv_if_ne (tgt := 91) hx hb dX5_neverWrong_84 (by decide) (fun h34 => ?_) (fun h34 => ?_)
          ·
            refine lv_iconst (v := (-1)) hx hb dX5_neverWrong_91 (by decide) ?_
            rw [hQ]
            exact W.iret (v := (-1)) hx hb hr (fun t ht hW => ⟨⟨(-1), (), rfl, (iv_w ikm_1 (by decide)), by rw [ht]; exact hP, va_K.moved hW.alike hK, hD⟩, hS.F ht⟩) hS.2.2 dX5_neverWrong_92
          ·
            have j35 : Iv 0 0 x2 := r_eq h34 ik_0
            refine lv_iload_n hx hb dX5_neverWrong_87 rfl (lv_at hl 5 rfl) ?_
            refine lv_goto (tgt := 92) hx hb dX5_neverWrong_88 (by decide) ?_
            rw [hQ]
            exact W.iret (v := a3) hx hb hr (fun t ht hW => ⟨⟨a3, (), rfl, (iv_w a3_h (by decide)), by rw [ht]; exact hP, va_K.moved hW.alike hK, hD⟩, hS.F ht⟩) hS.2.2 dX5_neverWrong_92
        ·
          have qh33 := nle_i h33
          have j36 : Iv 0 11 x32 := r_ltl qh33 x32_h v14_h (by decide)
          have j37 : Iv 1 12 v14 := r_ltr qh33 x32_h v14_h (by decide)
          refine lv_iload hx hb dX5_neverWrong_40 (lv_at hl 1 rfl) ?_
          refine lv_iconst (v := 1) hx hb dX5_neverWrong_42 (by decide) ?_
          refine lv_icmp_ne (tgt := 82) hx hb dX5_neverWrong_43 (by decide) (fun h38 => ?_) (fun h38 => ?_)
          ·
            refine lv_iload hx hb dX5_neverWrong_82 (lv_at hl 1 rfl) ?_
            refine lv_if_ne (tgt := 91) hx hb dX5_neverWrong_84 (by decide) (fun h39 => ?_) (fun h39 => ?_)
            ·
              refine lv_iconst (v := (-1)) hx hb dX5_neverWrong_91 (by decide) ?_
              rw [hQ]
              exact W.iret (v := (-1)) hx hb hr (fun t ht hW => ⟨⟨(-1), (), rfl, (iv_w ikm_1 (by decide)), by rw [ht]; exact hP, va_K.moved hW.alike hK, hD⟩, hS.F ht⟩) hS.2.2 dX5_neverWrong_92
            ·
              have j40 : Iv 0 0 x2 := r_eq h39 ik_0
              refine lv_iload_n hx hb dX5_neverWrong_87 rfl (lv_at hl 5 rfl) ?_
              refine lv_goto (tgt := 92) hx hb dX5_neverWrong_88 (by decide) ?_
              rw [hQ]
              exact W.iret (v := a3) hx hb hr (fun t ht hW => ⟨⟨a3, (), rfl, (iv_w a3_h (by decide)), by rw [ht]; exact hP, va_K.moved hW.alike hK, hD⟩, hS.F ht⟩) hS.2.2 dX5_neverWrong_92
          ·
            have j41 : Iv 1 1 x2 := r_eq h38 ik_1
            refine lv_aload_n hx hb dX5_neverWrong_46 rfl (lv_at hl 2 rfl) ?_
            refine va_get (D := (dC, dI)) (ci := 5) (v := .ref o9) (C := RX5) (T := TX5) (N := 6) hx hb hts iw_X5_neverWrong_X5 hown hK hP 0 rfl rfl 2 (by decide) (hts (.fieldLink RX5 24 "HolelessHouse$LeastSearch" "prices" "[[I") hm_X5_neverWrong_3) (fun _ h9 => h9) rfl dX5_neverWrong_47 ?_
            refine lv_iload_n hx hb dX5_neverWrong_50 rfl (lv_at hl 3 rfl) ?_
            refine va_alda hx hb hK hP 1 1 rfl rfl (vin_iv ik_0 (by decide)) dX5_neverWrong_51 (tk_r (v := .ref (rw10 0)) rfl ?_)
            refine lv_iload hx hb dX5_neverWrong_52 (lv_at hl 0 rfl) ?_
            refine va_iald hx hb hK hP (4 + 0) 0 (gr12_get (pre := ([(o1, .inr (5, [.ref o2, .ref o7, .ref o9, .int v12, .int v13, .int v14])), (o9, .inl (c2, 12, .inr (.inr (.inr (.inr (fun i => if i < 12 then some (rw10 i) else none)))))), (o2, .inr (3, [.ref o3, .int v6])), (o3, .inl (c2, 13, .inr (.inr (.inr (.inr (fun i => if i < 13 then some (rw4 i) else none))))))] : va_W)) (post := (gr13 rw4 cI 12 Gw5 ++ ([] : va_W))) rfl (by decide)) rfl (vin_iv j36 (by decide)) dX5_neverWrong_54 (lv_topi (fun x42 x42_e => ?_))
            refine lv_iconst (v := 1) hx hb dX5_neverWrong_55 (by decide) ?_
            refine lv_icmp_ne (tgt := 76) hx hb dX5_neverWrong_56 (by decide) (fun h43 => ?_) (fun h43 => ?_)
            ·
              obtain ⟨x44, x44_e⟩ : ∃ z : Int32, z = x32 + 1 := ⟨_, rfl⟩
              have x44_h : Iv 1 12 x44 := iv_e x44_e (iv_add j36 ik_1 (by decide))
              refine lv_iinc (v := x44) (lv' := [(5, .int x44), (4, .int x2), (0, .ref o1), (1, .int 0), (2, .int a2), (3, .int a3)]) hx hb dX5_neverWrong_76 hl (k := 0) rfl (incN (by decide +kernel) x44_e) (by decide) rfl (fun ls hl => ?_)
              refine lv_goto (tgt := 31) hx hb dX5_neverWrong_79 (by decide) ?_
              exact ih1 x44 _ _ _ (ms_up x44_e j36 (by decide) hM1) (iv_w x44_h (by decide)) hP hD hS hl
            ·
              have j45 : Iv 1 1 x42 := r_eq h43 ik_1
              refine lv_aload_n hx hb dX5_neverWrong_59 rfl (lv_at hl 2 rfl) ?_
              refine va_get (D := (dC, dI)) (ci := 5) (v := .ref o2) (C := RX5) (T := TX5) (N := 6) hx hb hts iw_X5_neverWrong_X5 hown hK hP 0 rfl rfl 0 (by decide) (hts (.fieldLink RX5 12 "HolelessHouse$LeastSearch" "going" "LHolelessHouse$Going;") hm_X5_neverWrong_2) (fun _ h9 => h9) rfl dX5_neverWrong_60 ?_
              refine lv_iload_n hx hb dX5_neverWrong_63 rfl (lv_at hl 3 rfl) ?_
              refine lv_iload hx hb dX5_neverWrong_64 (lv_at hl 0 rfl) ?_
              refine lv_iload_n hx hb dX5_neverWrong_66 rfl (lv_at hl 4 rfl) ?_
              refine kc_i (D := (dC, dI)) (S := Unit) (wc := ([(o2, .inr (3, [.ref o3, .int v6])), (o3, .inl (c2, 13, .inr (.inr (.inr (.inr (fun i => if i < 13 then some (rw4 i) else none))))))] : va_W) ++ (gr13 rw4 cI 12 Gw5 ++ ([] : va_W))) (wr := ([(o1, .inr (5, [.ref o2, .ref o7, .ref o9, .int v12, .int v13, .int v14])), (o9, .inl (c2, 12, .inr (.inr (.inr (.inr (fun i => if i < 12 then some (rw10 i) else none))))))] : va_W) ++ (gr12 rw10 cI 12 Gw11 ++ ([] : va_W))) (w1 := fun _ => ([(o2, .inr (3, [.ref o3, .int v6])), (o3, .inl (c2, 13, .inr (.inr (.inr (.inr (fun i => if i < 13 then some (rw4 i) else none))))))] : va_W) ++ (gr13 rw4 cI 12 Gw5 ++ ([] : va_W))) (wn := fun _ => ([(o1, .inr (5, [.ref o2, .ref o7, .ref o9, .int v12, .int v13, .int v14])), (o9, .inl (c2, 12, .inr (.inr (.inr (.inr (fun i => if i < 12 then some (rw10 i) else none)))))), (o2, .inr (3, [.ref o3, .int v6])), (o3, .inl (c2, 13, .inr (.inr (.inr (.inr (fun i => if i < 13 then some (rw4 i) else none))))))] : va_W) ++ (gr12 rw10 cI 12 Gw11 ++ (gr13 rw4 cI 12 Gw5 ++ ([] : va_W)))) (fun hPc hDc => va_runVN (As := [.int 0, .int x32, .int a2]) (rest := []) ⟨hx, hb, hml, hown, hts⟩ (kX3_hasWayOutside_1 l dC dI cI c2 cZ o2 o3 rw4 Gw5 v6 x32 a2 H.size Gw5_b v6_h j36 a2_h) ⟨va_cnB 3 hts gX5_neverWrong_X3_hasWayOutside_n90 rfl rfl rfl (hN.1 _ ns_98) (hts (.initialized RX3) hm_X5_neverWrong_6) (by decide +kernel) ⟨Nat.le_of_ble_eq_true rfl, Nat.le_of_ble_eq_true rfl⟩, (hts (.instanceMethod yX3_hasWayOutside) hm_X5_neverWrong_25), (hts (.selects RX3 yX3_hasWayOutside yX3_hasWayOutside) hm_X5_neverWrong_26)⟩ (pre_V hPc hK hDc hN (ci := 3) (q0 := 0) rfl rfl) rfl rfl hl.1 rfl (lv_room (Nat.le_of_ble_eq_true rfl)) dX5_neverWrong_67 ⟨Nat.le_of_ble_eq_true rfl, Nat.le_of_ble_eq_true rfl⟩) hP hD hS hA [2, 3, 16, 17, 18, 19, 20, 21, 22, 23, 24, 25, 26, 27, 28] [0, 1, 4, 5, 6, 7, 8, 9, 10, 11, 12, 13, 14, 15] [0, 1, 14, 15, 2, 3, 4, 5, 6, 7, 8, 9, 10, 11, 12, 13, 16, 17, 18, 19, 20, 21, 22, 23, 24, 25, 26, 27, 28] rfl rfl (by decide +kernel) (by decide +kernel) (by decide +kernel) (by decide +kernel) (fun _ => rfl) (fun x46 _ H locs hq hP hD hS => ?_)
              have x46_h := hq
              have hP : va_P (dC, dI) vwCl (([(o1, .inr (5, [.ref o2, .ref o7, .ref o9, .int v12, .int v13, .int v14])), (o9, .inl (c2, 12, .inr (.inr (.inr (.inr (fun i => if i < 12 then some (rw10 i) else none)))))), (o2, .inr (3, [.ref o3, .int v6])), (o3, .inl (c2, 13, .inr (.inr (.inr (.inr (fun i => if i < 13 then some (rw4 i) else none))))))] : va_W) ++ (gr12 rw10 cI 12 Gw11 ++ (gr13 rw4 cI 12 Gw5 ++ ([] : va_W)))) H := hP
              have hD : va_D A (([(o1, .inr (5, [.ref o2, .ref o7, .ref o9, .int v12, .int v13, .int v14])), (o9, .inl (c2, 12, .inr (.inr (.inr (.inr (fun i => if i < 12 then some (rw10 i) else none)))))), (o2, .inr (3, [.ref o3, .int v6])), (o3, .inl (c2, 13, .inr (.inr (.inr (.inr (fun i => if i < 13 then some (rw4 i) else none))))))] : va_W) ++ (gr12 rw10 cI 12 Gw11 ++ (gr13 rw4 cI 12 Gw5 ++ ([] : va_W)))) := hD
              refine lv_if_eq (tgt := 76) hx hb dX5_neverWrong_70 (by decide) (fun h47 => ?_) (fun h47 => ?_)
              ·
                have j48 : Iv 0 0 x46 := r_eq h47 ik_0
                obtain ⟨x49, x49_e⟩ : ∃ z : Int32, z = x32 + 1 := ⟨_, rfl⟩
                have x49_h : Iv 1 12 x49 := iv_e x49_e (iv_add j36 ik_1 (by decide))
                refine lv_iinc (v := x49) (lv' := [(5, .int x49), (4, .int x2), (0, .ref o1), (1, .int 0), (2, .int a2), (3, .int a3)]) hx hb dX5_neverWrong_76 hl (k := 0) rfl (incN (by decide +kernel) x49_e) (by decide) rfl (fun ls hl => ?_)
                refine lv_goto (tgt := 31) hx hb dX5_neverWrong_79 (by decide) ?_
                exact ih1 x49 _ _ _ (ms_up x49_e j36 (by decide) hM1) (iv_w x49_h (by decide)) hP hD hS hl
              ·
                have j50 : Iv 1 1 x46 := r_nelo h47 x46_h ik_0 (by decide)
                refine lv_iload hx hb dX5_neverWrong_73 (lv_at hl 0 rfl) ?_
                rw [hQ]
                exact W.iret (v := x32) hx hb hr (fun t ht hW => ⟨⟨x32, (), rfl, (iv_w j36 (by decide)), by rw [ht]; exact hP, va_K.moved hW.alike hK, hD⟩, hS.F ht⟩) hS.2.2 dX5_neverWrong_75
    exact L1 _ a3 _ _ _ (Nat.lt_succ_self _) (iv_w a3_h (by decide)) hP hD hS hl
  ·
    have j51 : Iv 1 1 v12 := r_eq h1 ik_1
    refine lv_aload_n hx hb dX5_neverWrong_8 rfl (lv_at hl 0 rfl) ?_
    refine va_get (D := (dC, dI)) (ci := 5) (v := .ref o2) (C := RX5) (T := TX5) (N := 6) hx hb hts iw_X5_neverWrong_X5 hown hK hP 0 rfl rfl 0 (by decide) (hts (.fieldLink RX5 12 "HolelessHouse$LeastSearch" "going" "LHolelessHouse$Going;") hm_X5_neverWrong_2) (fun _ h9 => h9) rfl dX5_neverWrong_9 ?_
    refine lv_iload_n hx hb dX5_neverWrong_12 rfl (lv_at hl 1 rfl) ?_
    refine lv_iload_n hx hb dX5_neverWrong_13 rfl (lv_at hl 2 rfl) ?_
    refine kc_i (D := (dC, dI)) (S := Unit) (wc := ([(o2, .inr (3, [.ref o3, .int v6])), (o3, .inl (c2, 13, .inr (.inr (.inr (.inr (fun i => if i < 13 then some (rw4 i) else none))))))] : va_W) ++ (gr13 rw4 cI 12 Gw5 ++ ([] : va_W))) (wr := ([(o1, .inr (5, [.ref o2, .ref o7, .ref o9, .int v12, .int v13, .int v14])), (o9, .inl (c2, 12, .inr (.inr (.inr (.inr (fun i => if i < 12 then some (rw10 i) else none))))))] : va_W) ++ (gr12 rw10 cI 12 Gw11 ++ ([] : va_W))) (w1 := fun _ => ([(o2, .inr (3, [.ref o3, .int v6])), (o3, .inl (c2, 13, .inr (.inr (.inr (.inr (fun i => if i < 13 then some (rw4 i) else none))))))] : va_W) ++ (gr13 rw4 cI 12 Gw5 ++ ([] : va_W))) (wn := fun _ => ([(o1, .inr (5, [.ref o2, .ref o7, .ref o9, .int v12, .int v13, .int v14])), (o9, .inl (c2, 12, .inr (.inr (.inr (.inr (fun i => if i < 12 then some (rw10 i) else none)))))), (o2, .inr (3, [.ref o3, .int v6])), (o3, .inl (c2, 13, .inr (.inr (.inr (.inr (fun i => if i < 13 then some (rw4 i) else none))))))] : va_W) ++ (gr12 rw10 cI 12 Gw11 ++ (gr13 rw4 cI 12 Gw5 ++ ([] : va_W)))) (fun hPc hDc => va_runVN (As := [.int 0, .int a2]) (rest := []) ⟨hx, hb, hml, hown, hts⟩ (kX3_leastTight_1 l dC dI cI c2 cZ o2 o3 rw4 Gw5 v6 0 a2 s.heap.size Gw5_b v6_h (iv_w ik_0 (by decide)) a2_h) ⟨va_cnB 2 hts gX5_neverWrong_X3_leastTight_n87 rfl rfl rfl (hN.1 _ ns_97) (hts (.initialized RX3) hm_X5_neverWrong_6) (by decide +kernel) ⟨Nat.le_of_ble_eq_true rfl, Nat.le_of_ble_eq_true rfl⟩, (hts (.instanceMethod yX3_leastTight) hm_X5_neverWrong_5), (hts (.selects RX3 yX3_leastTight yX3_leastTight) hm_X5_neverWrong_7)⟩ (pre_V hPc hK hDc hN (ci := 3) (q0 := 0) rfl rfl) rfl rfl hl.1 rfl (lv_room (Nat.le_of_ble_eq_true rfl)) dX5_neverWrong_14 ⟨Nat.le_of_ble_eq_true rfl, Nat.le_of_ble_eq_true rfl⟩) hP hD hS hA [2, 3, 16, 17, 18, 19, 20, 21, 22, 23, 24, 25, 26, 27, 28] [0, 1, 4, 5, 6, 7, 8, 9, 10, 11, 12, 13, 14, 15] [0, 1, 14, 15, 2, 3, 4, 5, 6, 7, 8, 9, 10, 11, 12, 13, 16, 17, 18, 19, 20, 21, 22, 23, 24, 25, 26, 27, 28] rfl rfl (by decide +kernel) (by decide +kernel) (by decide +kernel) (by decide +kernel) (fun _ => rfl) (fun x52 _ H locs hq hP hD hS => ?_)
    have x52_h := hq
    have hP : va_P (dC, dI) vwCl (([(o1, .inr (5, [.ref o2, .ref o7, .ref o9, .int v12, .int v13, .int v14])), (o9, .inl (c2, 12, .inr (.inr (.inr (.inr (fun i => if i < 12 then some (rw10 i) else none)))))), (o2, .inr (3, [.ref o3, .int v6])), (o3, .inl (c2, 13, .inr (.inr (.inr (.inr (fun i => if i < 13 then some (rw4 i) else none))))))] : va_W) ++ (gr12 rw10 cI 12 Gw11 ++ (gr13 rw4 cI 12 Gw5 ++ ([] : va_W)))) H := hP
    have hD : va_D A (([(o1, .inr (5, [.ref o2, .ref o7, .ref o9, .int v12, .int v13, .int v14])), (o9, .inl (c2, 12, .inr (.inr (.inr (.inr (fun i => if i < 12 then some (rw10 i) else none)))))), (o2, .inr (3, [.ref o3, .int v6])), (o3, .inl (c2, 13, .inr (.inr (.inr (.inr (fun i => if i < 13 then some (rw4 i) else none))))))] : va_W) ++ (gr12 rw10 cI 12 Gw11 ++ (gr13 rw4 cI 12 Gw5 ++ ([] : va_W)))) := hD
    rw [hQ]
    exact W.iret (v := x52) hx hb hr (fun t ht hW => ⟨⟨x52, (), rfl, x52_h, by rw [ht]; exact hP, va_K.moved hW.alike hK, hD⟩, hS.F ht⟩) hS.2.2 dX5_neverWrong_17
set_option maxHeartbeats 4000000 in
set_option maxRecDepth 100000 in
theorem kX3_hasWayOutside_2 (l : Launch) (dC : Nat → ClassId) (dI : Nat → Nat → Nat) (cI c2 cZ : ClassId) (o1 : Nat) (o2 : Nat) (rw3 : Nat → Nat) (Gw4 : Nat → Nat → Int32) (v5 : Int32) (a2 : Int32) (a3 : Int32) (sz : Nat) (Gw4_b : Bg 13 12 0 4095 Gw4) (v5_h : Iv 0 12 v5) (a2_h : Iv 0 11 a2) (a3_h : Iv 0 4095 a3) : Met l yX3_hasWayOutside wsX3_hasWayOutside ({ frames := 2, cells := 0, slots := 0, locals := 47 }) (va_Pc [.ref o1, .int 1, .int a2, .int a3] (wPre (dC, dI) [(cI, .int), (c2, .array .int), (cZ, .boolean)] (([(o1, .inr (3, [.ref o2, .int v5])), (o2, .inl (c2, 13, .inr (.inr (.inr (.inr (fun i => if i < 13 then some (rw3 i) else none))))))] : va_W) ++ (gr13 rw3 cI 12 Gw4 ++ ([] : va_W))) sz)) (va_Qi (fun (r : Int32) (_ : Unit) => Iv 0 1 r) (fun _ t => wPost (dC, dI) [(cI, .int), (c2, .array .int), (cZ, .boolean)] (va_A (([(o1, .inr (3, [.ref o2, .int v5])), (o2, .inl (c2, 13, .inr (.inr (.inr (.inr (fun i => if i < 13 then some (rw3 i) else none))))))] : va_W) ++ (gr13 rw3 cI 12 Gw4 ++ ([] : va_W))) sz) (([(o1, .inr (3, [.ref o2, .int v5])), (o2, .inl (c2, 13, .inr (.inr (.inr (.inr (fun i => if i < 13 then some (rw3 i) else none))))))] : va_W) ++ (gr13 rw3 cI 12 Gw4 ++ ([] : va_W))) t) (va_A (([(o1, .inr (3, [.ref o2, .int v5])), (o2, .inl (c2, 13, .inr (.inr (.inr (.inr (fun i => if i < 13 then some (rw3 i) else none))))))] : va_W) ++ (gr13 rw3 cI 12 Gw4 ++ ([] : va_W))) sz)) 0 0 (va_A (([(o1, .inr (3, [.ref o2, .int v5])), (o2, .inl (c2, 13, .inr (.inr (.inr (.inr (fun i => if i < 13 then some (rw3 i) else none))))))] : va_W) ++ (gr13 rw3 cI 12 Gw4 ++ ([] : va_W))) sz) := by
  refine Met.ofW (cc := cX3_hasWayOutside) (maxL := 8) (ret := (some .boolean)) (by decide) rfl ?_
  intro p e s m args below meth c s₁ B hml hv
  obtain ⟨rfl, hsz, hP, hK, hD0, hN⟩ := hv
  have hx := B.exec
  have hb := B.bytes
  have hr := B.returns
  have hts := atoms_spec (ws := wsX3_hasWayOutside) B.pre
  have hown : s.vm.findClass RX3 = some m.cls := findClass_of_methodNamed B.named
  have hlocks := B.notSynchronized
  subst hsz
  have hD := hD0.self (sz := s.heap.size)
  generalize hAe : va_A (([(o1, .inr (3, [.ref o2, .int v5])), (o2, .inl (c2, 13, .inr (.inr (.inr (.inr (fun i => if i < 13 then some (rw3 i) else none))))))] : va_W) ++ (gr13 rw3 cI 12 Gw4 ++ ([] : va_W))) s.heap.size = A at hD ⊢
  have hA : ∀ q : Nat, s.heap.size ≤ q → A q := fun q h => by rw [← hAe]; exact Or.inr h
  have hS : va_S A s.heap s.heap [] := va_S.rf
  have hP : va_P (dC, dI) vwCl (([(o1, .inr (3, [.ref o2, .int v5])), (o2, .inl (c2, 13, .inr (.inr (.inr (.inr (fun i => if i < 13 then some (rw3 i) else none))))))] : va_W) ++ (gr13 rw3 cI 12 Gw4 ++ ([] : va_W))) s.heap := hP
  have hl := lv_entry ([.ref o1, .int 1, .int a2, .int a3]) (n := 8) (Nat.le_of_ble_eq_true rfl)
  rw [lg_entry_eq]
  generalize (lg_sl ([.ref o1, .int 1, .int a2, .int a3]) ++ List.replicate (8 - (lg_sl ([.ref o1, .int 1, .int a2, .int a3])).length) Slot.unset).toArray = ls at hl ⊢
  have hl : lv_has ls 8 [(0, .ref o1), (1, .int 1), (2, .int a2), (3, .int a3)] := hl
  refine gen_Q (fun Q hQ => ?_)
  refine lv_aload_n hx hb dX3_hasWayOutside_0 rfl (lv_at hl 0 rfl) ?_
  refine va_get (D := (dC, dI)) (ci := 3) (v := .ref o2) (C := RX3) (T := TX3) (N := 2) hx hb hts iw_X3_hasWayOutside_X3 hown hK hP 0 rfl rfl 0 (by decide) (hts (.fieldLink RX3 11 "HolelessHouse$Going" "near" "[[I") hm_X3_hasWayOutside_1) (fun _ h9 => h9) rfl dX3_hasWayOutside_1 ?_
  refine lv_iload_n hx hb dX3_hasWayOutside_4 rfl (lv_at hl 1 rfl) ?_
  refine va_alda hx hb hK hP 1 1 rfl rfl (vin_iv ik_1 (by decide)) dX3_hasWayOutside_5 (tk_r (v := .ref (rw3 1)) rfl ?_)
  refine lv_astore (lv' := [(4, .ref (rw3 1)), (0, .ref o1), (1, .int 1), (2, .int a2), (3, .int a3)]) hx hb dX3_hasWayOutside_6 hl (by decide) rfl (fun ls hl => ?_)
  refine lv_aload hx hb dX3_hasWayOutside_8 (lv_at hl 0 rfl) ?_
  refine lv_iload_n hx hb dX3_hasWayOutside_10 rfl (lv_at hl 3 rfl) ?_
  refine va_iald hx hb hK hP (2 + 1) 0 (gr13_get (pre := ([(o1, .inr (3, [.ref o2, .int v5])), (o2, .inl (c2, 13, .inr (.inr (.inr (.inr (fun i => if i < 13 then some (rw3 i) else none))))))] : va_W)) (post := ([] : va_W)) rfl (by decide)) rfl (vin_iv a2_h (by decide)) dX3_hasWayOutside_11 (lv_topi (fun x1 x1_e => ?_))
  have x1_h : Iv 0 4095 x1 := iv_e x1_e (bg_at Gw4_b (by decide) (vin_iv a2_h (by decide)))
  refine lv_istore (lv' := [(5, .int x1), (4, .ref (rw3 1)), (0, .ref o1), (1, .int 1), (2, .int a2), (3, .int a3)]) hx hb dX3_hasWayOutside_12 hl (by decide) rfl (fun ls hl => ?_)
  refine lv_iconst (v := 0) hx hb dX3_hasWayOutside_14 (by decide) ?_
  refine lv_istore (lv' := [(6, .int 0), (5, .int x1), (4, .ref (rw3 1)), (0, .ref o1), (1, .int 1), (2, .int a2), (3, .int a3)]) hx hb dX3_hasWayOutside_15 hl (by decide) rfl (fun ls hl => ?_)
  refine lv_iconst (v := 0) hx hb dX3_hasWayOutside_17 (by decide) ?_
  refine lv_istore (lv' := [(7, .int 0), (6, .int 0), (5, .int x1), (4, .ref (rw3 1)), (0, .ref o1), (1, .int 1), (2, .int a2), (3, .int a3)]) hx hb dX3_hasWayOutside_18 hl (by decide) rfl (fun ls hl => ?_)
  have L1 : ∀ (N : Nat) (x154 : Int32) (x155 : Int32) (H : Heap) (locs : List Loc) (ls : Array Slot), (12 - x154.toInt).toNat < N → Iv 0 12 x154 → Iv 0 4095 x155 → va_P (dC, dI) vwCl (([(o1, .inr (3, [.ref o2, .int v5])), (o2, .inl (c2, 13, .inr (.inr (.inr (.inr (fun i => if i < 13 then some (rw3 i) else none))))))] : va_W) ++ (gr13 rw3 cI 12 Gw4 ++ ([] : va_W))) H → va_D A (([(o1, .inr (3, [.ref o2, .int v5])), (o2, .inl (c2, 13, .inr (.inr (.inr (.inr (fun i => if i < 13 then some (rw3 i) else none))))))] : va_W) ++ (gr13 rw3 cI 12 Gw4 ++ ([] : va_W))) → va_S A s.heap H locs → lv_has ls 8 [(7, .int x154), (6, .int x155), (5, .int x1), (4, .ref (rw3 1)), (0, .ref o1), (1, .int 1), (2, .int a2), (3, .int a3)] → W p l e ({ frames := 2, cells := 0, slots := 0, locals := 47 }) s m ([.ref o1, .int 1, .int a2, .int a3] : List Value).toArray below meth c H locs 0 0 Q (F0 m 20 ls []) := by
    intro N
    induction N with
    | zero =>
      intro x154 x155 H locs ls hM
      exact absurd hM (Nat.not_lt_zero _)
    | succ N ih1 =>
      intro x154 x155 H locs ls hM1 x154_h x155_h hP hD hS hl
      refine lv_iload hx hb dX3_hasWayOutside_20 (lv_at hl 0 rfl) ?_
      refine lv_aload_n hx hb dX3_hasWayOutside_22 rfl (lv_at hl 4 rfl) ?_
      refine va_get (D := (dC, dI)) (ci := 3) (v := .int v5) (C := RX3) (T := TX3) (N := 2) hx hb hts iw_X3_hasWayOutside_X3 hown hK hP 0 rfl rfl 1 (by decide) (hts (.fieldLink RX3 16 "HolelessHouse$Going" "size" "I") hm_X3_hasWayOutside_2) (fun _ h9 => h9) rfl dX3_hasWayOutside_23 ?_
      refine lv_icmp_ge (tgt := 71) hx hb dX3_hasWayOutside_26 (by decide) (fun h156 => ?_) (fun h156 => ?_)
      ·
        have qh156 := le_i h156
        refine lv_iload_n hx hb dX3_hasWayOutside_71 rfl (lv_at hl 7 rfl) ?_
        refine lv_iload hx hb dX3_hasWayOutside_72 (lv_at hl 2 rfl) ?_
        refine lv_iconst (v := (-1)) hx hb dX3_hasWayOutside_74 (by decide) ?_
        refine lv_ixor hx hb dX3_hasWayOutside_75 (lv_topi (fun x157 x157_e => ?_))
        refine lv_iand hx hb dX3_hasWayOutside_76 (lv_topi (fun x158 x158_e => ?_))
        have x158_h : Iv 0 4095 x158 := iv_e x158_e (iv_andL _ a3_h (by decide))
        refine lv_iconst (v := 1) hx hb dX3_hasWayOutside_77 (by decide) ?_
        refine lv_iload_n hx hb dX3_hasWayOutside_78 rfl (lv_at hl 6 rfl) ?_
        refine lv_ishl hx hb dX3_hasWayOutside_79 (lv_topi (fun x159 x159_e => ?_))
        have x159_h : Iv 1 2048 x159 := iv_e x159_e (iv_shl1 a2_h (by decide))
        refine lv_iconst (v := (-1)) hx hb dX3_hasWayOutside_80 (by decide) ?_
        refine lv_ixor hx hb dX3_hasWayOutside_81 (lv_topi (fun x160 x160_e => ?_))
        refine lv_iand hx hb dX3_hasWayOutside_82 (lv_topi (fun x161 x161_e => ?_))
        have x161_h : Iv 0 4095 x161 := iv_e x161_e (iv_andL _ x158_h (by decide))
        refine lv_istore (lv' := [(7, .int x161), (6, .int x155), (5, .int x1), (4, .ref (rw3 1)), (0, .ref o1), (1, .int 1), (2, .int a2), (3, .int a3)]) hx hb dX3_hasWayOutside_83 hl (by decide) rfl (fun ls hl => ?_)
        refine lv_aload hx hb dX3_hasWayOutside_85 (lv_at hl 3 rfl) ?_
        refine lv_iload hx hb dX3_hasWayOutside_87 (lv_at hl 1 rfl) ?_
        by_cases h162 : x155 = 0
        ·
          refine tk_i (v := 0) h162 ?_
          refine kc_i (D := (dC, dI)) (S := Unit) (wc := []) (wr := ([(o1, .inr (3, [.ref o2, .int v5])), (o2, .inl (c2, 13, .inr (.inr (.inr (.inr (fun i => if i < 13 then some (rw3 i) else none))))))] : va_W) ++ (gr13 rw3 cI 12 Gw4 ++ ([] : va_W))) (w1 := fun _ => []) (wn := fun _ => ([(o1, .inr (3, [.ref o2, .int v5])), (o2, .inl (c2, 13, .inr (.inr (.inr (.inr (fun i => if i < 13 then some (rw3 i) else none))))))] : va_W) ++ (gr13 rw3 cI 12 Gw4 ++ ([] : va_W))) (fun hPc hDc => va_runS (As := [.int 0]) (rest := [.ref (rw3 1)]) ⟨hx, hb, hml, hown, hts⟩ (kJ6_numberOfTrailingZeros_0f7a4_2 l dC dI cI c2 cZ H.size) (va_cwS 1 hts gX3_hasWayOutside_J6_numberOfTrailingZeros_0f7a4 rfl rfl rfl (by decide +kernel) ⟨Nat.le_of_ble_eq_true rfl, Nat.le_of_ble_eq_true rfl⟩) (pre_S hPc hK hDc hN) rfl rfl hl.1 rfl (lv_room (Nat.le_of_ble_eq_true rfl)) dX3_hasWayOutside_89 ⟨Nat.le_of_ble_eq_true rfl, Nat.le_of_ble_eq_true rfl⟩) hP hD hS hA [] [0, 1, 2, 3, 4, 5, 6, 7, 8, 9, 10, 11, 12, 13, 14] [0, 1, 2, 3, 4, 5, 6, 7, 8, 9, 10, 11, 12, 13, 14] rfl rfl (by decide +kernel) (by decide +kernel) (by decide +kernel) (by decide +kernel) (fun _ => rfl) (fun x163 _ H locs hq hP hD hS => ?_)
          have x163_h := hq
          have hP : va_P (dC, dI) vwCl (([(o1, .inr (3, [.ref o2, .int v5])), (o2, .inl (c2, 13, .inr (.inr (.inr (.inr (fun i => if i < 13 then some (rw3 i) else none))))))] : va_W) ++ (gr13 rw3 cI 12 Gw4 ++ ([] : va_W))) H := hP
          have hD : va_D A (([(o1, .inr (3, [.ref o2, .int v5])), (o2, .inl (c2, 13, .inr (.inr (.inr (.inr (fun i => if i < 13 then some (rw3 i) else none))))))] : va_W) ++ (gr13 rw3 cI 12 Gw4 ++ ([] : va_W))) := hD
          refine lv_iload hx hb dX3_hasWayOutside_92 (lv_at hl 0 rfl) ?_
          refine lv_iload hx hb dX3_hasWayOutside_94 (lv_at hl 1 rfl) ?_
          refine lv_ior hx hb dX3_hasWayOutside_96 (lv_topi (fun x164 x164_e => ?_))
          have x164_h : Iv 0 4095 x164 := iv_e x164_e (iv_or 12 x161_h x155_h (by decide))
          refine kc_i (D := (dC, dI)) (S := Unit) (wc := [((rw3 1), .inl (cI, 12, .inl (Gw4 1)))]) (wr := [(o1, .inr (3, [.ref o2, .int v5])), (o2, .inl (c2, 13, .inr (.inr (.inr (.inr (fun i => if i < 13 then some (rw3 i) else none)))))), (rw3 0, .inl (cI, 12, .inl (Gw4 0))), (rw3 2, .inl (cI, 12, .inl (Gw4 2))), (rw3 3, .inl (cI, 12, .inl (Gw4 3))), (rw3 4, .inl (cI, 12, .inl (Gw4 4))), (rw3 5, .inl (cI, 12, .inl (Gw4 5))), (rw3 6, .inl (cI, 12, .inl (Gw4 6))), (rw3 7, .inl (cI, 12, .inl (Gw4 7))), (rw3 8, .inl (cI, 12, .inl (Gw4 8))), (rw3 9, .inl (cI, 12, .inl (Gw4 9))), (rw3 10, .inl (cI, 12, .inl (Gw4 10))), (rw3 11, .inl (cI, 12, .inl (Gw4 11))), (rw3 12, .inl (cI, 12, .inl (Gw4 12)))]) (w1 := fun _ => [((rw3 1), .inl (cI, 12, .inl (Gw4 1)))]) (wn := fun _ => ([(o1, .inr (3, [.ref o2, .int v5])), (o2, .inl (c2, 13, .inr (.inr (.inr (.inr (fun i => if i < 13 then some (rw3 i) else none))))))] : va_W) ++ (gr13 rw3 cI 12 Gw4 ++ ([] : va_W))) (fun hPc hDc => va_runSN (As := [.ref (rw3 1), .int x163, .int x164]) (rest := []) ⟨hx, hb, hml, hown, hts⟩ (kX11_reached_1 l dC dI cI c2 cZ (rw3 1) (Gw4 1) x163 x164 H.size (Gw4_b 1 (by decide)) x163_h x164_h) ⟨va_cnB 3 hts gX3_hasWayOutside_X11_reached_n51 rfl rfl rfl (hN.1 _ ns_99) (hts (.initialized RX11) hm_X3_hasWayOutside_4) (by decide +kernel) ⟨Nat.le_of_ble_eq_true rfl, Nat.le_of_ble_eq_true rfl⟩, (hts (.static yX11_reached) hm_X3_hasWayOutside_11), trivial⟩ (pre_S hPc hK hDc hN) rfl rfl hl.1 rfl (lv_room (Nat.le_of_ble_eq_true rfl)) dX3_hasWayOutside_97 ⟨Nat.le_of_ble_eq_true rfl, Nat.le_of_ble_eq_true rfl⟩) hP hD hS hA [3] [0, 1, 2, 4, 5, 6, 7, 8, 9, 10, 11, 12, 13, 14] [0, 1, 2, 14, 3, 4, 5, 6, 7, 8, 9, 10, 11, 12, 13] rfl rfl (by decide +kernel) (by decide +kernel) (by decide +kernel) (by decide +kernel) (fun _ => rfl) (fun x165 _ H locs hq hP hD hS => ?_)
          have x165_h := hq
          have hP : va_P (dC, dI) vwCl (([(o1, .inr (3, [.ref o2, .int v5])), (o2, .inl (c2, 13, .inr (.inr (.inr (.inr (fun i => if i < 13 then some (rw3 i) else none))))))] : va_W) ++ (gr13 rw3 cI 12 Gw4 ++ ([] : va_W))) H := hP
          have hD : va_D A (([(o1, .inr (3, [.ref o2, .int v5])), (o2, .inl (c2, 13, .inr (.inr (.inr (.inr (fun i => if i < 13 then some (rw3 i) else none))))))] : va_W) ++ (gr13 rw3 cI 12 Gw4 ++ ([] : va_W))) := hD
          refine lv_iload hx hb dX3_hasWayOutside_100 (lv_at hl 1 rfl) ?_
          refine lv_iand hx hb dX3_hasWayOutside_102 (lv_topi (fun x166 x166_e => ?_))
          have x166_h : Iv 0 4095 x166 := iv_e x166_e (iv_andL _ x165_h (by decide))
          refine lv_iload hx hb dX3_hasWayOutside_103 (lv_at hl 1 rfl) ?_
          refine lv_icmp_ne (tgt := 112) hx hb dX3_hasWayOutside_105 (by decide) (fun h167 => ?_) (fun h167 => ?_)
          ·
            refine lv_iconst (v := 0) hx hb dX3_hasWayOutside_112 (by decide) ?_
            rw [hQ]
            exact W.zret (v := 0) (ty := .boolean) hx hb hr rfl (fun t ht hW => ⟨⟨0, (), rfl, (iv_w ik_0 (by decide)), by rw [ht]; exact hP, va_K.moved hW.alike hK, hD⟩, hS.F ht⟩) hS.2.2 dX3_hasWayOutside_113
          ·
            refine lv_iconst (v := 1) hx hb dX3_hasWayOutside_108 (by decide) ?_
            refine lv_goto (tgt := 113) hx hb dX3_hasWayOutside_109 (by decide) ?_
            rw [hQ]
            exact W.zret (v := 1) (ty := .boolean) hx hb hr rfl (fun t ht hW => ⟨⟨1, (), rfl, (iv_w ik_1 (by decide)), by rw [ht]; exact hP, va_K.moved hW.alike hK, hD⟩, hS.F ht⟩) hS.2.2 dX3_hasWayOutside_113
        have j168 : Iv 1 4095 x155 := r_nelo h162 x155_h ik_0 (by decide)
        refine kc_i (D := (dC, dI)) (S := Unit) (wc := []) (wr := ([(o1, .inr (3, [.ref o2, .int v5])), (o2, .inl (c2, 13, .inr (.inr (.inr (.inr (fun i => if i < 13 then some (rw3 i) else none))))))] : va_W) ++ (gr13 rw3 cI 12 Gw4 ++ ([] : va_W))) (w1 := fun _ => []) (wn := fun _ => ([(o1, .inr (3, [.ref o2, .int v5])), (o2, .inl (c2, 13, .inr (.inr (.inr (.inr (fun i => if i < 13 then some (rw3 i) else none))))))] : va_W) ++ (gr13 rw3 cI 12 Gw4 ++ ([] : va_W))) (fun hPc hDc => va_runS (As := [.int x155]) (rest := [.ref (rw3 1)]) ⟨hx, hb, hml, hown, hts⟩ (kJ6_numberOfTrailingZeros_0f7a4_1 l dC dI cI c2 cZ x155 H.size j168) (va_cwS 1 hts gX3_hasWayOutside_J6_numberOfTrailingZeros_0f7a4 rfl rfl rfl (by decide +kernel) ⟨Nat.le_of_ble_eq_true rfl, Nat.le_of_ble_eq_true rfl⟩) (pre_S hPc hK hDc hN) rfl rfl hl.1 rfl (lv_room (Nat.le_of_ble_eq_true rfl)) dX3_hasWayOutside_89 ⟨Nat.le_of_ble_eq_true rfl, Nat.le_of_ble_eq_true rfl⟩) hP hD hS hA [] [0, 1, 2, 3, 4, 5, 6, 7, 8, 9, 10, 11, 12, 13, 14] [0, 1, 2, 3, 4, 5, 6, 7, 8, 9, 10, 11, 12, 13, 14] rfl rfl (by decide +kernel) (by decide +kernel) (by decide +kernel) (by decide +kernel) (fun _ => rfl) (fun x169 _ H locs hq hP hD hS => ?_)
        have x169_h := hq
        have hP : va_P (dC, dI) vwCl (([(o1, .inr (3, [.ref o2, .int v5])), (o2, .inl (c2, 13, .inr (.inr (.inr (.inr (fun i => if i < 13 then some (rw3 i) else none))))))] : va_W) ++ (gr13 rw3 cI 12 Gw4 ++ ([] : va_W))) H := hP
        have hD : va_D A (([(o1, .inr (3, [.ref o2, .int v5])), (o2, .inl (c2, 13, .inr (.inr (.inr (.inr (fun i => if i < 13 then some (rw3 i) else none))))))] : va_W) ++ (gr13 rw3 cI 12 Gw4 ++ ([] : va_W))) := hD
        refine lv_iload hx hb dX3_hasWayOutside_92 (lv_at hl 0 rfl) ?_
        refine lv_iload hx hb dX3_hasWayOutside_94 (lv_at hl 1 rfl) ?_
        refine lv_ior hx hb dX3_hasWayOutside_96 (lv_topi (fun x170 x170_e => ?_))
        have x170_h : Iv 0 4095 x170 := iv_e x170_e (iv_or 12 x161_h j168 (by decide))
        refine kc_i (D := (dC, dI)) (S := Unit) (wc := [((rw3 1), .inl (cI, 12, .inl (Gw4 1)))]) (wr := [(o1, .inr (3, [.ref o2, .int v5])), (o2, .inl (c2, 13, .inr (.inr (.inr (.inr (fun i => if i < 13 then some (rw3 i) else none)))))), (rw3 0, .inl (cI, 12, .inl (Gw4 0))), (rw3 2, .inl (cI, 12, .inl (Gw4 2))), (rw3 3, .inl (cI, 12, .inl (Gw4 3))), (rw3 4, .inl (cI, 12, .inl (Gw4 4))), (rw3 5, .inl (cI, 12, .inl (Gw4 5))), (rw3 6, .inl (cI, 12, .inl (Gw4 6))), (rw3 7, .inl (cI, 12, .inl (Gw4 7))), (rw3 8, .inl (cI, 12, .inl (Gw4 8))), (rw3 9, .inl (cI, 12, .inl (Gw4 9))), (rw3 10, .inl (cI, 12, .inl (Gw4 10))), (rw3 11, .inl (cI, 12, .inl (Gw4 11))), (rw3 12, .inl (cI, 12, .inl (Gw4 12)))]) (w1 := fun _ => [((rw3 1), .inl (cI, 12, .inl (Gw4 1)))]) (wn := fun _ => ([(o1, .inr (3, [.ref o2, .int v5])), (o2, .inl (c2, 13, .inr (.inr (.inr (.inr (fun i => if i < 13 then some (rw3 i) else none))))))] : va_W) ++ (gr13 rw3 cI 12 Gw4 ++ ([] : va_W))) (fun hPc hDc => va_runSN (As := [.ref (rw3 1), .int x169, .int x170]) (rest := []) ⟨hx, hb, hml, hown, hts⟩ (kX11_reached_2 l dC dI cI c2 cZ (rw3 1) (Gw4 1) x169 x170 H.size (Gw4_b 1 (by decide)) x169_h x170_h) ⟨va_cnB 3 hts gX3_hasWayOutside_X11_reached_n51 rfl rfl rfl (hN.1 _ ns_99) (hts (.initialized RX11) hm_X3_hasWayOutside_4) (by decide +kernel) ⟨Nat.le_of_ble_eq_true rfl, Nat.le_of_ble_eq_true rfl⟩, (hts (.static yX11_reached) hm_X3_hasWayOutside_11), trivial⟩ (pre_S hPc hK hDc hN) rfl rfl hl.1 rfl (lv_room (Nat.le_of_ble_eq_true rfl)) dX3_hasWayOutside_97 ⟨Nat.le_of_ble_eq_true rfl, Nat.le_of_ble_eq_true rfl⟩) hP hD hS hA [3] [0, 1, 2, 4, 5, 6, 7, 8, 9, 10, 11, 12, 13, 14] [0, 1, 2, 14, 3, 4, 5, 6, 7, 8, 9, 10, 11, 12, 13] rfl rfl (by decide +kernel) (by decide +kernel) (by decide +kernel) (by decide +kernel) (fun _ => rfl) (fun x171 _ H locs hq hP hD hS => ?_)
        have x171_h := hq
        have hP : va_P (dC, dI) vwCl (([(o1, .inr (3, [.ref o2, .int v5])), (o2, .inl (c2, 13, .inr (.inr (.inr (.inr (fun i => if i < 13 then some (rw3 i) else none))))))] : va_W) ++ (gr13 rw3 cI 12 Gw4 ++ ([] : va_W))) H := hP
        have hD : va_D A (([(o1, .inr (3, [.ref o2, .int v5])), (o2, .inl (c2, 13, .inr (.inr (.inr (.inr (fun i => if i < 13 then some (rw3 i) else none))))))] : va_W) ++ (gr13 rw3 cI 12 Gw4 ++ ([] : va_W))) := hD
        refine lv_iload hx hb dX3_hasWayOutside_100 (lv_at hl 1 rfl) ?_
        refine lv_iand hx hb dX3_hasWayOutside_102 (lv_topi (fun x172 x172_e => ?_))
        have x172_h : Iv 0 4095 x172 := iv_e x172_e (iv_andL _ x171_h (by decide))
        refine lv_iload hx hb dX3_hasWayOutside_103 (lv_at hl 1 rfl) ?_
        refine lv_icmp_ne (tgt := 112) hx hb dX3_hasWayOutside_105 (by decide) (fun h173 => ?_) (fun h173 => ?_)
        ·
          refine lv_iconst (v := 0) hx hb dX3_hasWayOutside_112 (by decide) ?_
          rw [hQ]
          exact W.zret (v := 0) (ty := .boolean) hx hb hr rfl (fun t ht hW => ⟨⟨0, (), rfl, (iv_w ik_0 (by decide)), by rw [ht]; exact hP, va_K.moved hW.alike hK, hD⟩, hS.F ht⟩) hS.2.2 dX3_hasWayOutside_113
        ·
          have j174 : Iv 1 4095 x172 := r_eq h173 j168
          refine lv_iconst (v := 1) hx hb dX3_hasWayOutside_108 (by decide) ?_
          refine lv_goto (tgt := 113) hx hb dX3_hasWayOutside_109 (by decide) ?_
          rw [hQ]
          exact W.zret (v := 1) (ty := .boolean) hx hb hr rfl (fun t ht hW => ⟨⟨1, (), rfl, (iv_w ik_1 (by decide)), by rw [ht]; exact hP, va_K.moved hW.alike hK, hD⟩, hS.F ht⟩) hS.2.2 dX3_hasWayOutside_113
      ·
        have qh156 := nle_i h156
        have j175 : Iv 0 11 x154 := r_ltl qh156 x154_h v5_h (by decide)
        have j176 : Iv 1 12 v5 := r_ltr qh156 x154_h v5_h (by decide)
        refine lv_iload hx hb dX3_hasWayOutside_29 (lv_at hl 2 rfl) ?_
        refine lv_iload hx hb dX3_hasWayOutside_31 (lv_at hl 0 rfl) ?_
        refine kc_i (D := (dC, dI)) (S := Unit) (wc := []) (wr := ([(o1, .inr (3, [.ref o2, .int v5])), (o2, .inl (c2, 13, .inr (.inr (.inr (.inr (fun i => if i < 13 then some (rw3 i) else none))))))] : va_W) ++ (gr13 rw3 cI 12 Gw4 ++ ([] : va_W))) (w1 := fun _ => []) (wn := fun _ => ([(o1, .inr (3, [.ref o2, .int v5])), (o2, .inl (c2, 13, .inr (.inr (.inr (.inr (fun i => if i < 13 then some (rw3 i) else none))))))] : va_W) ++ (gr13 rw3 cI 12 Gw4 ++ ([] : va_W))) (fun hPc hDc => va_runSN (As := [.int x1, .int x154]) (rest := []) ⟨hx, hb, hml, hown, hts⟩ (kX11_in_1 l dC dI cI c2 cZ x1 x154 H.size) ⟨va_cnB 2 hts gX3_hasWayOutside_X11_in_n44 rfl rfl rfl (hN.1 _ ns_74) (hts (.initialized RX11) hm_X3_hasWayOutside_4) (by decide +kernel) ⟨Nat.le_of_ble_eq_true rfl, Nat.le_of_ble_eq_true rfl⟩, (hts (.static yX11_in) hm_X3_hasWayOutside_3), trivial⟩ (pre_S hPc hK hDc hN) rfl rfl hl.1 rfl (lv_room (Nat.le_of_ble_eq_true rfl)) dX3_hasWayOutside_33 ⟨Nat.le_of_ble_eq_true rfl, Nat.le_of_ble_eq_true rfl⟩) hP hD hS hA [] [0, 1, 2, 3, 4, 5, 6, 7, 8, 9, 10, 11, 12, 13, 14] [0, 1, 2, 3, 4, 5, 6, 7, 8, 9, 10, 11, 12, 13, 14] rfl rfl (by decide +kernel) (by decide +kernel) (by decide +kernel) (by decide +kernel) (fun _ => rfl) (fun x177 _ H locs hq hP hD hS => ?_)
        have x177_h := hq
        have hP : va_P (dC, dI) vwCl (([(o1, .inr (3, [.ref o2, .int v5])), (o2, .inl (c2, 13, .inr (.inr (.inr (.inr (fun i => if i < 13 then some (rw3 i) else none))))))] : va_W) ++ (gr13 rw3 cI 12 Gw4 ++ ([] : va_W))) H := hP
        have hD : va_D A (([(o1, .inr (3, [.ref o2, .int v5])), (o2, .inl (c2, 13, .inr (.inr (.inr (.inr (fun i => if i < 13 then some (rw3 i) else none))))))] : va_W) ++ (gr13 rw3 cI 12 Gw4 ++ ([] : va_W))) := hD
        refine lv_if_eq (tgt := 65) hx hb dX3_hasWayOutside_36 (by decide) (fun h178 => ?_) (fun h178 => ?_)
        ·
          have j179 : Iv 0 0 x177 := r_eq h178 ik_0
          obtain ⟨x180, x180_e⟩ : ∃ z : Int32, z = x154 + 1 := ⟨_, rfl⟩
          have x180_h : Iv 1 12 x180 := iv_e x180_e (iv_add j175 ik_1 (by decide))
          refine lv_iinc (v := x180) (lv' := [(7, .int x180), (6, .int x155), (5, .int x1), (4, .ref (rw3 1)), (0, .ref o1), (1, .int 1), (2, .int a2), (3, .int a3)]) hx hb dX3_hasWayOutside_65 hl (k := 0) rfl (incN (by decide +kernel) x180_e) (by decide) rfl (fun ls hl => ?_)
          refine lv_goto (tgt := 20) hx hb dX3_hasWayOutside_68 (by decide) ?_
          exact ih1 x180 x155 _ _ _ (ms_up x180_e j175 (by decide) hM1) (iv_w x180_h (by decide)) x155_h hP hD hS hl
        ·
          have j181 : Iv 1 1 x177 := r_nelo h178 x177_h ik_0 (by decide)
          refine lv_iload hx hb dX3_hasWayOutside_39 (lv_at hl 2 rfl) ?_
          refine lv_aload hx hb dX3_hasWayOutside_41 (lv_at hl 3 rfl) ?_
          refine lv_iload hx hb dX3_hasWayOutside_43 (lv_at hl 0 rfl) ?_
          refine va_iald hx hb hK hP (2 + 1) 0 (gr13_get (pre := ([(o1, .inr (3, [.ref o2, .int v5])), (o2, .inl (c2, 13, .inr (.inr (.inr (.inr (fun i => if i < 13 then some (rw3 i) else none))))))] : va_W)) (post := ([] : va_W)) rfl (by decide)) rfl (vin_iv j175 (by decide)) dX3_hasWayOutside_45 (lv_topi (fun x182 x182_e => ?_))
          have x182_h : Iv 0 4095 x182 := iv_e x182_e (bg_at Gw4_b (by decide) (vin_iv j175 (by decide)))
          refine lv_iconst (v := (-1)) hx hb dX3_hasWayOutside_46 (by decide) ?_
          refine lv_ixor hx hb dX3_hasWayOutside_47 (lv_topi (fun x183 x183_e => ?_))
          refine lv_iand hx hb dX3_hasWayOutside_48 (lv_topi (fun x184 x184_e => ?_))
          have x184_h : Iv 0 4095 x184 := iv_e x184_e (iv_andL _ x1_h (by decide))
          refine lv_iconst (v := 1) hx hb dX3_hasWayOutside_49 (by decide) ?_
          refine lv_iload hx hb dX3_hasWayOutside_50 (lv_at hl 0 rfl) ?_
          refine lv_ishl hx hb dX3_hasWayOutside_52 (lv_topi (fun x185 x185_e => ?_))
          have x185_h : Iv 1 2048 x185 := iv_e x185_e (iv_shl1 j175 (by decide))
          refine lv_icmp_eq (tgt := 65) hx hb dX3_hasWayOutside_53 (by decide) (fun h186 => ?_) (fun h186 => ?_)
          ·
            have j187 : Iv 1 2048 x184 := r_eq h186 x185_h
            obtain ⟨x188, x188_e⟩ : ∃ z : Int32, z = x154 + 1 := ⟨_, rfl⟩
            have x188_h : Iv 1 12 x188 := iv_e x188_e (iv_add j175 ik_1 (by decide))
            refine lv_iinc (v := x188) (lv' := [(7, .int x188), (6, .int x155), (5, .int x1), (4, .ref (rw3 1)), (0, .ref o1), (1, .int 1), (2, .int a2), (3, .int a3)]) hx hb dX3_hasWayOutside_65 hl (k := 0) rfl (incN (by decide +kernel) x188_e) (by decide) rfl (fun ls hl => ?_)
            refine lv_goto (tgt := 20) hx hb dX3_hasWayOutside_68 (by decide) ?_
            exact ih1 x188 x155 _ _ _ (ms_up x188_e j175 (by decide) hM1) (iv_w x188_h (by decide)) x155_h hP hD hS hl
          ·
            refine lv_iload hx hb dX3_hasWayOutside_56 (lv_at hl 1 rfl) ?_
            refine lv_iconst (v := 1) hx hb dX3_hasWayOutside_58 (by decide) ?_
            refine lv_iload hx hb dX3_hasWayOutside_59 (lv_at hl 0 rfl) ?_
            refine lv_ishl hx hb dX3_hasWayOutside_61 (lv_topi (fun x189 x189_e => ?_))
            have x189_h : Iv 1 2048 x189 := iv_e x189_e (iv_shl1 j175 (by decide))
            refine lv_ior hx hb dX3_hasWayOutside_62 (lv_topi (fun x190 x190_e => ?_))
            have x190_h : Iv 0 4095 x190 := iv_e x190_e (iv_or 12 x155_h x189_h (by decide))
            refine lv_istore (lv' := [(6, .int x190), (7, .int x154), (5, .int x1), (4, .ref (rw3 1)), (0, .ref o1), (1, .int 1), (2, .int a2), (3, .int a3)]) hx hb dX3_hasWayOutside_63 hl (by decide) rfl (fun ls hl => ?_)
            obtain ⟨x191, x191_e⟩ : ∃ z : Int32, z = x154 + 1 := ⟨_, rfl⟩
            have x191_h : Iv 1 12 x191 := iv_e x191_e (iv_add j175 ik_1 (by decide))
            refine lv_iinc (v := x191) (lv' := [(7, .int x191), (6, .int x190), (5, .int x1), (4, .ref (rw3 1)), (0, .ref o1), (1, .int 1), (2, .int a2), (3, .int a3)]) hx hb dX3_hasWayOutside_65 hl (k := 1) rfl (incN (by decide +kernel) x191_e) (by decide) rfl (fun ls hl => ?_)
            refine lv_goto (tgt := 20) hx hb dX3_hasWayOutside_68 (by decide) ?_
            exact ih1 x191 x190 _ _ _ (ms_up x191_e j175 (by decide) hM1) (iv_w x191_h (by decide)) x190_h hP hD hS hl
  exact L1 _ 0 0 _ _ _ (Nat.lt_succ_self _) (iv_w ik_0 (by decide)) (iv_w ik_0 (by decide)) hP hD hS hl
set_option maxHeartbeats 4000000 in
set_option maxRecDepth 100000 in
theorem kX5_neverWrong_2 (l : Launch) (dC : Nat → ClassId) (dI : Nat → Nat → Nat) (cI c2 cZ : ClassId) (o1 : Nat) (o2 : Nat) (o7 : Nat) (o9 : Nat) (o3 : Nat) (rw4 : Nat → Nat) (Gw5 : Nat → Nat → Int32) (v6 : Int32) (rw10 : Nat → Nat) (Gw11 : Nat → Nat → Int32) (v12 : Int32) (v13 : Int32) (v14 : Int32) (a2 : Int32) (a3 : Int32) (sz : Nat) (Gw5_b : Bg 13 12 0 4095 Gw5) (v6_h : Iv 0 12 v6) (v13_h : Iv 0 4095 v13) (v14_h : Iv 0 12 v14) (a2_h : Iv 0 4095 a2) (a3_h : Iv 0 11 a3) : Met l yX5_neverWrong wsX5_neverWrong ({ frames := 3, cells := 0, slots := 0, locals := 74 }) (va_Pc [.ref o1, .int 1, .int a2, .int a3] (wPre (dC, dI) [(cI, .int), (c2, .array .int), (cZ, .boolean)] (([(o1, .inr (5, [.ref o2, .ref o7, .ref o9, .int v12, .int v13, .int v14])), (o9, .inl (c2, 12, .inr (.inr (.inr (.inr (fun i => if i < 12 then some (rw10 i) else none)))))), (o2, .inr (3, [.ref o3, .int v6])), (o3, .inl (c2, 13, .inr (.inr (.inr (.inr (fun i => if i < 13 then some (rw4 i) else none))))))] : va_W) ++ (gr12 rw10 cI 12 Gw11 ++ (gr13 rw4 cI 12 Gw5 ++ ([] : va_W)))) sz)) (va_Qi (fun (r : Int32) (_ : Unit) => Iv (-1) 11 r) (fun _ t => wPost (dC, dI) [(cI, .int), (c2, .array .int), (cZ, .boolean)] (va_A (([(o1, .inr (5, [.ref o2, .ref o7, .ref o9, .int v12, .int v13, .int v14])), (o9, .inl (c2, 12, .inr (.inr (.inr (.inr (fun i => if i < 12 then some (rw10 i) else none)))))), (o2, .inr (3, [.ref o3, .int v6])), (o3, .inl (c2, 13, .inr (.inr (.inr (.inr (fun i => if i < 13 then some (rw4 i) else none))))))] : va_W) ++ (gr12 rw10 cI 12 Gw11 ++ (gr13 rw4 cI 12 Gw5 ++ ([] : va_W)))) sz) (([(o1, .inr (5, [.ref o2, .ref o7, .ref o9, .int v12, .int v13, .int v14])), (o9, .inl (c2, 12, .inr (.inr (.inr (.inr (fun i => if i < 12 then some (rw10 i) else none)))))), (o2, .inr (3, [.ref o3, .int v6])), (o3, .inl (c2, 13, .inr (.inr (.inr (.inr (fun i => if i < 13 then some (rw4 i) else none))))))] : va_W) ++ (gr12 rw10 cI 12 Gw11 ++ (gr13 rw4 cI 12 Gw5 ++ ([] : va_W)))) t) (va_A (([(o1, .inr (5, [.ref o2, .ref o7, .ref o9, .int v12, .int v13, .int v14])), (o9, .inl (c2, 12, .inr (.inr (.inr (.inr (fun i => if i < 12 then some (rw10 i) else none)))))), (o2, .inr (3, [.ref o3, .int v6])), (o3, .inl (c2, 13, .inr (.inr (.inr (.inr (fun i => if i < 13 then some (rw4 i) else none))))))] : va_W) ++ (gr12 rw10 cI 12 Gw11 ++ (gr13 rw4 cI 12 Gw5 ++ ([] : va_W)))) sz)) 0 0 (va_A (([(o1, .inr (5, [.ref o2, .ref o7, .ref o9, .int v12, .int v13, .int v14])), (o9, .inl (c2, 12, .inr (.inr (.inr (.inr (fun i => if i < 12 then some (rw10 i) else none)))))), (o2, .inr (3, [.ref o3, .int v6])), (o3, .inl (c2, 13, .inr (.inr (.inr (.inr (fun i => if i < 13 then some (rw4 i) else none))))))] : va_W) ++ (gr12 rw10 cI 12 Gw11 ++ (gr13 rw4 cI 12 Gw5 ++ ([] : va_W)))) sz) := by
  refine Met.ofW (cc := cX5_neverWrong) (maxL := 6) (ret := (some .int)) (by decide) rfl ?_
  intro p e s m args below meth c s₁ B hml hv
  obtain ⟨rfl, hsz, hP, hK, hD0, hN⟩ := hv
  have hx := B.exec
  have hb := B.bytes
  have hr := B.returns
  have hts := atoms_spec (ws := wsX5_neverWrong) B.pre
  have hown : s.vm.findClass RX5 = some m.cls := findClass_of_methodNamed B.named
  have hlocks := B.notSynchronized
  subst hsz
  have hD := hD0.self (sz := s.heap.size)
  generalize hAe : va_A (([(o1, .inr (5, [.ref o2, .ref o7, .ref o9, .int v12, .int v13, .int v14])), (o9, .inl (c2, 12, .inr (.inr (.inr (.inr (fun i => if i < 12 then some (rw10 i) else none)))))), (o2, .inr (3, [.ref o3, .int v6])), (o3, .inl (c2, 13, .inr (.inr (.inr (.inr (fun i => if i < 13 then some (rw4 i) else none))))))] : va_W) ++ (gr12 rw10 cI 12 Gw11 ++ (gr13 rw4 cI 12 Gw5 ++ ([] : va_W)))) s.heap.size = A at hD ⊢
  have hA : ∀ q : Nat, s.heap.size ≤ q → A q := fun q h => by rw [← hAe]; exact Or.inr h
  have hS : va_S A s.heap s.heap [] := va_S.rf
  have hP : va_P (dC, dI) vwCl (([(o1, .inr (5, [.ref o2, .ref o7, .ref o9, .int v12, .int v13, .int v14])), (o9, .inl (c2, 12, .inr (.inr (.inr (.inr (fun i => if i < 12 then some (rw10 i) else none)))))), (o2, .inr (3, [.ref o3, .int v6])), (o3, .inl (c2, 13, .inr (.inr (.inr (.inr (fun i => if i < 13 then some (rw4 i) else none))))))] : va_W) ++ (gr12 rw10 cI 12 Gw11 ++ (gr13 rw4 cI 12 Gw5 ++ ([] : va_W)))) s.heap := hP
  have hl := lv_entry ([.ref o1, .int 1, .int a2, .int a3]) (n := 6) (Nat.le_of_ble_eq_true rfl)
  rw [lg_entry_eq]
  generalize (lg_sl ([.ref o1, .int 1, .int a2, .int a3]) ++ List.replicate (6 - (lg_sl ([.ref o1, .int 1, .int a2, .int a3])).length) Slot.unset).toArray = ls at hl ⊢
  have hl : lv_has ls 6 [(0, .ref o1), (1, .int 1), (2, .int a2), (3, .int a3)] := hl
  refine gen_Q (fun Q hQ => ?_)
  refine lv_aload_n hx hb dX5_neverWrong_0 rfl (lv_at hl 0 rfl) ?_
  refine va_get (D := (dC, dI)) (ci := 5) (v := .int v12) (C := RX5) (T := TX5) (N := 6) hx hb hts iw_X5_neverWrong_X5 hown hK hP 0 rfl rfl 3 (by decide) (hts (.fieldLink RX5 27 "HolelessHouse$LeastSearch" "rule" "I") hm_X5_neverWrong_1) (fun _ h9 => h9) rfl dX5_neverWrong_1 ?_
  refine lv_iconst (v := 1) hx hb dX5_neverWrong_4 (by decide) ?_
  refine lv_icmp_ne (tgt := 18) hx hb dX5_neverWrong_5 (by decide) (fun h1 => ?_) (fun h1 => ?_)
  ·
    refine lv_aload_n hx hb dX5_neverWrong_18 rfl (lv_at hl 0 rfl) ?_
    refine va_get (D := (dC, dI)) (ci := 5) (v := .ref o9) (C := RX5) (T := TX5) (N := 6) hx hb hts iw_X5_neverWrong_X5 hown hK hP 0 rfl rfl 2 (by decide) (hts (.fieldLink RX5 24 "HolelessHouse$LeastSearch" "prices" "[[I") hm_X5_neverWrong_3) (fun _ h9 => h9) rfl dX5_neverWrong_19 ?_
    refine lv_iload_n hx hb dX5_neverWrong_22 rfl (lv_at hl 1 rfl) ?_
    refine va_alda hx hb hK hP 1 1 rfl rfl (vin_iv ik_1 (by decide)) dX5_neverWrong_23 (tk_r (v := .ref (rw10 1)) rfl ?_)
    refine lv_iload_n hx hb dX5_neverWrong_24 rfl (lv_at hl 3 rfl) ?_
    refine va_iald hx hb hK hP (4 + 1) 0 (gr12_get (pre := ([(o1, .inr (5, [.ref o2, .ref o7, .ref o9, .int v12, .int v13, .int v14])), (o9, .inl (c2, 12, .inr (.inr (.inr (.inr (fun i => if i < 12 then some (rw10 i) else none)))))), (o2, .inr (3, [.ref o3, .int v6])), (o3, .inl (c2, 13, .inr (.inr (.inr (.inr (fun i => if i < 13 then some (rw4 i) else none))))))] : va_W)) (post := (gr13 rw4 cI 12 Gw5 ++ ([] : va_W))) rfl (by decide)) rfl (vin_iv a3_h (by decide)) dX5_neverWrong_25 (lv_topi (fun x2 x2_e => ?_))
    refine lv_istore (lv' := [(4, .int x2), (0, .ref o1), (1, .int 1), (2, .int a2), (3, .int a3)]) hx hb dX5_neverWrong_26 hl (by decide) rfl (fun ls hl => ?_)
    refine lv_iload_n hx hb dX5_neverWrong_28 rfl (lv_at hl 4 rfl) ?_
    refine lv_istore (lv' := [(5, .int a3), (4, .int x2), (0, .ref o1), (1, .int 1), (2, .int a2), (3, .int a3)]) hx hb dX5_neverWrong_29 hl (by decide) rfl (fun ls hl => ?_)
    have L1 : ∀ (N : Nat) (x32 : Int32) (H : Heap) (locs : List Loc) (ls : Array Slot), (12 - x32.toInt).toNat < N → Iv 0 12 x32 → va_P (dC, dI) vwCl (([(o1, .inr (5, [.ref o2, .ref o7, .ref o9, .int v12, .int v13, .int v14])), (o9, .inl (c2, 12, .inr (.inr (.inr (.inr (fun i => if i < 12 then some (rw10 i) else none)))))), (o2, .inr (3, [.ref o3, .int v6])), (o3, .inl (c2, 13, .inr (.inr (.inr (.inr (fun i => if i < 13 then some (rw4 i) else none))))))] : va_W) ++ (gr12 rw10 cI 12 Gw11 ++ (gr13 rw4 cI 12 Gw5 ++ ([] : va_W)))) H → va_D A (([(o1, .inr (5, [.ref o2, .ref o7, .ref o9, .int v12, .int v13, .int v14])), (o9, .inl (c2, 12, .inr (.inr (.inr (.inr (fun i => if i < 12 then some (rw10 i) else none)))))), (o2, .inr (3, [.ref o3, .int v6])), (o3, .inl (c2, 13, .inr (.inr (.inr (.inr (fun i => if i < 13 then some (rw4 i) else none))))))] : va_W) ++ (gr12 rw10 cI 12 Gw11 ++ (gr13 rw4 cI 12 Gw5 ++ ([] : va_W)))) → va_S A s.heap H locs → lv_has ls 6 [(5, .int x32), (4, .int x2), (0, .ref o1), (1, .int 1), (2, .int a2), (3, .int a3)] → W p l e ({ frames := 3, cells := 0, slots := 0, locals := 74 }) s m ([.ref o1, .int 1, .int a2, .int a3] : List Value).toArray below meth c H locs 0 0 Q (F0 m 31 ls []) := by
      intro N
      induction N with
      | zero =>
        intro x32 H locs ls hM
        exact absurd hM (Nat.not_lt_zero _)
      | succ N ih1 =>
        intro x32 H locs ls hM1 x32_h hP hD hS hl
        refine lv_iload hx hb dX5_neverWrong_31 (lv_at hl 0 rfl) ?_
        refine lv_aload_n hx hb dX5_neverWrong_33 rfl (lv_at hl 2 rfl) ?_
        refine va_get (D := (dC, dI)) (ci := 5) (v := .int v14) (C := RX5) (T := TX5) (N := 6) hx hb hts iw_X5_neverWrong_X5 hown hK hP 0 rfl rfl 5 (by decide) (hts (.fieldLink RX5 34 "HolelessHouse$LeastSearch" "size" "I") hm_X5_neverWrong_4) (fun _ h9 => h9) rfl dX5_neverWrong_34 ?_
        refine lv_icmp_ge (tgt := 82) hx hb dX5_neverWrong_37 (by decide) (fun h33 => ?_) (fun h33 => ?_)
        ·
          have qh33 := le_i h33
          refine lv_iload hx hb dX5_neverWrong_82 (lv_at hl 1 rfl) ?_
          refine lv_if_ne (tgt := 91) hx hb dX5_neverWrong_84 (by decide) (fun h34 => ?_) (fun h34 => ?_)
          ·
            refine lv_iconst (v := (-1)) hx hb dX5_neverWrong_91 (by decide) ?_
            rw [hQ]
            exact W.iret (v := (-1)) hx hb hr (fun t ht hW => ⟨⟨(-1), (), rfl, (iv_w ikm_1 (by decide)), by rw [ht]; exact hP, va_K.moved hW.alike hK, hD⟩, hS.F ht⟩) hS.2.2 dX5_neverWrong_92
          ·
            have j35 : Iv 0 0 x2 := r_eq h34 ik_0
            refine lv_iload_n hx hb dX5_neverWrong_87 rfl (lv_at hl 5 rfl) ?_
            refine lv_goto (tgt := 92) hx hb dX5_neverWrong_88 (by decide) ?_
            rw [hQ]
            exact W.iret (v := a3) hx hb hr (fun t ht hW => ⟨⟨a3, (), rfl, (iv_w a3_h (by decide)), by rw [ht]; exact hP, va_K.moved hW.alike hK, hD⟩, hS.F ht⟩) hS.2.2 dX5_neverWrong_92
        ·
          have qh33 := nle_i h33
          have j36 : Iv 0 11 x32 := r_ltl qh33 x32_h v14_h (by decide)
          have j37 : Iv 1 12 v14 := r_ltr qh33 x32_h v14_h (by decide)
          refine lv_iload hx hb dX5_neverWrong_40 (lv_at hl 1 rfl) ?_
          refine lv_iconst (v := 1) hx hb dX5_neverWrong_42 (by decide) ?_
          refine lv_icmp_ne (tgt := 82) hx hb dX5_neverWrong_43 (by decide) (fun h38 => ?_) (fun h38 => ?_)
          ·
            refine lv_iload hx hb dX5_neverWrong_82 (lv_at hl 1 rfl) ?_
            refine lv_if_ne (tgt := 91) hx hb dX5_neverWrong_84 (by decide) (fun h39 => ?_) (fun h39 => ?_)
            ·
              refine lv_iconst (v := (-1)) hx hb dX5_neverWrong_91 (by decide) ?_
              rw [hQ]
              exact W.iret (v := (-1)) hx hb hr (fun t ht hW => ⟨⟨(-1), (), rfl, (iv_w ikm_1 (by decide)), by rw [ht]; exact hP, va_K.moved hW.alike hK, hD⟩, hS.F ht⟩) hS.2.2 dX5_neverWrong_92
            ·
              have j40 : Iv 0 0 x2 := r_eq h39 ik_0
              refine lv_iload_n hx hb dX5_neverWrong_87 rfl (lv_at hl 5 rfl) ?_
              refine lv_goto (tgt := 92) hx hb dX5_neverWrong_88 (by decide) ?_
              rw [hQ]
              exact W.iret (v := a3) hx hb hr (fun t ht hW => ⟨⟨a3, (), rfl, (iv_w a3_h (by decide)), by rw [ht]; exact hP, va_K.moved hW.alike hK, hD⟩, hS.F ht⟩) hS.2.2 dX5_neverWrong_92
          ·
            have j41 : Iv 1 1 x2 := r_eq h38 ik_1
            refine lv_aload_n hx hb dX5_neverWrong_46 rfl (lv_at hl 2 rfl) ?_
            refine va_get (D := (dC, dI)) (ci := 5) (v := .ref o9) (C := RX5) (T := TX5) (N := 6) hx hb hts iw_X5_neverWrong_X5 hown hK hP 0 rfl rfl 2 (by decide) (hts (.fieldLink RX5 24 "HolelessHouse$LeastSearch" "prices" "[[I") hm_X5_neverWrong_3) (fun _ h9 => h9) rfl dX5_neverWrong_47 ?_
            refine lv_iload_n hx hb dX5_neverWrong_50 rfl (lv_at hl 3 rfl) ?_
            refine va_alda hx hb hK hP 1 1 rfl rfl (vin_iv ik_1 (by decide)) dX5_neverWrong_51 (tk_r (v := .ref (rw10 1)) rfl ?_)
            refine lv_iload hx hb dX5_neverWrong_52 (lv_at hl 0 rfl) ?_
            refine va_iald hx hb hK hP (4 + 1) 0 (gr12_get (pre := ([(o1, .inr (5, [.ref o2, .ref o7, .ref o9, .int v12, .int v13, .int v14])), (o9, .inl (c2, 12, .inr (.inr (.inr (.inr (fun i => if i < 12 then some (rw10 i) else none)))))), (o2, .inr (3, [.ref o3, .int v6])), (o3, .inl (c2, 13, .inr (.inr (.inr (.inr (fun i => if i < 13 then some (rw4 i) else none))))))] : va_W)) (post := (gr13 rw4 cI 12 Gw5 ++ ([] : va_W))) rfl (by decide)) rfl (vin_iv j36 (by decide)) dX5_neverWrong_54 (lv_topi (fun x42 x42_e => ?_))
            refine lv_iconst (v := 1) hx hb dX5_neverWrong_55 (by decide) ?_
            refine lv_icmp_ne (tgt := 76) hx hb dX5_neverWrong_56 (by decide) (fun h43 => ?_) (fun h43 => ?_)
            ·
              obtain ⟨x44, x44_e⟩ : ∃ z : Int32, z = x32 + 1 := ⟨_, rfl⟩
              have x44_h : Iv 1 12 x44 := iv_e x44_e (iv_add j36 ik_1 (by decide))
              refine lv_iinc (v := x44) (lv' := [(5, .int x44), (4, .int x2), (0, .ref o1), (1, .int 1), (2, .int a2), (3, .int a3)]) hx hb dX5_neverWrong_76 hl (k := 0) rfl (incN (by decide +kernel) x44_e) (by decide) rfl (fun ls hl => ?_)
              refine lv_goto (tgt := 31) hx hb dX5_neverWrong_79 (by decide) ?_
              exact ih1 x44 _ _ _ (ms_up x44_e j36 (by decide) hM1) (iv_w x44_h (by decide)) hP hD hS hl
            ·
              have j45 : Iv 1 1 x42 := r_eq h43 ik_1
              refine lv_aload_n hx hb dX5_neverWrong_59 rfl (lv_at hl 2 rfl) ?_
              refine va_get (D := (dC, dI)) (ci := 5) (v := .ref o2) (C := RX5) (T := TX5) (N := 6) hx hb hts iw_X5_neverWrong_X5 hown hK hP 0 rfl rfl 0 (by decide) (hts (.fieldLink RX5 12 "HolelessHouse$LeastSearch" "going" "LHolelessHouse$Going;") hm_X5_neverWrong_2) (fun _ h9 => h9) rfl dX5_neverWrong_60 ?_
              refine lv_iload_n hx hb dX5_neverWrong_63 rfl (lv_at hl 3 rfl) ?_
              refine lv_iload hx hb dX5_neverWrong_64 (lv_at hl 0 rfl) ?_
              refine lv_iload_n hx hb dX5_neverWrong_66 rfl (lv_at hl 4 rfl) ?_
              refine kc_i (D := (dC, dI)) (S := Unit) (wc := ([(o2, .inr (3, [.ref o3, .int v6])), (o3, .inl (c2, 13, .inr (.inr (.inr (.inr (fun i => if i < 13 then some (rw4 i) else none))))))] : va_W) ++ (gr13 rw4 cI 12 Gw5 ++ ([] : va_W))) (wr := ([(o1, .inr (5, [.ref o2, .ref o7, .ref o9, .int v12, .int v13, .int v14])), (o9, .inl (c2, 12, .inr (.inr (.inr (.inr (fun i => if i < 12 then some (rw10 i) else none))))))] : va_W) ++ (gr12 rw10 cI 12 Gw11 ++ ([] : va_W))) (w1 := fun _ => ([(o2, .inr (3, [.ref o3, .int v6])), (o3, .inl (c2, 13, .inr (.inr (.inr (.inr (fun i => if i < 13 then some (rw4 i) else none))))))] : va_W) ++ (gr13 rw4 cI 12 Gw5 ++ ([] : va_W))) (wn := fun _ => ([(o1, .inr (5, [.ref o2, .ref o7, .ref o9, .int v12, .int v13, .int v14])), (o9, .inl (c2, 12, .inr (.inr (.inr (.inr (fun i => if i < 12 then some (rw10 i) else none)))))), (o2, .inr (3, [.ref o3, .int v6])), (o3, .inl (c2, 13, .inr (.inr (.inr (.inr (fun i => if i < 13 then some (rw4 i) else none))))))] : va_W) ++ (gr12 rw10 cI 12 Gw11 ++ (gr13 rw4 cI 12 Gw5 ++ ([] : va_W)))) (fun hPc hDc => va_runVN (As := [.int 1, .int x32, .int a2]) (rest := []) ⟨hx, hb, hml, hown, hts⟩ (kX3_hasWayOutside_2 l dC dI cI c2 cZ o2 o3 rw4 Gw5 v6 x32 a2 H.size Gw5_b v6_h j36 a2_h) ⟨va_cnB 3 hts gX5_neverWrong_X3_hasWayOutside_n90 rfl rfl rfl (hN.1 _ ns_98) (hts (.initialized RX3) hm_X5_neverWrong_6) (by decide +kernel) ⟨Nat.le_of_ble_eq_true rfl, Nat.le_of_ble_eq_true rfl⟩, (hts (.instanceMethod yX3_hasWayOutside) hm_X5_neverWrong_25), (hts (.selects RX3 yX3_hasWayOutside yX3_hasWayOutside) hm_X5_neverWrong_26)⟩ (pre_V hPc hK hDc hN (ci := 3) (q0 := 0) rfl rfl) rfl rfl hl.1 rfl (lv_room (Nat.le_of_ble_eq_true rfl)) dX5_neverWrong_67 ⟨Nat.le_of_ble_eq_true rfl, Nat.le_of_ble_eq_true rfl⟩) hP hD hS hA [2, 3, 16, 17, 18, 19, 20, 21, 22, 23, 24, 25, 26, 27, 28] [0, 1, 4, 5, 6, 7, 8, 9, 10, 11, 12, 13, 14, 15] [0, 1, 14, 15, 2, 3, 4, 5, 6, 7, 8, 9, 10, 11, 12, 13, 16, 17, 18, 19, 20, 21, 22, 23, 24, 25, 26, 27, 28] rfl rfl (by decide +kernel) (by decide +kernel) (by decide +kernel) (by decide +kernel) (fun _ => rfl) (fun x46 _ H locs hq hP hD hS => ?_)
              have x46_h := hq
              have hP : va_P (dC, dI) vwCl (([(o1, .inr (5, [.ref o2, .ref o7, .ref o9, .int v12, .int v13, .int v14])), (o9, .inl (c2, 12, .inr (.inr (.inr (.inr (fun i => if i < 12 then some (rw10 i) else none)))))), (o2, .inr (3, [.ref o3, .int v6])), (o3, .inl (c2, 13, .inr (.inr (.inr (.inr (fun i => if i < 13 then some (rw4 i) else none))))))] : va_W) ++ (gr12 rw10 cI 12 Gw11 ++ (gr13 rw4 cI 12 Gw5 ++ ([] : va_W)))) H := hP
              have hD : va_D A (([(o1, .inr (5, [.ref o2, .ref o7, .ref o9, .int v12, .int v13, .int v14])), (o9, .inl (c2, 12, .inr (.inr (.inr (.inr (fun i => if i < 12 then some (rw10 i) else none)))))), (o2, .inr (3, [.ref o3, .int v6])), (o3, .inl (c2, 13, .inr (.inr (.inr (.inr (fun i => if i < 13 then some (rw4 i) else none))))))] : va_W) ++ (gr12 rw10 cI 12 Gw11 ++ (gr13 rw4 cI 12 Gw5 ++ ([] : va_W)))) := hD
              refine lv_if_eq (tgt := 76) hx hb dX5_neverWrong_70 (by decide) (fun h47 => ?_) (fun h47 => ?_)
              ·
                have j48 : Iv 0 0 x46 := r_eq h47 ik_0
                obtain ⟨x49, x49_e⟩ : ∃ z : Int32, z = x32 + 1 := ⟨_, rfl⟩
                have x49_h : Iv 1 12 x49 := iv_e x49_e (iv_add j36 ik_1 (by decide))
                refine lv_iinc (v := x49) (lv' := [(5, .int x49), (4, .int x2), (0, .ref o1), (1, .int 1), (2, .int a2), (3, .int a3)]) hx hb dX5_neverWrong_76 hl (k := 0) rfl (incN (by decide +kernel) x49_e) (by decide) rfl (fun ls hl => ?_)
                refine lv_goto (tgt := 31) hx hb dX5_neverWrong_79 (by decide) ?_
                exact ih1 x49 _ _ _ (ms_up x49_e j36 (by decide) hM1) (iv_w x49_h (by decide)) hP hD hS hl
              ·
                have j50 : Iv 1 1 x46 := r_nelo h47 x46_h ik_0 (by decide)
                refine lv_iload hx hb dX5_neverWrong_73 (lv_at hl 0 rfl) ?_
                rw [hQ]
                exact W.iret (v := x32) hx hb hr (fun t ht hW => ⟨⟨x32, (), rfl, (iv_w j36 (by decide)), by rw [ht]; exact hP, va_K.moved hW.alike hK, hD⟩, hS.F ht⟩) hS.2.2 dX5_neverWrong_75
    exact L1 _ a3 _ _ _ (Nat.lt_succ_self _) (iv_w a3_h (by decide)) hP hD hS hl
  ·
    have j51 : Iv 1 1 v12 := r_eq h1 ik_1
    refine lv_aload_n hx hb dX5_neverWrong_8 rfl (lv_at hl 0 rfl) ?_
    refine va_get (D := (dC, dI)) (ci := 5) (v := .ref o2) (C := RX5) (T := TX5) (N := 6) hx hb hts iw_X5_neverWrong_X5 hown hK hP 0 rfl rfl 0 (by decide) (hts (.fieldLink RX5 12 "HolelessHouse$LeastSearch" "going" "LHolelessHouse$Going;") hm_X5_neverWrong_2) (fun _ h9 => h9) rfl dX5_neverWrong_9 ?_
    refine lv_iload_n hx hb dX5_neverWrong_12 rfl (lv_at hl 1 rfl) ?_
    refine lv_iload_n hx hb dX5_neverWrong_13 rfl (lv_at hl 2 rfl) ?_
    refine kc_i (D := (dC, dI)) (S := Unit) (wc := ([(o2, .inr (3, [.ref o3, .int v6])), (o3, .inl (c2, 13, .inr (.inr (.inr (.inr (fun i => if i < 13 then some (rw4 i) else none))))))] : va_W) ++ (gr13 rw4 cI 12 Gw5 ++ ([] : va_W))) (wr := ([(o1, .inr (5, [.ref o2, .ref o7, .ref o9, .int v12, .int v13, .int v14])), (o9, .inl (c2, 12, .inr (.inr (.inr (.inr (fun i => if i < 12 then some (rw10 i) else none))))))] : va_W) ++ (gr12 rw10 cI 12 Gw11 ++ ([] : va_W))) (w1 := fun _ => ([(o2, .inr (3, [.ref o3, .int v6])), (o3, .inl (c2, 13, .inr (.inr (.inr (.inr (fun i => if i < 13 then some (rw4 i) else none))))))] : va_W) ++ (gr13 rw4 cI 12 Gw5 ++ ([] : va_W))) (wn := fun _ => ([(o1, .inr (5, [.ref o2, .ref o7, .ref o9, .int v12, .int v13, .int v14])), (o9, .inl (c2, 12, .inr (.inr (.inr (.inr (fun i => if i < 12 then some (rw10 i) else none)))))), (o2, .inr (3, [.ref o3, .int v6])), (o3, .inl (c2, 13, .inr (.inr (.inr (.inr (fun i => if i < 13 then some (rw4 i) else none))))))] : va_W) ++ (gr12 rw10 cI 12 Gw11 ++ (gr13 rw4 cI 12 Gw5 ++ ([] : va_W)))) (fun hPc hDc => va_runVN (As := [.int 1, .int a2]) (rest := []) ⟨hx, hb, hml, hown, hts⟩ (kX3_leastTight_1 l dC dI cI c2 cZ o2 o3 rw4 Gw5 v6 1 a2 s.heap.size Gw5_b v6_h (iv_w ik_1 (by decide)) a2_h) ⟨va_cnB 2 hts gX5_neverWrong_X3_leastTight_n87 rfl rfl rfl (hN.1 _ ns_97) (hts (.initialized RX3) hm_X5_neverWrong_6) (by decide +kernel) ⟨Nat.le_of_ble_eq_true rfl, Nat.le_of_ble_eq_true rfl⟩, (hts (.instanceMethod yX3_leastTight) hm_X5_neverWrong_5), (hts (.selects RX3 yX3_leastTight yX3_leastTight) hm_X5_neverWrong_7)⟩ (pre_V hPc hK hDc hN (ci := 3) (q0 := 0) rfl rfl) rfl rfl hl.1 rfl (lv_room (Nat.le_of_ble_eq_true rfl)) dX5_neverWrong_14 ⟨Nat.le_of_ble_eq_true rfl, Nat.le_of_ble_eq_true rfl⟩) hP hD hS hA [2, 3, 16, 17, 18, 19, 20, 21, 22, 23, 24, 25, 26, 27, 28] [0, 1, 4, 5, 6, 7, 8, 9, 10, 11, 12, 13, 14, 15] [0, 1, 14, 15, 2, 3, 4, 5, 6, 7, 8, 9, 10, 11, 12, 13, 16, 17, 18, 19, 20, 21, 22, 23, 24, 25, 26, 27, 28] rfl rfl (by decide +kernel) (by decide +kernel) (by decide +kernel) (by decide +kernel) (fun _ => rfl) (fun x52 _ H locs hq hP hD hS => ?_)
    have x52_h := hq
    have hP : va_P (dC, dI) vwCl (([(o1, .inr (5, [.ref o2, .ref o7, .ref o9, .int v12, .int v13, .int v14])), (o9, .inl (c2, 12, .inr (.inr (.inr (.inr (fun i => if i < 12 then some (rw10 i) else none)))))), (o2, .inr (3, [.ref o3, .int v6])), (o3, .inl (c2, 13, .inr (.inr (.inr (.inr (fun i => if i < 13 then some (rw4 i) else none))))))] : va_W) ++ (gr12 rw10 cI 12 Gw11 ++ (gr13 rw4 cI 12 Gw5 ++ ([] : va_W)))) H := hP
    have hD : va_D A (([(o1, .inr (5, [.ref o2, .ref o7, .ref o9, .int v12, .int v13, .int v14])), (o9, .inl (c2, 12, .inr (.inr (.inr (.inr (fun i => if i < 12 then some (rw10 i) else none)))))), (o2, .inr (3, [.ref o3, .int v6])), (o3, .inl (c2, 13, .inr (.inr (.inr (.inr (fun i => if i < 13 then some (rw4 i) else none))))))] : va_W) ++ (gr12 rw10 cI 12 Gw11 ++ (gr13 rw4 cI 12 Gw5 ++ ([] : va_W)))) := hD
    rw [hQ]
    exact W.iret (v := x52) hx hb hr (fun t ht hW => ⟨⟨x52, (), rfl, x52_h, by rw [ht]; exact hP, va_K.moved hW.alike hK, hD⟩, hS.F ht⟩) hS.2.2 dX5_neverWrong_17
