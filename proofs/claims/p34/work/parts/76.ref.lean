theorem hm_X12_take_1 : (.fieldLink RX12 80 "HolelessHouseModel" "drafted" "I" : Cond) ∈ wsX12_take := List.mem_of_getElem? (i := 1) rfl
theorem hm_X12_take_2 : (.fieldLink RX12 73 "HolelessHouseModel" "n" "I" : Cond) ∈ wsX12_take := List.mem_of_getElem? (i := 2) rfl
theorem hm_X12_take_4 : (.fieldLink RX12 134 "HolelessHouseModel" "orderFill" "I" : Cond) ∈ wsX12_take := List.mem_of_getElem? (i := 4) rfl
theorem hm_X12_take_3 : (.fieldLink RX12 22 "HolelessHouseModel" "draft" "[I" : Cond) ∈ wsX12_take := List.mem_of_getElem? (i := 3) rfl
theorem hm_X12_ruled_1 : (.fieldLink RX12 32 "HolelessHouseModel" "left" "[I" : Cond) ∈ wsX12_ruled := List.mem_of_getElem? (i := 1) rfl
theorem hm_X12_rule_2 : (.fieldLink RX12 134 "HolelessHouseModel" "orderFill" "I" : Cond) ∈ wsX12_rule := List.mem_of_getElem? (i := 2) rfl
theorem hm_X12_rule_1 : (.fieldLink RX12 73 "HolelessHouseModel" "n" "I" : Cond) ∈ wsX12_rule := List.mem_of_getElem? (i := 1) rfl
theorem hm_X12_setThen_1 : (.fieldLink RX12 39 "HolelessHouseModel" "nearThen" "[I" : Cond) ∈ wsX12_setThen := List.mem_of_getElem? (i := 1) rfl
theorem hm_X12_setThen_3 : (.fieldLink RX12 73 "HolelessHouseModel" "n" "I" : Cond) ∈ wsX12_setThen := List.mem_of_getElem? (i := 3) rfl
theorem hm_X12_setThen_2 : (.fieldLink RX12 13 "HolelessHouseModel" "near" "[I" : Cond) ∈ wsX12_setThen := List.mem_of_getElem? (i := 2) rfl
theorem hm_X12_costOf_1 : (.fieldLink RX12 39 "HolelessHouseModel" "nearThen" "[I" : Cond) ∈ wsX12_costOf := List.mem_of_getElem? (i := 1) rfl
theorem hm_X12_costOf_2 : (.fieldLink RX12 73 "HolelessHouseModel" "n" "I" : Cond) ∈ wsX12_costOf := List.mem_of_getElem? (i := 2) rfl
theorem hm_X12_withLater_1 : (.fieldLink RX12 42 "HolelessHouseModel" "least" "[I" : Cond) ∈ wsX12_withLater := List.mem_of_getElem? (i := 1) rfl
theorem iw_X12_take_X12 : ∀ w ∈ wsX120, w ∈ wsX12_take := fun _ h => List.mem_cons.mpr (Or.inr (List.mem_append.mpr (Or.inr h)))
set_option maxHeartbeats 4000000 in
set_option maxRecDepth 100000 in
theorem kX12_take_1 (l : Launch) (dC : Nat → ClassId) (dI : Nat → Nat → Nat) (cI c2 cZ : ClassId) (o1 : Nat) (o3 : Nat) (o6 : Nat) (o9 : Nat) (o11 : Nat) (o14 : Nat) (o17 : Nat) (o22 : Nat) (o24 : Nat) (o26 : Nat) (o28 : Nat) (o30 : Nat) (o33 : Nat) (o35 : Nat) (o37 : Nat) (o40 : Nat) (o42 : Nat) (o44 : Nat) (o47 : Nat) (v2 : Int32) (v5 : Int32) (fw7 : Nat → Int32) (v8 : Int32) (v13 : Int32) (fw15 : Nat → Int32) (v16 : Int32) (fw18 : Nat → Int32) (v19 : Int32) (v20 : Int32) (v21 : Int32) (fw23 : Nat → Int32) (fw25 : Nat → Int32) (v32 : Int32) (v39 : Int32) (v46 : Int32) (sz : Nat) (v5_h : Iv 0 12 v5) (fw7_b : Bd 12 0 4095 fw7) (v8_h : Iv 0 8 v8) (v13_h : Iv 0 12 v13) (fw15_b : Bd 12 0 11 fw15) (v16_h : Iv 0 12 v16) (fw18_b : Bd 12 0 11 fw18) (v19_h : Iv (-9) 12 v19) (fw23_b : Bd 12 0 4095 fw23) (fw25_b : Bd 12 0 4095 fw25) (v32_h : Iv 0 99 v32) (v39_h : Iv 0 12 v39) (v46_h : Iv 0 12 v46) : Met l yX12_take wsX12_take ({ frames := 3, cells := 0, slots := 0, locals := 68 }) (va_Pc [.ref o1] (wPre (dC, dI) [(cI, .int), (c2, .array .int), (cZ, .boolean)] ([(o1, .inr (12, [.int v2, .ref o3, .int v5, .ref o6, .int v8, .ref o9, .ref o11, .int v13, .ref o14, .int v16, .ref o17, .int v19, .int v20, .int v21, .ref o22, .ref o24, .ref o26, .ref o28, .ref o30, .int v32, .ref o33, .ref o35, .ref o37, .int v39, .ref o40, .ref o42, .ref o44, .int v46, .ref o47])), (o6, .inl (cI, 12, .inl fw7)), (o22, .inl (cI, 12, .inl fw23)), (o24, .inl (cI, 12, .inl fw25)), (o14, .inl (cI, 12, .inl fw15)), (o17, .inl (cI, 12, .inl fw18))]) sz)) (va_Qi (fun (r : Int32) (u : Int32 × Int32 × Int32 × Int32 × (Nat → Int32) × (Nat → Int32) × (Nat → Int32)) => Iv 0 0 u.1 ∧ Iv (-9) 12 u.2.1 ∧ Bd 12 0 4095 u.2.2.2.2.1 ∧ Bd 12 0 4095 u.2.2.2.2.2.1 ∧ Bd 12 0 11 u.2.2.2.2.2.2) (fun u t => wPost (dC, dI) [(cI, .int), (c2, .array .int), (cZ, .boolean)] (va_A ([(o1, .inr (12, [.int v2, .ref o3, .int v5, .ref o6, .int v8, .ref o9, .ref o11, .int v13, .ref o14, .int v16, .ref o17, .int v19, .int v20, .int v21, .ref o22, .ref o24, .ref o26, .ref o28, .ref o30, .int v32, .ref o33, .ref o35, .ref o37, .int v39, .ref o40, .ref o42, .ref o44, .int v46, .ref o47])), (o6, .inl (cI, 12, .inl fw7)), (o22, .inl (cI, 12, .inl fw23)), (o24, .inl (cI, 12, .inl fw25)), (o14, .inl (cI, 12, .inl fw15)), (o17, .inl (cI, 12, .inl fw18))]) sz) ([(o1, .inr (12, [.int v2, .ref o3, .int v5, .ref o6, .int v8, .ref o9, .ref o11, .int v13, .ref o14, .int u.1, .ref o17, .int u.2.1, .int u.2.2.1, .int u.2.2.2.1, .ref o22, .ref o24, .ref o26, .ref o28, .ref o30, .int v32, .ref o33, .ref o35, .ref o37, .int v39, .ref o40, .ref o42, .ref o44, .int v46, .ref o47])), (o6, .inl (cI, 12, .inl fw7)), (o22, .inl (cI, 12, .inl u.2.2.2.2.1)), (o24, .inl (cI, 12, .inl u.2.2.2.2.2.1)), (o14, .inl (cI, 12, .inl fw15)), (o17, .inl (cI, 12, .inl u.2.2.2.2.2.2))]) t) (va_A ([(o1, .inr (12, [.int v2, .ref o3, .int v5, .ref o6, .int v8, .ref o9, .ref o11, .int v13, .ref o14, .int v16, .ref o17, .int v19, .int v20, .int v21, .ref o22, .ref o24, .ref o26, .ref o28, .ref o30, .int v32, .ref o33, .ref o35, .ref o37, .int v39, .ref o40, .ref o42, .ref o44, .int v46, .ref o47])), (o6, .inl (cI, 12, .inl fw7)), (o22, .inl (cI, 12, .inl fw23)), (o24, .inl (cI, 12, .inl fw25)), (o14, .inl (cI, 12, .inl fw15)), (o17, .inl (cI, 12, .inl fw18))]) sz)) 0 0 (va_A ([(o1, .inr (12, [.int v2, .ref o3, .int v5, .ref o6, .int v8, .ref o9, .ref o11, .int v13, .ref o14, .int v16, .ref o17, .int v19, .int v20, .int v21, .ref o22, .ref o24, .ref o26, .ref o28, .ref o30, .int v32, .ref o33, .ref o35, .ref o37, .int v39, .ref o40, .ref o42, .ref o44, .int v46, .ref o47])), (o6, .inl (cI, 12, .inl fw7)), (o22, .inl (cI, 12, .inl fw23)), (o24, .inl (cI, 12, .inl fw25)), (o14, .inl (cI, 12, .inl fw15)), (o17, .inl (cI, 12, .inl fw18))]) sz) := by
  refine Met.ofW (cc := cX12_take) (maxL := 3) (ret := (some .int)) (by decide) rfl ?_
  intro p e s m args below meth c s₁ B hml hv
  obtain ⟨rfl, hsz, hP, hK, hD0, hN⟩ := hv
  have hx := B.exec
  have hb := B.bytes
  have hr := B.returns
  have hts := atoms_spec (ws := wsX12_take) B.pre
  have hown : s.vm.findClass RX12 = some m.cls := findClass_of_methodNamed B.named
  have hlocks := B.notSynchronized
  subst hsz
  have hD := hD0.self (sz := s.heap.size)
  generalize hAe : va_A ([(o1, .inr (12, [.int v2, .ref o3, .int v5, .ref o6, .int v8, .ref o9, .ref o11, .int v13, .ref o14, .int v16, .ref o17, .int v19, .int v20, .int v21, .ref o22, .ref o24, .ref o26, .ref o28, .ref o30, .int v32, .ref o33, .ref o35, .ref o37, .int v39, .ref o40, .ref o42, .ref o44, .int v46, .ref o47])), (o6, .inl (cI, 12, .inl fw7)), (o22, .inl (cI, 12, .inl fw23)), (o24, .inl (cI, 12, .inl fw25)), (o14, .inl (cI, 12, .inl fw15)), (o17, .inl (cI, 12, .inl fw18))]) s.heap.size = A at hD ⊢
  have hA : ∀ q : Nat, s.heap.size ≤ q → A q := fun q h => by rw [← hAe]; exact Or.inr h
  have hS : va_S A s.heap s.heap [] := va_S.rf
  have hP : va_P (dC, dI) vwCl ([(o1, .inr (12, [.int v2, .ref o3, .int v5, .ref o6, .int v8, .ref o9, .ref o11, .int v13, .ref o14, .int v16, .ref o17, .int v19, .int v20, .int v21, .ref o22, .ref o24, .ref o26, .ref o28, .ref o30, .int v32, .ref o33, .ref o35, .ref o37, .int v39, .ref o40, .ref o42, .ref o44, .int v46, .ref o47])), (o6, .inl (cI, 12, .inl fw7)), (o22, .inl (cI, 12, .inl fw23)), (o24, .inl (cI, 12, .inl fw25)), (o14, .inl (cI, 12, .inl fw15)), (o17, .inl (cI, 12, .inl fw18))]) s.heap := hP
  have hl := lv_entry ([.ref o1]) (n := 3) (Nat.le_of_ble_eq_true rfl)
  rw [lg_entry_eq]
  generalize (lg_sl ([.ref o1]) ++ List.replicate (3 - (lg_sl ([.ref o1])).length) Slot.unset).toArray = ls at hl ⊢
  have hl : lv_has ls 3 [(0, .ref o1)] := hl
  refine gen_Q (fun Q hQ => ?_)
  refine lv_aload_n hx hb dX12_take_0 rfl (lv_at hl 0 rfl) ?_
  refine va_get (D := (dC, dI)) (ci := 12) (v := .int v16) (C := RX12) (T := TX12) (N := 29) hx hb hts iw_X12_take_X12 hown hK hP 0 rfl rfl 9 (by decide) (hts (.fieldLink RX12 80 "HolelessHouseModel" "drafted" "I") hm_X12_take_1) (fun _ h9 => h9) rfl dX12_take_1 ?_
  refine lv_istore_n (lv' := [(1, .int v16), (0, .ref o1)]) hx hb dX12_take_4 rfl hl (by decide) rfl (fun ls hl => ?_)
  refine lv_aload_n hx hb dX12_take_5 rfl (lv_at hl 1 rfl) ?_
  refine lv_iconst (v := 0) hx hb dX12_take_6 (by decide) ?_
  refine va_put (D := (dC, dI)) (ci := 12) (v := .int 0) (ty := .int) (C := RX12) (T := TX12) (N := 29) hx hb hts iw_X12_take_X12 tyX12 tyX12_ok nmX12 hown hK hP hD hS 0 rfl rfl 9 (by decide) (hts (.fieldLink RX12 80 "HolelessHouseModel" "drafted" "I") hm_X12_take_1) (fun _ h9 => h9) rfl (by decide +kernel) rfl rfl (Nat.le_of_ble_eq_true rfl) dX12_take_7 (fun H locs hP hD hS => ?_)
  have hP : va_P (dC, dI) vwCl ([(o1, .inr (12, [.int v2, .ref o3, .int v5, .ref o6, .int v8, .ref o9, .ref o11, .int v13, .ref o14, .int 0, .ref o17, .int v19, .int v20, .int v21, .ref o22, .ref o24, .ref o26, .ref o28, .ref o30, .int v32, .ref o33, .ref o35, .ref o37, .int v39, .ref o40, .ref o42, .ref o44, .int v46, .ref o47])), (o6, .inl (cI, 12, .inl fw7)), (o22, .inl (cI, 12, .inl fw23)), (o24, .inl (cI, 12, .inl fw25)), (o14, .inl (cI, 12, .inl fw15)), (o17, .inl (cI, 12, .inl fw18))]) H := hP
  have hD : va_D A ([(o1, .inr (12, [.int v2, .ref o3, .int v5, .ref o6, .int v8, .ref o9, .ref o11, .int v13, .ref o14, .int 0, .ref o17, .int v19, .int v20, .int v21, .ref o22, .ref o24, .ref o26, .ref o28, .ref o30, .int v32, .ref o33, .ref o35, .ref o37, .int v39, .ref o40, .ref o42, .ref o44, .int v46, .ref o47])), (o6, .inl (cI, 12, .inl fw7)), (o22, .inl (cI, 12, .inl fw23)), (o24, .inl (cI, 12, .inl fw25)), (o14, .inl (cI, 12, .inl fw15)), (o17, .inl (cI, 12, .inl fw18))]) := hD
  refine lv_iload_n hx hb dX12_take_10 rfl (lv_at hl 0 rfl) ?_
  refine lv_aload_n hx hb dX12_take_11 rfl (lv_at hl 1 rfl) ?_
  refine va_get (D := (dC, dI)) (ci := 12) (v := .int v5) (C := RX12) (T := TX12) (N := 29) hx hb hts iw_X12_take_X12 hown hK hP 0 rfl rfl 2 (by decide) (hts (.fieldLink RX12 73 "HolelessHouseModel" "n" "I") hm_X12_take_2) (fun _ h9 => h9) rfl dX12_take_12 ?_
  refine lv_icmp_ge (tgt := 21) hx hb dX12_take_15 (by decide) (fun h1 => ?_) (fun h1 => ?_)
  ·
    have qh1 := le_i h1
    refine lv_aload_n hx hb dX12_take_21 rfl (lv_at hl 1 rfl) ?_
    refine kc_v (D := (dC, dI)) (S := Int32 × Int32 × Int32 × (Nat → Int32) × (Nat → Int32)) (wc := [(o1, .inr (12, [.int v2, .ref o3, .int v5, .ref o6, .int v8, .ref o9, .ref o11, .int v13, .ref o14, .int 0, .ref o17, .int v19, .int v20, .int v21, .ref o22, .ref o24, .ref o26, .ref o28, .ref o30, .int v32, .ref o33, .ref o35, .ref o37, .int v39, .ref o40, .ref o42, .ref o44, .int v46, .ref o47])), (o6, .inl (cI, 12, .inl fw7)), (o22, .inl (cI, 12, .inl fw23)), (o24, .inl (cI, 12, .inl fw25))]) (wr := [(o14, .inl (cI, 12, .inl fw15)), (o17, .inl (cI, 12, .inl fw18))]) (w1 := fun u => [(o1, .inr (12, [.int v2, .ref o3, .int v5, .ref o6, .int v8, .ref o9, .ref o11, .int v13, .ref o14, .int 0, .ref o17, .int u.1, .int u.2.1, .int u.2.2.1, .ref o22, .ref o24, .ref o26, .ref o28, .ref o30, .int v32, .ref o33, .ref o35, .ref o37, .int v39, .ref o40, .ref o42, .ref o44, .int v46, .ref o47])), (o6, .inl (cI, 12, .inl fw7)), (o22, .inl (cI, 12, .inl u.2.2.2.1)), (o24, .inl (cI, 12, .inl u.2.2.2.2))]) (wn := fun u => [(o1, .inr (12, [.int v2, .ref o3, .int v5, .ref o6, .int v8, .ref o9, .ref o11, .int v13, .ref o14, .int 0, .ref o17, .int u.1, .int u.2.1, .int u.2.2.1, .ref o22, .ref o24, .ref o26, .ref o28, .ref o30, .int v32, .ref o33, .ref o35, .ref o37, .int v39, .ref o40, .ref o42, .ref o44, .int v46, .ref o47])), (o6, .inl (cI, 12, .inl fw7)), (o22, .inl (cI, 12, .inl u.2.2.2.1)), (o24, .inl (cI, 12, .inl u.2.2.2.2)), (o14, .inl (cI, 12, .inl fw15)), (o17, .inl (cI, 12, .inl fw18))]) (fun hPc hDc => va_runV (As := []) (rest := []) ⟨hx, hb, hml, hown, hts⟩ (kX12_beginOrder_1 l dC dI cI c2 cZ o1 o3 o6 o9 o11 o14 o17 o22 o24 o26 o28 o30 o33 o35 o37 o40 o42 o44 o47 v2 v5 fw7 v8 v13 0 v19 v20 v21 fw23 fw25 v32 v39 v46 H.size v5_h fw7_b v8_h v13_h (iv_w ik_0 (by decide)) v19_h fw23_b fw25_b v32_h v39_h v46_h) (cwV 0 hts gX12_take_X12_beginOrder rfl rfl rfl (by decide +kernel) ⟨Nat.le_of_ble_eq_true rfl, Nat.le_of_ble_eq_true rfl⟩) (pre_V hPc hK hDc hN (ci := 12) (q0 := 0) rfl rfl) rfl rfl hl.1 rfl (lv_room (Nat.le_of_ble_eq_true rfl)) dX12_take_22 ⟨Nat.le_of_ble_eq_true rfl, Nat.le_of_ble_eq_true rfl⟩) hP hD hS hA [0, 1, 2, 3] [4, 5] [2, 3, 4, 5, 0, 1] rfl rfl (by decide +kernel) (by decide +kernel) (by decide +kernel) (by decide +kernel) (fun _ => rfl) (fun u H locs hq hP hD hS => ?_)
    obtain ⟨y2, y3, y4, f5, f6⟩ := u
    obtain ⟨y2_h, f5_b, f6_b⟩ := hq
    have y2_h : Iv 0 0 y2 := y2_h
    have f5_b : Bd 12 0 4095 f5 := f5_b
    have f6_b : Bd 12 0 4095 f6 := f6_b
    have hP : va_P (dC, dI) vwCl ([(o1, .inr (12, [.int v2, .ref o3, .int v5, .ref o6, .int v8, .ref o9, .ref o11, .int v13, .ref o14, .int 0, .ref o17, .int y2, .int y3, .int y4, .ref o22, .ref o24, .ref o26, .ref o28, .ref o30, .int v32, .ref o33, .ref o35, .ref o37, .int v39, .ref o40, .ref o42, .ref o44, .int v46, .ref o47])), (o6, .inl (cI, 12, .inl fw7)), (o22, .inl (cI, 12, .inl f5)), (o24, .inl (cI, 12, .inl f6)), (o14, .inl (cI, 12, .inl fw15)), (o17, .inl (cI, 12, .inl fw18))]) H := hP
    have hD : va_D A ([(o1, .inr (12, [.int v2, .ref o3, .int v5, .ref o6, .int v8, .ref o9, .ref o11, .int v13, .ref o14, .int 0, .ref o17, .int y2, .int y3, .int y4, .ref o22, .ref o24, .ref o26, .ref o28, .ref o30, .int v32, .ref o33, .ref o35, .ref o37, .int v39, .ref o40, .ref o42, .ref o44, .int v46, .ref o47])), (o6, .inl (cI, 12, .inl fw7)), (o22, .inl (cI, 12, .inl f5)), (o24, .inl (cI, 12, .inl f6)), (o14, .inl (cI, 12, .inl fw15)), (o17, .inl (cI, 12, .inl fw18))]) := hD
    refine lv_iconst (v := 0) hx hb dX12_take_25 (by decide) ?_
    refine lv_istore_n (lv' := [(2, .int 0), (1, .int v16), (0, .ref o1)]) hx hb dX12_take_26 rfl hl (by decide) rfl (fun ls hl => ?_)
    have L1 : ∀ (N : Nat) (x160 : Int32) (x161 : Int32) (f162 : Nat → Int32) (f163 : Nat → Int32) (f164 : Nat → Int32) (x165 : Int32) (x166 : Int32) (H : Heap) (locs : List Loc) (ls : Array Slot), (12 - x161.toInt).toNat < N → Iv 0 12 x160 → Iv 0 12 x161 → Bd 12 0 11 f162 → Bd 12 0 4095 f163 → Bd 12 0 4095 f164 → (Int32.toInt x160 = Int32.toInt x161) → va_P (dC, dI) vwCl ([(o1, .inr (12, [.int v2, .ref o3, .int v5, .ref o6, .int v8, .ref o9, .ref o11, .int v13, .ref o14, .int 0, .ref o17, .int x160, .int x165, .int x166, .ref o22, .ref o24, .ref o26, .ref o28, .ref o30, .int v32, .ref o33, .ref o35, .ref o37, .int v39, .ref o40, .ref o42, .ref o44, .int v46, .ref o47])), (o6, .inl (cI, 12, .inl fw7)), (o22, .inl (cI, 12, .inl f163)), (o24, .inl (cI, 12, .inl f164)), (o14, .inl (cI, 12, .inl fw15)), (o17, .inl (cI, 12, .inl f162))]) H → va_D A ([(o1, .inr (12, [.int v2, .ref o3, .int v5, .ref o6, .int v8, .ref o9, .ref o11, .int v13, .ref o14, .int 0, .ref o17, .int x160, .int x165, .int x166, .ref o22, .ref o24, .ref o26, .ref o28, .ref o30, .int v32, .ref o33, .ref o35, .ref o37, .int v39, .ref o40, .ref o42, .ref o44, .int v46, .ref o47])), (o6, .inl (cI, 12, .inl fw7)), (o22, .inl (cI, 12, .inl f163)), (o24, .inl (cI, 12, .inl f164)), (o14, .inl (cI, 12, .inl fw15)), (o17, .inl (cI, 12, .inl f162))]) → va_S A s.heap H locs → lv_has ls 3 [(2, .int x161), (1, .int v16), (0, .ref o1)] → W p l e ({ frames := 3, cells := 0, slots := 0, locals := 68 }) s m ([.ref o1] : List Value).toArray below meth c H locs 0 0 Q (F0 m 27 ls []) := by
      intro N
      induction N with
      | zero =>
        intro x160 x161 f162 f163 f164 x165 x166 H locs ls hM
        exact absurd hM (Nat.not_lt_zero _)
      | succ N ih1 =>
        intro x160 x161 f162 f163 f164 x165 x166 H locs ls hM1 x160_h x161_h f162_b f163_b f164_b iv1_0 hP hD hS hl
        refine lv_iload_n hx hb dX12_take_27 rfl (lv_at hl 0 rfl) ?_
        refine lv_aload_n hx hb dX12_take_28 rfl (lv_at hl 2 rfl) ?_
        refine va_get (D := (dC, dI)) (ci := 12) (v := .int v5) (C := RX12) (T := TX12) (N := 29) hx hb hts iw_X12_take_X12 hown hK hP 0 rfl rfl 2 (by decide) (hts (.fieldLink RX12 73 "HolelessHouseModel" "n" "I") hm_X12_take_2) (fun _ h9 => h9) rfl dX12_take_29 ?_
        refine lv_icmp_ge (tgt := 51) hx hb dX12_take_32 (by decide) (fun h167 => ?_) (fun h167 => ?_)
        ·
          have qh167 := le_i h167
          refine lv_aload_n hx hb dX12_take_51 rfl (lv_at hl 2 rfl) ?_
          refine va_get (D := (dC, dI)) (ci := 12) (v := .int x165) (C := RX12) (T := TX12) (N := 29) hx hb hts iw_X12_take_X12 hown hK hP 0 rfl rfl 12 (by decide) (hts (.fieldLink RX12 134 "HolelessHouseModel" "orderFill" "I") hm_X12_take_4) (fun _ h9 => h9) rfl dX12_take_52 ?_
          rw [hQ]
          exact W.iret (v := x165) hx hb hr (fun t ht hW => ⟨⟨x165, (0, x160, x165, x166, f163, f164, f162), rfl, ⟨ik_0, (iv_w x160_h (by decide)), f163_b, f164_b, f162_b⟩, by rw [ht]; exact hP, va_K.moved hW.alike hK, hD⟩, hS.F ht⟩) hS.2.2 dX12_take_55
        ·
          have qh167 := nle_i h167
          have j168 : Iv 0 11 x161 := r_ltl qh167 x161_h v5_h (by decide)
          have j169 : Iv 1 12 v5 := r_ltr qh167 x161_h v5_h (by decide)
          refine lv_aload_n hx hb dX12_take_35 rfl (lv_at hl 2 rfl) ?_
          refine lv_aload_n hx hb dX12_take_36 rfl (lv_at hl 2 rfl) ?_
          refine va_get (D := (dC, dI)) (ci := 12) (v := .ref o14) (C := RX12) (T := TX12) (N := 29) hx hb hts iw_X12_take_X12 hown hK hP 0 rfl rfl 8 (by decide) (hts (.fieldLink RX12 22 "HolelessHouseModel" "draft" "[I") hm_X12_take_3) (fun _ h9 => h9) rfl dX12_take_37 ?_
          refine lv_iload_n hx hb dX12_take_40 rfl (lv_at hl 0 rfl) ?_
          refine va_iald hx hb hK hP 4 0 rfl rfl (vin_iv j168 (by decide)) dX12_take_41 (lv_topi (fun x170 x170_e => ?_))
          have x170_h : Iv 0 11 x170 := iv_e x170_e (bd_at fw15_b (vin_iv j168 (by decide)))
          have j171 : Iv 0 11 x160 := eq_iv iv1_0 j168
          refine kc_v (D := (dC, dI)) (S := Int32 × Int32 × Int32 × (Nat → Int32) × (Nat → Int32) × (Nat → Int32)) (wc := [(o1, .inr (12, [.int v2, .ref o3, .int v5, .ref o6, .int v8, .ref o9, .ref o11, .int v13, .ref o14, .int 0, .ref o17, .int x160, .int x165, .int x166, .ref o22, .ref o24, .ref o26, .ref o28, .ref o30, .int v32, .ref o33, .ref o35, .ref o37, .int v39, .ref o40, .ref o42, .ref o44, .int v46, .ref o47])), (o22, .inl (cI, 12, .inl f163)), (o24, .inl (cI, 12, .inl f164)), (o17, .inl (cI, 12, .inl f162))]) (wr := [(o6, .inl (cI, 12, .inl fw7)), (o14, .inl (cI, 12, .inl fw15))]) (w1 := fun u => [(o1, .inr (12, [.int v2, .ref o3, .int v5, .ref o6, .int v8, .ref o9, .ref o11, .int v13, .ref o14, .int 0, .ref o17, .int u.1, .int u.2.1, .int u.2.2.1, .ref o22, .ref o24, .ref o26, .ref o28, .ref o30, .int v32, .ref o33, .ref o35, .ref o37, .int v39, .ref o40, .ref o42, .ref o44, .int v46, .ref o47])), (o22, .inl (cI, 12, .inl u.2.2.2.1)), (o24, .inl (cI, 12, .inl u.2.2.2.2.1)), (o17, .inl (cI, 12, .inl u.2.2.2.2.2))]) (wn := fun u => [(o1, .inr (12, [.int v2, .ref o3, .int v5, .ref o6, .int v8, .ref o9, .ref o11, .int v13, .ref o14, .int 0, .ref o17, .int u.1, .int u.2.1, .int u.2.2.1, .ref o22, .ref o24, .ref o26, .ref o28, .ref o30, .int v32, .ref o33, .ref o35, .ref o37, .int v39, .ref o40, .ref o42, .ref o44, .int v46, .ref o47])), (o6, .inl (cI, 12, .inl fw7)), (o22, .inl (cI, 12, .inl u.2.2.2.1)), (o24, .inl (cI, 12, .inl u.2.2.2.2.1)), (o14, .inl (cI, 12, .inl fw15)), (o17, .inl (cI, 12, .inl u.2.2.2.2.2))]) (fun hPc hDc => va_runV (As := [.int x170]) (rest := []) ⟨hx, hb, hml, hown, hts⟩ (kX12_go_1 l dC dI cI c2 cZ o1 o3 o6 o9 o11 o14 o17 o22 o24 o26 o28 o30 o33 o35 o37 o40 o42 o44 o47 v2 v5 v8 v13 0 f162 x160 x165 x166 f163 f164 v32 v39 v46 x170 H.size (iv_w j169 (by decide)) v8_h v13_h (iv_w ik_0 (by decide)) f162_b j171 f163_b f164_b v32_h v39_h v46_h x170_h) (cwV 1 hts gX12_take_X12_go rfl rfl rfl (by decide +kernel) ⟨Nat.le_of_ble_eq_true rfl, Nat.le_of_ble_eq_true rfl⟩) (pre_V hPc hK hDc hN (ci := 12) (q0 := 0) rfl rfl) rfl rfl hl.1 rfl (lv_room (Nat.le_of_ble_eq_true rfl)) dX12_take_42 ⟨Nat.le_of_ble_eq_true rfl, Nat.le_of_ble_eq_true rfl⟩) hP hD hS hA [0, 2, 3, 5] [1, 4] [2, 0, 3, 4, 1, 5] rfl rfl (by decide +kernel) (by decide +kernel) (by decide +kernel) (by decide +kernel) (fun _ => rfl) (fun u H locs hq hP hD hS => ?_)
          obtain ⟨y172, y173, y174, f175, f176, f177⟩ := u
          obtain ⟨y172_h, f175_b, f176_b, f177_b, e178⟩ := hq
          have y172_h : Iv 1 12 y172 := y172_h
          have f175_b : Bd 12 0 4095 f175 := f175_b
          have f176_b : Bd 12 0 4095 f176 := f176_b
          have f177_b : Bd 12 0 11 f177 := f177_b
          have e178 : Int32.toInt y172 = Int32.toInt x160 + 1 := e178
          have hP : va_P (dC, dI) vwCl ([(o1, .inr (12, [.int v2, .ref o3, .int v5, .ref o6, .int v8, .ref o9, .ref o11, .int v13, .ref o14, .int 0, .ref o17, .int y172, .int y173, .int y174, .ref o22, .ref o24, .ref o26, .ref o28, .ref o30, .int v32, .ref o33, .ref o35, .ref o37, .int v39, .ref o40, .ref o42, .ref o44, .int v46, .ref o47])), (o6, .inl (cI, 12, .inl fw7)), (o22, .inl (cI, 12, .inl f175)), (o24, .inl (cI, 12, .inl f176)), (o14, .inl (cI, 12, .inl fw15)), (o17, .inl (cI, 12, .inl f177))]) H := hP
          have hD : va_D A ([(o1, .inr (12, [.int v2, .ref o3, .int v5, .ref o6, .int v8, .ref o9, .ref o11, .int v13, .ref o14, .int 0, .ref o17, .int y172, .int y173, .int y174, .ref o22, .ref o24, .ref o26, .ref o28, .ref o30, .int v32, .ref o33, .ref o35, .ref o37, .int v39, .ref o40, .ref o42, .ref o44, .int v46, .ref o47])), (o6, .inl (cI, 12, .inl fw7)), (o22, .inl (cI, 12, .inl f175)), (o24, .inl (cI, 12, .inl f176)), (o14, .inl (cI, 12, .inl fw15)), (o17, .inl (cI, 12, .inl f177))]) := hD
          obtain ⟨x179, x179_e⟩ : ∃ z : Int32, z = x161 + 1 := ⟨_, rfl⟩
          have x179_h : Iv 1 12 x179 := iv_e x179_e (iv_add j168 ik_1 (by decide))
          refine lv_iinc (v := x179) (lv' := [(2, .int x179), (1, .int v16), (0, .ref o1)]) hx hb dX12_take_45 hl (k := 0) rfl (incN (by decide +kernel) x179_e) (by decide) rfl (fun ls hl => ?_)
          refine lv_goto (tgt := 27) hx hb dX12_take_48 (by decide) ?_
          exact ih1 y172 x179 f177 f175 f176 y173 y174 _ _ _ (ms_up x179_e j168 (by decide) hM1) (iv_w y172_h (by decide)) (iv_w x179_h (by decide)) f177_b f175_b f176_b (by have a0 := iv1_0; have a1 := e178; have a2 := tia x179_e j168 ik_1 (by decide); omega) hP hD hS hl
    exact L1 _ y2 0 fw18 f5 f6 y3 y4 _ _ _ (Nat.lt_succ_self _) (iv_w y2_h (by decide)) (iv_w ik_0 (by decide)) fw18_b f5_b f6_b (by have a0 := (show _ ≤ _ ∧ _ ≤ _ from y2_h); have a1 := (show Int32.toInt 0 = 0 by decide +kernel); omega) hP hD hS hl
  ·
    have qh1 := nle_i h1
    have j180 : Iv 0 11 v16 := r_ltl qh1 v16_h v5_h (by decide)
    have j181 : Iv 1 12 v5 := r_ltr qh1 v16_h v5_h (by decide)
    refine lv_bipush (v := (-4)) hx hb dX12_take_18 (by decide) ?_
    rw [hQ]
    exact W.iret (v := (-4)) hx hb hr (fun t ht hW => ⟨⟨(-4), (0, v19, v20, v21, fw23, fw25, fw18), rfl, ⟨ik_0, v19_h, fw23_b, fw25_b, fw18_b⟩, by rw [ht]; exact hP, va_K.moved hW.alike hK, hD⟩, hS.F ht⟩) hS.2.2 dX12_take_20
set_option maxHeartbeats 4000000 in
set_option maxRecDepth 100000 in
theorem kX12_in_4 (l : Launch) (dC : Nat → ClassId) (dI : Nat → Nat → Nat) (cI c2 cZ : ClassId) (a0 : Int32) (a1 : Int32) (a2 : Int32) (sz : Nat) (a1_h : Iv 0 0 a1) (a2_h : Iv 2 2 a2) : Met l yX12_in wsX12_in ({ frames := 0, cells := 0, slots := 0, locals := 0 }) (va_Pc [.int a0, .int a1, .int a2] (wPre (dC, dI) [(cI, .int), (c2, .array .int), (cZ, .boolean)] ([]) sz)) (va_Qi (fun (r : Int32) (_ : Unit) => Iv 0 1 r ∧ (¬ r = 0 → Iv 0 2 a0) ∧ (¬ r = 0 → Int32.toInt a1 ≤ Int32.toInt a0 ∧ Int32.toInt a0 ≤ Int32.toInt a2)) (fun _ t => wPost (dC, dI) [(cI, .int), (c2, .array .int), (cZ, .boolean)] (va_A ([]) sz) ([]) t) (va_A ([]) sz)) 0 0 (va_A ([]) sz) := by
  refine Met.ofW (cc := cX12_in) (maxL := 3) (ret := (some .boolean)) (by decide) rfl ?_
  intro p e s m args below meth c s₁ B hml hv
  obtain ⟨rfl, hsz, hP, hK, hD0, hN⟩ := hv
  have hx := B.exec
  have hb := B.bytes
  have hr := B.returns
  have hts := atoms_spec (ws := wsX12_in) B.pre
  have hown : s.vm.findClass RX12 = some m.cls := findClass_of_methodNamed B.named
  have hlocks := B.notSynchronized
  subst hsz
  have hD := hD0.self (sz := s.heap.size)
  generalize hAe : va_A ([]) s.heap.size = A at hD ⊢
  have hA : ∀ q : Nat, s.heap.size ≤ q → A q := fun q h => by rw [← hAe]; exact Or.inr h
  have hS : va_S A s.heap s.heap [] := va_S.rf
  have hP : va_P (dC, dI) vwCl ([]) s.heap := hP
  have hl := lv_entry ([.int a0, .int a1, .int a2]) (n := 3) (Nat.le_of_ble_eq_true rfl)
  rw [lg_entry_eq]
  generalize (lg_sl ([.int a0, .int a1, .int a2]) ++ List.replicate (3 - (lg_sl ([.int a0, .int a1, .int a2])).length) Slot.unset).toArray = ls at hl ⊢
  have hl : lv_has ls 3 [(0, .int a0), (1, .int a1), (2, .int a2)] := hl
  refine gen_Q (fun Q hQ => ?_)
  refine lv_iload_n hx hb dX12_in_0 rfl (lv_at hl 0 rfl) ?_
  refine lv_iload_n hx hb dX12_in_1 rfl (lv_at hl 1 rfl) ?_
  refine lv_icmp_lt (tgt := 14) hx hb dX12_in_2 (by decide) (fun h1 => ?_) (fun h1 => ?_)
  ·
    have qh1 := lt_i h1
    have j2 : Iv (-2147483648) (-1) a0 := r_ltl qh1 (iv_full a0) a1_h (by decide)
    refine lv_iconst (v := 0) hx hb dX12_in_14 (by decide) ?_
    rw [hQ]
    exact W.zret (v := 0) (ty := .boolean) hx hb hr rfl (fun t ht hW => ⟨⟨0, (), rfl, ⟨(iv_w ik_0 (by decide)), (fun h8 => absurd rfl h8), (fun h8 => absurd rfl h8)⟩, by rw [ht]; exact hP, va_K.moved hW.alike hK, hD⟩, hS.F ht⟩) hS.2.2 dX12_in_15
  ·
    have qh1 := nlt_i h1
    have j3 : Iv 0 2147483647 a0 := r_ler qh1 a1_h (iv_full a0) (by decide)
    refine lv_iload_n hx hb dX12_in_5 rfl (lv_at hl 0 rfl) ?_
    refine lv_iload_n hx hb dX12_in_6 rfl (lv_at hl 2 rfl) ?_
    refine lv_icmp_gt (tgt := 14) hx hb dX12_in_7 (by decide) (fun h4 => ?_) (fun h4 => ?_)
    ·
      have qh4 := lt_i h4
      have j5 : Iv 3 2147483647 a0 := r_ltr qh4 a2_h j3 (by decide)
      refine lv_iconst (v := 0) hx hb dX12_in_14 (by decide) ?_
      rw [hQ]
      exact W.zret (v := 0) (ty := .boolean) hx hb hr rfl (fun t ht hW => ⟨⟨0, (), rfl, ⟨(iv_w ik_0 (by decide)), (fun h8 => absurd rfl h8), (fun h8 => absurd rfl h8)⟩, by rw [ht]; exact hP, va_K.moved hW.alike hK, hD⟩, hS.F ht⟩) hS.2.2 dX12_in_15
    ·
      have qh4 := nlt_i h4
      have j6 : Iv 0 2 a0 := r_lel qh4 j3 a2_h (by decide)
      refine lv_iconst (v := 1) hx hb dX12_in_10 (by decide) ?_
      refine lv_goto (tgt := 15) hx hb dX12_in_11 (by decide) ?_
      rw [hQ]
      exact W.zret (v := 1) (ty := .boolean) hx hb hr rfl (fun t ht hW => ⟨⟨1, (), rfl, ⟨(iv_w ik_1 (by decide)), (fun _ => j6), (fun _ => ⟨qh1, qh4⟩)⟩, by rw [ht]; exact hP, va_K.moved hW.alike hK, hD⟩, hS.F ht⟩) hS.2.2 dX12_in_15
theorem iw_X12_ruled_X12 : ∀ w ∈ wsX120, w ∈ wsX12_ruled := fun _ h => List.mem_cons.mpr (Or.inr (List.mem_append.mpr (Or.inr h)))
set_option maxHeartbeats 4000000 in
set_option maxRecDepth 100000 in
theorem kX12_ruled_1 (l : Launch) (dC : Nat → ClassId) (dI : Nat → Nat → Nat) (cI c2 cZ : ClassId) (o1 : Nat) (o3 : Nat) (o6 : Nat) (o9 : Nat) (o11 : Nat) (o14 : Nat) (o17 : Nat) (o22 : Nat) (o24 : Nat) (o26 : Nat) (o28 : Nat) (o30 : Nat) (o33 : Nat) (o35 : Nat) (o37 : Nat) (o40 : Nat) (o42 : Nat) (o44 : Nat) (o47 : Nat) (v2 : Int32) (v5 : Int32) (v8 : Int32) (v13 : Int32) (v16 : Int32) (v19 : Int32) (v20 : Int32) (v21 : Int32) (fw23 : Nat → Int32) (v32 : Int32) (v39 : Int32) (v46 : Int32) (a1 : Int32) (a2 : Int32) (sz : Nat) (v5_h : Iv 0 12 v5) (v8_h : Iv 0 8 v8) (v13_h : Iv 0 12 v13) (v16_h : Iv 0 12 v16) (v19_h : Iv (-9) 12 v19) (fw23_b : Bd 12 0 4095 fw23) (v32_h : Iv 0 99 v32) (v39_h : Iv 0 12 v39) (v46_h : Iv 0 12 v46) (a2_h : Iv 0 11 a2) : Met l yX12_ruled wsX12_ruled ({ frames := 2, cells := 0, slots := 0, locals := 45 }) (va_Pc [.ref o1, .int a1, .int a2] (wPre (dC, dI) [(cI, .int), (c2, .array .int), (cZ, .boolean)] ([(o1, .inr (12, [.int v2, .ref o3, .int v5, .ref o6, .int v8, .ref o9, .ref o11, .int v13, .ref o14, .int v16, .ref o17, .int v19, .int v20, .int v21, .ref o22, .ref o24, .ref o26, .ref o28, .ref o30, .int v32, .ref o33, .ref o35, .ref o37, .int v39, .ref o40, .ref o42, .ref o44, .int v46, .ref o47])), (o22, .inl (cI, 12, .inl fw23))]) sz)) (va_Qi (fun (r : Int32) (_ : Unit) => True) (fun _ t => wPost (dC, dI) [(cI, .int), (c2, .array .int), (cZ, .boolean)] (va_A ([(o1, .inr (12, [.int v2, .ref o3, .int v5, .ref o6, .int v8, .ref o9, .ref o11, .int v13, .ref o14, .int v16, .ref o17, .int v19, .int v20, .int v21, .ref o22, .ref o24, .ref o26, .ref o28, .ref o30, .int v32, .ref o33, .ref o35, .ref o37, .int v39, .ref o40, .ref o42, .ref o44, .int v46, .ref o47])), (o22, .inl (cI, 12, .inl fw23))]) sz) ([(o1, .inr (12, [.int v2, .ref o3, .int v5, .ref o6, .int v8, .ref o9, .ref o11, .int v13, .ref o14, .int v16, .ref o17, .int v19, .int v20, .int v21, .ref o22, .ref o24, .ref o26, .ref o28, .ref o30, .int v32, .ref o33, .ref o35, .ref o37, .int v39, .ref o40, .ref o42, .ref o44, .int v46, .ref o47])), (o22, .inl (cI, 12, .inl fw23))]) t) (va_A ([(o1, .inr (12, [.int v2, .ref o3, .int v5, .ref o6, .int v8, .ref o9, .ref o11, .int v13, .ref o14, .int v16, .ref o17, .int v19, .int v20, .int v21, .ref o22, .ref o24, .ref o26, .ref o28, .ref o30, .int v32, .ref o33, .ref o35, .ref o37, .int v39, .ref o40, .ref o42, .ref o44, .int v46, .ref o47])), (o22, .inl (cI, 12, .inl fw23))]) sz)) 0 0 (va_A ([(o1, .inr (12, [.int v2, .ref o3, .int v5, .ref o6, .int v8, .ref o9, .ref o11, .int v13, .ref o14, .int v16, .ref o17, .int v19, .int v20, .int v21, .ref o22, .ref o24, .ref o26, .ref o28, .ref o30, .int v32, .ref o33, .ref o35, .ref o37, .int v39, .ref o40, .ref o42, .ref o44, .int v46, .ref o47])), (o22, .inl (cI, 12, .inl fw23))]) sz) := by
  refine Met.ofW (cc := cX12_ruled) (maxL := 3) (ret := (some .int)) (by decide) rfl ?_
  intro p e s m args below meth c s₁ B hml hv
  obtain ⟨rfl, hsz, hP, hK, hD0, hN⟩ := hv
  have hx := B.exec
  have hb := B.bytes
  have hr := B.returns
  have hts := atoms_spec (ws := wsX12_ruled) B.pre
  have hown : s.vm.findClass RX12 = some m.cls := findClass_of_methodNamed B.named
  have hlocks := B.notSynchronized
  subst hsz
  have hD := hD0.self (sz := s.heap.size)
  generalize hAe : va_A ([(o1, .inr (12, [.int v2, .ref o3, .int v5, .ref o6, .int v8, .ref o9, .ref o11, .int v13, .ref o14, .int v16, .ref o17, .int v19, .int v20, .int v21, .ref o22, .ref o24, .ref o26, .ref o28, .ref o30, .int v32, .ref o33, .ref o35, .ref o37, .int v39, .ref o40, .ref o42, .ref o44, .int v46, .ref o47])), (o22, .inl (cI, 12, .inl fw23))]) s.heap.size = A at hD ⊢
  have hA : ∀ q : Nat, s.heap.size ≤ q → A q := fun q h => by rw [← hAe]; exact Or.inr h
  have hS : va_S A s.heap s.heap [] := va_S.rf
  have hP : va_P (dC, dI) vwCl ([(o1, .inr (12, [.int v2, .ref o3, .int v5, .ref o6, .int v8, .ref o9, .ref o11, .int v13, .ref o14, .int v16, .ref o17, .int v19, .int v20, .int v21, .ref o22, .ref o24, .ref o26, .ref o28, .ref o30, .int v32, .ref o33, .ref o35, .ref o37, .int v39, .ref o40, .ref o42, .ref o44, .int v46, .ref o47])), (o22, .inl (cI, 12, .inl fw23))]) s.heap := hP
  have hl := lv_entry ([.ref o1, .int a1, .int a2]) (n := 3) (Nat.le_of_ble_eq_true rfl)
  rw [lg_entry_eq]
  generalize (lg_sl ([.ref o1, .int a1, .int a2]) ++ List.replicate (3 - (lg_sl ([.ref o1, .int a1, .int a2])).length) Slot.unset).toArray = ls at hl ⊢
  have hl : lv_has ls 3 [(0, .ref o1), (1, .int a1), (2, .int a2)] := hl
  refine gen_Q (fun Q hQ => ?_)
  refine lv_iload_n hx hb dX12_ruled_0 rfl (lv_at hl 1 rfl) ?_
  refine lv_if_ne (tgt := 20) hx hb dX12_ruled_1 (by decide) (fun h1 => ?_) (fun h1 => ?_)
  ·
    refine lv_iload_n hx hb dX12_ruled_20 rfl (lv_at hl 1 rfl) ?_
    refine lv_iconst (v := 1) hx hb dX12_ruled_21 (by decide) ?_
    refine lv_icmp_ne (tgt := 37) hx hb dX12_ruled_22 (by decide) (fun h2 => ?_) (fun h2 => ?_)
    ·
      refine lv_aload_n hx hb dX12_ruled_37 rfl (lv_at hl 0 rfl) ?_
      refine lv_iload_n hx hb dX12_ruled_38 rfl (lv_at hl 2 rfl) ?_
      refine kc_i (D := (dC, dI)) (S := Unit) (wc := [(o1, .inr (12, [.int v2, .ref o3, .int v5, .ref o6, .int v8, .ref o9, .ref o11, .int v13, .ref o14, .int v16, .ref o17, .int v19, .int v20, .int v21, .ref o22, .ref o24, .ref o26, .ref o28, .ref o30, .int v32, .ref o33, .ref o35, .ref o37, .int v39, .ref o40, .ref o42, .ref o44, .int v46, .ref o47])), (o22, .inl (cI, 12, .inl fw23))]) (wr := []) (w1 := fun _ => [(o1, .inr (12, [.int v2, .ref o3, .int v5, .ref o6, .int v8, .ref o9, .ref o11, .int v13, .ref o14, .int v16, .ref o17, .int v19, .int v20, .int v21, .ref o22, .ref o24, .ref o26, .ref o28, .ref o30, .int v32, .ref o33, .ref o35, .ref o37, .int v39, .ref o40, .ref o42, .ref o44, .int v46, .ref o47])), (o22, .inl (cI, 12, .inl fw23))]) (wn := fun _ => [(o1, .inr (12, [.int v2, .ref o3, .int v5, .ref o6, .int v8, .ref o9, .ref o11, .int v13, .ref o14, .int v16, .ref o17, .int v19, .int v20, .int v21, .ref o22, .ref o24, .ref o26, .ref o28, .ref o30, .int v32, .ref o33, .ref o35, .ref o37, .int v39, .ref o40, .ref o42, .ref o44, .int v46, .ref o47])), (o22, .inl (cI, 12, .inl fw23))]) (fun hPc hDc => va_runV (As := [.int a2]) (rest := []) ⟨hx, hb, hml, hown, hts⟩ (kX12_fillOf_1 l dC dI cI c2 cZ o1 o3 o6 o9 o11 o14 o17 o22 o24 o26 o28 o30 o33 o35 o37 o40 o42 o44 o47 v2 v5 v8 v13 v16 v19 v20 v21 fw23 v32 v39 v46 a2 s.heap.size v5_h v8_h v13_h v16_h v19_h fw23_b v32_h v39_h v46_h a2_h) (cwV 1 hts gX12_ruled_X12_fillOf rfl rfl rfl (by decide +kernel) ⟨Nat.le_of_ble_eq_true rfl, Nat.le_of_ble_eq_true rfl⟩) (pre_V hPc hK hDc hN (ci := 12) (q0 := 0) rfl rfl) rfl rfl hl.1 rfl (lv_room (Nat.le_of_ble_eq_true rfl)) dX12_ruled_39 ⟨Nat.le_of_ble_eq_true rfl, Nat.le_of_ble_eq_true rfl⟩) hP hD hS hA [0, 1] [] [0, 1] rfl rfl (by decide +kernel) (by decide +kernel) (by decide +kernel) (by decide +kernel) (fun _ => rfl) (fun x3 _ H locs hq hP hD hS => ?_)
      have hP : va_P (dC, dI) vwCl ([(o1, .inr (12, [.int v2, .ref o3, .int v5, .ref o6, .int v8, .ref o9, .ref o11, .int v13, .ref o14, .int v16, .ref o17, .int v19, .int v20, .int v21, .ref o22, .ref o24, .ref o26, .ref o28, .ref o30, .int v32, .ref o33, .ref o35, .ref o37, .int v39, .ref o40, .ref o42, .ref o44, .int v46, .ref o47])), (o22, .inl (cI, 12, .inl fw23))]) H := hP
      have hD : va_D A ([(o1, .inr (12, [.int v2, .ref o3, .int v5, .ref o6, .int v8, .ref o9, .ref o11, .int v13, .ref o14, .int v16, .ref o17, .int v19, .int v20, .int v21, .ref o22, .ref o24, .ref o26, .ref o28, .ref o30, .int v32, .ref o33, .ref o35, .ref o37, .int v39, .ref o40, .ref o42, .ref o44, .int v46, .ref o47])), (o22, .inl (cI, 12, .inl fw23))]) := hD
      rw [hQ]
      exact W.iret (v := x3) hx hb hr (fun t ht hW => ⟨⟨x3, (), rfl, trivial, by rw [ht]; exact hP, va_K.moved hW.alike hK, hD⟩, hS.F ht⟩) hS.2.2 dX12_ruled_42
    ·
      have j4 : Iv 1 1 a1 := r_eq h2 ik_1
      refine lv_aload_n hx hb dX12_ruled_25 rfl (lv_at hl 0 rfl) ?_
      refine va_get (D := (dC, dI)) (ci := 12) (v := .ref o22) (C := RX12) (T := TX12) (N := 29) hx hb hts iw_X12_ruled_X12 hown hK hP 0 rfl rfl 14 (by decide) (hts (.fieldLink RX12 32 "HolelessHouseModel" "left" "[I") hm_X12_ruled_1) (fun _ h9 => h9) rfl dX12_ruled_26 ?_
      refine lv_iload_n hx hb dX12_ruled_29 rfl (lv_at hl 2 rfl) ?_
      refine va_iald hx hb hK hP 1 0 rfl rfl (vin_iv a2_h (by decide)) dX12_ruled_30 (lv_topi (fun x5 x5_e => ?_))
      have x5_h : Iv 0 4095 x5 := iv_e x5_e (bd_at fw23_b (vin_iv a2_h (by decide)))
      refine kc_i (D := (dC, dI)) (S := Unit) (wc := []) (wr := [(o1, .inr (12, [.int v2, .ref o3, .int v5, .ref o6, .int v8, .ref o9, .ref o11, .int v13, .ref o14, .int v16, .ref o17, .int v19, .int v20, .int v21, .ref o22, .ref o24, .ref o26, .ref o28, .ref o30, .int v32, .ref o33, .ref o35, .ref o37, .int v39, .ref o40, .ref o42, .ref o44, .int v46, .ref o47])), (o22, .inl (cI, 12, .inl fw23))]) (w1 := fun _ => []) (wn := fun _ => [(o1, .inr (12, [.int v2, .ref o3, .int v5, .ref o6, .int v8, .ref o9, .ref o11, .int v13, .ref o14, .int v16, .ref o17, .int v19, .int v20, .int v21, .ref o22, .ref o24, .ref o26, .ref o28, .ref o30, .int v32, .ref o33, .ref o35, .ref o37, .int v39, .ref o40, .ref o42, .ref o44, .int v46, .ref o47])), (o22, .inl (cI, 12, .inl fw23))]) (fun hPc hDc => va_runS (As := [.int x5]) (rest := []) ⟨hx, hb, hml, hown, hts⟩ (kX12_bits_1 l dC dI cI c2 cZ x5 s.heap.size) (va_cwS 1 hts gX12_ruled_X12_bits rfl rfl rfl (by decide +kernel) ⟨Nat.le_of_ble_eq_true rfl, Nat.le_of_ble_eq_true rfl⟩) (pre_S hPc hK hDc hN) rfl rfl hl.1 rfl (lv_room (Nat.le_of_ble_eq_true rfl)) dX12_ruled_31 ⟨Nat.le_of_ble_eq_true rfl, Nat.le_of_ble_eq_true rfl⟩) hP hD hS hA [] [0, 1] [0, 1] rfl rfl (by decide +kernel) (by decide +kernel) (by decide +kernel) (by decide +kernel) (fun _ => rfl) (fun x6 _ H locs hq hP hD hS => ?_)
      obtain ⟨x6_h, e7⟩ := hq
      have hP : va_P (dC, dI) vwCl ([(o1, .inr (12, [.int v2, .ref o3, .int v5, .ref o6, .int v8, .ref o9, .ref o11, .int v13, .ref o14, .int v16, .ref o17, .int v19, .int v20, .int v21, .ref o22, .ref o24, .ref o26, .ref o28, .ref o30, .int v32, .ref o33, .ref o35, .ref o37, .int v39, .ref o40, .ref o42, .ref o44, .int v46, .ref o47])), (o22, .inl (cI, 12, .inl fw23))]) H := hP
      have hD : va_D A ([(o1, .inr (12, [.int v2, .ref o3, .int v5, .ref o6, .int v8, .ref o9, .ref o11, .int v13, .ref o14, .int v16, .ref o17, .int v19, .int v20, .int v21, .ref o22, .ref o24, .ref o26, .ref o28, .ref o30, .int v32, .ref o33, .ref o35, .ref o37, .int v39, .ref o40, .ref o42, .ref o44, .int v46, .ref o47])), (o22, .inl (cI, 12, .inl fw23))]) := hD
      refine lv_goto (tgt := 42) hx hb dX12_ruled_34 (by decide) ?_
      rw [hQ]
      exact W.iret (v := x6) hx hb hr (fun t ht hW => ⟨⟨x6, (), rfl, trivial, by rw [ht]; exact hP, va_K.moved hW.alike hK, hD⟩, hS.F ht⟩) hS.2.2 dX12_ruled_42
  ·
    have j8 : Iv 0 0 a1 := r_eq h1 ik_0
    refine lv_aload_n hx hb dX12_ruled_4 rfl (lv_at hl 0 rfl) ?_
    refine lv_iload_n hx hb dX12_ruled_5 rfl (lv_at hl 2 rfl) ?_
    refine kc_i (D := (dC, dI)) (S := Unit) (wc := [(o1, .inr (12, [.int v2, .ref o3, .int v5, .ref o6, .int v8, .ref o9, .ref o11, .int v13, .ref o14, .int v16, .ref o17, .int v19, .int v20, .int v21, .ref o22, .ref o24, .ref o26, .ref o28, .ref o30, .int v32, .ref o33, .ref o35, .ref o37, .int v39, .ref o40, .ref o42, .ref o44, .int v46, .ref o47])), (o22, .inl (cI, 12, .inl fw23))]) (wr := []) (w1 := fun _ => [(o1, .inr (12, [.int v2, .ref o3, .int v5, .ref o6, .int v8, .ref o9, .ref o11, .int v13, .ref o14, .int v16, .ref o17, .int v19, .int v20, .int v21, .ref o22, .ref o24, .ref o26, .ref o28, .ref o30, .int v32, .ref o33, .ref o35, .ref o37, .int v39, .ref o40, .ref o42, .ref o44, .int v46, .ref o47])), (o22, .inl (cI, 12, .inl fw23))]) (wn := fun _ => [(o1, .inr (12, [.int v2, .ref o3, .int v5, .ref o6, .int v8, .ref o9, .ref o11, .int v13, .ref o14, .int v16, .ref o17, .int v19, .int v20, .int v21, .ref o22, .ref o24, .ref o26, .ref o28, .ref o30, .int v32, .ref o33, .ref o35, .ref o37, .int v39, .ref o40, .ref o42, .ref o44, .int v46, .ref o47])), (o22, .inl (cI, 12, .inl fw23))]) (fun hPc hDc => va_runV (As := [.int a2]) (rest := []) ⟨hx, hb, hml, hown, hts⟩ (kX12_fillOf_1 l dC dI cI c2 cZ o1 o3 o6 o9 o11 o14 o17 o22 o24 o26 o28 o30 o33 o35 o37 o40 o42 o44 o47 v2 v5 v8 v13 v16 v19 v20 v21 fw23 v32 v39 v46 a2 s.heap.size v5_h v8_h v13_h v16_h v19_h fw23_b v32_h v39_h v46_h a2_h) (cwV 1 hts gX12_ruled_X12_fillOf rfl rfl rfl (by decide +kernel) ⟨Nat.le_of_ble_eq_true rfl, Nat.le_of_ble_eq_true rfl⟩) (pre_V hPc hK hDc hN (ci := 12) (q0 := 0) rfl rfl) rfl rfl hl.1 rfl (lv_room (Nat.le_of_ble_eq_true rfl)) dX12_ruled_6 ⟨Nat.le_of_ble_eq_true rfl, Nat.le_of_ble_eq_true rfl⟩) hP hD hS hA [0, 1] [] [0, 1] rfl rfl (by decide +kernel) (by decide +kernel) (by decide +kernel) (by decide +kernel) (fun _ => rfl) (fun x9 _ H locs hq hP hD hS => ?_)
    have hP : va_P (dC, dI) vwCl ([(o1, .inr (12, [.int v2, .ref o3, .int v5, .ref o6, .int v8, .ref o9, .ref o11, .int v13, .ref o14, .int v16, .ref o17, .int v19, .int v20, .int v21, .ref o22, .ref o24, .ref o26, .ref o28, .ref o30, .int v32, .ref o33, .ref o35, .ref o37, .int v39, .ref o40, .ref o42, .ref o44, .int v46, .ref o47])), (o22, .inl (cI, 12, .inl fw23))]) H := hP
    have hD : va_D A ([(o1, .inr (12, [.int v2, .ref o3, .int v5, .ref o6, .int v8, .ref o9, .ref o11, .int v13, .ref o14, .int v16, .ref o17, .int v19, .int v20, .int v21, .ref o22, .ref o24, .ref o26, .ref o28, .ref o30, .int v32, .ref o33, .ref o35, .ref o37, .int v39, .ref o40, .ref o42, .ref o44, .int v46, .ref o47])), (o22, .inl (cI, 12, .inl fw23))]) := hD
    refine lv_if_ne (tgt := 16) hx hb dX12_ruled_9 (by decide) (fun h10 => ?_) (fun h10 => ?_)
    ·
      refine lv_iconst (v := 1) hx hb dX12_ruled_16 (by decide) ?_
      refine lv_goto (tgt := 42) hx hb dX12_ruled_17 (by decide) ?_
      rw [hQ]
      exact W.iret (v := 1) hx hb hr (fun t ht hW => ⟨⟨1, (), rfl, trivial, by rw [ht]; exact hP, va_K.moved hW.alike hK, hD⟩, hS.F ht⟩) hS.2.2 dX12_ruled_42
    ·
      have j11 : Iv 0 0 x9 := r_eq h10 ik_0
      refine lv_iconst (v := 0) hx hb dX12_ruled_12 (by decide) ?_
      refine lv_goto (tgt := 42) hx hb dX12_ruled_13 (by decide) ?_
      rw [hQ]
      exact W.iret (v := 0) hx hb hr (fun t ht hW => ⟨⟨0, (), rfl, trivial, by rw [ht]; exact hP, va_K.moved hW.alike hK, hD⟩, hS.F ht⟩) hS.2.2 dX12_ruled_42
theorem iw_X12_rule_X12 : ∀ w ∈ wsX120, w ∈ wsX12_rule := fun _ h => List.mem_cons.mpr (Or.inr (List.mem_append.mpr (Or.inr h)))
set_option maxHeartbeats 4000000 in
set_option maxRecDepth 100000 in
theorem kX12_rule_1 (l : Launch) (dC : Nat → ClassId) (dI : Nat → Nat → Nat) (cI c2 cZ : ClassId) (o1 : Nat) (o3 : Nat) (o6 : Nat) (o9 : Nat) (o11 : Nat) (o14 : Nat) (o17 : Nat) (o22 : Nat) (o24 : Nat) (o26 : Nat) (o28 : Nat) (o30 : Nat) (o33 : Nat) (o35 : Nat) (o37 : Nat) (o40 : Nat) (o42 : Nat) (o44 : Nat) (o47 : Nat) (v2 : Int32) (v5 : Int32) (fw7 : Nat → Int32) (v8 : Int32) (v13 : Int32) (v16 : Int32) (fw18 : Nat → Int32) (v19 : Int32) (v20 : Int32) (v21 : Int32) (fw23 : Nat → Int32) (fw25 : Nat → Int32) (v32 : Int32) (v39 : Int32) (v46 : Int32) (a1 : Int32) (sz : Nat) (v5_h : Iv 0 12 v5) (fw7_b : Bd 12 0 4095 fw7) (v8_h : Iv 0 8 v8) (v13_h : Iv 0 12 v13) (v16_h : Iv 0 12 v16) (fw18_b : Bd 12 0 11 fw18) (v19_h : Iv (-9) 12 v19) (fw23_b : Bd 12 0 4095 fw23) (fw25_b : Bd 12 0 4095 fw25) (v32_h : Iv 0 99 v32) (v39_h : Iv 0 12 v39) (v46_h : Iv 0 12 v46) : Met l yX12_rule wsX12_rule ({ frames := 3, cells := 0, slots := 0, locals := 68 }) (va_Pc [.ref o1, .int a1] (wPre (dC, dI) [(cI, .int), (c2, .array .int), (cZ, .boolean)] ([(o1, .inr (12, [.int v2, .ref o3, .int v5, .ref o6, .int v8, .ref o9, .ref o11, .int v13, .ref o14, .int v16, .ref o17, .int v19, .int v20, .int v21, .ref o22, .ref o24, .ref o26, .ref o28, .ref o30, .int v32, .ref o33, .ref o35, .ref o37, .int v39, .ref o40, .ref o42, .ref o44, .int v46, .ref o47])), (o6, .inl (cI, 12, .inl fw7)), (o22, .inl (cI, 12, .inl fw23)), (o24, .inl (cI, 12, .inl fw25)), (o17, .inl (cI, 12, .inl fw18))]) sz)) (va_Qi (fun (r : Int32) (u : Int32 × Int32 × Int32 × (Nat → Int32) × (Nat → Int32) × (Nat → Int32)) => Iv (-9) 12 u.1 ∧ Bd 12 0 4095 u.2.2.2.1 ∧ Bd 12 0 4095 u.2.2.2.2.1 ∧ Bd 12 0 11 u.2.2.2.2.2) (fun u t => wPost (dC, dI) [(cI, .int), (c2, .array .int), (cZ, .boolean)] (va_A ([(o1, .inr (12, [.int v2, .ref o3, .int v5, .ref o6, .int v8, .ref o9, .ref o11, .int v13, .ref o14, .int v16, .ref o17, .int v19, .int v20, .int v21, .ref o22, .ref o24, .ref o26, .ref o28, .ref o30, .int v32, .ref o33, .ref o35, .ref o37, .int v39, .ref o40, .ref o42, .ref o44, .int v46, .ref o47])), (o6, .inl (cI, 12, .inl fw7)), (o22, .inl (cI, 12, .inl fw23)), (o24, .inl (cI, 12, .inl fw25)), (o17, .inl (cI, 12, .inl fw18))]) sz) ([(o1, .inr (12, [.int v2, .ref o3, .int v5, .ref o6, .int v8, .ref o9, .ref o11, .int v13, .ref o14, .int v16, .ref o17, .int u.1, .int u.2.1, .int u.2.2.1, .ref o22, .ref o24, .ref o26, .ref o28, .ref o30, .int v32, .ref o33, .ref o35, .ref o37, .int v39, .ref o40, .ref o42, .ref o44, .int v46, .ref o47])), (o6, .inl (cI, 12, .inl fw7)), (o22, .inl (cI, 12, .inl u.2.2.2.1)), (o24, .inl (cI, 12, .inl u.2.2.2.2.1)), (o17, .inl (cI, 12, .inl u.2.2.2.2.2))]) t) (va_A ([(o1, .inr (12, [.int v2, .ref o3, .int v5, .ref o6, .int v8, .ref o9, .ref o11, .int v13, .ref o14, .int v16, .ref o17, .int v19, .int v20, .int v21, .ref o22, .ref o24, .ref o26, .ref o28, .ref o30, .int v32, .ref o33, .ref o35, .ref o37, .int v39, .ref o40, .ref o42, .ref o44, .int v46, .ref o47])), (o6, .inl (cI, 12, .inl fw7)), (o22, .inl (cI, 12, .inl fw23)), (o24, .inl (cI, 12, .inl fw25)), (o17, .inl (cI, 12, .inl fw18))]) sz)) 0 0 (va_A ([(o1, .inr (12, [.int v2, .ref o3, .int v5, .ref o6, .int v8, .ref o9, .ref o11, .int v13, .ref o14, .int v16, .ref o17, .int v19, .int v20, .int v21, .ref o22, .ref o24, .ref o26, .ref o28, .ref o30, .int v32, .ref o33, .ref o35, .ref o37, .int v39, .ref o40, .ref o42, .ref o44, .int v46, .ref o47])), (o6, .inl (cI, 12, .inl fw7)), (o22, .inl (cI, 12, .inl fw23)), (o24, .inl (cI, 12, .inl fw25)), (o17, .inl (cI, 12, .inl fw18))]) sz) := by
  refine Met.ofW (cc := cX12_rule) (maxL := 5) (ret := (some .int)) (by decide) rfl ?_
  intro p e s m args below meth c s₁ B hml hv
  obtain ⟨rfl, hsz, hP, hK, hD0, hN⟩ := hv
  have hx := B.exec
  have hb := B.bytes
  have hr := B.returns
  have hts := atoms_spec (ws := wsX12_rule) B.pre
  have hown : s.vm.findClass RX12 = some m.cls := findClass_of_methodNamed B.named
  have hlocks := B.notSynchronized
  subst hsz
  have hD := hD0.self (sz := s.heap.size)
  generalize hAe : va_A ([(o1, .inr (12, [.int v2, .ref o3, .int v5, .ref o6, .int v8, .ref o9, .ref o11, .int v13, .ref o14, .int v16, .ref o17, .int v19, .int v20, .int v21, .ref o22, .ref o24, .ref o26, .ref o28, .ref o30, .int v32, .ref o33, .ref o35, .ref o37, .int v39, .ref o40, .ref o42, .ref o44, .int v46, .ref o47])), (o6, .inl (cI, 12, .inl fw7)), (o22, .inl (cI, 12, .inl fw23)), (o24, .inl (cI, 12, .inl fw25)), (o17, .inl (cI, 12, .inl fw18))]) s.heap.size = A at hD ⊢
  have hA : ∀ q : Nat, s.heap.size ≤ q → A q := fun q h => by rw [← hAe]; exact Or.inr h
  have hS : va_S A s.heap s.heap [] := va_S.rf
  have hP : va_P (dC, dI) vwCl ([(o1, .inr (12, [.int v2, .ref o3, .int v5, .ref o6, .int v8, .ref o9, .ref o11, .int v13, .ref o14, .int v16, .ref o17, .int v19, .int v20, .int v21, .ref o22, .ref o24, .ref o26, .ref o28, .ref o30, .int v32, .ref o33, .ref o35, .ref o37, .int v39, .ref o40, .ref o42, .ref o44, .int v46, .ref o47])), (o6, .inl (cI, 12, .inl fw7)), (o22, .inl (cI, 12, .inl fw23)), (o24, .inl (cI, 12, .inl fw25)), (o17, .inl (cI, 12, .inl fw18))]) s.heap := hP
  have hl := lv_entry ([.ref o1, .int a1]) (n := 5) (Nat.le_of_ble_eq_true rfl)
  rw [lg_entry_eq]
  generalize (lg_sl ([.ref o1, .int a1]) ++ List.replicate (5 - (lg_sl ([.ref o1, .int a1])).length) Slot.unset).toArray = ls at hl ⊢
  have hl : lv_has ls 5 [(0, .ref o1), (1, .int a1)] := hl
  refine gen_Q (fun Q hQ => ?_)
  refine lv_iload_n hx hb dX12_rule_0 rfl (lv_at hl 1 rfl) ?_
  refine lv_iconst (v := 0) hx hb dX12_rule_1 (by decide) ?_
  refine lv_iconst (v := 2) hx hb dX12_rule_2 (by decide) ?_
  refine kc_i (D := (dC, dI)) (S := Unit) (wc := []) (wr := [(o1, .inr (12, [.int v2, .ref o3, .int v5, .ref o6, .int v8, .ref o9, .ref o11, .int v13, .ref o14, .int v16, .ref o17, .int v19, .int v20, .int v21, .ref o22, .ref o24, .ref o26, .ref o28, .ref o30, .int v32, .ref o33, .ref o35, .ref o37, .int v39, .ref o40, .ref o42, .ref o44, .int v46, .ref o47])), (o6, .inl (cI, 12, .inl fw7)), (o22, .inl (cI, 12, .inl fw23)), (o24, .inl (cI, 12, .inl fw25)), (o17, .inl (cI, 12, .inl fw18))]) (w1 := fun _ => []) (wn := fun _ => [(o1, .inr (12, [.int v2, .ref o3, .int v5, .ref o6, .int v8, .ref o9, .ref o11, .int v13, .ref o14, .int v16, .ref o17, .int v19, .int v20, .int v21, .ref o22, .ref o24, .ref o26, .ref o28, .ref o30, .int v32, .ref o33, .ref o35, .ref o37, .int v39, .ref o40, .ref o42, .ref o44, .int v46, .ref o47])), (o6, .inl (cI, 12, .inl fw7)), (o22, .inl (cI, 12, .inl fw23)), (o24, .inl (cI, 12, .inl fw25)), (o17, .inl (cI, 12, .inl fw18))]) (fun hPc hDc => va_runS (As := [.int a1, .int 0, .int 2]) (rest := []) ⟨hx, hb, hml, hown, hts⟩ (kX12_in_4 l dC dI cI c2 cZ a1 0 2 s.heap.size ik_0 ik_2) (va_cwS 3 hts gX12_rule_X12_in rfl rfl rfl (by decide +kernel) ⟨Nat.le_of_ble_eq_true rfl, Nat.le_of_ble_eq_true rfl⟩) (pre_S hPc hK hDc hN) rfl rfl hl.1 rfl (lv_room (Nat.le_of_ble_eq_true rfl)) dX12_rule_3 ⟨Nat.le_of_ble_eq_true rfl, Nat.le_of_ble_eq_true rfl⟩) hP hD hS hA [] [0, 1, 2, 3, 4] [0, 1, 2, 3, 4] rfl rfl (by decide +kernel) (by decide +kernel) (by decide +kernel) (by decide +kernel) (fun _ => rfl) (fun x1 _ H locs hq hP hD hS => ?_)
  obtain ⟨x1_h, i2, e3⟩ := hq
  have hP : va_P (dC, dI) vwCl ([(o1, .inr (12, [.int v2, .ref o3, .int v5, .ref o6, .int v8, .ref o9, .ref o11, .int v13, .ref o14, .int v16, .ref o17, .int v19, .int v20, .int v21, .ref o22, .ref o24, .ref o26, .ref o28, .ref o30, .int v32, .ref o33, .ref o35, .ref o37, .int v39, .ref o40, .ref o42, .ref o44, .int v46, .ref o47])), (o6, .inl (cI, 12, .inl fw7)), (o22, .inl (cI, 12, .inl fw23)), (o24, .inl (cI, 12, .inl fw25)), (o17, .inl (cI, 12, .inl fw18))]) H := hP
  have hD : va_D A ([(o1, .inr (12, [.int v2, .ref o3, .int v5, .ref o6, .int v8, .ref o9, .ref o11, .int v13, .ref o14, .int v16, .ref o17, .int v19, .int v20, .int v21, .ref o22, .ref o24, .ref o26, .ref o28, .ref o30, .int v32, .ref o33, .ref o35, .ref o37, .int v39, .ref o40, .ref o42, .ref o44, .int v46, .ref o47])), (o6, .inl (cI, 12, .inl fw7)), (o22, .inl (cI, 12, .inl fw23)), (o24, .inl (cI, 12, .inl fw25)), (o17, .inl (cI, 12, .inl fw18))]) := hD
  refine lv_if_ne (tgt := 11) hx hb dX12_rule_6 (by decide) (fun h4 => ?_) (fun h4 => ?_)
  ·
    have j5 : Iv 1 1 x1 := r_nelo h4 x1_h ik_0 (by decide)
    have j6 : Iv 0 2 a1 := i2 h4
    refine lv_aload_n hx hb dX12_rule_11 rfl (lv_at hl 0 rfl) ?_
    refine kc_v (D := (dC, dI)) (S := Int32 × Int32 × Int32 × (Nat → Int32) × (Nat → Int32)) (wc := [(o1, .inr (12, [.int v2, .ref o3, .int v5, .ref o6, .int v8, .ref o9, .ref o11, .int v13, .ref o14, .int v16, .ref o17, .int v19, .int v20, .int v21, .ref o22, .ref o24, .ref o26, .ref o28, .ref o30, .int v32, .ref o33, .ref o35, .ref o37, .int v39, .ref o40, .ref o42, .ref o44, .int v46, .ref o47])), (o6, .inl (cI, 12, .inl fw7)), (o22, .inl (cI, 12, .inl fw23)), (o24, .inl (cI, 12, .inl fw25))]) (wr := [(o17, .inl (cI, 12, .inl fw18))]) (w1 := fun u => [(o1, .inr (12, [.int v2, .ref o3, .int v5, .ref o6, .int v8, .ref o9, .ref o11, .int v13, .ref o14, .int v16, .ref o17, .int u.1, .int u.2.1, .int u.2.2.1, .ref o22, .ref o24, .ref o26, .ref o28, .ref o30, .int v32, .ref o33, .ref o35, .ref o37, .int v39, .ref o40, .ref o42, .ref o44, .int v46, .ref o47])), (o6, .inl (cI, 12, .inl fw7)), (o22, .inl (cI, 12, .inl u.2.2.2.1)), (o24, .inl (cI, 12, .inl u.2.2.2.2))]) (wn := fun u => [(o1, .inr (12, [.int v2, .ref o3, .int v5, .ref o6, .int v8, .ref o9, .ref o11, .int v13, .ref o14, .int v16, .ref o17, .int u.1, .int u.2.1, .int u.2.2.1, .ref o22, .ref o24, .ref o26, .ref o28, .ref o30, .int v32, .ref o33, .ref o35, .ref o37, .int v39, .ref o40, .ref o42, .ref o44, .int v46, .ref o47])), (o6, .inl (cI, 12, .inl fw7)), (o22, .inl (cI, 12, .inl u.2.2.2.1)), (o24, .inl (cI, 12, .inl u.2.2.2.2)), (o17, .inl (cI, 12, .inl fw18))]) (fun hPc hDc => va_runV (As := []) (rest := []) ⟨hx, hb, hml, hown, hts⟩ (kX12_beginOrder_1 l dC dI cI c2 cZ o1 o3 o6 o9 o11 o14 o17 o22 o24 o26 o28 o30 o33 o35 o37 o40 o42 o44 o47 v2 v5 fw7 v8 v13 v16 v19 v20 v21 fw23 fw25 v32 v39 v46 H.size v5_h fw7_b v8_h v13_h v16_h v19_h fw23_b fw25_b v32_h v39_h v46_h) (cwV 0 hts gX12_rule_X12_beginOrder rfl rfl rfl (by decide +kernel) ⟨Nat.le_of_ble_eq_true rfl, Nat.le_of_ble_eq_true rfl⟩) (pre_V hPc hK hDc hN (ci := 12) (q0 := 0) rfl rfl) rfl rfl hl.1 rfl (lv_room (Nat.le_of_ble_eq_true rfl)) dX12_rule_12 ⟨Nat.le_of_ble_eq_true rfl, Nat.le_of_ble_eq_true rfl⟩) hP hD hS hA [0, 1, 2, 3] [4] [1, 2, 3, 4, 0] rfl rfl (by decide +kernel) (by decide +kernel) (by decide +kernel) (by decide +kernel) (fun _ => rfl) (fun u H locs hq hP hD hS => ?_)
    obtain ⟨y7, y8, y9, f10, f11⟩ := u
    obtain ⟨y7_h, f10_b, f11_b⟩ := hq
    have y7_h : Iv 0 0 y7 := y7_h
    have f10_b : Bd 12 0 4095 f10 := f10_b
    have f11_b : Bd 12 0 4095 f11 := f11_b
    have hP : va_P (dC, dI) vwCl ([(o1, .inr (12, [.int v2, .ref o3, .int v5, .ref o6, .int v8, .ref o9, .ref o11, .int v13, .ref o14, .int v16, .ref o17, .int y7, .int y8, .int y9, .ref o22, .ref o24, .ref o26, .ref o28, .ref o30, .int v32, .ref o33, .ref o35, .ref o37, .int v39, .ref o40, .ref o42, .ref o44, .int v46, .ref o47])), (o6, .inl (cI, 12, .inl fw7)), (o22, .inl (cI, 12, .inl f10)), (o24, .inl (cI, 12, .inl f11)), (o17, .inl (cI, 12, .inl fw18))]) H := hP
    have hD : va_D A ([(o1, .inr (12, [.int v2, .ref o3, .int v5, .ref o6, .int v8, .ref o9, .ref o11, .int v13, .ref o14, .int v16, .ref o17, .int y7, .int y8, .int y9, .ref o22, .ref o24, .ref o26, .ref o28, .ref o30, .int v32, .ref o33, .ref o35, .ref o37, .int v39, .ref o40, .ref o42, .ref o44, .int v46, .ref o47])), (o6, .inl (cI, 12, .inl fw7)), (o22, .inl (cI, 12, .inl f10)), (o24, .inl (cI, 12, .inl f11)), (o17, .inl (cI, 12, .inl fw18))]) := hD
    refine lv_aload_n hx hb dX12_rule_15 rfl (lv_at hl 0 rfl) ?_
    refine kc_i (D := (dC, dI)) (S := Unit) (wc := [(o1, .inr (12, [.int v2, .ref o3, .int v5, .ref o6, .int v8, .ref o9, .ref o11, .int v13, .ref o14, .int v16, .ref o17, .int y7, .int y8, .int y9, .ref o22, .ref o24, .ref o26, .ref o28, .ref o30, .int v32, .ref o33, .ref o35, .ref o37, .int v39, .ref o40, .ref o42, .ref o44, .int v46, .ref o47]))]) (wr := [(o6, .inl (cI, 12, .inl fw7)), (o22, .inl (cI, 12, .inl f10)), (o24, .inl (cI, 12, .inl f11)), (o17, .inl (cI, 12, .inl fw18))]) (w1 := fun _ => [(o1, .inr (12, [.int v2, .ref o3, .int v5, .ref o6, .int v8, .ref o9, .ref o11, .int v13, .ref o14, .int v16, .ref o17, .int y7, .int y8, .int y9, .ref o22, .ref o24, .ref o26, .ref o28, .ref o30, .int v32, .ref o33, .ref o35, .ref o37, .int v39, .ref o40, .ref o42, .ref o44, .int v46, .ref o47]))]) (wn := fun _ => [(o1, .inr (12, [.int v2, .ref o3, .int v5, .ref o6, .int v8, .ref o9, .ref o11, .int v13, .ref o14, .int v16, .ref o17, .int y7, .int y8, .int y9, .ref o22, .ref o24, .ref o26, .ref o28, .ref o30, .int v32, .ref o33, .ref o35, .ref o37, .int v39, .ref o40, .ref o42, .ref o44, .int v46, .ref o47])), (o6, .inl (cI, 12, .inl fw7)), (o22, .inl (cI, 12, .inl f10)), (o24, .inl (cI, 12, .inl f11)), (o17, .inl (cI, 12, .inl fw18))]) (fun hPc hDc => va_runV (As := []) (rest := []) ⟨hx, hb, hml, hown, hts⟩ (kX12_all_1 l dC dI cI c2 cZ o1 o3 o6 o9 o11 o14 o17 o22 o24 o26 o28 o30 o33 o35 o37 o40 o42 o44 o47 v2 v5 v8 v13 v16 y7 y8 y9 v32 v39 v46 H.size v5_h v8_h v13_h v16_h (iv_w y7_h (by decide)) v32_h v39_h v46_h) (cwV 0 hts gX12_rule_X12_all rfl rfl rfl (by decide +kernel) ⟨Nat.le_of_ble_eq_true rfl, Nat.le_of_ble_eq_true rfl⟩) (pre_V hPc hK hDc hN (ci := 12) (q0 := 0) rfl rfl) rfl rfl hl.1 rfl (lv_room (Nat.le_of_ble_eq_true rfl)) dX12_rule_16 ⟨Nat.le_of_ble_eq_true rfl, Nat.le_of_ble_eq_true rfl⟩) hP hD hS hA [0] [1, 2, 3, 4] [4, 0, 1, 2, 3] rfl rfl (by decide +kernel) (by decide +kernel) (by decide +kernel) (by decide +kernel) (fun _ => rfl) (fun x12 _ H locs hq hP hD hS => ?_)
    obtain ⟨x12_h, e13⟩ := hq
    have hP : va_P (dC, dI) vwCl ([(o1, .inr (12, [.int v2, .ref o3, .int v5, .ref o6, .int v8, .ref o9, .ref o11, .int v13, .ref o14, .int v16, .ref o17, .int y7, .int y8, .int y9, .ref o22, .ref o24, .ref o26, .ref o28, .ref o30, .int v32, .ref o33, .ref o35, .ref o37, .int v39, .ref o40, .ref o42, .ref o44, .int v46, .ref o47])), (o6, .inl (cI, 12, .inl fw7)), (o22, .inl (cI, 12, .inl f10)), (o24, .inl (cI, 12, .inl f11)), (o17, .inl (cI, 12, .inl fw18))]) H := hP
    have hD : va_D A ([(o1, .inr (12, [.int v2, .ref o3, .int v5, .ref o6, .int v8, .ref o9, .ref o11, .int v13, .ref o14, .int v16, .ref o17, .int y7, .int y8, .int y9, .ref o22, .ref o24, .ref o26, .ref o28, .ref o30, .int v32, .ref o33, .ref o35, .ref o37, .int v39, .ref o40, .ref o42, .ref o44, .int v46, .ref o47])), (o6, .inl (cI, 12, .inl fw7)), (o22, .inl (cI, 12, .inl f10)), (o24, .inl (cI, 12, .inl f11)), (o17, .inl (cI, 12, .inl fw18))]) := hD
    refine lv_istore_n (lv' := [(2, .int x12), (0, .ref o1), (1, .int a1)]) hx hb dX12_rule_19 rfl hl (by decide) rfl (fun ls hl => ?_)
    have L3 : ∀ (N : Nat) (x456 : Int32) (x457 : Int32) (f458 : Nat → Int32) (f459 : Nat → Int32) (f460 : Nat → Int32) (x461 : Int32) (x462 : Int32) (H : Heap) (locs : List Loc) (ls : Array Slot), (Int32.toInt x457).toNat < N → Iv 0 12 x456 → Iv 0 4095 x457 → Bd 12 0 11 f458 → Bd 12 0 4095 f459 → Bd 12 0 4095 f460 → (bel (Int32.toNatClampNeg v5) x457) → (Int32.toInt x456 + (ct x457 12 : Int) ≤ 12) → va_P (dC, dI) vwCl ([(o1, .inr (12, [.int v2, .ref o3, .int v5, .ref o6, .int v8, .ref o9, .ref o11, .int v13, .ref o14, .int v16, .ref o17, .int x456, .int x461, .int x462, .ref o22, .ref o24, .ref o26, .ref o28, .ref o30, .int v32, .ref o33, .ref o35, .ref o37, .int v39, .ref o40, .ref o42, .ref o44, .int v46, .ref o47])), (o6, .inl (cI, 12, .inl fw7)), (o22, .inl (cI, 12, .inl f459)), (o24, .inl (cI, 12, .inl f460)), (o17, .inl (cI, 12, .inl f458))]) H → va_D A ([(o1, .inr (12, [.int v2, .ref o3, .int v5, .ref o6, .int v8, .ref o9, .ref o11, .int v13, .ref o14, .int v16, .ref o17, .int x456, .int x461, .int x462, .ref o22, .ref o24, .ref o26, .ref o28, .ref o30, .int v32, .ref o33, .ref o35, .ref o37, .int v39, .ref o40, .ref o42, .ref o44, .int v46, .ref o47])), (o6, .inl (cI, 12, .inl fw7)), (o22, .inl (cI, 12, .inl f459)), (o24, .inl (cI, 12, .inl f460)), (o17, .inl (cI, 12, .inl f458))]) → va_S A s.heap H locs → lv_has ls 5 [(2, .int x457), (0, .ref o1), (1, .int a1)] → W p l e ({ frames := 3, cells := 0, slots := 0, locals := 68 }) s m ([.ref o1, .int a1] : List Value).toArray below meth c H locs 0 0 Q (F0 m 20 ls []) := by
      intro N
      induction N with
      | zero =>
        intro x456 x457 f458 f459 f460 x461 x462 H locs ls hM
        exact absurd hM (Nat.not_lt_zero _)
      | succ N ih3 =>
        intro x456 x457 f458 f459 f460 x461 x462 H locs ls hM3 x456_h x457_h f458_b f459_b f460_b iv3_0 iv3_1 hP hD hS hl
        refine lv_iload_n hx hb dX12_rule_20 rfl (lv_at hl 0 rfl) ?_
        refine lv_if_eq (tgt := 93) hx hb dX12_rule_21 (by decide) (fun h463 => ?_) (fun h463 => ?_)
        ·
          have j464 : Iv 0 0 x457 := r_eq h463 ik_0
          refine lv_aload_n hx hb dX12_rule_93 rfl (lv_at hl 1 rfl) ?_
          refine va_get (D := (dC, dI)) (ci := 12) (v := .int x461) (C := RX12) (T := TX12) (N := 29) hx hb hts iw_X12_rule_X12 hown hK hP 0 rfl rfl 12 (by decide) (hts (.fieldLink RX12 134 "HolelessHouseModel" "orderFill" "I") hm_X12_rule_2) (fun _ h9 => h9) rfl dX12_rule_94 ?_
          rw [hQ]
          exact W.iret (v := x461) hx hb hr (fun t ht hW => ⟨⟨x461, (x456, x461, x462, f459, f460, f458), rfl, ⟨(iv_w x456_h (by decide)), f459_b, f460_b, f458_b⟩, by rw [ht]; exact hP, va_K.moved hW.alike hK, hD⟩, hS.F ht⟩) hS.2.2 dX12_rule_97
        ·
          have j465 : Iv 1 4095 x457 := r_nelo h463 x457_h ik_0 (by decide)
          refine lv_bipush (v := (-9)) hx hb dX12_rule_24 (by decide) ?_
          refine lv_istore_n (lv' := [(3, .int (-9)), (2, .int x457), (0, .ref o1), (1, .int a1)]) hx hb dX12_rule_26 rfl hl (by decide) rfl (fun ls hl => ?_)
          refine lv_iconst (v := 0) hx hb dX12_rule_27 (by decide) ?_
          refine lv_istore (lv' := [(4, .int 0), (3, .int (-9)), (2, .int x457), (0, .ref o1), (1, .int a1)]) hx hb dX12_rule_28 hl (by decide) rfl (fun ls hl => ?_)
          have L4 : ∀ (N : Nat) (x644 : Int32) (x645 : Int32) (H : Heap) (locs : List Loc) (ls : Array Slot), (12 - x644.toInt).toNat < N → Iv 0 12 x644 → Iv (-9) 11 x645 → ((Int32.toInt x645 < 0 → ∀ i, i < (Int32.toNatClampNeg x644) → bt x457 i = false) ∧ (0 ≤ Int32.toInt x645 → bt x457 (Int32.toNatClampNeg x645) = true)) → va_P (dC, dI) vwCl ([(o1, .inr (12, [.int v2, .ref o3, .int v5, .ref o6, .int v8, .ref o9, .ref o11, .int v13, .ref o14, .int v16, .ref o17, .int x456, .int x461, .int x462, .ref o22, .ref o24, .ref o26, .ref o28, .ref o30, .int v32, .ref o33, .ref o35, .ref o37, .int v39, .ref o40, .ref o42, .ref o44, .int v46, .ref o47])), (o6, .inl (cI, 12, .inl fw7)), (o22, .inl (cI, 12, .inl f459)), (o24, .inl (cI, 12, .inl f460)), (o17, .inl (cI, 12, .inl f458))]) H → va_D A ([(o1, .inr (12, [.int v2, .ref o3, .int v5, .ref o6, .int v8, .ref o9, .ref o11, .int v13, .ref o14, .int v16, .ref o17, .int x456, .int x461, .int x462, .ref o22, .ref o24, .ref o26, .ref o28, .ref o30, .int v32, .ref o33, .ref o35, .ref o37, .int v39, .ref o40, .ref o42, .ref o44, .int v46, .ref o47])), (o6, .inl (cI, 12, .inl fw7)), (o22, .inl (cI, 12, .inl f459)), (o24, .inl (cI, 12, .inl f460)), (o17, .inl (cI, 12, .inl f458))]) → va_S A s.heap H locs → lv_has ls 5 [(4, .int x644), (3, .int x645), (2, .int x457), (0, .ref o1), (1, .int a1)] → W p l e ({ frames := 3, cells := 0, slots := 0, locals := 68 }) s m ([.ref o1, .int a1] : List Value).toArray below meth c H locs 0 0 Q (F0 m 30 ls []) := by
            intro N
            induction N with
            | zero =>
              intro x644 x645 H locs ls hM
              exact absurd hM (Nat.not_lt_zero _)
            | succ N ih4 =>
              intro x644 x645 H locs ls hM4 x644_h x645_h iv4_0 hP hD hS hl
              refine lv_iload hx hb dX12_rule_30 (lv_at hl 0 rfl) ?_
              refine lv_aload_n hx hb dX12_rule_32 rfl (lv_at hl 3 rfl) ?_
              refine va_get (D := (dC, dI)) (ci := 12) (v := .int v5) (C := RX12) (T := TX12) (N := 29) hx hb hts iw_X12_rule_X12 hown hK hP 0 rfl rfl 2 (by decide) (hts (.fieldLink RX12 73 "HolelessHouseModel" "n" "I") hm_X12_rule_1) (fun _ h9 => h9) rfl dX12_rule_33 ?_
              refine lv_icmp_ge (tgt := 77) hx hb dX12_rule_36 (by decide) (fun h646 => ?_) (fun h646 => ?_)
              ·
                have qh646 := le_i h646
                have j647 : Iv 0 11 x645 := ru_ok iv4_0.1 iv3_0 h463 (iv_w (c := 0) (d := 4095) j465 (by decide)) qh646 v5_h x645_h
                have b648 := iv4_0.2 (show _ ≤ _ ∧ _ ≤ _ from j647).1
                have j649 : Iv 0 11 x456 := (by have a0 := iv3_1; have a1 := ct_one1 j647 b648; have a2 := (show _ ≤ _ ∧ _ ≤ _ from x456_h); exact ⟨by omega, by omega⟩)
                refine lv_aload_n hx hb dX12_rule_77 rfl (lv_at hl 3 rfl) ?_
                refine lv_iload_n hx hb dX12_rule_78 rfl (lv_at hl 1 rfl) ?_
                refine kc_v (D := (dC, dI)) (S := Int32 × Int32 × Int32 × (Nat → Int32) × (Nat → Int32) × (Nat → Int32)) (wc := [(o1, .inr (12, [.int v2, .ref o3, .int v5, .ref o6, .int v8, .ref o9, .ref o11, .int v13, .ref o14, .int v16, .ref o17, .int x456, .int x461, .int x462, .ref o22, .ref o24, .ref o26, .ref o28, .ref o30, .int v32, .ref o33, .ref o35, .ref o37, .int v39, .ref o40, .ref o42, .ref o44, .int v46, .ref o47])), (o22, .inl (cI, 12, .inl f459)), (o24, .inl (cI, 12, .inl f460)), (o17, .inl (cI, 12, .inl f458))]) (wr := [(o6, .inl (cI, 12, .inl fw7))]) (w1 := fun u => [(o1, .inr (12, [.int v2, .ref o3, .int v5, .ref o6, .int v8, .ref o9, .ref o11, .int v13, .ref o14, .int v16, .ref o17, .int u.1, .int u.2.1, .int u.2.2.1, .ref o22, .ref o24, .ref o26, .ref o28, .ref o30, .int v32, .ref o33, .ref o35, .ref o37, .int v39, .ref o40, .ref o42, .ref o44, .int v46, .ref o47])), (o22, .inl (cI, 12, .inl u.2.2.2.1)), (o24, .inl (cI, 12, .inl u.2.2.2.2.1)), (o17, .inl (cI, 12, .inl u.2.2.2.2.2))]) (wn := fun u => [(o1, .inr (12, [.int v2, .ref o3, .int v5, .ref o6, .int v8, .ref o9, .ref o11, .int v13, .ref o14, .int v16, .ref o17, .int u.1, .int u.2.1, .int u.2.2.1, .ref o22, .ref o24, .ref o26, .ref o28, .ref o30, .int v32, .ref o33, .ref o35, .ref o37, .int v39, .ref o40, .ref o42, .ref o44, .int v46, .ref o47])), (o6, .inl (cI, 12, .inl fw7)), (o22, .inl (cI, 12, .inl u.2.2.2.1)), (o24, .inl (cI, 12, .inl u.2.2.2.2.1)), (o17, .inl (cI, 12, .inl u.2.2.2.2.2))]) (fun hPc hDc => va_runV (As := [.int x645]) (rest := []) ⟨hx, hb, hml, hown, hts⟩ (kX12_go_1 l dC dI cI c2 cZ o1 o3 o6 o9 o11 o14 o17 o22 o24 o26 o28 o30 o33 o35 o37 o40 o42 o44 o47 v2 v5 v8 v13 v16 f458 x456 x461 x462 f459 f460 v32 v39 v46 x645 H.size v5_h v8_h v13_h v16_h f458_b j649 f459_b f460_b v32_h v39_h v46_h j647) (cwV 1 hts gX12_rule_X12_go rfl rfl rfl (by decide +kernel) ⟨Nat.le_of_ble_eq_true rfl, Nat.le_of_ble_eq_true rfl⟩) (pre_V hPc hK hDc hN (ci := 12) (q0 := 0) rfl rfl) rfl rfl hl.1 rfl (lv_room (Nat.le_of_ble_eq_true rfl)) dX12_rule_79 ⟨Nat.le_of_ble_eq_true rfl, Nat.le_of_ble_eq_true rfl⟩) hP hD hS hA [0, 2, 3, 4] [1] [1, 0, 2, 3, 4] rfl rfl (by decide +kernel) (by decide +kernel) (by decide +kernel) (by decide +kernel) (fun _ => rfl) (fun u H locs hq hP hD hS => ?_)
                obtain ⟨y650, y651, y652, f653, f654, f655⟩ := u
                obtain ⟨y650_h, f653_b, f654_b, f655_b, e656⟩ := hq
                have y650_h : Iv 1 12 y650 := y650_h
                have f653_b : Bd 12 0 4095 f653 := f653_b
                have f654_b : Bd 12 0 4095 f654 := f654_b
                have f655_b : Bd 12 0 11 f655 := f655_b
                have e656 : Int32.toInt y650 = Int32.toInt x456 + 1 := e656
                have hP : va_P (dC, dI) vwCl ([(o1, .inr (12, [.int v2, .ref o3, .int v5, .ref o6, .int v8, .ref o9, .ref o11, .int v13, .ref o14, .int v16, .ref o17, .int y650, .int y651, .int y652, .ref o22, .ref o24, .ref o26, .ref o28, .ref o30, .int v32, .ref o33, .ref o35, .ref o37, .int v39, .ref o40, .ref o42, .ref o44, .int v46, .ref o47])), (o6, .inl (cI, 12, .inl fw7)), (o22, .inl (cI, 12, .inl f653)), (o24, .inl (cI, 12, .inl f654)), (o17, .inl (cI, 12, .inl f655))]) H := hP
                have hD : va_D A ([(o1, .inr (12, [.int v2, .ref o3, .int v5, .ref o6, .int v8, .ref o9, .ref o11, .int v13, .ref o14, .int v16, .ref o17, .int y650, .int y651, .int y652, .ref o22, .ref o24, .ref o26, .ref o28, .ref o30, .int v32, .ref o33, .ref o35, .ref o37, .int v39, .ref o40, .ref o42, .ref o44, .int v46, .ref o47])), (o6, .inl (cI, 12, .inl fw7)), (o22, .inl (cI, 12, .inl f653)), (o24, .inl (cI, 12, .inl f654)), (o17, .inl (cI, 12, .inl f655))]) := hD
                refine lv_iload_n hx hb dX12_rule_82 rfl (lv_at hl 2 rfl) ?_
                refine lv_iconst (v := 1) hx hb dX12_rule_83 (by decide) ?_
                refine lv_iload_n hx hb dX12_rule_84 rfl (lv_at hl 1 rfl) ?_
                refine lv_ishl hx hb dX12_rule_85 (lv_topi (fun x657 x657_e => ?_))
                have x657_h : Iv 1 2048 x657 := iv_e x657_e (iv_shl1 j647 (by decide))
                refine lv_iconst (v := (-1)) hx hb dX12_rule_86 (by decide) ?_
                refine lv_ixor hx hb dX12_rule_87 (lv_topi (fun x658 x658_e => ?_))
                refine lv_iand hx hb dX12_rule_88 (lv_topi (fun x659 x659_e => ?_))
                have x659_h : Iv 0 4095 x659 := iv_e x659_e (iv_andL _ j465 (by decide))
                refine lv_istore_n (lv' := [(2, .int x659), (4, .int x644), (3, .int x645), (0, .ref o1), (1, .int a1)]) hx hb dX12_rule_89 rfl hl (by decide) rfl (fun ls hl => ?_)
                refine lv_goto (tgt := 20) hx hb dX12_rule_90 (by decide) ?_
                exact ih3 y650 x659 f655 f653 f654 y651 y652 _ _ _ (by have a0 := clr_lt (iv_w (c := 0) (d := 4095) j465 (by decide)) j647 (by decide) x657_e x658_e x659_e b648; have a1 := (show _ ≤ _ ∧ _ ≤ _ from x659_h); have a2 := hM3; omega) (iv_w y650_h (by decide)) x659_h f655_b f653_b f654_b (bel_clr iv3_0 j647 (by decide) x657_e x658_e x659_e) (by have a0 := iv3_1; have a1 := e656; have a2 := ct_clr1 j647 x657_e x658_e x659_e b648; omega) hP hD hS (lv_sub hl [0, 3, 4] rfl)
              ·
                have qh646 := nle_i h646
                have j660 : Iv 0 11 x644 := r_ltl qh646 x644_h v5_h (by decide)
                have j661 : Iv 1 12 v5 := r_ltr qh646 x644_h v5_h (by decide)
                refine lv_iload_n hx hb dX12_rule_39 rfl (lv_at hl 2 rfl) ?_
                refine lv_iload hx hb dX12_rule_40 (lv_at hl 0 rfl) ?_
                refine kc_i (D := (dC, dI)) (S := Unit) (wc := []) (wr := [(o1, .inr (12, [.int v2, .ref o3, .int v5, .ref o6, .int v8, .ref o9, .ref o11, .int v13, .ref o14, .int v16, .ref o17, .int x456, .int x461, .int x462, .ref o22, .ref o24, .ref o26, .ref o28, .ref o30, .int v32, .ref o33, .ref o35, .ref o37, .int v39, .ref o40, .ref o42, .ref o44, .int v46, .ref o47])), (o6, .inl (cI, 12, .inl fw7)), (o22, .inl (cI, 12, .inl f459)), (o24, .inl (cI, 12, .inl f460)), (o17, .inl (cI, 12, .inl f458))]) (w1 := fun _ => []) (wn := fun _ => [(o1, .inr (12, [.int v2, .ref o3, .int v5, .ref o6, .int v8, .ref o9, .ref o11, .int v13, .ref o14, .int v16, .ref o17, .int x456, .int x461, .int x462, .ref o22, .ref o24, .ref o26, .ref o28, .ref o30, .int v32, .ref o33, .ref o35, .ref o37, .int v39, .ref o40, .ref o42, .ref o44, .int v46, .ref o47])), (o6, .inl (cI, 12, .inl fw7)), (o22, .inl (cI, 12, .inl f459)), (o24, .inl (cI, 12, .inl f460)), (o17, .inl (cI, 12, .inl f458))]) (fun hPc hDc => va_runS (As := [.int x457, .int x644]) (rest := []) ⟨hx, hb, hml, hown, hts⟩ (kX12_has_1 l dC dI cI c2 cZ x457 x644 H.size (iv_w j660 (by decide))) (va_cwS 2 hts gX12_rule_X12_has rfl rfl rfl (by decide +kernel) ⟨Nat.le_of_ble_eq_true rfl, Nat.le_of_ble_eq_true rfl⟩) (pre_S hPc hK hDc hN) rfl rfl hl.1 rfl (lv_room (Nat.le_of_ble_eq_true rfl)) dX12_rule_42 ⟨Nat.le_of_ble_eq_true rfl, Nat.le_of_ble_eq_true rfl⟩) hP hD hS hA [] [0, 1, 2, 3, 4] [0, 1, 2, 3, 4] rfl rfl (by decide +kernel) (by decide +kernel) (by decide +kernel) (by decide +kernel) (fun _ => rfl) (fun x662 _ H locs hq hP hD hS => ?_)
                obtain ⟨x662_h, e663⟩ := hq
                have hP : va_P (dC, dI) vwCl ([(o1, .inr (12, [.int v2, .ref o3, .int v5, .ref o6, .int v8, .ref o9, .ref o11, .int v13, .ref o14, .int v16, .ref o17, .int x456, .int x461, .int x462, .ref o22, .ref o24, .ref o26, .ref o28, .ref o30, .int v32, .ref o33, .ref o35, .ref o37, .int v39, .ref o40, .ref o42, .ref o44, .int v46, .ref o47])), (o6, .inl (cI, 12, .inl fw7)), (o22, .inl (cI, 12, .inl f459)), (o24, .inl (cI, 12, .inl f460)), (o17, .inl (cI, 12, .inl f458))]) H := hP
                have hD : va_D A ([(o1, .inr (12, [.int v2, .ref o3, .int v5, .ref o6, .int v8, .ref o9, .ref o11, .int v13, .ref o14, .int v16, .ref o17, .int x456, .int x461, .int x462, .ref o22, .ref o24, .ref o26, .ref o28, .ref o30, .int v32, .ref o33, .ref o35, .ref o37, .int v39, .ref o40, .ref o42, .ref o44, .int v46, .ref o47])), (o6, .inl (cI, 12, .inl fw7)), (o22, .inl (cI, 12, .inl f459)), (o24, .inl (cI, 12, .inl f460)), (o17, .inl (cI, 12, .inl f458))]) := hD
                refine lv_if_eq (tgt := 71) hx hb dX12_rule_45 (by decide) (fun h664 => ?_) (fun h664 => ?_)
                ·
                  have j665 : Iv 0 0 x662 := r_eq h664 ik_0
                  have b666 : bt x457 (Int32.toNatClampNeg x644) = false := has_f e663 h664
                  obtain ⟨x667, x667_e⟩ : ∃ z : Int32, z = x644 + 1 := ⟨_, rfl⟩
                  have x667_h : Iv 1 12 x667 := iv_e x667_e (iv_add j660 ik_1 (by decide))
                  refine lv_iinc (v := x667) (lv' := [(4, .int x667), (3, .int x645), (2, .int x457), (0, .ref o1), (1, .int a1)]) hx hb dX12_rule_71 hl (k := 0) rfl (incN (by decide +kernel) x667_e) (by decide) rfl (fun ls hl => ?_)
                  refine lv_goto (tgt := 30) hx hb dX12_rule_74 (by decide) ?_
                  exact ih4 x667 x645 _ _ _ (ms_up x667_e j660 (by decide) hM4) (iv_w x667_h (by decide)) x645_h ⟨fun h8 => lo_s (iv4_0.1 h8) (iv_w (c := 0) (d := 4095) j660 (by decide)) x667_e b666, iv4_0.2⟩ hP hD hS hl
                ·
                  have j668 : Iv 1 1 x662 := r_nelo h664 x662_h ik_0 (by decide)
                  have b669 : bt x457 (Int32.toNatClampNeg x644) = true := has_t e663 h664
                  refine lv_iload_n hx hb dX12_rule_48 rfl (lv_at hl 1 rfl) ?_
                  refine lv_if_lt (tgt := 68) hx hb dX12_rule_49 (by decide) (fun h670 => ?_) (fun h670 => ?_)
                  ·
                    have qh670 := lt_i h670
                    have j671 : Iv (-9) (-1) x645 := r_ltl qh670 x645_h ik_0 (by decide)
                    refine lv_iload hx hb dX12_rule_68 (lv_at hl 0 rfl) ?_
                    refine lv_istore_n (lv' := [(3, .int x644), (4, .int x644), (2, .int x457), (0, .ref o1), (1, .int a1)]) hx hb dX12_rule_70 rfl hl (by decide) rfl (fun ls hl => ?_)
                    obtain ⟨x672, x672_e⟩ : ∃ z : Int32, z = x644 + 1 := ⟨_, rfl⟩
                    have x672_h : Iv 1 12 x672 := iv_e x672_e (iv_add j660 ik_1 (by decide))
                    refine lv_iinc (v := x672) (lv' := [(4, .int x672), (3, .int x644), (2, .int x457), (0, .ref o1), (1, .int a1)]) hx hb dX12_rule_71 hl (k := 1) rfl (incN (by decide +kernel) x672_e) (by decide) rfl (fun ls hl => ?_)
                    refine lv_goto (tgt := 30) hx hb dX12_rule_74 (by decide) ?_
                    exact ih4 x672 x644 _ _ _ (ms_up x672_e j660 (by decide) hM4) (iv_w x672_h (by decide)) (iv_w j660 (by decide)) ⟨fun h8 => absurd h8 (Int.not_lt.mpr (show _ ≤ _ ∧ _ ≤ _ from j660).1), fun _ => b669⟩ hP hD hS hl
                  ·
                    have qh670 := nlt_i h670
                    have j673 : Iv 0 11 x645 := r_ler qh670 ik_0 x645_h (by decide)
                    refine lv_aload_n hx hb dX12_rule_52 rfl (lv_at hl 3 rfl) ?_
                    refine lv_iload_n hx hb dX12_rule_53 rfl (lv_at hl 4 rfl) ?_
                    refine lv_iload hx hb dX12_rule_54 (lv_at hl 0 rfl) ?_
                    refine kc_i (D := (dC, dI)) (S := Unit) (wc := [(o1, .inr (12, [.int v2, .ref o3, .int v5, .ref o6, .int v8, .ref o9, .ref o11, .int v13, .ref o14, .int v16, .ref o17, .int x456, .int x461, .int x462, .ref o22, .ref o24, .ref o26, .ref o28, .ref o30, .int v32, .ref o33, .ref o35, .ref o37, .int v39, .ref o40, .ref o42, .ref o44, .int v46, .ref o47])), (o22, .inl (cI, 12, .inl f459))]) (wr := [(o6, .inl (cI, 12, .inl fw7)), (o24, .inl (cI, 12, .inl f460)), (o17, .inl (cI, 12, .inl f458))]) (w1 := fun _ => [(o1, .inr (12, [.int v2, .ref o3, .int v5, .ref o6, .int v8, .ref o9, .ref o11, .int v13, .ref o14, .int v16, .ref o17, .int x456, .int x461, .int x462, .ref o22, .ref o24, .ref o26, .ref o28, .ref o30, .int v32, .ref o33, .ref o35, .ref o37, .int v39, .ref o40, .ref o42, .ref o44, .int v46, .ref o47])), (o22, .inl (cI, 12, .inl f459))]) (wn := fun _ => [(o1, .inr (12, [.int v2, .ref o3, .int v5, .ref o6, .int v8, .ref o9, .ref o11, .int v13, .ref o14, .int v16, .ref o17, .int x456, .int x461, .int x462, .ref o22, .ref o24, .ref o26, .ref o28, .ref o30, .int v32, .ref o33, .ref o35, .ref o37, .int v39, .ref o40, .ref o42, .ref o44, .int v46, .ref o47])), (o6, .inl (cI, 12, .inl fw7)), (o22, .inl (cI, 12, .inl f459)), (o24, .inl (cI, 12, .inl f460)), (o17, .inl (cI, 12, .inl f458))]) (fun hPc hDc => va_runV (As := [.int a1, .int x644]) (rest := []) ⟨hx, hb, hml, hown, hts⟩ (kX12_ruled_1 l dC dI cI c2 cZ o1 o3 o6 o9 o11 o14 o17 o22 o24 o26 o28 o30 o33 o35 o37 o40 o42 o44 o47 v2 v5 v8 v13 v16 x456 x461 x462 f459 v32 v39 v46 a1 x644 H.size (iv_w j661 (by decide)) v8_h v13_h v16_h (iv_w x456_h (by decide)) f459_b v32_h v39_h v46_h j660) (cwV 2 hts gX12_rule_X12_ruled rfl rfl rfl (by decide +kernel) ⟨Nat.le_of_ble_eq_true rfl, Nat.le_of_ble_eq_true rfl⟩) (pre_V hPc hK hDc hN (ci := 12) (q0 := 0) rfl rfl) rfl rfl hl.1 rfl (lv_room (Nat.le_of_ble_eq_true rfl)) dX12_rule_56 ⟨Nat.le_of_ble_eq_true rfl, Nat.le_of_ble_eq_true rfl⟩) hP hD hS hA [0, 2] [1, 3, 4] [3, 0, 4, 1, 2] rfl rfl (by decide +kernel) (by decide +kernel) (by decide +kernel) (by decide +kernel) (fun _ => rfl) (fun x674 _ H locs hq hP hD hS => ?_)
                    have hP : va_P (dC, dI) vwCl ([(o1, .inr (12, [.int v2, .ref o3, .int v5, .ref o6, .int v8, .ref o9, .ref o11, .int v13, .ref o14, .int v16, .ref o17, .int x456, .int x461, .int x462, .ref o22, .ref o24, .ref o26, .ref o28, .ref o30, .int v32, .ref o33, .ref o35, .ref o37, .int v39, .ref o40, .ref o42, .ref o44, .int v46, .ref o47])), (o6, .inl (cI, 12, .inl fw7)), (o22, .inl (cI, 12, .inl f459)), (o24, .inl (cI, 12, .inl f460)), (o17, .inl (cI, 12, .inl f458))]) H := hP
                    have hD : va_D A ([(o1, .inr (12, [.int v2, .ref o3, .int v5, .ref o6, .int v8, .ref o9, .ref o11, .int v13, .ref o14, .int v16, .ref o17, .int x456, .int x461, .int x462, .ref o22, .ref o24, .ref o26, .ref o28, .ref o30, .int v32, .ref o33, .ref o35, .ref o37, .int v39, .ref o40, .ref o42, .ref o44, .int v46, .ref o47])), (o6, .inl (cI, 12, .inl fw7)), (o22, .inl (cI, 12, .inl f459)), (o24, .inl (cI, 12, .inl f460)), (o17, .inl (cI, 12, .inl f458))]) := hD
                    refine lv_aload_n hx hb dX12_rule_59 rfl (lv_at hl 3 rfl) ?_
                    refine lv_iload_n hx hb dX12_rule_60 rfl (lv_at hl 4 rfl) ?_
                    refine lv_iload_n hx hb dX12_rule_61 rfl (lv_at hl 1 rfl) ?_
                    refine kc_i (D := (dC, dI)) (S := Unit) (wc := [(o1, .inr (12, [.int v2, .ref o3, .int v5, .ref o6, .int v8, .ref o9, .ref o11, .int v13, .ref o14, .int v16, .ref o17, .int x456, .int x461, .int x462, .ref o22, .ref o24, .ref o26, .ref o28, .ref o30, .int v32, .ref o33, .ref o35, .ref o37, .int v39, .ref o40, .ref o42, .ref o44, .int v46, .ref o47])), (o22, .inl (cI, 12, .inl f459))]) (wr := [(o6, .inl (cI, 12, .inl fw7)), (o24, .inl (cI, 12, .inl f460)), (o17, .inl (cI, 12, .inl f458))]) (w1 := fun _ => [(o1, .inr (12, [.int v2, .ref o3, .int v5, .ref o6, .int v8, .ref o9, .ref o11, .int v13, .ref o14, .int v16, .ref o17, .int x456, .int x461, .int x462, .ref o22, .ref o24, .ref o26, .ref o28, .ref o30, .int v32, .ref o33, .ref o35, .ref o37, .int v39, .ref o40, .ref o42, .ref o44, .int v46, .ref o47])), (o22, .inl (cI, 12, .inl f459))]) (wn := fun _ => [(o1, .inr (12, [.int v2, .ref o3, .int v5, .ref o6, .int v8, .ref o9, .ref o11, .int v13, .ref o14, .int v16, .ref o17, .int x456, .int x461, .int x462, .ref o22, .ref o24, .ref o26, .ref o28, .ref o30, .int v32, .ref o33, .ref o35, .ref o37, .int v39, .ref o40, .ref o42, .ref o44, .int v46, .ref o47])), (o6, .inl (cI, 12, .inl fw7)), (o22, .inl (cI, 12, .inl f459)), (o24, .inl (cI, 12, .inl f460)), (o17, .inl (cI, 12, .inl f458))]) (fun hPc hDc => va_runV (As := [.int a1, .int x645]) (rest := [.int x674]) ⟨hx, hb, hml, hown, hts⟩ (kX12_ruled_1 l dC dI cI c2 cZ o1 o3 o6 o9 o11 o14 o17 o22 o24 o26 o28 o30 o33 o35 o37 o40 o42 o44 o47 v2 v5 v8 v13 v16 x456 x461 x462 f459 v32 v39 v46 a1 x645 H.size (iv_w j661 (by decide)) v8_h v13_h v16_h (iv_w x456_h (by decide)) f459_b v32_h v39_h v46_h j673) (cwV 2 hts gX12_rule_X12_ruled rfl rfl rfl (by decide +kernel) ⟨Nat.le_of_ble_eq_true rfl, Nat.le_of_ble_eq_true rfl⟩) (pre_V hPc hK hDc hN (ci := 12) (q0 := 0) rfl rfl) rfl rfl hl.1 rfl (lv_room (Nat.le_of_ble_eq_true rfl)) dX12_rule_62 ⟨Nat.le_of_ble_eq_true rfl, Nat.le_of_ble_eq_true rfl⟩) hP hD hS hA [0, 2] [1, 3, 4] [3, 0, 4, 1, 2] rfl rfl (by decide +kernel) (by decide +kernel) (by decide +kernel) (by decide +kernel) (fun _ => rfl) (fun x675 _ H locs hq hP hD hS => ?_)
                    have hP : va_P (dC, dI) vwCl ([(o1, .inr (12, [.int v2, .ref o3, .int v5, .ref o6, .int v8, .ref o9, .ref o11, .int v13, .ref o14, .int v16, .ref o17, .int x456, .int x461, .int x462, .ref o22, .ref o24, .ref o26, .ref o28, .ref o30, .int v32, .ref o33, .ref o35, .ref o37, .int v39, .ref o40, .ref o42, .ref o44, .int v46, .ref o47])), (o6, .inl (cI, 12, .inl fw7)), (o22, .inl (cI, 12, .inl f459)), (o24, .inl (cI, 12, .inl f460)), (o17, .inl (cI, 12, .inl f458))]) H := hP
                    have hD : va_D A ([(o1, .inr (12, [.int v2, .ref o3, .int v5, .ref o6, .int v8, .ref o9, .ref o11, .int v13, .ref o14, .int v16, .ref o17, .int x456, .int x461, .int x462, .ref o22, .ref o24, .ref o26, .ref o28, .ref o30, .int v32, .ref o33, .ref o35, .ref o37, .int v39, .ref o40, .ref o42, .ref o44, .int v46, .ref o47])), (o6, .inl (cI, 12, .inl fw7)), (o22, .inl (cI, 12, .inl f459)), (o24, .inl (cI, 12, .inl f460)), (o17, .inl (cI, 12, .inl f458))]) := hD
                    refine lv_icmp_ge (tgt := 71) hx hb dX12_rule_65 (by decide) (fun h676 => ?_) (fun h676 => ?_)
                    ·
                      have qh676 := le_i h676
                      obtain ⟨x677, x677_e⟩ : ∃ z : Int32, z = x644 + 1 := ⟨_, rfl⟩
                      have x677_h : Iv 1 12 x677 := iv_e x677_e (iv_add j660 ik_1 (by decide))
                      refine lv_iinc (v := x677) (lv' := [(4, .int x677), (3, .int x645), (2, .int x457), (0, .ref o1), (1, .int a1)]) hx hb dX12_rule_71 hl (k := 0) rfl (incN (by decide +kernel) x677_e) (by decide) rfl (fun ls hl => ?_)
                      refine lv_goto (tgt := 30) hx hb dX12_rule_74 (by decide) ?_
                      exact ih4 x677 x645 _ _ _ (ms_up x677_e j660 (by decide) hM4) (iv_w x677_h (by decide)) (iv_w j673 (by decide)) ⟨fun h8 => absurd h8 (Int.not_lt.mpr (show _ ≤ _ ∧ _ ≤ _ from j673).1), iv4_0.2⟩ hP hD hS hl
                    ·
                      have qh676 := nle_i h676
                      have j678 : Iv (-2147483648) 2147483646 x674 := r_ltl qh676 (iv_full x674) (iv_full x675) (by decide)
                      have j679 : Iv (-2147483647) 2147483647 x675 := r_ltr qh676 (iv_full x674) (iv_full x675) (by decide)
                      refine lv_iload hx hb dX12_rule_68 (lv_at hl 0 rfl) ?_
                      refine lv_istore_n (lv' := [(3, .int x644), (4, .int x644), (2, .int x457), (0, .ref o1), (1, .int a1)]) hx hb dX12_rule_70 rfl hl (by decide) rfl (fun ls hl => ?_)
                      obtain ⟨x680, x680_e⟩ : ∃ z : Int32, z = x644 + 1 := ⟨_, rfl⟩
                      have x680_h : Iv 1 12 x680 := iv_e x680_e (iv_add j660 ik_1 (by decide))
                      refine lv_iinc (v := x680) (lv' := [(4, .int x680), (3, .int x644), (2, .int x457), (0, .ref o1), (1, .int a1)]) hx hb dX12_rule_71 hl (k := 1) rfl (incN (by decide +kernel) x680_e) (by decide) rfl (fun ls hl => ?_)
                      refine lv_goto (tgt := 30) hx hb dX12_rule_74 (by decide) ?_
                      exact ih4 x680 x644 _ _ _ (ms_up x680_e j660 (by decide) hM4) (iv_w x680_h (by decide)) (iv_w j660 (by decide)) ⟨fun h8 => absurd h8 (Int.not_lt.mpr (show _ ≤ _ ∧ _ ≤ _ from j660).1), fun _ => b669⟩ hP hD hS hl
          exact L4 _ 0 (-9) _ _ _ (Nat.lt_succ_self _) (iv_w ik_0 (by decide)) (iv_w ikm_9 (by decide)) ⟨fun _ => lo_0, fun h8 => absurd h8 (by decide +kernel)⟩ hP hD hS hl
    exact L3 _ y7 x12 fw18 f10 f11 y8 y9 _ _ _ (Nat.lt_succ_self _) (iv_w y7_h (by decide)) x12_h fw18_b f10_b f11_b (alls_bel e13) (by have a0 := (show _ ≤ _ ∧ _ ≤ _ from y7_h); have a1 := ct_le12 x12; omega) hP hD hS hl
  ·
    have j681 : Iv 0 0 x1 := r_eq h4 ik_0
    refine lv_iconst (v := (-1)) hx hb dX12_rule_9 (by decide) ?_
    rw [hQ]
    exact W.iret (v := (-1)) hx hb hr (fun t ht hW => ⟨⟨(-1), (v19, v20, v21, fw23, fw25, fw18), rfl, ⟨v19_h, fw23_b, fw25_b, fw18_b⟩, by rw [ht]; exact hP, va_K.moved hW.alike hK, hD⟩, hS.F ht⟩) hS.2.2 dX12_rule_10
set_option maxHeartbeats 4000000 in
set_option maxRecDepth 100000 in
theorem kX12_in_5 (l : Launch) (dC : Nat → ClassId) (dI : Nat → Nat → Nat) (cI c2 cZ : ClassId) (a0 : Int32) (a1 : Int32) (a2 : Int32) (sz : Nat) (a1_h : Iv 0 0 a1) (a2_h : Iv 1 1 a2) : Met l yX12_in wsX12_in ({ frames := 0, cells := 0, slots := 0, locals := 0 }) (va_Pc [.int a0, .int a1, .int a2] (wPre (dC, dI) [(cI, .int), (c2, .array .int), (cZ, .boolean)] ([]) sz)) (va_Qi (fun (r : Int32) (_ : Unit) => Iv 0 1 r ∧ (¬ r = 0 → Iv 0 1 a0) ∧ (¬ r = 0 → Int32.toInt a1 ≤ Int32.toInt a0 ∧ Int32.toInt a0 ≤ Int32.toInt a2)) (fun _ t => wPost (dC, dI) [(cI, .int), (c2, .array .int), (cZ, .boolean)] (va_A ([]) sz) ([]) t) (va_A ([]) sz)) 0 0 (va_A ([]) sz) := by
  refine Met.ofW (cc := cX12_in) (maxL := 3) (ret := (some .boolean)) (by decide) rfl ?_
  intro p e s m args below meth c s₁ B hml hv
  obtain ⟨rfl, hsz, hP, hK, hD0, hN⟩ := hv
  have hx := B.exec
  have hb := B.bytes
  have hr := B.returns
  have hts := atoms_spec (ws := wsX12_in) B.pre
  have hown : s.vm.findClass RX12 = some m.cls := findClass_of_methodNamed B.named
  have hlocks := B.notSynchronized
  subst hsz
  have hD := hD0.self (sz := s.heap.size)
  generalize hAe : va_A ([]) s.heap.size = A at hD ⊢
  have hA : ∀ q : Nat, s.heap.size ≤ q → A q := fun q h => by rw [← hAe]; exact Or.inr h
  have hS : va_S A s.heap s.heap [] := va_S.rf
  have hP : va_P (dC, dI) vwCl ([]) s.heap := hP
  have hl := lv_entry ([.int a0, .int a1, .int a2]) (n := 3) (Nat.le_of_ble_eq_true rfl)
  rw [lg_entry_eq]
  generalize (lg_sl ([.int a0, .int a1, .int a2]) ++ List.replicate (3 - (lg_sl ([.int a0, .int a1, .int a2])).length) Slot.unset).toArray = ls at hl ⊢
  have hl : lv_has ls 3 [(0, .int a0), (1, .int a1), (2, .int a2)] := hl
  refine gen_Q (fun Q hQ => ?_)
  refine lv_iload_n hx hb dX12_in_0 rfl (lv_at hl 0 rfl) ?_
  refine lv_iload_n hx hb dX12_in_1 rfl (lv_at hl 1 rfl) ?_
  refine lv_icmp_lt (tgt := 14) hx hb dX12_in_2 (by decide) (fun h1 => ?_) (fun h1 => ?_)
  ·
    have qh1 := lt_i h1
    have j2 : Iv (-2147483648) (-1) a0 := r_ltl qh1 (iv_full a0) a1_h (by decide)
    refine lv_iconst (v := 0) hx hb dX12_in_14 (by decide) ?_
    rw [hQ]
    exact W.zret (v := 0) (ty := .boolean) hx hb hr rfl (fun t ht hW => ⟨⟨0, (), rfl, ⟨(iv_w ik_0 (by decide)), (fun h8 => absurd rfl h8), (fun h8 => absurd rfl h8)⟩, by rw [ht]; exact hP, va_K.moved hW.alike hK, hD⟩, hS.F ht⟩) hS.2.2 dX12_in_15
  ·
    have qh1 := nlt_i h1
    have j3 : Iv 0 2147483647 a0 := r_ler qh1 a1_h (iv_full a0) (by decide)
    refine lv_iload_n hx hb dX12_in_5 rfl (lv_at hl 0 rfl) ?_
    refine lv_iload_n hx hb dX12_in_6 rfl (lv_at hl 2 rfl) ?_
    refine lv_icmp_gt (tgt := 14) hx hb dX12_in_7 (by decide) (fun h4 => ?_) (fun h4 => ?_)
    ·
      have qh4 := lt_i h4
      have j5 : Iv 2 2147483647 a0 := r_ltr qh4 a2_h j3 (by decide)
      refine lv_iconst (v := 0) hx hb dX12_in_14 (by decide) ?_
      rw [hQ]
      exact W.zret (v := 0) (ty := .boolean) hx hb hr rfl (fun t ht hW => ⟨⟨0, (), rfl, ⟨(iv_w ik_0 (by decide)), (fun h8 => absurd rfl h8), (fun h8 => absurd rfl h8)⟩, by rw [ht]; exact hP, va_K.moved hW.alike hK, hD⟩, hS.F ht⟩) hS.2.2 dX12_in_15
    ·
      have qh4 := nlt_i h4
      have j6 : Iv 0 1 a0 := r_lel qh4 j3 a2_h (by decide)
      refine lv_iconst (v := 1) hx hb dX12_in_10 (by decide) ?_
      refine lv_goto (tgt := 15) hx hb dX12_in_11 (by decide) ?_
      rw [hQ]
      exact W.zret (v := 1) (ty := .boolean) hx hb hr rfl (fun t ht hW => ⟨⟨1, (), rfl, ⟨(iv_w ik_1 (by decide)), (fun _ => j6), (fun _ => ⟨qh1, qh4⟩)⟩, by rw [ht]; exact hP, va_K.moved hW.alike hK, hD⟩, hS.F ht⟩) hS.2.2 dX12_in_15
theorem iw_X12_setThen_X12 : ∀ w ∈ wsX120, w ∈ wsX12_setThen := fun _ h => List.mem_cons.mpr (Or.inr (List.mem_append.mpr (Or.inr h)))
set_option maxHeartbeats 4000000 in
set_option maxRecDepth 100000 in
theorem kX12_setThen_1 (l : Launch) (dC : Nat → ClassId) (dI : Nat → Nat → Nat) (cI c2 cZ : ClassId) (o1 : Nat) (o3 : Nat) (o6 : Nat) (o9 : Nat) (o11 : Nat) (o14 : Nat) (o17 : Nat) (o22 : Nat) (o24 : Nat) (o26 : Nat) (o28 : Nat) (o30 : Nat) (o33 : Nat) (o35 : Nat) (o37 : Nat) (o40 : Nat) (o42 : Nat) (o44 : Nat) (o47 : Nat) (v2 : Int32) (v5 : Int32) (fw7 : Nat → Int32) (v8 : Int32) (v13 : Int32) (v16 : Int32) (v19 : Int32) (v20 : Int32) (v21 : Int32) (fw27 : Nat → Int32) (v32 : Int32) (v39 : Int32) (v46 : Int32) (sz : Nat) (v5_h : Iv 0 12 v5) (fw7_b : Bd 12 0 4095 fw7) (v8_h : Iv 0 8 v8) (v13_h : Iv 0 12 v13) (v16_h : Iv 0 12 v16) (v19_h : Iv (-9) 12 v19) (fw27_b : Bd 49152 0 4095 fw27) (v32_h : Iv 0 99 v32) (v39_h : Iv 0 12 v39) (v46_h : Iv 0 12 v46) : Met l yX12_setThen wsX12_setThen ({ frames := 1, cells := 0, slots := 0, locals := 21 }) (va_Pc [.ref o1] (wPre (dC, dI) [(cI, .int), (c2, .array .int), (cZ, .boolean)] ([(o1, .inr (12, [.int v2, .ref o3, .int v5, .ref o6, .int v8, .ref o9, .ref o11, .int v13, .ref o14, .int v16, .ref o17, .int v19, .int v20, .int v21, .ref o22, .ref o24, .ref o26, .ref o28, .ref o30, .int v32, .ref o33, .ref o35, .ref o37, .int v39, .ref o40, .ref o42, .ref o44, .int v46, .ref o47])), (o6, .inl (cI, 12, .inl fw7)), (o26, .inl (cI, 49152, .inl fw27))]) sz)) (va_Qv (fun (u : (Nat → Int32)) => Bd 49152 0 4095 u) (fun u t => wPost (dC, dI) [(cI, .int), (c2, .array .int), (cZ, .boolean)] (va_A ([(o1, .inr (12, [.int v2, .ref o3, .int v5, .ref o6, .int v8, .ref o9, .ref o11, .int v13, .ref o14, .int v16, .ref o17, .int v19, .int v20, .int v21, .ref o22, .ref o24, .ref o26, .ref o28, .ref o30, .int v32, .ref o33, .ref o35, .ref o37, .int v39, .ref o40, .ref o42, .ref o44, .int v46, .ref o47])), (o6, .inl (cI, 12, .inl fw7)), (o26, .inl (cI, 49152, .inl fw27))]) sz) ([(o1, .inr (12, [.int v2, .ref o3, .int v5, .ref o6, .int v8, .ref o9, .ref o11, .int v13, .ref o14, .int v16, .ref o17, .int v19, .int v20, .int v21, .ref o22, .ref o24, .ref o26, .ref o28, .ref o30, .int v32, .ref o33, .ref o35, .ref o37, .int v39, .ref o40, .ref o42, .ref o44, .int v46, .ref o47])), (o6, .inl (cI, 12, .inl fw7)), (o26, .inl (cI, 49152, .inl u))]) t) (va_A ([(o1, .inr (12, [.int v2, .ref o3, .int v5, .ref o6, .int v8, .ref o9, .ref o11, .int v13, .ref o14, .int v16, .ref o17, .int v19, .int v20, .int v21, .ref o22, .ref o24, .ref o26, .ref o28, .ref o30, .int v32, .ref o33, .ref o35, .ref o37, .int v39, .ref o40, .ref o42, .ref o44, .int v46, .ref o47])), (o6, .inl (cI, 12, .inl fw7)), (o26, .inl (cI, 49152, .inl fw27))]) sz)) 0 0 (va_A ([(o1, .inr (12, [.int v2, .ref o3, .int v5, .ref o6, .int v8, .ref o9, .ref o11, .int v13, .ref o14, .int v16, .ref o17, .int v19, .int v20, .int v21, .ref o22, .ref o24, .ref o26, .ref o28, .ref o30, .int v32, .ref o33, .ref o35, .ref o37, .int v39, .ref o40, .ref o42, .ref o44, .int v46, .ref o47])), (o6, .inl (cI, 12, .inl fw7)), (o26, .inl (cI, 49152, .inl fw27))]) sz) := by
  refine Met.ofW (cc := cX12_setThen) (maxL := 7) (ret := none) (by decide) rfl ?_
  intro p e s m args below meth c s₁ B hml hv
  obtain ⟨rfl, hsz, hP, hK, hD0, hN⟩ := hv
  have hx := B.exec
  have hb := B.bytes
  have hr := B.returns
  have hts := atoms_spec (ws := wsX12_setThen) B.pre
  have hown : s.vm.findClass RX12 = some m.cls := findClass_of_methodNamed B.named
  have hlocks := B.notSynchronized
  subst hsz
  have hD := hD0.self (sz := s.heap.size)
  generalize hAe : va_A ([(o1, .inr (12, [.int v2, .ref o3, .int v5, .ref o6, .int v8, .ref o9, .ref o11, .int v13, .ref o14, .int v16, .ref o17, .int v19, .int v20, .int v21, .ref o22, .ref o24, .ref o26, .ref o28, .ref o30, .int v32, .ref o33, .ref o35, .ref o37, .int v39, .ref o40, .ref o42, .ref o44, .int v46, .ref o47])), (o6, .inl (cI, 12, .inl fw7)), (o26, .inl (cI, 49152, .inl fw27))]) s.heap.size = A at hD ⊢
  have hA : ∀ q : Nat, s.heap.size ≤ q → A q := fun q h => by rw [← hAe]; exact Or.inr h
  have hS : va_S A s.heap s.heap [] := va_S.rf
  have hP : va_P (dC, dI) vwCl ([(o1, .inr (12, [.int v2, .ref o3, .int v5, .ref o6, .int v8, .ref o9, .ref o11, .int v13, .ref o14, .int v16, .ref o17, .int v19, .int v20, .int v21, .ref o22, .ref o24, .ref o26, .ref o28, .ref o30, .int v32, .ref o33, .ref o35, .ref o37, .int v39, .ref o40, .ref o42, .ref o44, .int v46, .ref o47])), (o6, .inl (cI, 12, .inl fw7)), (o26, .inl (cI, 49152, .inl fw27))]) s.heap := hP
  have hl := lv_entry ([.ref o1]) (n := 7) (Nat.le_of_ble_eq_true rfl)
  rw [lg_entry_eq]
  generalize (lg_sl ([.ref o1]) ++ List.replicate (7 - (lg_sl ([.ref o1])).length) Slot.unset).toArray = ls at hl ⊢
  have hl : lv_has ls 7 [(0, .ref o1)] := hl
  refine gen_Q (fun Q hQ => ?_)
  refine lv_iconst (v := 0) hx hb dX12_setThen_0 (by decide) ?_
  refine lv_istore_n (lv' := [(1, .int 0), (0, .ref o1)]) hx hb dX12_setThen_1 rfl hl (by decide) rfl (fun ls hl => ?_)
  have L1 : ∀ (N : Nat) (x41 : Int32) (f42 : Nat → Int32) (H : Heap) (locs : List Loc) (ls : Array Slot), (12 - x41.toInt).toNat < N → Iv 0 12 x41 → Bd 49152 0 4095 f42 → va_P (dC, dI) vwCl ([(o1, .inr (12, [.int v2, .ref o3, .int v5, .ref o6, .int v8, .ref o9, .ref o11, .int v13, .ref o14, .int v16, .ref o17, .int v19, .int v20, .int v21, .ref o22, .ref o24, .ref o26, .ref o28, .ref o30, .int v32, .ref o33, .ref o35, .ref o37, .int v39, .ref o40, .ref o42, .ref o44, .int v46, .ref o47])), (o6, .inl (cI, 12, .inl fw7)), (o26, .inl (cI, 49152, .inl f42))]) H → va_D A ([(o1, .inr (12, [.int v2, .ref o3, .int v5, .ref o6, .int v8, .ref o9, .ref o11, .int v13, .ref o14, .int v16, .ref o17, .int v19, .int v20, .int v21, .ref o22, .ref o24, .ref o26, .ref o28, .ref o30, .int v32, .ref o33, .ref o35, .ref o37, .int v39, .ref o40, .ref o42, .ref o44, .int v46, .ref o47])), (o6, .inl (cI, 12, .inl fw7)), (o26, .inl (cI, 49152, .inl f42))]) → va_S A s.heap H locs → lv_has ls 7 [(1, .int x41), (0, .ref o1)] → W p l e ({ frames := 1, cells := 0, slots := 0, locals := 21 }) s m ([.ref o1] : List Value).toArray below meth c H locs 0 0 Q (F0 m 2 ls []) := by
    intro N
    induction N with
    | zero =>
      intro x41 f42 H locs ls hM
      exact absurd hM (Nat.not_lt_zero _)
    | succ N ih1 =>
      intro x41 f42 H locs ls hM1 x41_h f42_b hP hD hS hl
      refine lv_iload_n hx hb dX12_setThen_2 rfl (lv_at hl 0 rfl) ?_
      refine lv_bipush (v := 12) hx hb dX12_setThen_3 (by decide) ?_
      refine lv_icmp_ge (tgt := 26) hx hb dX12_setThen_5 (by decide) (fun h43 => ?_) (fun h43 => ?_)
      ·
        have qh43 := le_i h43
        have j44 : Iv 12 12 x41 := r_ler qh43 ik_12 x41_h (by decide)
        refine lv_iconst (v := 1) hx hb dX12_setThen_26 (by decide) ?_
        refine lv_istore_n (lv' := [(1, .int 1), (0, .ref o1)]) hx hb dX12_setThen_27 rfl hl (by decide) rfl (fun ls hl => ?_)
        have L44 : ∀ (N : Nat) (x5933 : Int32) (f5934 : Nat → Int32) (H : Heap) (locs : List Loc) (ls : Array Slot), (4096 - x5933.toInt).toNat < N → Iv 1 4096 x5933 → Bd 49152 0 4095 f5934 → va_P (dC, dI) vwCl ([(o1, .inr (12, [.int v2, .ref o3, .int v5, .ref o6, .int v8, .ref o9, .ref o11, .int v13, .ref o14, .int v16, .ref o17, .int v19, .int v20, .int v21, .ref o22, .ref o24, .ref o26, .ref o28, .ref o30, .int v32, .ref o33, .ref o35, .ref o37, .int v39, .ref o40, .ref o42, .ref o44, .int v46, .ref o47])), (o6, .inl (cI, 12, .inl fw7)), (o26, .inl (cI, 49152, .inl f5934))]) H → va_D A ([(o1, .inr (12, [.int v2, .ref o3, .int v5, .ref o6, .int v8, .ref o9, .ref o11, .int v13, .ref o14, .int v16, .ref o17, .int v19, .int v20, .int v21, .ref o22, .ref o24, .ref o26, .ref o28, .ref o30, .int v32, .ref o33, .ref o35, .ref o37, .int v39, .ref o40, .ref o42, .ref o44, .int v46, .ref o47])), (o6, .inl (cI, 12, .inl fw7)), (o26, .inl (cI, 49152, .inl f5934))]) → va_S A s.heap H locs → lv_has ls 7 [(1, .int x5933), (0, .ref o1)] → W p l e ({ frames := 1, cells := 0, slots := 0, locals := 21 }) s m ([.ref o1] : List Value).toArray below meth c H locs 0 0 Q (F0 m 28 ls []) := by
          intro N
          induction N with
          | zero =>
            intro x5933 f5934 H locs ls hM
            exact absurd hM (Nat.not_lt_zero _)
          | succ N ih44 =>
            intro x5933 f5934 H locs ls hM44 x5933_h f5934_b hP hD hS hl
            refine lv_iload_n hx hb dX12_setThen_28 rfl (lv_at hl 0 rfl) ?_
            refine lv_aload_n hx hb dX12_setThen_29 rfl (lv_at hl 1 rfl) ?_
            refine kc_i (D := (dC, dI)) (S := Unit) (wc := [(o1, .inr (12, [.int v2, .ref o3, .int v5, .ref o6, .int v8, .ref o9, .ref o11, .int v13, .ref o14, .int v16, .ref o17, .int v19, .int v20, .int v21, .ref o22, .ref o24, .ref o26, .ref o28, .ref o30, .int v32, .ref o33, .ref o35, .ref o37, .int v39, .ref o40, .ref o42, .ref o44, .int v46, .ref o47]))]) (wr := [(o6, .inl (cI, 12, .inl fw7)), (o26, .inl (cI, 49152, .inl f5934))]) (w1 := fun _ => [(o1, .inr (12, [.int v2, .ref o3, .int v5, .ref o6, .int v8, .ref o9, .ref o11, .int v13, .ref o14, .int v16, .ref o17, .int v19, .int v20, .int v21, .ref o22, .ref o24, .ref o26, .ref o28, .ref o30, .int v32, .ref o33, .ref o35, .ref o37, .int v39, .ref o40, .ref o42, .ref o44, .int v46, .ref o47]))]) (wn := fun _ => [(o1, .inr (12, [.int v2, .ref o3, .int v5, .ref o6, .int v8, .ref o9, .ref o11, .int v13, .ref o14, .int v16, .ref o17, .int v19, .int v20, .int v21, .ref o22, .ref o24, .ref o26, .ref o28, .ref o30, .int v32, .ref o33, .ref o35, .ref o37, .int v39, .ref o40, .ref o42, .ref o44, .int v46, .ref o47])), (o6, .inl (cI, 12, .inl fw7)), (o26, .inl (cI, 49152, .inl f5934))]) (fun hPc hDc => va_runV (As := []) (rest := [.int x5933]) ⟨hx, hb, hml, hown, hts⟩ (kX12_all_1 l dC dI cI c2 cZ o1 o3 o6 o9 o11 o14 o17 o22 o24 o26 o28 o30 o33 o35 o37 o40 o42 o44 o47 v2 v5 v8 v13 v16 v19 v20 v21 v32 v39 v46 H.size v5_h v8_h v13_h v16_h v19_h v32_h v39_h v46_h) (cwV 0 hts gX12_setThen_X12_all rfl rfl rfl (by decide +kernel) ⟨Nat.le_of_ble_eq_true rfl, Nat.le_of_ble_eq_true rfl⟩) (pre_V hPc hK hDc hN (ci := 12) (q0 := 0) rfl rfl) rfl rfl hl.1 rfl (lv_room (Nat.le_of_ble_eq_true rfl)) dX12_setThen_30 ⟨Nat.le_of_ble_eq_true rfl, Nat.le_of_ble_eq_true rfl⟩) hP hD hS hA [0] [1, 2] [2, 0, 1] rfl rfl (by decide +kernel) (by decide +kernel) (by decide +kernel) (by decide +kernel) (fun _ => rfl) (fun x5935 _ H locs hq hP hD hS => ?_)
            obtain ⟨x5935_h, e5936⟩ := hq
            have hP : va_P (dC, dI) vwCl ([(o1, .inr (12, [.int v2, .ref o3, .int v5, .ref o6, .int v8, .ref o9, .ref o11, .int v13, .ref o14, .int v16, .ref o17, .int v19, .int v20, .int v21, .ref o22, .ref o24, .ref o26, .ref o28, .ref o30, .int v32, .ref o33, .ref o35, .ref o37, .int v39, .ref o40, .ref o42, .ref o44, .int v46, .ref o47])), (o6, .inl (cI, 12, .inl fw7)), (o26, .inl (cI, 49152, .inl f5934))]) H := hP
            have hD : va_D A ([(o1, .inr (12, [.int v2, .ref o3, .int v5, .ref o6, .int v8, .ref o9, .ref o11, .int v13, .ref o14, .int v16, .ref o17, .int v19, .int v20, .int v21, .ref o22, .ref o24, .ref o26, .ref o28, .ref o30, .int v32, .ref o33, .ref o35, .ref o37, .int v39, .ref o40, .ref o42, .ref o44, .int v46, .ref o47])), (o6, .inl (cI, 12, .inl fw7)), (o26, .inl (cI, 49152, .inl f5934))]) := hD
            refine lv_icmp_gt (tgt := 156) hx hb dX12_setThen_33 (by decide) (fun h5937 => ?_) (fun h5937 => ?_)
            ·
              have qh5937 := lt_i h5937
              rw [hQ]
              exact W.vret hx hb hr (fun t ht hW => ⟨⟨f5934, rfl, f5934_b, by rw [ht]; exact hP, va_K.moved hW.alike hK, hD⟩, hS.F ht⟩) hS.2.2 dX12_setThen_156
            ·
              have qh5937 := nlt_i h5937
              have j5938 : Iv 1 4095 x5933 := r_lel qh5937 x5933_h x5935_h (by decide)
              have j5939 : Iv 1 4095 x5935 := r_ler qh5937 x5933_h x5935_h (by decide)
              refine lv_iconst (v := 0) hx hb dX12_setThen_36 (by decide) ?_
              refine lv_istore_n (lv' := [(2, .int 0), (1, .int x5933), (0, .ref o1)]) hx hb dX12_setThen_37 rfl hl (by decide) rfl (fun ls hl => ?_)
              have L45 : ∀ (N : Nat) (x5950 : Int32) (H : Heap) (locs : List Loc) (ls : Array Slot), (12 - x5950.toInt).toNat < N → Iv 0 12 x5950 → (∀ i, i < (Int32.toNatClampNeg x5950) → bt x5933 i = false) → va_P (dC, dI) vwCl ([(o1, .inr (12, [.int v2, .ref o3, .int v5, .ref o6, .int v8, .ref o9, .ref o11, .int v13, .ref o14, .int v16, .ref o17, .int v19, .int v20, .int v21, .ref o22, .ref o24, .ref o26, .ref o28, .ref o30, .int v32, .ref o33, .ref o35, .ref o37, .int v39, .ref o40, .ref o42, .ref o44, .int v46, .ref o47])), (o6, .inl (cI, 12, .inl fw7)), (o26, .inl (cI, 49152, .inl f5934))]) H → va_D A ([(o1, .inr (12, [.int v2, .ref o3, .int v5, .ref o6, .int v8, .ref o9, .ref o11, .int v13, .ref o14, .int v16, .ref o17, .int v19, .int v20, .int v21, .ref o22, .ref o24, .ref o26, .ref o28, .ref o30, .int v32, .ref o33, .ref o35, .ref o37, .int v39, .ref o40, .ref o42, .ref o44, .int v46, .ref o47])), (o6, .inl (cI, 12, .inl fw7)), (o26, .inl (cI, 49152, .inl f5934))]) → va_S A s.heap H locs → lv_has ls 7 [(2, .int x5950), (1, .int x5933), (0, .ref o1)] → W p l e ({ frames := 1, cells := 0, slots := 0, locals := 21 }) s m ([.ref o1] : List Value).toArray below meth c H locs 0 0 Q (F0 m 38 ls []) := by
                intro N
                induction N with
                | zero =>
                  intro x5950 H locs ls hM
                  exact absurd hM (Nat.not_lt_zero _)
                | succ N ih45 =>
                  intro x5950 H locs ls hM45 x5950_h iv45_0 hP hD hS hl
                  refine lv_iload_n hx hb dX12_setThen_38 rfl (lv_at hl 1 rfl) ?_
                  refine lv_iload_n hx hb dX12_setThen_39 rfl (lv_at hl 0 rfl) ?_
                  refine kc_i (D := (dC, dI)) (S := Unit) (wc := []) (wr := [(o1, .inr (12, [.int v2, .ref o3, .int v5, .ref o6, .int v8, .ref o9, .ref o11, .int v13, .ref o14, .int v16, .ref o17, .int v19, .int v20, .int v21, .ref o22, .ref o24, .ref o26, .ref o28, .ref o30, .int v32, .ref o33, .ref o35, .ref o37, .int v39, .ref o40, .ref o42, .ref o44, .int v46, .ref o47])), (o6, .inl (cI, 12, .inl fw7)), (o26, .inl (cI, 49152, .inl f5934))]) (w1 := fun _ => []) (wn := fun _ => [(o1, .inr (12, [.int v2, .ref o3, .int v5, .ref o6, .int v8, .ref o9, .ref o11, .int v13, .ref o14, .int v16, .ref o17, .int v19, .int v20, .int v21, .ref o22, .ref o24, .ref o26, .ref o28, .ref o30, .int v32, .ref o33, .ref o35, .ref o37, .int v39, .ref o40, .ref o42, .ref o44, .int v46, .ref o47])), (o6, .inl (cI, 12, .inl fw7)), (o26, .inl (cI, 49152, .inl f5934))]) (fun hPc hDc => va_runS (As := [.int x5933, .int x5950]) (rest := []) ⟨hx, hb, hml, hown, hts⟩ (kX12_has_1 l dC dI cI c2 cZ x5933 x5950 H.size x5950_h) (va_cwS 2 hts gX12_setThen_X12_has rfl rfl rfl (by decide +kernel) ⟨Nat.le_of_ble_eq_true rfl, Nat.le_of_ble_eq_true rfl⟩) (pre_S hPc hK hDc hN) rfl rfl hl.1 rfl (lv_room (Nat.le_of_ble_eq_true rfl)) dX12_setThen_40 ⟨Nat.le_of_ble_eq_true rfl, Nat.le_of_ble_eq_true rfl⟩) hP hD hS hA [] [0, 1, 2] [0, 1, 2] rfl rfl (by decide +kernel) (by decide +kernel) (by decide +kernel) (by decide +kernel) (fun _ => rfl) (fun x5951 _ H locs hq hP hD hS => ?_)
                  obtain ⟨x5951_h, e5952⟩ := hq
                  have hP : va_P (dC, dI) vwCl ([(o1, .inr (12, [.int v2, .ref o3, .int v5, .ref o6, .int v8, .ref o9, .ref o11, .int v13, .ref o14, .int v16, .ref o17, .int v19, .int v20, .int v21, .ref o22, .ref o24, .ref o26, .ref o28, .ref o30, .int v32, .ref o33, .ref o35, .ref o37, .int v39, .ref o40, .ref o42, .ref o44, .int v46, .ref o47])), (o6, .inl (cI, 12, .inl fw7)), (o26, .inl (cI, 49152, .inl f5934))]) H := hP
                  have hD : va_D A ([(o1, .inr (12, [.int v2, .ref o3, .int v5, .ref o6, .int v8, .ref o9, .ref o11, .int v13, .ref o14, .int v16, .ref o17, .int v19, .int v20, .int v21, .ref o22, .ref o24, .ref o26, .ref o28, .ref o30, .int v32, .ref o33, .ref o35, .ref o37, .int v39, .ref o40, .ref o42, .ref o44, .int v46, .ref o47])), (o6, .inl (cI, 12, .inl fw7)), (o26, .inl (cI, 49152, .inl f5934))]) := hD
                  refine lv_if_ne (tgt := 52) hx hb dX12_setThen_43 (by decide) (fun h5953 => ?_) (fun h5953 => ?_)
                  ·
                    have j5954 : Iv 1 1 x5951 := r_nelo h5953 x5951_h ik_0 (by decide)
                    have b5955 : bt x5933 (Int32.toNatClampNeg x5950) = true := has_t e5952 h5953
                    have j5956 : Iv 0 11 x5950 := th_in b5955 j5938 x5950_h
                    refine lv_iload_n hx hb dX12_setThen_52 rfl (lv_at hl 1 rfl) ?_
                    refine lv_iconst (v := 1) hx hb dX12_setThen_53 (by decide) ?_
                    refine lv_iload_n hx hb dX12_setThen_54 rfl (lv_at hl 0 rfl) ?_
                    refine lv_ishl hx hb dX12_setThen_55 (lv_topi (fun x5957 x5957_e => ?_))
                    have x5957_h : Iv 1 2048 x5957 := iv_e x5957_e (iv_shl1 j5956 (by decide))
                    refine lv_iconst (v := (-1)) hx hb dX12_setThen_56 (by decide) ?_
                    refine lv_ixor hx hb dX12_setThen_57 (lv_topi (fun x5958 x5958_e => ?_))
                    refine lv_iand hx hb dX12_setThen_58 (lv_topi (fun x5959 x5959_e => ?_))
                    have x5959_h : Iv 0 4095 x5959 := iv_e x5959_e (iv_andL _ j5938 (by decide))
                    refine lv_istore_n (lv' := [(3, .int x5959), (2, .int x5950), (1, .int x5933), (0, .ref o1)]) hx hb dX12_setThen_59 rfl hl (by decide) rfl (fun ls hl => ?_)
                    refine lv_aload_n hx hb dX12_setThen_60 rfl (lv_at hl 3 rfl) ?_
                    refine va_get (D := (dC, dI)) (ci := 12) (v := .ref o26) (C := RX12) (T := TX12) (N := 29) hx hb hts iw_X12_setThen_X12 hown hK hP 0 rfl rfl 16 (by decide) (hts (.fieldLink RX12 39 "HolelessHouseModel" "nearThen" "[I") hm_X12_setThen_1) (fun _ h9 => h9) rfl dX12_setThen_61 ?_
                    refine lv_bipush (v := 12) hx hb dX12_setThen_64 (by decide) ?_
                    refine lv_iload_n hx hb dX12_setThen_66 rfl (lv_at hl 0 rfl) ?_
                    refine lv_imul hx hb dX12_setThen_67 (lv_topi (fun x5960 x5960_e => ?_))
                    have x5960_h : Iv 0 49140 x5960 := iv_e x5960_e (iv_mul ik_12 x5959_h (by decide))
                    refine lv_iload_n hx hb dX12_setThen_68 rfl (lv_at hl 1 rfl) ?_
                    refine lv_iadd hx hb dX12_setThen_69 (lv_topi (fun x5961 x5961_e => ?_))
                    have x5961_h : Iv 0 49151 x5961 := iv_e x5961_e (iv_add x5960_h j5956 (by decide))
                    refine va_iald hx hb hK hP 2 0 rfl rfl (vin_iv x5961_h (by decide)) dX12_setThen_70 (lv_topi (fun x5962 x5962_e => ?_))
                    have x5962_h : Iv 0 4095 x5962 := iv_e x5962_e (bd_at f5934_b (vin_iv x5961_h (by decide)))
                    refine lv_istore (lv' := [(4, .int x5962), (3, .int x5959), (2, .int x5950), (1, .int x5933), (0, .ref o1)]) hx hb dX12_setThen_71 hl (by decide) rfl (fun ls hl => ?_)
                    refine lv_iconst (v := 0) hx hb dX12_setThen_73 (by decide) ?_
                    refine lv_istore (lv' := [(5, .int 0), (4, .int x5962), (3, .int x5959), (2, .int x5950), (1, .int x5933), (0, .ref o1)]) hx hb dX12_setThen_74 hl (by decide) rfl (fun ls hl => ?_)
                    have L46 : ∀ (N : Nat) (x6181 : Int32) (f6182 : Nat → Int32) (H : Heap) (locs : List Loc) (ls : Array Slot), (12 - x6181.toInt).toNat < N → Iv 0 12 x6181 → Bd 49152 0 4095 f6182 → va_P (dC, dI) vwCl ([(o1, .inr (12, [.int v2, .ref o3, .int v5, .ref o6, .int v8, .ref o9, .ref o11, .int v13, .ref o14, .int v16, .ref o17, .int v19, .int v20, .int v21, .ref o22, .ref o24, .ref o26, .ref o28, .ref o30, .int v32, .ref o33, .ref o35, .ref o37, .int v39, .ref o40, .ref o42, .ref o44, .int v46, .ref o47])), (o6, .inl (cI, 12, .inl fw7)), (o26, .inl (cI, 49152, .inl f6182))]) H → va_D A ([(o1, .inr (12, [.int v2, .ref o3, .int v5, .ref o6, .int v8, .ref o9, .ref o11, .int v13, .ref o14, .int v16, .ref o17, .int v19, .int v20, .int v21, .ref o22, .ref o24, .ref o26, .ref o28, .ref o30, .int v32, .ref o33, .ref o35, .ref o37, .int v39, .ref o40, .ref o42, .ref o44, .int v46, .ref o47])), (o6, .inl (cI, 12, .inl fw7)), (o26, .inl (cI, 49152, .inl f6182))]) → va_S A s.heap H locs → lv_has ls 7 [(5, .int x6181), (4, .int x5962), (3, .int x5959), (2, .int x5950), (1, .int x5933), (0, .ref o1)] → W p l e ({ frames := 1, cells := 0, slots := 0, locals := 21 }) s m ([.ref o1] : List Value).toArray below meth c H locs 0 0 Q (F0 m 76 ls []) := by
                      intro N
                      induction N with
                      | zero =>
                        intro x6181 f6182 H locs ls hM
                        exact absurd hM (Nat.not_lt_zero _)
                      | succ N ih46 =>
                        intro x6181 f6182 H locs ls hM46 x6181_h f6182_b hP hD hS hl
                        refine lv_iload hx hb dX12_setThen_76 (lv_at hl 0 rfl) ?_
                        refine lv_aload_n hx hb dX12_setThen_78 rfl (lv_at hl 5 rfl) ?_
                        refine va_get (D := (dC, dI)) (ci := 12) (v := .int v5) (C := RX12) (T := TX12) (N := 29) hx hb hts iw_X12_setThen_X12 hown hK hP 0 rfl rfl 2 (by decide) (hts (.fieldLink RX12 73 "HolelessHouseModel" "n" "I") hm_X12_setThen_3) (fun _ h9 => h9) rfl dX12_setThen_79 ?_
                        refine lv_icmp_ge (tgt := 150) hx hb dX12_setThen_82 (by decide) (fun h6183 => ?_) (fun h6183 => ?_)
                        ·
                          have qh6183 := le_i h6183
                          obtain ⟨x6184, x6184_e⟩ : ∃ z : Int32, z = x5933 + 1 := ⟨_, rfl⟩
                          have x6184_h : Iv 2 4096 x6184 := iv_e x6184_e (iv_add j5938 ik_1 (by decide))
                          refine lv_iinc (v := x6184) (lv' := [(1, .int x6184), (5, .int x6181), (4, .int x5962), (3, .int x5959), (2, .int x5950), (0, .ref o1)]) hx hb dX12_setThen_150 hl (k := 4) rfl (incN (by decide +kernel) x6184_e) (by decide) rfl (fun ls hl => ?_)
                          refine lv_goto (tgt := 28) hx hb dX12_setThen_153 (by decide) ?_
                          exact ih44 x6184 f6182 _ _ _ (ms_up x6184_e j5938 (by decide) hM44) (iv_w x6184_h (by decide)) f6182_b hP hD hS (lv_sub hl [0, 5] rfl)
                        ·
                          have qh6183 := nle_i h6183
                          have j6185 : Iv 0 11 x6181 := r_ltl qh6183 x6181_h v5_h (by decide)
                          have j6186 : Iv 1 12 v5 := r_ltr qh6183 x6181_h v5_h (by decide)
                          refine lv_aload_n hx hb dX12_setThen_85 rfl (lv_at hl 5 rfl) ?_
                          refine va_get (D := (dC, dI)) (ci := 12) (v := .ref o26) (C := RX12) (T := TX12) (N := 29) hx hb hts iw_X12_setThen_X12 hown hK hP 0 rfl rfl 16 (by decide) (hts (.fieldLink RX12 39 "HolelessHouseModel" "nearThen" "[I") hm_X12_setThen_1) (fun _ h9 => h9) rfl dX12_setThen_86 ?_
                          refine lv_bipush (v := 12) hx hb dX12_setThen_89 (by decide) ?_
                          refine lv_iload_n hx hb dX12_setThen_91 rfl (lv_at hl 2 rfl) ?_
                          refine lv_imul hx hb dX12_setThen_92 (lv_topi (fun x6187 x6187_e => ?_))
                          have x6187_h : Iv 0 49140 x6187 := iv_e x6187_e (iv_mul ik_12 x5959_h (by decide))
                          refine lv_iload hx hb dX12_setThen_93 (lv_at hl 0 rfl) ?_
                          refine lv_iadd hx hb dX12_setThen_95 (lv_topi (fun x6188 x6188_e => ?_))
                          have x6188_h : Iv 0 49151 x6188 := iv_e x6188_e (iv_add x6187_h j6185 (by decide))
                          refine va_iald hx hb hK hP 2 0 rfl rfl (vin_iv x6188_h (by decide)) dX12_setThen_96 (lv_topi (fun x6189 x6189_e => ?_))
                          have x6189_h : Iv 0 4095 x6189 := iv_e x6189_e (bd_at f6182_b (vin_iv x6188_h (by decide)))
                          refine lv_istore (lv' := [(6, .int x6189), (5, .int x6181), (4, .int x5962), (3, .int x5959), (2, .int x5950), (1, .int x5933), (0, .ref o1)]) hx hb dX12_setThen_97 hl (by decide) rfl (fun ls hl => ?_)
                          refine lv_aload_n hx hb dX12_setThen_99 rfl (lv_at hl 6 rfl) ?_
                          refine va_get (D := (dC, dI)) (ci := 12) (v := .ref o26) (C := RX12) (T := TX12) (N := 29) hx hb hts iw_X12_setThen_X12 hown hK hP 0 rfl rfl 16 (by decide) (hts (.fieldLink RX12 39 "HolelessHouseModel" "nearThen" "[I") hm_X12_setThen_1) (fun _ h9 => h9) rfl dX12_setThen_100 ?_
                          refine lv_bipush (v := 12) hx hb dX12_setThen_103 (by decide) ?_
                          refine lv_iload_n hx hb dX12_setThen_105 rfl (lv_at hl 5 rfl) ?_
                          refine lv_imul hx hb dX12_setThen_106 (lv_topi (fun x6190 x6190_e => ?_))
                          have x6190_h : Iv 0 49140 x6190 := iv_e x6190_e (iv_mul ik_12 j5938 (by decide))
                          refine lv_iload hx hb dX12_setThen_107 (lv_at hl 1 rfl) ?_
                          refine lv_iadd hx hb dX12_setThen_109 (lv_topi (fun x6191 x6191_e => ?_))
                          have x6191_h : Iv 0 49151 x6191 := iv_e x6191_e (iv_add x6190_h j6185 (by decide))
                          refine lv_iload hx hb dX12_setThen_110 (lv_at hl 2 rfl) ?_
                          refine lv_iload hx hb dX12_setThen_112 (lv_at hl 1 rfl) ?_
                          refine kc_i (D := (dC, dI)) (S := Unit) (wc := []) (wr := [(o1, .inr (12, [.int v2, .ref o3, .int v5, .ref o6, .int v8, .ref o9, .ref o11, .int v13, .ref o14, .int v16, .ref o17, .int v19, .int v20, .int v21, .ref o22, .ref o24, .ref o26, .ref o28, .ref o30, .int v32, .ref o33, .ref o35, .ref o37, .int v39, .ref o40, .ref o42, .ref o44, .int v46, .ref o47])), (o6, .inl (cI, 12, .inl fw7)), (o26, .inl (cI, 49152, .inl f6182))]) (w1 := fun _ => []) (wn := fun _ => [(o1, .inr (12, [.int v2, .ref o3, .int v5, .ref o6, .int v8, .ref o9, .ref o11, .int v13, .ref o14, .int v16, .ref o17, .int v19, .int v20, .int v21, .ref o22, .ref o24, .ref o26, .ref o28, .ref o30, .int v32, .ref o33, .ref o35, .ref o37, .int v39, .ref o40, .ref o42, .ref o44, .int v46, .ref o47])), (o6, .inl (cI, 12, .inl fw7)), (o26, .inl (cI, 49152, .inl f6182))]) (fun hPc hDc => va_runS (As := [.int x5962, .int x6181]) (rest := [.int x6191, .ref o26]) ⟨hx, hb, hml, hown, hts⟩ (kX12_has_1 l dC dI cI c2 cZ x5962 x6181 H.size (iv_w j6185 (by decide))) (va_cwS 2 hts gX12_setThen_X12_has rfl rfl rfl (by decide +kernel) ⟨Nat.le_of_ble_eq_true rfl, Nat.le_of_ble_eq_true rfl⟩) (pre_S hPc hK hDc hN) rfl rfl hl.1 rfl (lv_room (Nat.le_of_ble_eq_true rfl)) dX12_setThen_114 ⟨Nat.le_of_ble_eq_true rfl, Nat.le_of_ble_eq_true rfl⟩) hP hD hS hA [] [0, 1, 2] [0, 1, 2] rfl rfl (by decide +kernel) (by decide +kernel) (by decide +kernel) (by decide +kernel) (fun _ => rfl) (fun x6192 _ H locs hq hP hD hS => ?_)
                          obtain ⟨x6192_h, e6193⟩ := hq
                          have hP : va_P (dC, dI) vwCl ([(o1, .inr (12, [.int v2, .ref o3, .int v5, .ref o6, .int v8, .ref o9, .ref o11, .int v13, .ref o14, .int v16, .ref o17, .int v19, .int v20, .int v21, .ref o22, .ref o24, .ref o26, .ref o28, .ref o30, .int v32, .ref o33, .ref o35, .ref o37, .int v39, .ref o40, .ref o42, .ref o44, .int v46, .ref o47])), (o6, .inl (cI, 12, .inl fw7)), (o26, .inl (cI, 49152, .inl f6182))]) H := hP
                          have hD : va_D A ([(o1, .inr (12, [.int v2, .ref o3, .int v5, .ref o6, .int v8, .ref o9, .ref o11, .int v13, .ref o14, .int v16, .ref o17, .int v19, .int v20, .int v21, .ref o22, .ref o24, .ref o26, .ref o28, .ref o30, .int v32, .ref o33, .ref o35, .ref o37, .int v39, .ref o40, .ref o42, .ref o44, .int v46, .ref o47])), (o6, .inl (cI, 12, .inl fw7)), (o26, .inl (cI, 49152, .inl f6182))]) := hD
                          refine lv_if_eq (tgt := 141) hx hb dX12_setThen_117 (by decide) (fun h6194 => ?_) (fun h6194 => ?_)
                          ·
                            have j6195 : Iv 0 0 x6192 := r_eq h6194 ik_0
                            have b6196 : bt x5962 (Int32.toNatClampNeg x6181) = false := has_f e6193 h6194
                            refine lv_iload hx hb dX12_setThen_141 (lv_at hl 0 rfl) ?_
                            refine k_iast hx hb hK hP hD hS 2 0 rfl rfl (vin_iv x6191_h (by decide)) dX12_setThen_143 (fun f6197 H locs f6197_e hP hD hS => ?_)
                            have f6197_b : Bd 49152 0 4095 f6197 := bd_upd f6197_e f6182_b x6189_h (by decide)
                            have hP : va_P (dC, dI) vwCl ([(o1, .inr (12, [.int v2, .ref o3, .int v5, .ref o6, .int v8, .ref o9, .ref o11, .int v13, .ref o14, .int v16, .ref o17, .int v19, .int v20, .int v21, .ref o22, .ref o24, .ref o26, .ref o28, .ref o30, .int v32, .ref o33, .ref o35, .ref o37, .int v39, .ref o40, .ref o42, .ref o44, .int v46, .ref o47])), (o6, .inl (cI, 12, .inl fw7)), (o26, .inl (cI, 49152, .inl f6197))]) H := hP
                            have hD : va_D A ([(o1, .inr (12, [.int v2, .ref o3, .int v5, .ref o6, .int v8, .ref o9, .ref o11, .int v13, .ref o14, .int v16, .ref o17, .int v19, .int v20, .int v21, .ref o22, .ref o24, .ref o26, .ref o28, .ref o30, .int v32, .ref o33, .ref o35, .ref o37, .int v39, .ref o40, .ref o42, .ref o44, .int v46, .ref o47])), (o6, .inl (cI, 12, .inl fw7)), (o26, .inl (cI, 49152, .inl f6197))]) := hD
                            obtain ⟨x6198, x6198_e⟩ : ∃ z : Int32, z = x6181 + 1 := ⟨_, rfl⟩
                            have x6198_h : Iv 1 12 x6198 := iv_e x6198_e (iv_add j6185 ik_1 (by decide))
                            refine lv_iinc (v := x6198) (lv' := [(5, .int x6198), (6, .int x6189), (4, .int x5962), (3, .int x5959), (2, .int x5950), (1, .int x5933), (0, .ref o1)]) hx hb dX12_setThen_144 hl (k := 1) rfl (incN (by decide +kernel) x6198_e) (by decide) rfl (fun ls hl => ?_)
                            refine lv_goto (tgt := 76) hx hb dX12_setThen_147 (by decide) ?_
                            exact ih46 x6198 f6197 _ _ _ (ms_up x6198_e j6185 (by decide) hM46) (iv_w x6198_h (by decide)) f6197_b hP hD hS (lv_sub hl [0, 2, 3, 4, 5, 6] rfl)
                          ·
                            have j6199 : Iv 1 1 x6192 := r_nelo h6194 x6192_h ik_0 (by decide)
                            have b6200 : bt x5962 (Int32.toNatClampNeg x6181) = true := has_t e6193 h6194
                            refine lv_iload hx hb dX12_setThen_120 (lv_at hl 0 rfl) ?_
                            refine lv_iload hx hb dX12_setThen_122 (lv_at hl 2 rfl) ?_
                            refine lv_ior hx hb dX12_setThen_124 (lv_topi (fun x6201 x6201_e => ?_))
                            have x6201_h : Iv 0 4095 x6201 := iv_e x6201_e (iv_or 12 x6189_h x5962_h (by decide))
                            refine lv_iconst (v := 1) hx hb dX12_setThen_125 (by decide) ?_
                            refine lv_iload hx hb dX12_setThen_126 (lv_at hl 1 rfl) ?_
                            refine lv_ishl hx hb dX12_setThen_128 (lv_topi (fun x6202 x6202_e => ?_))
                            have x6202_h : Iv 1 2048 x6202 := iv_e x6202_e (iv_shl1 j6185 (by decide))
                            refine lv_iconst (v := (-1)) hx hb dX12_setThen_129 (by decide) ?_
                            refine lv_ixor hx hb dX12_setThen_130 (lv_topi (fun x6203 x6203_e => ?_))
                            refine lv_iand hx hb dX12_setThen_131 (lv_topi (fun x6204 x6204_e => ?_))
                            have x6204_h : Iv 0 4095 x6204 := iv_e x6204_e (iv_andL _ x6201_h (by decide))
                            refine lv_iconst (v := 1) hx hb dX12_setThen_132 (by decide) ?_
                            refine lv_iload_n hx hb dX12_setThen_133 rfl (lv_at hl 4 rfl) ?_
                            refine lv_ishl hx hb dX12_setThen_134 (lv_topi (fun x6205 x6205_e => ?_))
                            have x6205_h : Iv 1 2048 x6205 := iv_e x6205_e (iv_shl1 j5956 (by decide))
                            refine lv_iconst (v := (-1)) hx hb dX12_setThen_135 (by decide) ?_
                            refine lv_ixor hx hb dX12_setThen_136 (lv_topi (fun x6206 x6206_e => ?_))
                            refine lv_iand hx hb dX12_setThen_137 (lv_topi (fun x6207 x6207_e => ?_))
                            have x6207_h : Iv 0 4095 x6207 := iv_e x6207_e (iv_andL _ x6204_h (by decide))
                            refine lv_goto (tgt := 143) hx hb dX12_setThen_138 (by decide) ?_
                            refine k_iast hx hb hK hP hD hS 2 0 rfl rfl (vin_iv x6191_h (by decide)) dX12_setThen_143 (fun f6208 H locs f6208_e hP hD hS => ?_)
                            have f6208_b : Bd 49152 0 4095 f6208 := bd_upd f6208_e f6182_b x6207_h (by decide)
                            have hP : va_P (dC, dI) vwCl ([(o1, .inr (12, [.int v2, .ref o3, .int v5, .ref o6, .int v8, .ref o9, .ref o11, .int v13, .ref o14, .int v16, .ref o17, .int v19, .int v20, .int v21, .ref o22, .ref o24, .ref o26, .ref o28, .ref o30, .int v32, .ref o33, .ref o35, .ref o37, .int v39, .ref o40, .ref o42, .ref o44, .int v46, .ref o47])), (o6, .inl (cI, 12, .inl fw7)), (o26, .inl (cI, 49152, .inl f6208))]) H := hP
                            have hD : va_D A ([(o1, .inr (12, [.int v2, .ref o3, .int v5, .ref o6, .int v8, .ref o9, .ref o11, .int v13, .ref o14, .int v16, .ref o17, .int v19, .int v20, .int v21, .ref o22, .ref o24, .ref o26, .ref o28, .ref o30, .int v32, .ref o33, .ref o35, .ref o37, .int v39, .ref o40, .ref o42, .ref o44, .int v46, .ref o47])), (o6, .inl (cI, 12, .inl fw7)), (o26, .inl (cI, 49152, .inl f6208))]) := hD
                            obtain ⟨x6209, x6209_e⟩ : ∃ z : Int32, z = x6181 + 1 := ⟨_, rfl⟩
                            have x6209_h : Iv 1 12 x6209 := iv_e x6209_e (iv_add j6185 ik_1 (by decide))
                            refine lv_iinc (v := x6209) (lv' := [(5, .int x6209), (6, .int x6189), (4, .int x5962), (3, .int x5959), (2, .int x5950), (1, .int x5933), (0, .ref o1)]) hx hb dX12_setThen_144 hl (k := 1) rfl (incN (by decide +kernel) x6209_e) (by decide) rfl (fun ls hl => ?_)
                            refine lv_goto (tgt := 76) hx hb dX12_setThen_147 (by decide) ?_
                            exact ih46 x6209 f6208 _ _ _ (ms_up x6209_e j6185 (by decide) hM46) (iv_w x6209_h (by decide)) f6208_b hP hD hS (lv_sub hl [0, 2, 3, 4, 5, 6] rfl)
                    exact L46 _ 0 f5934 _ _ _ (Nat.lt_succ_self _) (iv_w ik_0 (by decide)) f5934_b hP hD hS hl
                  ·
                    have j6210 : Iv 0 0 x5951 := r_eq h5953 ik_0
                    have b6211 : bt x5933 (Int32.toNatClampNeg x5950) = false := has_f e5952 h5953
                    have j6212 : Iv 0 11 x5950 := th_up iv45_0 j5938 x5950_h
                    obtain ⟨x6213, x6213_e⟩ : ∃ z : Int32, z = x5950 + 1 := ⟨_, rfl⟩
                    have x6213_h : Iv 1 12 x6213 := iv_e x6213_e (iv_add j6212 ik_1 (by decide))
                    refine lv_iinc (v := x6213) (lv' := [(2, .int x6213), (1, .int x5933), (0, .ref o1)]) hx hb dX12_setThen_46 hl (k := 0) rfl (incN (by decide +kernel) x6213_e) (by decide) rfl (fun ls hl => ?_)
                    refine lv_goto (tgt := 38) hx hb dX12_setThen_49 (by decide) ?_
                    exact ih45 x6213 _ _ _ (ms_up x6213_e j6212 (by decide) hM45) (iv_w x6213_h (by decide)) (lo_s iv45_0 (iv_w (c := 0) (d := 4095) j6212 (by decide)) x6213_e b6211) hP hD hS hl
              exact L45 _ 0 _ _ _ (Nat.lt_succ_self _) (iv_w ik_0 (by decide)) lo_0 hP hD hS hl
        exact L44 _ 1 f42 _ _ _ (Nat.lt_succ_self _) (iv_w ik_1 (by decide)) f42_b hP hD hS hl
      ·
        have qh43 := nle_i h43
        have j6214 : Iv 0 11 x41 := r_ltl qh43 x41_h ik_12 (by decide)
        refine lv_aload_n hx hb dX12_setThen_8 rfl (lv_at hl 1 rfl) ?_
        refine va_get (D := (dC, dI)) (ci := 12) (v := .ref o26) (C := RX12) (T := TX12) (N := 29) hx hb hts iw_X12_setThen_X12 hown hK hP 0 rfl rfl 16 (by decide) (hts (.fieldLink RX12 39 "HolelessHouseModel" "nearThen" "[I") hm_X12_setThen_1) (fun _ h9 => h9) rfl dX12_setThen_9 ?_
        refine lv_iload_n hx hb dX12_setThen_12 rfl (lv_at hl 0 rfl) ?_
        refine lv_aload_n hx hb dX12_setThen_13 rfl (lv_at hl 1 rfl) ?_
        refine va_get (D := (dC, dI)) (ci := 12) (v := .ref o6) (C := RX12) (T := TX12) (N := 29) hx hb hts iw_X12_setThen_X12 hown hK hP 0 rfl rfl 3 (by decide) (hts (.fieldLink RX12 13 "HolelessHouseModel" "near" "[I") hm_X12_setThen_2) (fun _ h9 => h9) rfl dX12_setThen_14 ?_
        refine lv_iload_n hx hb dX12_setThen_17 rfl (lv_at hl 0 rfl) ?_
        refine va_iald hx hb hK hP 1 0 rfl rfl (vin_iv j6214 (by decide)) dX12_setThen_18 (lv_topi (fun x6215 x6215_e => ?_))
        have x6215_h : Iv 0 4095 x6215 := iv_e x6215_e (bd_at fw7_b (vin_iv j6214 (by decide)))
        refine k_iast hx hb hK hP hD hS 2 0 rfl rfl (vin_iv j6214 (by decide)) dX12_setThen_19 (fun f6216 H locs f6216_e hP hD hS => ?_)
        have f6216_b : Bd 49152 0 4095 f6216 := bd_upd f6216_e f42_b x6215_h (by decide)
        have hP : va_P (dC, dI) vwCl ([(o1, .inr (12, [.int v2, .ref o3, .int v5, .ref o6, .int v8, .ref o9, .ref o11, .int v13, .ref o14, .int v16, .ref o17, .int v19, .int v20, .int v21, .ref o22, .ref o24, .ref o26, .ref o28, .ref o30, .int v32, .ref o33, .ref o35, .ref o37, .int v39, .ref o40, .ref o42, .ref o44, .int v46, .ref o47])), (o6, .inl (cI, 12, .inl fw7)), (o26, .inl (cI, 49152, .inl f6216))]) H := hP
        have hD : va_D A ([(o1, .inr (12, [.int v2, .ref o3, .int v5, .ref o6, .int v8, .ref o9, .ref o11, .int v13, .ref o14, .int v16, .ref o17, .int v19, .int v20, .int v21, .ref o22, .ref o24, .ref o26, .ref o28, .ref o30, .int v32, .ref o33, .ref o35, .ref o37, .int v39, .ref o40, .ref o42, .ref o44, .int v46, .ref o47])), (o6, .inl (cI, 12, .inl fw7)), (o26, .inl (cI, 49152, .inl f6216))]) := hD
        obtain ⟨x6217, x6217_e⟩ : ∃ z : Int32, z = x41 + 1 := ⟨_, rfl⟩
        have x6217_h : Iv 1 12 x6217 := iv_e x6217_e (iv_add j6214 ik_1 (by decide))
        refine lv_iinc (v := x6217) (lv' := [(1, .int x6217), (0, .ref o1)]) hx hb dX12_setThen_20 hl (k := 0) rfl (incN (by decide +kernel) x6217_e) (by decide) rfl (fun ls hl => ?_)
        refine lv_goto (tgt := 2) hx hb dX12_setThen_23 (by decide) ?_
        exact ih1 x6217 f6216 _ _ _ (ms_up x6217_e j6214 (by decide) hM1) (iv_w x6217_h (by decide)) f6216_b hP hD hS hl
  exact L1 _ 0 fw27 _ _ _ (Nat.lt_succ_self _) (iv_w ik_0 (by decide)) fw27_b hP hD hS hl
theorem iw_X12_costOf_X12 : ∀ w ∈ wsX120, w ∈ wsX12_costOf := fun _ h => List.mem_cons.mpr (Or.inr (List.mem_append.mpr (Or.inr h)))
set_option maxHeartbeats 4000000 in
set_option maxRecDepth 100000 in
theorem kX12_costOf_1 (l : Launch) (dC : Nat → ClassId) (dI : Nat → Nat → Nat) (cI c2 cZ : ClassId) (o1 : Nat) (o3 : Nat) (o6 : Nat) (o9 : Nat) (o11 : Nat) (o14 : Nat) (o17 : Nat) (o22 : Nat) (o24 : Nat) (o26 : Nat) (o28 : Nat) (o30 : Nat) (o33 : Nat) (o35 : Nat) (o37 : Nat) (o40 : Nat) (o42 : Nat) (o44 : Nat) (o47 : Nat) (v2 : Int32) (v5 : Int32) (v8 : Int32) (v13 : Int32) (v16 : Int32) (v19 : Int32) (v20 : Int32) (v21 : Int32) (fw27 : Nat → Int32) (v32 : Int32) (v39 : Int32) (v46 : Int32) (a1 : Int32) (a2 : Int32) (a3 : Int32) (sz : Nat) (v5_h : Iv 0 12 v5) (v8_h : Iv 0 8 v8) (v13_h : Iv 0 12 v13) (v16_h : Iv 0 12 v16) (v19_h : Iv (-9) 12 v19) (fw27_b : Bd 49152 0 4095 fw27) (v32_h : Iv 0 99 v32) (v39_h : Iv 0 12 v39) (v46_h : Iv 0 12 v46) (a1_h : Iv 0 1 a1) (a2_h : Iv 0 4095 a2) (a3_h : Iv 0 11 a3) : Met l yX12_costOf wsX12_costOf ({ frames := 1, cells := 0, slots := 0, locals := 22 }) (va_Pc [.ref o1, .int a1, .int a2, .int a3] (wPre (dC, dI) [(cI, .int), (c2, .array .int), (cZ, .boolean)] ([(o1, .inr (12, [.int v2, .ref o3, .int v5, .ref o6, .int v8, .ref o9, .ref o11, .int v13, .ref o14, .int v16, .ref o17, .int v19, .int v20, .int v21, .ref o22, .ref o24, .ref o26, .ref o28, .ref o30, .int v32, .ref o33, .ref o35, .ref o37, .int v39, .ref o40, .ref o42, .ref o44, .int v46, .ref o47])), (o26, .inl (cI, 49152, .inl fw27))]) sz)) (va_Qi (fun (r : Int32) (_ : Unit) => Iv (-6) 72 r ∧ r = costF fw27 (Int32.toNatClampNeg v5) a1 a2 a3) (fun _ t => wPost (dC, dI) [(cI, .int), (c2, .array .int), (cZ, .boolean)] (va_A ([(o1, .inr (12, [.int v2, .ref o3, .int v5, .ref o6, .int v8, .ref o9, .ref o11, .int v13, .ref o14, .int v16, .ref o17, .int v19, .int v20, .int v21, .ref o22, .ref o24, .ref o26, .ref o28, .ref o30, .int v32, .ref o33, .ref o35, .ref o37, .int v39, .ref o40, .ref o42, .ref o44, .int v46, .ref o47])), (o26, .inl (cI, 49152, .inl fw27))]) sz) ([(o1, .inr (12, [.int v2, .ref o3, .int v5, .ref o6, .int v8, .ref o9, .ref o11, .int v13, .ref o14, .int v16, .ref o17, .int v19, .int v20, .int v21, .ref o22, .ref o24, .ref o26, .ref o28, .ref o30, .int v32, .ref o33, .ref o35, .ref o37, .int v39, .ref o40, .ref o42, .ref o44, .int v46, .ref o47])), (o26, .inl (cI, 49152, .inl fw27))]) t) (va_A ([(o1, .inr (12, [.int v2, .ref o3, .int v5, .ref o6, .int v8, .ref o9, .ref o11, .int v13, .ref o14, .int v16, .ref o17, .int v19, .int v20, .int v21, .ref o22, .ref o24, .ref o26, .ref o28, .ref o30, .int v32, .ref o33, .ref o35, .ref o37, .int v39, .ref o40, .ref o42, .ref o44, .int v46, .ref o47])), (o26, .inl (cI, 49152, .inl fw27))]) sz)) 0 0 (va_A ([(o1, .inr (12, [.int v2, .ref o3, .int v5, .ref o6, .int v8, .ref o9, .ref o11, .int v13, .ref o14, .int v16, .ref o17, .int v19, .int v20, .int v21, .ref o22, .ref o24, .ref o26, .ref o28, .ref o30, .int v32, .ref o33, .ref o35, .ref o37, .int v39, .ref o40, .ref o42, .ref o44, .int v46, .ref o47])), (o26, .inl (cI, 49152, .inl fw27))]) sz) := by
  refine Met.ofW (cc := cX12_costOf) (maxL := 7) (ret := (some .int)) (by decide) rfl ?_
  intro p e s m args below meth c s₁ B hml hv
  obtain ⟨rfl, hsz, hP, hK, hD0, hN⟩ := hv
  have hx := B.exec
  have hb := B.bytes
  have hr := B.returns
  have hts := atoms_spec (ws := wsX12_costOf) B.pre
  have hown : s.vm.findClass RX12 = some m.cls := findClass_of_methodNamed B.named
  have hlocks := B.notSynchronized
  subst hsz
  have hD := hD0.self (sz := s.heap.size)
  generalize hAe : va_A ([(o1, .inr (12, [.int v2, .ref o3, .int v5, .ref o6, .int v8, .ref o9, .ref o11, .int v13, .ref o14, .int v16, .ref o17, .int v19, .int v20, .int v21, .ref o22, .ref o24, .ref o26, .ref o28, .ref o30, .int v32, .ref o33, .ref o35, .ref o37, .int v39, .ref o40, .ref o42, .ref o44, .int v46, .ref o47])), (o26, .inl (cI, 49152, .inl fw27))]) s.heap.size = A at hD ⊢
  have hA : ∀ q : Nat, s.heap.size ≤ q → A q := fun q h => by rw [← hAe]; exact Or.inr h
  have hS : va_S A s.heap s.heap [] := va_S.rf
  have hP : va_P (dC, dI) vwCl ([(o1, .inr (12, [.int v2, .ref o3, .int v5, .ref o6, .int v8, .ref o9, .ref o11, .int v13, .ref o14, .int v16, .ref o17, .int v19, .int v20, .int v21, .ref o22, .ref o24, .ref o26, .ref o28, .ref o30, .int v32, .ref o33, .ref o35, .ref o37, .int v39, .ref o40, .ref o42, .ref o44, .int v46, .ref o47])), (o26, .inl (cI, 49152, .inl fw27))]) s.heap := hP
  have hl := lv_entry ([.ref o1, .int a1, .int a2, .int a3]) (n := 7) (Nat.le_of_ble_eq_true rfl)
  rw [lg_entry_eq]
  generalize (lg_sl ([.ref o1, .int a1, .int a2, .int a3]) ++ List.replicate (7 - (lg_sl ([.ref o1, .int a1, .int a2, .int a3])).length) Slot.unset).toArray = ls at hl ⊢
  have hl : lv_has ls 7 [(0, .ref o1), (1, .int a1), (2, .int a2), (3, .int a3)] := hl
  refine gen_Q (fun Q hQ => ?_)
  refine lv_aload_n hx hb dX12_costOf_0 rfl (lv_at hl 0 rfl) ?_
  refine va_get (D := (dC, dI)) (ci := 12) (v := .ref o26) (C := RX12) (T := TX12) (N := 29) hx hb hts iw_X12_costOf_X12 hown hK hP 0 rfl rfl 16 (by decide) (hts (.fieldLink RX12 39 "HolelessHouseModel" "nearThen" "[I") hm_X12_costOf_1) (fun _ h9 => h9) rfl dX12_costOf_1 ?_
  refine lv_bipush (v := 12) hx hb dX12_costOf_4 (by decide) ?_
  refine lv_iload_n hx hb dX12_costOf_6 rfl (lv_at hl 2 rfl) ?_
  refine lv_imul hx hb dX12_costOf_7 (lv_topi (fun x1 x1_e => ?_))
  have x1_h : Iv 0 49140 x1 := iv_e x1_e (iv_mul ik_12 a2_h (by decide))
  refine lv_iload_n hx hb dX12_costOf_8 rfl (lv_at hl 3 rfl) ?_
  refine lv_iadd hx hb dX12_costOf_9 (lv_topi (fun x2 x2_e => ?_))
  have x2_h : Iv 0 49151 x2 := iv_e x2_e (iv_add x1_h a3_h (by decide))
  refine va_iald hx hb hK hP 1 0 rfl rfl (vin_iv x2_h (by decide)) dX12_costOf_10 (lv_topi (fun x3 x3_e => ?_))
  have x3_h : Iv 0 4095 x3 := iv_e x3_e (bd_at fw27_b (vin_iv x2_h (by decide)))
  refine lv_istore (lv' := [(4, .int x3), (0, .ref o1), (1, .int a1), (2, .int a2), (3, .int a3)]) hx hb dX12_costOf_11 hl (by decide) rfl (fun ls hl => ?_)
  refine lv_iload_n hx hb dX12_costOf_13 rfl (lv_at hl 2 rfl) ?_
  refine lv_iconst (v := 1) hx hb dX12_costOf_14 (by decide) ?_
  refine lv_icmp_ne (tgt := 24) hx hb dX12_costOf_15 (by decide) (fun h4 => ?_) (fun h4 => ?_)
  ·
    have j5 : Iv 0 0 a1 := r_nehi h4 a1_h ik_1 (by decide)
    refine lv_iconst (v := 0) hx hb dX12_costOf_24 (by decide) ?_
    refine lv_istore (lv' := [(5, .int 0), (4, .int x3), (0, .ref o1), (1, .int a1), (2, .int a2), (3, .int a3)]) hx hb dX12_costOf_25 hl (by decide) rfl (fun ls hl => ?_)
    refine lv_iconst (v := 0) hx hb dX12_costOf_27 (by decide) ?_
    refine lv_istore (lv' := [(6, .int 0), (5, .int 0), (4, .int x3), (0, .ref o1), (1, .int a1), (2, .int a2), (3, .int a3)]) hx hb dX12_costOf_28 hl (by decide) rfl (fun ls hl => ?_)
    have L1 : ∀ (N : Nat) (x195 : Int32) (x196 : Int32) (H : Heap) (locs : List Loc) (ls : Array Slot), (12 - x196.toInt).toNat < N → Iv (-12) 144 x195 → Iv 0 12 x196 → (x195 = cosS fw27 a2 x3 (Int32.toNatClampNeg x196)) → ((-Int32.toInt x196 ≤ Int32.toInt x195 ∧ Int32.toInt x195 ≤ 12 * Int32.toInt x196) ∧ Int32.toInt x196 ≤ Int32.toInt v5) → va_P (dC, dI) vwCl ([(o1, .inr (12, [.int v2, .ref o3, .int v5, .ref o6, .int v8, .ref o9, .ref o11, .int v13, .ref o14, .int v16, .ref o17, .int v19, .int v20, .int v21, .ref o22, .ref o24, .ref o26, .ref o28, .ref o30, .int v32, .ref o33, .ref o35, .ref o37, .int v39, .ref o40, .ref o42, .ref o44, .int v46, .ref o47])), (o26, .inl (cI, 49152, .inl fw27))]) H → va_D A ([(o1, .inr (12, [.int v2, .ref o3, .int v5, .ref o6, .int v8, .ref o9, .ref o11, .int v13, .ref o14, .int v16, .ref o17, .int v19, .int v20, .int v21, .ref o22, .ref o24, .ref o26, .ref o28, .ref o30, .int v32, .ref o33, .ref o35, .ref o37, .int v39, .ref o40, .ref o42, .ref o44, .int v46, .ref o47])), (o26, .inl (cI, 49152, .inl fw27))]) → va_S A s.heap H locs → lv_has ls 7 [(6, .int x196), (5, .int x195), (4, .int x3), (0, .ref o1), (1, .int a1), (2, .int a2), (3, .int a3)] → W p l e ({ frames := 1, cells := 0, slots := 0, locals := 22 }) s m ([.ref o1, .int a1, .int a2, .int a3] : List Value).toArray below meth c H locs 0 0 Q (F0 m 30 ls []) := by
      intro N
      induction N with
      | zero =>
        intro x195 x196 H locs ls hM
        exact absurd hM (Nat.not_lt_zero _)
      | succ N ih1 =>
        intro x195 x196 H locs ls hM1 x195_h x196_h iv1_0 iv1_1 hP hD hS hl
        refine lv_iload hx hb dX12_costOf_30 (lv_at hl 0 rfl) ?_
        refine lv_aload_n hx hb dX12_costOf_32 rfl (lv_at hl 3 rfl) ?_
        refine va_get (D := (dC, dI)) (ci := 12) (v := .int v5) (C := RX12) (T := TX12) (N := 29) hx hb hts iw_X12_costOf_X12 hown hK hP 0 rfl rfl 2 (by decide) (hts (.fieldLink RX12 73 "HolelessHouseModel" "n" "I") hm_X12_costOf_2) (fun _ h9 => h9) rfl dX12_costOf_33 ?_
        refine lv_icmp_ge (tgt := 86) hx hb dX12_costOf_36 (by decide) (fun h197 => ?_) (fun h197 => ?_)
        ·
          have qh197 := le_i h197
          refine lv_iload hx hb dX12_costOf_86 (lv_at hl 1 rfl) ?_
          refine lv_iconst (v := 2) hx hb dX12_costOf_88 (by decide) ?_
          refine lv_idiv hx hb dX12_costOf_89 (by decide +kernel) (lv_topi (fun x198 x198_e => ?_))
          have x198_h : Iv (-6) 72 x198 := iv_e x198_e (iv_div2 x195_h (by decide))
          rw [hQ]
          exact W.iret (v := x198) hx hb hr (fun t ht hW => ⟨⟨x198, (), rfl, ⟨x198_h, (cost_0 h4 x1_e x2_e x3_e iv1_0 qh197 iv1_1.2 x198_e)⟩, by rw [ht]; exact hP, va_K.moved hW.alike hK, hD⟩, hS.F ht⟩) hS.2.2 dX12_costOf_90
        ·
          have qh197 := nle_i h197
          have j199 : Iv 0 11 x196 := r_ltl qh197 x196_h v5_h (by decide)
          have j200 : Iv 1 12 v5 := r_ltr qh197 x196_h v5_h (by decide)
          refine lv_iload hx hb dX12_costOf_39 (lv_at hl 1 rfl) ?_
          refine lv_iload hx hb dX12_costOf_41 (lv_at hl 2 rfl) ?_
          refine lv_iload hx hb dX12_costOf_43 (lv_at hl 0 rfl) ?_
          refine kc_i (D := (dC, dI)) (S := Unit) (wc := []) (wr := [(o1, .inr (12, [.int v2, .ref o3, .int v5, .ref o6, .int v8, .ref o9, .ref o11, .int v13, .ref o14, .int v16, .ref o17, .int v19, .int v20, .int v21, .ref o22, .ref o24, .ref o26, .ref o28, .ref o30, .int v32, .ref o33, .ref o35, .ref o37, .int v39, .ref o40, .ref o42, .ref o44, .int v46, .ref o47])), (o26, .inl (cI, 49152, .inl fw27))]) (w1 := fun _ => []) (wn := fun _ => [(o1, .inr (12, [.int v2, .ref o3, .int v5, .ref o6, .int v8, .ref o9, .ref o11, .int v13, .ref o14, .int v16, .ref o17, .int v19, .int v20, .int v21, .ref o22, .ref o24, .ref o26, .ref o28, .ref o30, .int v32, .ref o33, .ref o35, .ref o37, .int v39, .ref o40, .ref o42, .ref o44, .int v46, .ref o47])), (o26, .inl (cI, 49152, .inl fw27))]) (fun hPc hDc => va_runS (As := [.int x3, .int x196]) (rest := [.int x195]) ⟨hx, hb, hml, hown, hts⟩ (kX12_has_1 l dC dI cI c2 cZ x3 x196 H.size (iv_w j199 (by decide))) (va_cwS 2 hts gX12_costOf_X12_has rfl rfl rfl (by decide +kernel) ⟨Nat.le_of_ble_eq_true rfl, Nat.le_of_ble_eq_true rfl⟩) (pre_S hPc hK hDc hN) rfl rfl hl.1 rfl (lv_room (Nat.le_of_ble_eq_true rfl)) dX12_costOf_45 ⟨Nat.le_of_ble_eq_true rfl, Nat.le_of_ble_eq_true rfl⟩) hP hD hS hA [] [0, 1] [0, 1] rfl rfl (by decide +kernel) (by decide +kernel) (by decide +kernel) (by decide +kernel) (fun _ => rfl) (fun x201 _ H locs hq hP hD hS => ?_)
          obtain ⟨x201_h, e202⟩ := hq
          have hP : va_P (dC, dI) vwCl ([(o1, .inr (12, [.int v2, .ref o3, .int v5, .ref o6, .int v8, .ref o9, .ref o11, .int v13, .ref o14, .int v16, .ref o17, .int v19, .int v20, .int v21, .ref o22, .ref o24, .ref o26, .ref o28, .ref o30, .int v32, .ref o33, .ref o35, .ref o37, .int v39, .ref o40, .ref o42, .ref o44, .int v46, .ref o47])), (o26, .inl (cI, 49152, .inl fw27))]) H := hP
          have hD : va_D A ([(o1, .inr (12, [.int v2, .ref o3, .int v5, .ref o6, .int v8, .ref o9, .ref o11, .int v13, .ref o14, .int v16, .ref o17, .int v19, .int v20, .int v21, .ref o22, .ref o24, .ref o26, .ref o28, .ref o30, .int v32, .ref o33, .ref o35, .ref o37, .int v39, .ref o40, .ref o42, .ref o44, .int v46, .ref o47])), (o26, .inl (cI, 49152, .inl fw27))]) := hD
          refine lv_if_eq (tgt := 76) hx hb dX12_costOf_48 (by decide) (fun h203 => ?_) (fun h203 => ?_)
          ·
            have j204 : Iv 0 0 x201 := r_eq h203 ik_0
            have b205 : bt x3 (Int32.toNatClampNeg x196) = false := has_f e202 h203
            refine lv_iconst (v := 0) hx hb dX12_costOf_76 (by decide) ?_
            refine lv_iadd hx hb dX12_costOf_77 (lv_topi (fun x206 x206_e => ?_))
            have x206_h : Iv (-12) 144 x206 := iv_e x206_e (iv_add x195_h ik_0 (by decide))
            refine lv_istore (lv' := [(5, .int x206), (6, .int x196), (4, .int x3), (0, .ref o1), (1, .int a1), (2, .int a2), (3, .int a3)]) hx hb dX12_costOf_78 hl (by decide) rfl (fun ls hl => ?_)
            obtain ⟨x207, x207_e⟩ : ∃ z : Int32, z = x196 + 1 := ⟨_, rfl⟩
            have x207_h : Iv 1 12 x207 := iv_e x207_e (iv_add j199 ik_1 (by decide))
            refine lv_iinc (v := x207) (lv' := [(6, .int x207), (5, .int x206), (4, .int x3), (0, .ref o1), (1, .int a1), (2, .int a2), (3, .int a3)]) hx hb dX12_costOf_80 hl (k := 1) rfl (incN (by decide +kernel) x207_e) (by decide) rfl (fun ls hl => ?_)
            refine lv_goto (tgt := 30) hx hb dX12_costOf_83 (by decide) ?_
            exact ih1 x206 x207 _ _ _ (ms_up x207_e j199 (by decide) hM1) x206_h (iv_w x207_h (by decide)) (cosS_f iv1_0 (iv_w (c := 0) (d := 4095) j199 (by decide)) x207_e b205 x206_e) (by have a0 := iv1_1; have a1 := tia x207_e j199 ik_1 (by decide); have a2 := qh197; have a3 := (show _ ≤ _ ∧ _ ≤ _ from j200); have a4 := (show _ ≤ _ ∧ _ ≤ _ from j199); have a5 := tia x206_e x195_h ik_0 (by decide); exact ⟨⟨by omega, by omega⟩, by omega⟩) hP hD hS hl
          ·
            have j208 : Iv 1 1 x201 := r_nelo h203 x201_h ik_0 (by decide)
            have b209 : bt x3 (Int32.toNatClampNeg x196) = true := has_t e202 h203
            refine lv_iload hx hb dX12_costOf_51 (lv_at hl 2 rfl) ?_
            refine lv_aload_n hx hb dX12_costOf_53 rfl (lv_at hl 3 rfl) ?_
            refine va_get (D := (dC, dI)) (ci := 12) (v := .ref o26) (C := RX12) (T := TX12) (N := 29) hx hb hts iw_X12_costOf_X12 hown hK hP 0 rfl rfl 16 (by decide) (hts (.fieldLink RX12 39 "HolelessHouseModel" "nearThen" "[I") hm_X12_costOf_1) (fun _ h9 => h9) rfl dX12_costOf_54 ?_
            refine lv_bipush (v := 12) hx hb dX12_costOf_57 (by decide) ?_
            refine lv_iload_n hx hb dX12_costOf_59 rfl (lv_at hl 5 rfl) ?_
            refine lv_imul hx hb dX12_costOf_60 (lv_topi (fun x210 x210_e => ?_))
            have x210_h : Iv 0 49140 x210 := iv_e x210_e (iv_mul ik_12 a2_h (by decide))
            refine lv_iload hx hb dX12_costOf_61 (lv_at hl 0 rfl) ?_
            refine lv_iadd hx hb dX12_costOf_63 (lv_topi (fun x211 x211_e => ?_))
            have x211_h : Iv 0 49151 x211 := iv_e x211_e (iv_add x210_h j199 (by decide))
            refine va_iald hx hb hK hP 1 0 rfl rfl (vin_iv x211_h (by decide)) dX12_costOf_64 (lv_topi (fun x212 x212_e => ?_))
            have x212_h : Iv 0 4095 x212 := iv_e x212_e (bd_at fw27_b (vin_iv x211_h (by decide)))
            refine lv_iconst (v := (-1)) hx hb dX12_costOf_65 (by decide) ?_
            refine lv_ixor hx hb dX12_costOf_66 (lv_topi (fun x213 x213_e => ?_))
            refine lv_iand hx hb dX12_costOf_67 (lv_topi (fun x214 x214_e => ?_))
            have x214_h : Iv 0 4095 x214 := iv_e x214_e (iv_andL _ x3_h (by decide))
            refine kc_i (D := (dC, dI)) (S := Unit) (wc := []) (wr := [(o1, .inr (12, [.int v2, .ref o3, .int v5, .ref o6, .int v8, .ref o9, .ref o11, .int v13, .ref o14, .int v16, .ref o17, .int v19, .int v20, .int v21, .ref o22, .ref o24, .ref o26, .ref o28, .ref o30, .int v32, .ref o33, .ref o35, .ref o37, .int v39, .ref o40, .ref o42, .ref o44, .int v46, .ref o47])), (o26, .inl (cI, 49152, .inl fw27))]) (w1 := fun _ => []) (wn := fun _ => [(o1, .inr (12, [.int v2, .ref o3, .int v5, .ref o6, .int v8, .ref o9, .ref o11, .int v13, .ref o14, .int v16, .ref o17, .int v19, .int v20, .int v21, .ref o22, .ref o24, .ref o26, .ref o28, .ref o30, .int v32, .ref o33, .ref o35, .ref o37, .int v39, .ref o40, .ref o42, .ref o44, .int v46, .ref o47])), (o26, .inl (cI, 49152, .inl fw27))]) (fun hPc hDc => va_runS (As := [.int x214]) (rest := [.int x195]) ⟨hx, hb, hml, hown, hts⟩ (kX12_bits_1 l dC dI cI c2 cZ x214 H.size) (va_cwS 1 hts gX12_costOf_X12_bits rfl rfl rfl (by decide +kernel) ⟨Nat.le_of_ble_eq_true rfl, Nat.le_of_ble_eq_true rfl⟩) (pre_S hPc hK hDc hN) rfl rfl hl.1 rfl (lv_room (Nat.le_of_ble_eq_true rfl)) dX12_costOf_68 ⟨Nat.le_of_ble_eq_true rfl, Nat.le_of_ble_eq_true rfl⟩) hP hD hS hA [] [0, 1] [0, 1] rfl rfl (by decide +kernel) (by decide +kernel) (by decide +kernel) (by decide +kernel) (fun _ => rfl) (fun x215 _ H locs hq hP hD hS => ?_)
            obtain ⟨x215_h, e216⟩ := hq
            have hP : va_P (dC, dI) vwCl ([(o1, .inr (12, [.int v2, .ref o3, .int v5, .ref o6, .int v8, .ref o9, .ref o11, .int v13, .ref o14, .int v16, .ref o17, .int v19, .int v20, .int v21, .ref o22, .ref o24, .ref o26, .ref o28, .ref o30, .int v32, .ref o33, .ref o35, .ref o37, .int v39, .ref o40, .ref o42, .ref o44, .int v46, .ref o47])), (o26, .inl (cI, 49152, .inl fw27))]) H := hP
            have hD : va_D A ([(o1, .inr (12, [.int v2, .ref o3, .int v5, .ref o6, .int v8, .ref o9, .ref o11, .int v13, .ref o14, .int v16, .ref o17, .int v19, .int v20, .int v21, .ref o22, .ref o24, .ref o26, .ref o28, .ref o30, .int v32, .ref o33, .ref o35, .ref o37, .int v39, .ref o40, .ref o42, .ref o44, .int v46, .ref o47])), (o26, .inl (cI, 49152, .inl fw27))]) := hD
            refine lv_iconst (v := 1) hx hb dX12_costOf_71 (by decide) ?_
            refine lv_isub hx hb dX12_costOf_72 (lv_topi (fun x217 x217_e => ?_))
            have x217_h : Iv (-1) 12 x217 := iv_e x217_e (iv_sub x215_h ik_1 (by decide))
            refine lv_goto (tgt := 77) hx hb dX12_costOf_73 (by decide) ?_
            refine lv_iadd hx hb dX12_costOf_77 (lv_topi (fun x218 x218_e => ?_))
            have x218_h : Iv (-13) 156 x218 := iv_e x218_e (iv_add x195_h x217_h (by decide))
            refine lv_istore (lv' := [(5, .int x218), (6, .int x196), (4, .int x3), (0, .ref o1), (1, .int a1), (2, .int a2), (3, .int a3)]) hx hb dX12_costOf_78 hl (by decide) rfl (fun ls hl => ?_)
            obtain ⟨x219, x219_e⟩ : ∃ z : Int32, z = x196 + 1 := ⟨_, rfl⟩
            have x219_h : Iv 1 12 x219 := iv_e x219_e (iv_add j199 ik_1 (by decide))
            refine lv_iinc (v := x219) (lv' := [(6, .int x219), (5, .int x218), (4, .int x3), (0, .ref o1), (1, .int a1), (2, .int a2), (3, .int a3)]) hx hb dX12_costOf_80 hl (k := 1) rfl (incN (by decide +kernel) x219_e) (by decide) rfl (fun ls hl => ?_)
            refine lv_goto (tgt := 30) hx hb dX12_costOf_83 (by decide) ?_
            exact ih1 x218 x219 _ _ _ (ms_up x219_e j199 (by decide) hM1) (by have a0 := iv1_1; have a1 := tia x219_e j199 ik_1 (by decide); have a2 := qh197; have a3 := (show _ ≤ _ ∧ _ ≤ _ from j200); have a4 := (show _ ≤ _ ∧ _ ≤ _ from j199); have a5 := (congrArg Int32.toInt x218_e).trans (ti_addc x195_h x217_h (by decide)); have a6 := (show _ ≤ _ ∧ _ ≤ _ from x217_h); exact ⟨by omega, by omega⟩) (iv_w x219_h (by decide)) (cosS_t iv1_0 (iv_w (c := 0) (d := 4095) j199 (by decide)) x219_e b209 x210_e x211_e x212_e x213_e x214_e e216 x217_e x218_e) (by have a0 := iv1_1; have a1 := tia x219_e j199 ik_1 (by decide); have a2 := qh197; have a3 := (show _ ≤ _ ∧ _ ≤ _ from j200); have a4 := (show _ ≤ _ ∧ _ ≤ _ from j199); have a5 := (congrArg Int32.toInt x218_e).trans (ti_addc x195_h x217_h (by decide)); have a6 := (show _ ≤ _ ∧ _ ≤ _ from x217_h); exact ⟨⟨by omega, by omega⟩, by omega⟩) hP hD hS hl
    exact L1 _ 0 0 _ _ _ (Nat.lt_succ_self _) (iv_w ik_0 (by decide)) (iv_w ik_0 (by decide)) cosS_0 (by have a0 := (show Int32.toInt 0 = 0 by decide +kernel); have a1 := (show _ ≤ _ ∧ _ ≤ _ from v5_h); exact ⟨⟨by omega, by omega⟩, by omega⟩) hP hD hS hl
  ·
    have j220 : Iv 1 1 a1 := r_eq h4 ik_1
    refine lv_iload hx hb dX12_costOf_18 (lv_at hl 0 rfl) ?_
    refine kc_i (D := (dC, dI)) (S := Unit) (wc := []) (wr := [(o1, .inr (12, [.int v2, .ref o3, .int v5, .ref o6, .int v8, .ref o9, .ref o11, .int v13, .ref o14, .int v16, .ref o17, .int v19, .int v20, .int v21, .ref o22, .ref o24, .ref o26, .ref o28, .ref o30, .int v32, .ref o33, .ref o35, .ref o37, .int v39, .ref o40, .ref o42, .ref o44, .int v46, .ref o47])), (o26, .inl (cI, 49152, .inl fw27))]) (w1 := fun _ => []) (wn := fun _ => [(o1, .inr (12, [.int v2, .ref o3, .int v5, .ref o6, .int v8, .ref o9, .ref o11, .int v13, .ref o14, .int v16, .ref o17, .int v19, .int v20, .int v21, .ref o22, .ref o24, .ref o26, .ref o28, .ref o30, .int v32, .ref o33, .ref o35, .ref o37, .int v39, .ref o40, .ref o42, .ref o44, .int v46, .ref o47])), (o26, .inl (cI, 49152, .inl fw27))]) (fun hPc hDc => va_runS (As := [.int x3]) (rest := []) ⟨hx, hb, hml, hown, hts⟩ (kX12_bits_1 l dC dI cI c2 cZ x3 s.heap.size) (va_cwS 1 hts gX12_costOf_X12_bits rfl rfl rfl (by decide +kernel) ⟨Nat.le_of_ble_eq_true rfl, Nat.le_of_ble_eq_true rfl⟩) (pre_S hPc hK hDc hN) rfl rfl hl.1 rfl (lv_room (Nat.le_of_ble_eq_true rfl)) dX12_costOf_20 ⟨Nat.le_of_ble_eq_true rfl, Nat.le_of_ble_eq_true rfl⟩) hP hD hS hA [] [0, 1] [0, 1] rfl rfl (by decide +kernel) (by decide +kernel) (by decide +kernel) (by decide +kernel) (fun _ => rfl) (fun x221 _ H locs hq hP hD hS => ?_)
    obtain ⟨x221_h, e222⟩ := hq
    have hP : va_P (dC, dI) vwCl ([(o1, .inr (12, [.int v2, .ref o3, .int v5, .ref o6, .int v8, .ref o9, .ref o11, .int v13, .ref o14, .int v16, .ref o17, .int v19, .int v20, .int v21, .ref o22, .ref o24, .ref o26, .ref o28, .ref o30, .int v32, .ref o33, .ref o35, .ref o37, .int v39, .ref o40, .ref o42, .ref o44, .int v46, .ref o47])), (o26, .inl (cI, 49152, .inl fw27))]) H := hP
    have hD : va_D A ([(o1, .inr (12, [.int v2, .ref o3, .int v5, .ref o6, .int v8, .ref o9, .ref o11, .int v13, .ref o14, .int v16, .ref o17, .int v19, .int v20, .int v21, .ref o22, .ref o24, .ref o26, .ref o28, .ref o30, .int v32, .ref o33, .ref o35, .ref o37, .int v39, .ref o40, .ref o42, .ref o44, .int v46, .ref o47])), (o26, .inl (cI, 49152, .inl fw27))]) := hD
    rw [hQ]
    exact W.iret (v := x221) hx hb hr (fun t ht hW => ⟨⟨x221, (), rfl, ⟨(iv_w x221_h (by decide)), (cost_1 h4 x1_e x2_e x3_e e222)⟩, by rw [ht]; exact hP, va_K.moved hW.alike hK, hD⟩, hS.F ht⟩) hS.2.2 dX12_costOf_23
theorem iw_X12_withLater_X12 : ∀ w ∈ wsX120, w ∈ wsX12_withLater := fun _ h => List.mem_cons.mpr (Or.inr (List.mem_append.mpr (Or.inr h)))
set_option maxHeartbeats 4000000 in
set_option maxRecDepth 100000 in
theorem kX12_withLater_1 (l : Launch) (dC : Nat → ClassId) (dI : Nat → Nat → Nat) (cI c2 cZ : ClassId) (o1 : Nat) (o3 : Nat) (o6 : Nat) (o9 : Nat) (o11 : Nat) (o14 : Nat) (o17 : Nat) (o22 : Nat) (o24 : Nat) (o26 : Nat) (o28 : Nat) (o30 : Nat) (o33 : Nat) (o35 : Nat) (o37 : Nat) (o40 : Nat) (o42 : Nat) (o44 : Nat) (o47 : Nat) (v2 : Int32) (v5 : Int32) (v8 : Int32) (v13 : Int32) (v16 : Int32) (v19 : Int32) (v20 : Int32) (v21 : Int32) (fw27 : Nat → Int32) (fw29 : Nat → Int32) (v32 : Int32) (v39 : Int32) (v46 : Int32) (a1 : Int32) (a2 : Int32) (a3 : Int32) (sz : Nat) (v5_h : Iv 0 12 v5) (v8_h : Iv 0 8 v8) (v13_h : Iv 0 12 v13) (v16_h : Iv 0 12 v16) (v19_h : Iv (-9) 12 v19) (fw27_b : Bd 49152 0 4095 fw27) (v32_h : Iv 0 99 v32) (v39_h : Iv 0 12 v39) (v46_h : Iv 0 12 v46) (a1_h : Iv 0 1 a1) (a2_h : Iv 0 4095 a2) (a3_h : Iv 0 11 a3) : Met l yX12_withLater wsX12_withLater ({ frames := 2, cells := 0, slots := 0, locals := 48 }) (va_Pc [.ref o1, .int a1, .int a2, .int a3] (wPre (dC, dI) [(cI, .int), (c2, .array .int), (cZ, .boolean)] ([(o1, .inr (12, [.int v2, .ref o3, .int v5, .ref o6, .int v8, .ref o9, .ref o11, .int v13, .ref o14, .int v16, .ref o17, .int v19, .int v20, .int v21, .ref o22, .ref o24, .ref o26, .ref o28, .ref o30, .int v32, .ref o33, .ref o35, .ref o37, .int v39, .ref o40, .ref o42, .ref o44, .int v46, .ref o47])), (o26, .inl (cI, 49152, .inl fw27)), (o28, .inl (cI, 4096, .inl fw29))]) sz)) (va_Qi (fun (r : Int32) (_ : Unit) => r = withF fw27 fw29 (Int32.toNatClampNeg v5) a1 a2 a3 ∧ Iv (-6) 72 (costF fw27 (Int32.toNatClampNeg v5) a1 a2 a3)) (fun _ t => wPost (dC, dI) [(cI, .int), (c2, .array .int), (cZ, .boolean)] (va_A ([(o1, .inr (12, [.int v2, .ref o3, .int v5, .ref o6, .int v8, .ref o9, .ref o11, .int v13, .ref o14, .int v16, .ref o17, .int v19, .int v20, .int v21, .ref o22, .ref o24, .ref o26, .ref o28, .ref o30, .int v32, .ref o33, .ref o35, .ref o37, .int v39, .ref o40, .ref o42, .ref o44, .int v46, .ref o47])), (o26, .inl (cI, 49152, .inl fw27)), (o28, .inl (cI, 4096, .inl fw29))]) sz) ([(o1, .inr (12, [.int v2, .ref o3, .int v5, .ref o6, .int v8, .ref o9, .ref o11, .int v13, .ref o14, .int v16, .ref o17, .int v19, .int v20, .int v21, .ref o22, .ref o24, .ref o26, .ref o28, .ref o30, .int v32, .ref o33, .ref o35, .ref o37, .int v39, .ref o40, .ref o42, .ref o44, .int v46, .ref o47])), (o26, .inl (cI, 49152, .inl fw27)), (o28, .inl (cI, 4096, .inl fw29))]) t) (va_A ([(o1, .inr (12, [.int v2, .ref o3, .int v5, .ref o6, .int v8, .ref o9, .ref o11, .int v13, .ref o14, .int v16, .ref o17, .int v19, .int v20, .int v21, .ref o22, .ref o24, .ref o26, .ref o28, .ref o30, .int v32, .ref o33, .ref o35, .ref o37, .int v39, .ref o40, .ref o42, .ref o44, .int v46, .ref o47])), (o26, .inl (cI, 49152, .inl fw27)), (o28, .inl (cI, 4096, .inl fw29))]) sz)) 0 0 (va_A ([(o1, .inr (12, [.int v2, .ref o3, .int v5, .ref o6, .int v8, .ref o9, .ref o11, .int v13, .ref o14, .int v16, .ref o17, .int v19, .int v20, .int v21, .ref o22, .ref o24, .ref o26, .ref o28, .ref o30, .int v32, .ref o33, .ref o35, .ref o37, .int v39, .ref o40, .ref o42, .ref o44, .int v46, .ref o47])), (o26, .inl (cI, 49152, .inl fw27)), (o28, .inl (cI, 4096, .inl fw29))]) sz) := by
  refine Met.ofW (cc := cX12_withLater) (maxL := 6) (ret := (some .int)) (by decide) rfl ?_
  intro p e s m args below meth c s₁ B hml hv
  obtain ⟨rfl, hsz, hP, hK, hD0, hN⟩ := hv
  have hx := B.exec
  have hb := B.bytes
  have hr := B.returns
  have hts := atoms_spec (ws := wsX12_withLater) B.pre
  have hown : s.vm.findClass RX12 = some m.cls := findClass_of_methodNamed B.named
  have hlocks := B.notSynchronized
  subst hsz
  have hD := hD0.self (sz := s.heap.size)
  generalize hAe : va_A ([(o1, .inr (12, [.int v2, .ref o3, .int v5, .ref o6, .int v8, .ref o9, .ref o11, .int v13, .ref o14, .int v16, .ref o17, .int v19, .int v20, .int v21, .ref o22, .ref o24, .ref o26, .ref o28, .ref o30, .int v32, .ref o33, .ref o35, .ref o37, .int v39, .ref o40, .ref o42, .ref o44, .int v46, .ref o47])), (o26, .inl (cI, 49152, .inl fw27)), (o28, .inl (cI, 4096, .inl fw29))]) s.heap.size = A at hD ⊢
  have hA : ∀ q : Nat, s.heap.size ≤ q → A q := fun q h => by rw [← hAe]; exact Or.inr h
  have hS : va_S A s.heap s.heap [] := va_S.rf
  have hP : va_P (dC, dI) vwCl ([(o1, .inr (12, [.int v2, .ref o3, .int v5, .ref o6, .int v8, .ref o9, .ref o11, .int v13, .ref o14, .int v16, .ref o17, .int v19, .int v20, .int v21, .ref o22, .ref o24, .ref o26, .ref o28, .ref o30, .int v32, .ref o33, .ref o35, .ref o37, .int v39, .ref o40, .ref o42, .ref o44, .int v46, .ref o47])), (o26, .inl (cI, 49152, .inl fw27)), (o28, .inl (cI, 4096, .inl fw29))]) s.heap := hP
  have hl := lv_entry ([.ref o1, .int a1, .int a2, .int a3]) (n := 6) (Nat.le_of_ble_eq_true rfl)
  rw [lg_entry_eq]
  generalize (lg_sl ([.ref o1, .int a1, .int a2, .int a3]) ++ List.replicate (6 - (lg_sl ([.ref o1, .int a1, .int a2, .int a3])).length) Slot.unset).toArray = ls at hl ⊢
  have hl : lv_has ls 6 [(0, .ref o1), (1, .int a1), (2, .int a2), (3, .int a3)] := hl
  refine gen_Q (fun Q hQ => ?_)
  refine lv_aload_n hx hb dX12_withLater_0 rfl (lv_at hl 0 rfl) ?_
  refine lv_iload_n hx hb dX12_withLater_1 rfl (lv_at hl 1 rfl) ?_
  refine lv_iload_n hx hb dX12_withLater_2 rfl (lv_at hl 2 rfl) ?_
  refine lv_iload_n hx hb dX12_withLater_3 rfl (lv_at hl 3 rfl) ?_
  refine kc_i (D := (dC, dI)) (S := Unit) (wc := [(o1, .inr (12, [.int v2, .ref o3, .int v5, .ref o6, .int v8, .ref o9, .ref o11, .int v13, .ref o14, .int v16, .ref o17, .int v19, .int v20, .int v21, .ref o22, .ref o24, .ref o26, .ref o28, .ref o30, .int v32, .ref o33, .ref o35, .ref o37, .int v39, .ref o40, .ref o42, .ref o44, .int v46, .ref o47])), (o26, .inl (cI, 49152, .inl fw27))]) (wr := [(o28, .inl (cI, 4096, .inl fw29))]) (w1 := fun _ => [(o1, .inr (12, [.int v2, .ref o3, .int v5, .ref o6, .int v8, .ref o9, .ref o11, .int v13, .ref o14, .int v16, .ref o17, .int v19, .int v20, .int v21, .ref o22, .ref o24, .ref o26, .ref o28, .ref o30, .int v32, .ref o33, .ref o35, .ref o37, .int v39, .ref o40, .ref o42, .ref o44, .int v46, .ref o47])), (o26, .inl (cI, 49152, .inl fw27))]) (wn := fun _ => [(o1, .inr (12, [.int v2, .ref o3, .int v5, .ref o6, .int v8, .ref o9, .ref o11, .int v13, .ref o14, .int v16, .ref o17, .int v19, .int v20, .int v21, .ref o22, .ref o24, .ref o26, .ref o28, .ref o30, .int v32, .ref o33, .ref o35, .ref o37, .int v39, .ref o40, .ref o42, .ref o44, .int v46, .ref o47])), (o26, .inl (cI, 49152, .inl fw27)), (o28, .inl (cI, 4096, .inl fw29))]) (fun hPc hDc => va_runV (As := [.int a1, .int a2, .int a3]) (rest := []) ⟨hx, hb, hml, hown, hts⟩ (kX12_costOf_1 l dC dI cI c2 cZ o1 o3 o6 o9 o11 o14 o17 o22 o24 o26 o28 o30 o33 o35 o37 o40 o42 o44 o47 v2 v5 v8 v13 v16 v19 v20 v21 fw27 v32 v39 v46 a1 a2 a3 s.heap.size v5_h v8_h v13_h v16_h v19_h fw27_b v32_h v39_h v46_h a1_h a2_h a3_h) (cwV 3 hts gX12_withLater_X12_costOf rfl rfl rfl (by decide +kernel) ⟨Nat.le_of_ble_eq_true rfl, Nat.le_of_ble_eq_true rfl⟩) (pre_V hPc hK hDc hN (ci := 12) (q0 := 0) rfl rfl) rfl rfl hl.1 rfl (lv_room (Nat.le_of_ble_eq_true rfl)) dX12_withLater_4 ⟨Nat.le_of_ble_eq_true rfl, Nat.le_of_ble_eq_true rfl⟩) hP hD hS hA [0, 1] [2] [1, 2, 0] rfl rfl (by decide +kernel) (by decide +kernel) (by decide +kernel) (by decide +kernel) (fun _ => rfl) (fun x1 _ H locs hq hP hD hS => ?_)
  obtain ⟨x1_h, e2⟩ := hq
  have hP : va_P (dC, dI) vwCl ([(o1, .inr (12, [.int v2, .ref o3, .int v5, .ref o6, .int v8, .ref o9, .ref o11, .int v13, .ref o14, .int v16, .ref o17, .int v19, .int v20, .int v21, .ref o22, .ref o24, .ref o26, .ref o28, .ref o30, .int v32, .ref o33, .ref o35, .ref o37, .int v39, .ref o40, .ref o42, .ref o44, .int v46, .ref o47])), (o26, .inl (cI, 49152, .inl fw27)), (o28, .inl (cI, 4096, .inl fw29))]) H := hP
  have hD : va_D A ([(o1, .inr (12, [.int v2, .ref o3, .int v5, .ref o6, .int v8, .ref o9, .ref o11, .int v13, .ref o14, .int v16, .ref o17, .int v19, .int v20, .int v21, .ref o22, .ref o24, .ref o26, .ref o28, .ref o30, .int v32, .ref o33, .ref o35, .ref o37, .int v39, .ref o40, .ref o42, .ref o44, .int v46, .ref o47])), (o26, .inl (cI, 49152, .inl fw27)), (o28, .inl (cI, 4096, .inl fw29))]) := hD
  refine lv_istore (lv' := [(4, .int x1), (0, .ref o1), (1, .int a1), (2, .int a2), (3, .int a3)]) hx hb dX12_withLater_7 hl (by decide) rfl (fun ls hl => ?_)
  refine lv_aload_n hx hb dX12_withLater_9 rfl (lv_at hl 1 rfl) ?_
  refine va_get (D := (dC, dI)) (ci := 12) (v := .ref o28) (C := RX12) (T := TX12) (N := 29) hx hb hts iw_X12_withLater_X12 hown hK hP 0 rfl rfl 17 (by decide) (hts (.fieldLink RX12 42 "HolelessHouseModel" "least" "[I") hm_X12_withLater_1) (fun _ h9 => h9) rfl dX12_withLater_10 ?_
  refine lv_iload_n hx hb dX12_withLater_13 rfl (lv_at hl 3 rfl) ?_
  refine lv_iconst (v := 1) hx hb dX12_withLater_14 (by decide) ?_
  refine lv_iload_n hx hb dX12_withLater_15 rfl (lv_at hl 4 rfl) ?_
  refine lv_ishl hx hb dX12_withLater_16 (lv_topi (fun x3 x3_e => ?_))
  have x3_h : Iv 1 2048 x3 := iv_e x3_e (iv_shl1 a3_h (by decide))
  refine lv_ior hx hb dX12_withLater_17 (lv_topi (fun x4 x4_e => ?_))
  have x4_h : Iv 0 4095 x4 := iv_e x4_e (iv_or 12 a2_h x3_h (by decide))
  refine va_iald hx hb hK hP 2 0 rfl rfl (vin_iv x4_h (by decide)) dX12_withLater_18 (lv_topi (fun x5 x5_e => ?_))
  refine lv_istore (lv' := [(5, .int x5), (4, .int x1), (0, .ref o1), (1, .int a1), (2, .int a2), (3, .int a3)]) hx hb dX12_withLater_19 hl (by decide) rfl (fun ls hl => ?_)
  refine lv_iload_n hx hb dX12_withLater_21 rfl (lv_at hl 3 rfl) ?_
  refine lv_if_ne (tgt := 33) hx hb dX12_withLater_22 (by decide) (fun h6 => ?_) (fun h6 => ?_)
  ·
    have j7 : Iv 1 1 a1 := r_nelo h6 a1_h ik_0 (by decide)
    refine lv_iload hx hb dX12_withLater_33 (lv_at hl 1 rfl) ?_
    refine lv_iload hx hb dX12_withLater_35 (lv_at hl 0 rfl) ?_
    refine lv_icmp_le (tgt := 45) hx hb dX12_withLater_37 (by decide) (fun h8 => ?_) (fun h8 => ?_)
    ·
      have qh8 := le_i h8
      have j9 : Iv (-6) 2147483647 x5 := r_ler qh8 x1_h (iv_full x5) (by decide)
      refine lv_iload hx hb dX12_withLater_45 (lv_at hl 0 rfl) ?_
      rw [hQ]
      exact W.iret (v := x5) hx hb hr (fun t ht hW => ⟨⟨x5, (), rfl, ⟨(with_l h6 e2 x3_e x4_e x5_e qh8), (by rw [← e2]; exact x1_h)⟩, by rw [ht]; exact hP, va_K.moved hW.alike hK, hD⟩, hS.F ht⟩) hS.2.2 dX12_withLater_47
    ·
      have qh8 := nle_i h8
      have j10 : Iv (-2147483648) 71 x5 := r_ltl qh8 (iv_full x5) x1_h (by decide)
      refine lv_iload hx hb dX12_withLater_40 (lv_at hl 1 rfl) ?_
      refine lv_goto (tgt := 47) hx hb dX12_withLater_42 (by decide) ?_
      rw [hQ]
      exact W.iret (v := x1) hx hb hr (fun t ht hW => ⟨⟨x1, (), rfl, ⟨(with_n h6 e2 x3_e x4_e x5_e qh8), (by rw [← e2]; exact x1_h)⟩, by rw [ht]; exact hP, va_K.moved hW.alike hK, hD⟩, hS.F ht⟩) hS.2.2 dX12_withLater_47
  ·
    have j11 : Iv 0 0 a1 := r_eq h6 ik_0
    refine lv_iload hx hb dX12_withLater_25 (lv_at hl 1 rfl) ?_
    refine lv_iload hx hb dX12_withLater_27 (lv_at hl 0 rfl) ?_
    refine lv_iadd hx hb dX12_withLater_29 (lv_topi (fun x12 x12_e => ?_))
    refine lv_goto (tgt := 47) hx hb dX12_withLater_30 (by decide) ?_
    rw [hQ]
    exact W.iret (v := x12) hx hb hr (fun t ht hW => ⟨⟨x12, (), rfl, ⟨(with_0 h6 e2 x3_e x4_e x5_e x12_e), (by rw [← e2]; exact x1_h)⟩, by rw [ht]; exact hP, va_K.moved hW.alike hK, hD⟩, hS.F ht⟩) hS.2.2 dX12_withLater_47
