set_option maxHeartbeats 4000000 in
set_option maxRecDepth 100000 in
theorem kxX12_seat_2 (l : Launch) (dC : Nat → ClassId) (dI : Nat → Nat → Nat) (cI c2 cZ : ClassId) (o1 : Nat) (o3 : Nat) (o6 : Nat) (o9 : Nat) (o11 : Nat) (o14 : Nat) (o17 : Nat) (o22 : Nat) (o24 : Nat) (o26 : Nat) (o28 : Nat) (o30 : Nat) (o33 : Nat) (o35 : Nat) (o37 : Nat) (o40 : Nat) (o42 : Nat) (o44 : Nat) (o47 : Nat) (v2 : Int32) (v5 : Int32) (v8 : Int32) (fw10 : Nat → Int32) (v13 : Int32) (v16 : Int32) (v19 : Int32) (v20 : Int32) (v21 : Int32) (v32 : Int32) (fw38 : Nat → Int32) (v39 : Int32) (fw41 : Nat → Int32) (fw43 : Nat → Int32) (fw45 : Nat → Int32) (v46 : Int32) (sz : Nat) (v5_h : Iv 0 12 v5) (v8_h : Iv 0 8 v8) (fw10_b : Bd 12 (-9) 255 fw10) (v13_h : Iv 0 12 v13) (v16_h : Iv 0 12 v16) (v19_h : Iv (-9) 12 v19) (v32_h : Iv 0 99 v32) (v39_h : Iv 0 12 v39) (fw45_b : Bd 12 0 11 fw45) (v46_h : Iv 0 12 v46) : Met l yX12_seat wsX12_seat ({ frames := 3, cells := 0, slots := 0, locals := 71 }) (va_Pc [.ref o1] (wPre (dC, dI) [(cI, .int), (c2, .array .int), (cZ, .boolean)] ([(o1, .inr (12, [.int v2, .ref o3, .int v5, .ref o6, .int v8, .ref o9, .ref o11, .int v13, .ref o14, .int v16, .ref o17, .int v19, .int v20, .int v21, .ref o22, .ref o24, .ref o26, .ref o28, .ref o30, .int v32, .ref o33, .ref o35, .ref o37, .int v39, .ref o40, .ref o42, .ref o44, .int v46, .ref o47])), (o37, .inl (cI, 12, .inl fw38)), (o9, .inl (cI, 12, .inl fw10)), (o42, .inl (cI, 49152, .inl fw43)), (o40, .inl (cZ, 49152, .inl fw41)), (o44, .inl (cI, 12, .inl fw45))]) sz)) (va_Qv (fun (u : Int32 × Int32 × (Nat → Int32) × (Nat → Int32) × (Nat → Int32) × (Nat → Int32)) => Iv 0 12 u.1 ∧ Iv 0 12 u.2.1 ∧ Bd 12 0 11 u.2.2.2.2.2 ∧ u.1 = v8 ∧ TA fw10 u.2.2.1 (Int32.toNatClampNeg u.1) ∧ CD u.2.2.1 u.2.2.2.1 (Int32.toNatClampNeg u.1)) (fun u t => wPost (dC, dI) [(cI, .int), (c2, .array .int), (cZ, .boolean)] (va_A ([(o1, .inr (12, [.int v2, .ref o3, .int v5, .ref o6, .int v8, .ref o9, .ref o11, .int v13, .ref o14, .int v16, .ref o17, .int v19, .int v20, .int v21, .ref o22, .ref o24, .ref o26, .ref o28, .ref o30, .int v32, .ref o33, .ref o35, .ref o37, .int v39, .ref o40, .ref o42, .ref o44, .int v46, .ref o47])), (o37, .inl (cI, 12, .inl fw38)), (o9, .inl (cI, 12, .inl fw10)), (o42, .inl (cI, 49152, .inl fw43)), (o40, .inl (cZ, 49152, .inl fw41)), (o44, .inl (cI, 12, .inl fw45))]) sz) ([(o1, .inr (12, [.int v2, .ref o3, .int v5, .ref o6, .int v8, .ref o9, .ref o11, .int v13, .ref o14, .int v16, .ref o17, .int v19, .int v20, .int v21, .ref o22, .ref o24, .ref o26, .ref o28, .ref o30, .int v32, .ref o33, .ref o35, .ref o37, .int u.1, .ref o40, .ref o42, .ref o44, .int u.2.1, .ref o47])), (o37, .inl (cI, 12, .inl u.2.2.1)), (o9, .inl (cI, 12, .inl fw10)), (o42, .inl (cI, 49152, .inl u.2.2.2.1)), (o40, .inl (cZ, 49152, .inl u.2.2.2.2.1)), (o44, .inl (cI, 12, .inl u.2.2.2.2.2))]) t) (va_A ([(o1, .inr (12, [.int v2, .ref o3, .int v5, .ref o6, .int v8, .ref o9, .ref o11, .int v13, .ref o14, .int v16, .ref o17, .int v19, .int v20, .int v21, .ref o22, .ref o24, .ref o26, .ref o28, .ref o30, .int v32, .ref o33, .ref o35, .ref o37, .int v39, .ref o40, .ref o42, .ref o44, .int v46, .ref o47])), (o37, .inl (cI, 12, .inl fw38)), (o9, .inl (cI, 12, .inl fw10)), (o42, .inl (cI, 49152, .inl fw43)), (o40, .inl (cZ, 49152, .inl fw41)), (o44, .inl (cI, 12, .inl fw45))]) sz)) 0 0 (va_A ([(o1, .inr (12, [.int v2, .ref o3, .int v5, .ref o6, .int v8, .ref o9, .ref o11, .int v13, .ref o14, .int v16, .ref o17, .int v19, .int v20, .int v21, .ref o22, .ref o24, .ref o26, .ref o28, .ref o30, .int v32, .ref o33, .ref o35, .ref o37, .int v39, .ref o40, .ref o42, .ref o44, .int v46, .ref o47])), (o37, .inl (cI, 12, .inl fw38)), (o9, .inl (cI, 12, .inl fw10)), (o42, .inl (cI, 49152, .inl fw43)), (o40, .inl (cZ, 49152, .inl fw41)), (o44, .inl (cI, 12, .inl fw45))]) sz) := by
  refine Met.ofW (cc := cX12_seat) (maxL := 3) (ret := none) (by decide) rfl ?_
  intro p e s m args below meth c s₁ B hml hv
  obtain ⟨rfl, hsz, hP, hK, hD0, hN⟩ := hv
  have hx := B.exec
  have hb := B.bytes
  have hr := B.returns
  have hts := atoms_spec (ws := wsX12_seat) B.pre
  have hown : s.vm.findClass RX12 = some m.cls := findClass_of_methodNamed B.named
  have hlocks := B.notSynchronized
  subst hsz
  have hD := hD0.self (sz := s.heap.size)
  generalize hAe : va_A ([(o1, .inr (12, [.int v2, .ref o3, .int v5, .ref o6, .int v8, .ref o9, .ref o11, .int v13, .ref o14, .int v16, .ref o17, .int v19, .int v20, .int v21, .ref o22, .ref o24, .ref o26, .ref o28, .ref o30, .int v32, .ref o33, .ref o35, .ref o37, .int v39, .ref o40, .ref o42, .ref o44, .int v46, .ref o47])), (o37, .inl (cI, 12, .inl fw38)), (o9, .inl (cI, 12, .inl fw10)), (o42, .inl (cI, 49152, .inl fw43)), (o40, .inl (cZ, 49152, .inl fw41)), (o44, .inl (cI, 12, .inl fw45))]) s.heap.size = A at hD ⊢
  have hA : ∀ q : Nat, s.heap.size ≤ q → A q := fun q h => by rw [← hAe]; exact Or.inr h
  have hS : va_S A s.heap s.heap [] := va_S.rf
  have hP : va_P (dC, dI) vwCl ([(o1, .inr (12, [.int v2, .ref o3, .int v5, .ref o6, .int v8, .ref o9, .ref o11, .int v13, .ref o14, .int v16, .ref o17, .int v19, .int v20, .int v21, .ref o22, .ref o24, .ref o26, .ref o28, .ref o30, .int v32, .ref o33, .ref o35, .ref o37, .int v39, .ref o40, .ref o42, .ref o44, .int v46, .ref o47])), (o37, .inl (cI, 12, .inl fw38)), (o9, .inl (cI, 12, .inl fw10)), (o42, .inl (cI, 49152, .inl fw43)), (o40, .inl (cZ, 49152, .inl fw41)), (o44, .inl (cI, 12, .inl fw45))]) s.heap := hP
  have hl := lv_entry ([.ref o1]) (n := 3) (Nat.le_of_ble_eq_true rfl)
  rw [lg_entry_eq]
  generalize (lg_sl ([.ref o1]) ++ List.replicate (3 - (lg_sl ([.ref o1])).length) Slot.unset).toArray = ls at hl ⊢
  have hl : lv_has ls 3 [(0, .ref o1)] := hl
  refine gen_Q (fun Q hQ => ?_)
  refine lv_aload_n hx hb dX12_seat_0 rfl (lv_at hl 0 rfl) ?_
  refine lv_aload_n hx hb dX12_seat_1 rfl (lv_at hl 0 rfl) ?_
  refine va_get (D := (dC, dI)) (ci := 12) (v := .int v8) (C := RX12) (T := TX12) (N := 29) hx hb hts iw_X12_seat_X12 hown hK hP 0 rfl rfl 4 (by decide) (hts (.fieldLink RX12 128 "HolelessHouseModel" "columns" "I") hm_X12_seat_1) (fun _ h9 => h9) rfl dX12_seat_2 ?_
  refine va_put (D := (dC, dI)) (ci := 12) (v := .int v8) (ty := .int) (C := RX12) (T := TX12) (N := 29) hx hb hts iw_X12_seat_X12 tyX12 tyX12_ok nmX12 hown hK hP hD hS 0 rfl rfl 23 (by decide) (hts (.fieldLink RX12 191 "HolelessHouseModel" "thingMany" "I") hm_X12_seat_2) (fun _ h9 => h9) rfl (by decide +kernel) rfl rfl (Nat.le_of_ble_eq_true rfl) dX12_seat_5 (fun H locs hP hD hS => ?_)
  have hP : va_P (dC, dI) vwCl ([(o1, .inr (12, [.int v2, .ref o3, .int v5, .ref o6, .int v8, .ref o9, .ref o11, .int v13, .ref o14, .int v16, .ref o17, .int v19, .int v20, .int v21, .ref o22, .ref o24, .ref o26, .ref o28, .ref o30, .int v32, .ref o33, .ref o35, .ref o37, .int v8, .ref o40, .ref o42, .ref o44, .int v46, .ref o47])), (o37, .inl (cI, 12, .inl fw38)), (o9, .inl (cI, 12, .inl fw10)), (o42, .inl (cI, 49152, .inl fw43)), (o40, .inl (cZ, 49152, .inl fw41)), (o44, .inl (cI, 12, .inl fw45))]) H := hP
  have hD : va_D A ([(o1, .inr (12, [.int v2, .ref o3, .int v5, .ref o6, .int v8, .ref o9, .ref o11, .int v13, .ref o14, .int v16, .ref o17, .int v19, .int v20, .int v21, .ref o22, .ref o24, .ref o26, .ref o28, .ref o30, .int v32, .ref o33, .ref o35, .ref o37, .int v8, .ref o40, .ref o42, .ref o44, .int v46, .ref o47])), (o37, .inl (cI, 12, .inl fw38)), (o9, .inl (cI, 12, .inl fw10)), (o42, .inl (cI, 49152, .inl fw43)), (o40, .inl (cZ, 49152, .inl fw41)), (o44, .inl (cI, 12, .inl fw45))]) := hD
  refine lv_iconst (v := 0) hx hb dX12_seat_8 (by decide) ?_
  refine lv_istore_n (lv' := [(1, .int 0), (0, .ref o1)]) hx hb dX12_seat_9 rfl hl (by decide) rfl (fun ls hl => ?_)
  have L7 : ∀ (N : Nat) (x1390 : Int32) (f1391 : Nat → Int32) (H : Heap) (locs : List Loc) (ls : Array Slot), (8 - x1390.toInt).toNat < N → Iv 0 8 x1390 → (TA fw10 f1391 (Int32.toNatClampNeg x1390)) → va_P (dC, dI) vwCl ([(o1, .inr (12, [.int v2, .ref o3, .int v5, .ref o6, .int v8, .ref o9, .ref o11, .int v13, .ref o14, .int v16, .ref o17, .int v19, .int v20, .int v21, .ref o22, .ref o24, .ref o26, .ref o28, .ref o30, .int v32, .ref o33, .ref o35, .ref o37, .int v8, .ref o40, .ref o42, .ref o44, .int v46, .ref o47])), (o37, .inl (cI, 12, .inl f1391)), (o9, .inl (cI, 12, .inl fw10)), (o42, .inl (cI, 49152, .inl fw43)), (o40, .inl (cZ, 49152, .inl fw41)), (o44, .inl (cI, 12, .inl fw45))]) H → va_D A ([(o1, .inr (12, [.int v2, .ref o3, .int v5, .ref o6, .int v8, .ref o9, .ref o11, .int v13, .ref o14, .int v16, .ref o17, .int v19, .int v20, .int v21, .ref o22, .ref o24, .ref o26, .ref o28, .ref o30, .int v32, .ref o33, .ref o35, .ref o37, .int v8, .ref o40, .ref o42, .ref o44, .int v46, .ref o47])), (o37, .inl (cI, 12, .inl f1391)), (o9, .inl (cI, 12, .inl fw10)), (o42, .inl (cI, 49152, .inl fw43)), (o40, .inl (cZ, 49152, .inl fw41)), (o44, .inl (cI, 12, .inl fw45))]) → va_S A s.heap H locs → lv_has ls 3 [(1, .int x1390), (0, .ref o1)] → W p l e ({ frames := 3, cells := 0, slots := 0, locals := 71 }) s m ([.ref o1] : List Value).toArray below meth c H locs 0 0 Q (F0 m 10 ls []) := by
    intro N
    induction N with
    | zero =>
      intro x1390 f1391 H locs ls hM
      exact absurd hM (Nat.not_lt_zero _)
    | succ N ih7 =>
      intro x1390 f1391 H locs ls hM7 x1390_h iv7_0 hP hD hS hl
      refine lv_iload_n hx hb dX12_seat_10 rfl (lv_at hl 0 rfl) ?_
      refine lv_aload_n hx hb dX12_seat_11 rfl (lv_at hl 1 rfl) ?_
      refine va_get (D := (dC, dI)) (ci := 12) (v := .int v8) (C := RX12) (T := TX12) (N := 29) hx hb hts iw_X12_seat_X12 hown hK hP 0 rfl rfl 4 (by decide) (hts (.fieldLink RX12 128 "HolelessHouseModel" "columns" "I") hm_X12_seat_1) (fun _ h9 => h9) rfl dX12_seat_12 ?_
      refine lv_icmp_ge (tgt := 83) hx hb dX12_seat_15 (by decide) (fun h1392 => ?_) (fun h1392 => ?_)
      ·
        have qh1392 := le_i h1392
        refine lv_aload_n hx hb dX12_seat_83 rfl (lv_at hl 1 rfl) ?_
        refine kc_v (D := (dC, dI)) (S := Int32 × (Nat → Int32) × (Nat → Int32) × (Nat → Int32)) (wc := [(o1, .inr (12, [.int v2, .ref o3, .int v5, .ref o6, .int v8, .ref o9, .ref o11, .int v13, .ref o14, .int v16, .ref o17, .int v19, .int v20, .int v21, .ref o22, .ref o24, .ref o26, .ref o28, .ref o30, .int v32, .ref o33, .ref o35, .ref o37, .int v8, .ref o40, .ref o42, .ref o44, .int v46, .ref o47])), (o42, .inl (cI, 49152, .inl fw43)), (o40, .inl (cZ, 49152, .inl fw41)), (o37, .inl (cI, 12, .inl f1391)), (o44, .inl (cI, 12, .inl fw45))]) (wr := [(o9, .inl (cI, 12, .inl fw10))]) (w1 := fun u => [(o1, .inr (12, [.int v2, .ref o3, .int v5, .ref o6, .int v8, .ref o9, .ref o11, .int v13, .ref o14, .int v16, .ref o17, .int v19, .int v20, .int v21, .ref o22, .ref o24, .ref o26, .ref o28, .ref o30, .int v32, .ref o33, .ref o35, .ref o37, .int v8, .ref o40, .ref o42, .ref o44, .int u.1, .ref o47])), (o42, .inl (cI, 49152, .inl u.2.1)), (o40, .inl (cZ, 49152, .inl u.2.2.1)), (o37, .inl (cI, 12, .inl f1391)), (o44, .inl (cI, 12, .inl u.2.2.2))]) (wn := fun u => [(o1, .inr (12, [.int v2, .ref o3, .int v5, .ref o6, .int v8, .ref o9, .ref o11, .int v13, .ref o14, .int v16, .ref o17, .int v19, .int v20, .int v21, .ref o22, .ref o24, .ref o26, .ref o28, .ref o30, .int v32, .ref o33, .ref o35, .ref o37, .int v8, .ref o40, .ref o42, .ref o44, .int u.1, .ref o47])), (o37, .inl (cI, 12, .inl f1391)), (o9, .inl (cI, 12, .inl fw10)), (o42, .inl (cI, 49152, .inl u.2.1)), (o40, .inl (cZ, 49152, .inl u.2.2.1)), (o44, .inl (cI, 12, .inl u.2.2.2))]) (fun hPc hDc => va_runV (As := []) (rest := []) ⟨hx, hb, hml, hown, hts⟩ (kxX12_setLine_2 l dC dI cI c2 cZ o1 o3 o6 o9 o11 o14 o17 o22 o24 o26 o28 o30 o33 o35 o37 o40 o42 o44 o47 v2 v5 v8 v13 v16 v19 v20 v21 v32 f1391 v8 fw41 fw43 fw45 v46 H.size v5_h v8_h v13_h v16_h v19_h v32_h (iv_w v8_h (by decide)) fw45_b v46_h) (cwV 0 hts gX12_seat_X12_setLine rfl rfl rfl (by decide +kernel) ⟨Nat.le_of_ble_eq_true rfl, Nat.le_of_ble_eq_true rfl⟩) (pre_V hPc hK hDc hN (ci := 12) (q0 := 0) rfl rfl) rfl rfl hl.1 rfl (lv_room (Nat.le_of_ble_eq_true rfl)) dX12_seat_84 ⟨Nat.le_of_ble_eq_true rfl, Nat.le_of_ble_eq_true rfl⟩) hP hD hS hA [0, 3, 4, 1, 5] [2] [1, 4, 0, 2, 3, 5] rfl rfl (by decide +kernel) (by decide +kernel) (by decide +kernel) (by decide +kernel) (fun _ => rfl) (fun u H locs hq hP hD hS => ?_)
        obtain ⟨y1393, f1394, f1395, f1396⟩ := u
        obtain ⟨y1393_h, f1396_b, e1397⟩ := hq
        have y1393_h : Iv 0 12 y1393 := y1393_h
        have f1396_b : Bd 12 0 11 f1396 := f1396_b
        have e1397 : CD f1391 f1394 (Int32.toNatClampNeg v8) := e1397
        have hP : va_P (dC, dI) vwCl ([(o1, .inr (12, [.int v2, .ref o3, .int v5, .ref o6, .int v8, .ref o9, .ref o11, .int v13, .ref o14, .int v16, .ref o17, .int v19, .int v20, .int v21, .ref o22, .ref o24, .ref o26, .ref o28, .ref o30, .int v32, .ref o33, .ref o35, .ref o37, .int v8, .ref o40, .ref o42, .ref o44, .int y1393, .ref o47])), (o37, .inl (cI, 12, .inl f1391)), (o9, .inl (cI, 12, .inl fw10)), (o42, .inl (cI, 49152, .inl f1394)), (o40, .inl (cZ, 49152, .inl f1395)), (o44, .inl (cI, 12, .inl f1396))]) H := hP
        have hD : va_D A ([(o1, .inr (12, [.int v2, .ref o3, .int v5, .ref o6, .int v8, .ref o9, .ref o11, .int v13, .ref o14, .int v16, .ref o17, .int v19, .int v20, .int v21, .ref o22, .ref o24, .ref o26, .ref o28, .ref o30, .int v32, .ref o33, .ref o35, .ref o37, .int v8, .ref o40, .ref o42, .ref o44, .int y1393, .ref o47])), (o37, .inl (cI, 12, .inl f1391)), (o9, .inl (cI, 12, .inl fw10)), (o42, .inl (cI, 49152, .inl f1394)), (o40, .inl (cZ, 49152, .inl f1395)), (o44, .inl (cI, 12, .inl f1396))]) := hD
        rw [hQ]
        exact W.vret hx hb hr (fun t ht hW => ⟨⟨(v8, y1393, f1391, f1394, f1395, f1396), rfl, ⟨(iv_w v8_h (by decide)), y1393_h, f1396_b, rfl, (TA_e iv7_0 qh1392 (iv_w (c := 0) (d := 12) v8_h (by decide))), e1397⟩, by rw [ht]; exact hP, va_K.moved hW.alike hK, hD⟩, hS.F ht⟩) hS.2.2 dX12_seat_87
      ·
        have qh1392 := nle_i h1392
        have j1398 : Iv 0 7 x1390 := r_ltl qh1392 x1390_h v8_h (by decide)
        have j1399 : Iv 1 8 v8 := r_ltr qh1392 x1390_h v8_h (by decide)
        refine lv_aload_n hx hb dX12_seat_18 rfl (lv_at hl 1 rfl) ?_
        refine va_get (D := (dC, dI)) (ci := 12) (v := .ref o37) (C := RX12) (T := TX12) (N := 29) hx hb hts iw_X12_seat_X12 hown hK hP 0 rfl rfl 22 (by decide) (hts (.fieldLink RX12 54 "HolelessHouseModel" "things" "[I") hm_X12_seat_3) (fun _ h9 => h9) rfl dX12_seat_19 ?_
        refine lv_iload_n hx hb dX12_seat_22 rfl (lv_at hl 0 rfl) ?_
        refine lv_iconst (v := 0) hx hb dX12_seat_23 (by decide) ?_
        refine k_iast hx hb hK hP hD hS 1 0 rfl rfl (vin_iv j1398 (by decide)) dX12_seat_24 (fun f1400 H locs f1400_e hP hD hS => ?_)
        have hP : va_P (dC, dI) vwCl ([(o1, .inr (12, [.int v2, .ref o3, .int v5, .ref o6, .int v8, .ref o9, .ref o11, .int v13, .ref o14, .int v16, .ref o17, .int v19, .int v20, .int v21, .ref o22, .ref o24, .ref o26, .ref o28, .ref o30, .int v32, .ref o33, .ref o35, .ref o37, .int v8, .ref o40, .ref o42, .ref o44, .int v46, .ref o47])), (o37, .inl (cI, 12, .inl f1400)), (o9, .inl (cI, 12, .inl fw10)), (o42, .inl (cI, 49152, .inl fw43)), (o40, .inl (cZ, 49152, .inl fw41)), (o44, .inl (cI, 12, .inl fw45))]) H := hP
        have hD : va_D A ([(o1, .inr (12, [.int v2, .ref o3, .int v5, .ref o6, .int v8, .ref o9, .ref o11, .int v13, .ref o14, .int v16, .ref o17, .int v19, .int v20, .int v21, .ref o22, .ref o24, .ref o26, .ref o28, .ref o30, .int v32, .ref o33, .ref o35, .ref o37, .int v8, .ref o40, .ref o42, .ref o44, .int v46, .ref o47])), (o37, .inl (cI, 12, .inl f1400)), (o9, .inl (cI, 12, .inl fw10)), (o42, .inl (cI, 49152, .inl fw43)), (o40, .inl (cZ, 49152, .inl fw41)), (o44, .inl (cI, 12, .inl fw45))]) := hD
        refine lv_iconst (v := 0) hx hb dX12_seat_25 (by decide) ?_
        refine lv_istore_n (lv' := [(2, .int 0), (1, .int x1390), (0, .ref o1)]) hx hb dX12_seat_26 rfl hl (by decide) rfl (fun ls hl => ?_)
        have L8 : ∀ (N : Nat) (x1598 : Int32) (f1599 : Nat → Int32) (H : Heap) (locs : List Loc) (ls : Array Slot), (12 - x1598.toInt).toNat < N → Iv 0 12 x1598 → (TA fw10 f1599 (Int32.toNatClampNeg x1390)) → (TI fw10 f1599 (Int32.toNatClampNeg x1390) (Int32.toNatClampNeg x1598)) → va_P (dC, dI) vwCl ([(o1, .inr (12, [.int v2, .ref o3, .int v5, .ref o6, .int v8, .ref o9, .ref o11, .int v13, .ref o14, .int v16, .ref o17, .int v19, .int v20, .int v21, .ref o22, .ref o24, .ref o26, .ref o28, .ref o30, .int v32, .ref o33, .ref o35, .ref o37, .int v8, .ref o40, .ref o42, .ref o44, .int v46, .ref o47])), (o37, .inl (cI, 12, .inl f1599)), (o9, .inl (cI, 12, .inl fw10)), (o42, .inl (cI, 49152, .inl fw43)), (o40, .inl (cZ, 49152, .inl fw41)), (o44, .inl (cI, 12, .inl fw45))]) H → va_D A ([(o1, .inr (12, [.int v2, .ref o3, .int v5, .ref o6, .int v8, .ref o9, .ref o11, .int v13, .ref o14, .int v16, .ref o17, .int v19, .int v20, .int v21, .ref o22, .ref o24, .ref o26, .ref o28, .ref o30, .int v32, .ref o33, .ref o35, .ref o37, .int v8, .ref o40, .ref o42, .ref o44, .int v46, .ref o47])), (o37, .inl (cI, 12, .inl f1599)), (o9, .inl (cI, 12, .inl fw10)), (o42, .inl (cI, 49152, .inl fw43)), (o40, .inl (cZ, 49152, .inl fw41)), (o44, .inl (cI, 12, .inl fw45))]) → va_S A s.heap H locs → lv_has ls 3 [(2, .int x1598), (1, .int x1390), (0, .ref o1)] → W p l e ({ frames := 3, cells := 0, slots := 0, locals := 71 }) s m ([.ref o1] : List Value).toArray below meth c H locs 0 0 Q (F0 m 27 ls []) := by
          intro N
          induction N with
          | zero =>
            intro x1598 f1599 H locs ls hM
            exact absurd hM (Nat.not_lt_zero _)
          | succ N ih8 =>
            intro x1598 f1599 H locs ls hM8 x1598_h iv8_0 iv8_1 hP hD hS hl
            refine lv_iload_n hx hb dX12_seat_27 rfl (lv_at hl 0 rfl) ?_
            refine lv_bipush (v := 12) hx hb dX12_seat_28 (by decide) ?_
            refine lv_icmp_ge (tgt := 77) hx hb dX12_seat_30 (by decide) (fun h1600 => ?_) (fun h1600 => ?_)
            ·
              have qh1600 := le_i h1600
              have j1601 : Iv 12 12 x1598 := r_ler qh1600 ik_12 x1598_h (by decide)
              obtain ⟨x1602, x1602_e⟩ : ∃ z : Int32, z = x1390 + 1 := ⟨_, rfl⟩
              have x1602_h : Iv 1 8 x1602 := iv_e x1602_e (iv_add j1398 ik_1 (by decide))
              refine lv_iinc (v := x1602) (lv' := [(1, .int x1602), (2, .int x1598), (0, .ref o1)]) hx hb dX12_seat_77 hl (k := 1) rfl (incN (by decide +kernel) x1602_e) (by decide) rfl (fun ls hl => ?_)
              refine lv_goto (tgt := 10) hx hb dX12_seat_80 (by decide) ?_
              exact ih7 x1602 f1599 _ _ _ (ms_up x1602_e j1398 (by decide) hM7) (iv_w x1602_h (by decide)) (TA_s iv8_0 iv8_1 qh1600 (iv_w (c := 0) (d := 4095) j1398 (by decide)) x1602_e) hP hD hS (lv_sub hl [0, 2] rfl)
            ·
              have qh1600 := nle_i h1600
              have j1603 : Iv 0 11 x1598 := r_ltl qh1600 x1598_h ik_12 (by decide)
              refine lv_aload_n hx hb dX12_seat_33 rfl (lv_at hl 2 rfl) ?_
              refine va_get (D := (dC, dI)) (ci := 12) (v := .ref o37) (C := RX12) (T := TX12) (N := 29) hx hb hts iw_X12_seat_X12 hown hK hP 0 rfl rfl 22 (by decide) (hts (.fieldLink RX12 54 "HolelessHouseModel" "things" "[I") hm_X12_seat_3) (fun _ h9 => h9) rfl dX12_seat_34 ?_
              refine lv_iload_n hx hb dX12_seat_37 rfl (lv_at hl 1 rfl) ?_
              refine lv_dup2_11 hx hb dX12_seat_38 rfl rfl ?_
              refine va_iald hx hb hK hP 1 0 rfl rfl (vin_iv j1398 (by decide)) dX12_seat_39 (lv_topi (fun x1604 x1604_e => ?_))
              refine lv_aload_n hx hb dX12_seat_40 rfl (lv_at hl 2 rfl) ?_
              refine va_get (D := (dC, dI)) (ci := 12) (v := .ref o9) (C := RX12) (T := TX12) (N := 29) hx hb hts iw_X12_seat_X12 hown hK hP 0 rfl rfl 5 (by decide) (hts (.fieldLink RX12 16 "HolelessHouseModel" "rows" "[I") hm_X12_seat_4) (fun _ h9 => h9) rfl dX12_seat_41 ?_
              refine lv_iload_n hx hb dX12_seat_44 rfl (lv_at hl 0 rfl) ?_
              refine va_iald hx hb hK hP 2 0 rfl rfl (vin_iv j1603 (by decide)) dX12_seat_45 (lv_topi (fun x1605 x1605_e => ?_))
              have x1605_h : Iv (-9) 255 x1605 := iv_e x1605_e (bd_at fw10_b (vin_iv j1603 (by decide)))
              refine lv_if_lt (tgt := 68) hx hb dX12_seat_46 (by decide) (fun h1606 => ?_) (fun h1606 => ?_)
              ·
                have qh1606 := lt_i h1606
                have j1607 : Iv (-9) (-1) x1605 := r_ltl qh1606 x1605_h ik_0 (by decide)
                refine lv_iconst (v := 0) hx hb dX12_seat_68 (by decide) ?_
                refine lv_ior hx hb dX12_seat_69 (lv_topi (fun x1608 x1608_e => ?_))
                refine k_iast hx hb hK hP hD hS 1 0 rfl rfl (vin_iv j1398 (by decide)) dX12_seat_70 (fun f1609 H locs f1609_e hP hD hS => ?_)
                have hP : va_P (dC, dI) vwCl ([(o1, .inr (12, [.int v2, .ref o3, .int v5, .ref o6, .int v8, .ref o9, .ref o11, .int v13, .ref o14, .int v16, .ref o17, .int v19, .int v20, .int v21, .ref o22, .ref o24, .ref o26, .ref o28, .ref o30, .int v32, .ref o33, .ref o35, .ref o37, .int v8, .ref o40, .ref o42, .ref o44, .int v46, .ref o47])), (o37, .inl (cI, 12, .inl f1609)), (o9, .inl (cI, 12, .inl fw10)), (o42, .inl (cI, 49152, .inl fw43)), (o40, .inl (cZ, 49152, .inl fw41)), (o44, .inl (cI, 12, .inl fw45))]) H := hP
                have hD : va_D A ([(o1, .inr (12, [.int v2, .ref o3, .int v5, .ref o6, .int v8, .ref o9, .ref o11, .int v13, .ref o14, .int v16, .ref o17, .int v19, .int v20, .int v21, .ref o22, .ref o24, .ref o26, .ref o28, .ref o30, .int v32, .ref o33, .ref o35, .ref o37, .int v8, .ref o40, .ref o42, .ref o44, .int v46, .ref o47])), (o37, .inl (cI, 12, .inl f1609)), (o9, .inl (cI, 12, .inl fw10)), (o42, .inl (cI, 49152, .inl fw43)), (o40, .inl (cZ, 49152, .inl fw41)), (o44, .inl (cI, 12, .inl fw45))]) := hD
                obtain ⟨x1610, x1610_e⟩ : ∃ z : Int32, z = x1598 + 1 := ⟨_, rfl⟩
                have x1610_h : Iv 1 12 x1610 := iv_e x1610_e (iv_add j1603 ik_1 (by decide))
                refine lv_iinc (v := x1610) (lv' := [(2, .int x1610), (1, .int x1390), (0, .ref o1)]) hx hb dX12_seat_71 hl (k := 0) rfl (incN (by decide +kernel) x1610_e) (by decide) rfl (fun ls hl => ?_)
                refine lv_goto (tgt := 27) hx hb dX12_seat_74 (by decide) ?_
                exact ih8 x1610 f1609 _ _ _ (ms_up x1610_e j1603 (by decide) hM8) (iv_w x1610_h (by decide)) (TA_upd iv8_0 f1609_e) (TI_n iv8_1 (iv_w (c := 0) (d := 4095) j1603 (by decide)) x1610_e x1604_e x1608_e f1609_e (tt_n x1605_e qh1606)) hP hD hS hl
              ·
                have qh1606 := nlt_i h1606
                have j1611 : Iv 0 255 x1605 := r_ler qh1606 ik_0 x1605_h (by decide)
                refine lv_aload_n hx hb dX12_seat_49 rfl (lv_at hl 2 rfl) ?_
                refine va_get (D := (dC, dI)) (ci := 12) (v := .ref o9) (C := RX12) (T := TX12) (N := 29) hx hb hts iw_X12_seat_X12 hown hK hP 0 rfl rfl 5 (by decide) (hts (.fieldLink RX12 16 "HolelessHouseModel" "rows" "[I") hm_X12_seat_4) (fun _ h9 => h9) rfl dX12_seat_50 ?_
                refine lv_iload_n hx hb dX12_seat_53 rfl (lv_at hl 0 rfl) ?_
                refine va_iald hx hb hK hP 2 0 rfl rfl (vin_iv j1603 (by decide)) dX12_seat_54 (lv_topi (fun x1612 x1612_e => ?_))
                have x1612_h : Iv 0 255 x1612 := iv_e (x1612_e.trans x1605_e.symm) j1611
                refine lv_iload_n hx hb dX12_seat_55 rfl (lv_at hl 1 rfl) ?_
                refine kc_i (D := (dC, dI)) (S := Unit) (wc := []) (wr := [(o1, .inr (12, [.int v2, .ref o3, .int v5, .ref o6, .int v8, .ref o9, .ref o11, .int v13, .ref o14, .int v16, .ref o17, .int v19, .int v20, .int v21, .ref o22, .ref o24, .ref o26, .ref o28, .ref o30, .int v32, .ref o33, .ref o35, .ref o37, .int v8, .ref o40, .ref o42, .ref o44, .int v46, .ref o47])), (o37, .inl (cI, 12, .inl f1599)), (o9, .inl (cI, 12, .inl fw10)), (o42, .inl (cI, 49152, .inl fw43)), (o40, .inl (cZ, 49152, .inl fw41)), (o44, .inl (cI, 12, .inl fw45))]) (w1 := fun _ => []) (wn := fun _ => [(o1, .inr (12, [.int v2, .ref o3, .int v5, .ref o6, .int v8, .ref o9, .ref o11, .int v13, .ref o14, .int v16, .ref o17, .int v19, .int v20, .int v21, .ref o22, .ref o24, .ref o26, .ref o28, .ref o30, .int v32, .ref o33, .ref o35, .ref o37, .int v8, .ref o40, .ref o42, .ref o44, .int v46, .ref o47])), (o37, .inl (cI, 12, .inl f1599)), (o9, .inl (cI, 12, .inl fw10)), (o42, .inl (cI, 49152, .inl fw43)), (o40, .inl (cZ, 49152, .inl fw41)), (o44, .inl (cI, 12, .inl fw45))]) (fun hPc hDc => va_runS (As := [.int x1612, .int x1390]) (rest := [.int x1604, .int x1390, .ref o37]) ⟨hx, hb, hml, hown, hts⟩ (kX12_has_1 l dC dI cI c2 cZ x1612 x1390 H.size (iv_w j1398 (by decide))) (va_cwS 2 hts gX12_seat_X12_has rfl rfl rfl (by decide +kernel) ⟨Nat.le_of_ble_eq_true rfl, Nat.le_of_ble_eq_true rfl⟩) (pre_S hPc hK hDc hN) rfl rfl hl.1 rfl (lv_room (Nat.le_of_ble_eq_true rfl)) dX12_seat_56 ⟨Nat.le_of_ble_eq_true rfl, Nat.le_of_ble_eq_true rfl⟩) hP hD hS hA [] [0, 1, 2, 3, 4, 5] [0, 1, 2, 3, 4, 5] rfl rfl (by decide +kernel) (by decide +kernel) (by decide +kernel) (by decide +kernel) (fun _ => rfl) (fun x1613 _ H locs hq hP hD hS => ?_)
                obtain ⟨x1613_h, e1614⟩ := hq
                have hP : va_P (dC, dI) vwCl ([(o1, .inr (12, [.int v2, .ref o3, .int v5, .ref o6, .int v8, .ref o9, .ref o11, .int v13, .ref o14, .int v16, .ref o17, .int v19, .int v20, .int v21, .ref o22, .ref o24, .ref o26, .ref o28, .ref o30, .int v32, .ref o33, .ref o35, .ref o37, .int v8, .ref o40, .ref o42, .ref o44, .int v46, .ref o47])), (o37, .inl (cI, 12, .inl f1599)), (o9, .inl (cI, 12, .inl fw10)), (o42, .inl (cI, 49152, .inl fw43)), (o40, .inl (cZ, 49152, .inl fw41)), (o44, .inl (cI, 12, .inl fw45))]) H := hP
                have hD : va_D A ([(o1, .inr (12, [.int v2, .ref o3, .int v5, .ref o6, .int v8, .ref o9, .ref o11, .int v13, .ref o14, .int v16, .ref o17, .int v19, .int v20, .int v21, .ref o22, .ref o24, .ref o26, .ref o28, .ref o30, .int v32, .ref o33, .ref o35, .ref o37, .int v8, .ref o40, .ref o42, .ref o44, .int v46, .ref o47])), (o37, .inl (cI, 12, .inl f1599)), (o9, .inl (cI, 12, .inl fw10)), (o42, .inl (cI, 49152, .inl fw43)), (o40, .inl (cZ, 49152, .inl fw41)), (o44, .inl (cI, 12, .inl fw45))]) := hD
                refine lv_if_eq (tgt := 68) hx hb dX12_seat_59 (by decide) (fun h1615 => ?_) (fun h1615 => ?_)
                ·
                  have j1616 : Iv 0 0 x1613 := r_eq h1615 ik_0
                  have b1617 : bt x1612 (Int32.toNatClampNeg x1390) = false := has_f e1614 h1615
                  refine lv_iconst (v := 0) hx hb dX12_seat_68 (by decide) ?_
                  refine lv_ior hx hb dX12_seat_69 (lv_topi (fun x1618 x1618_e => ?_))
                  refine k_iast hx hb hK hP hD hS 1 0 rfl rfl (vin_iv j1398 (by decide)) dX12_seat_70 (fun f1619 H locs f1619_e hP hD hS => ?_)
                  have hP : va_P (dC, dI) vwCl ([(o1, .inr (12, [.int v2, .ref o3, .int v5, .ref o6, .int v8, .ref o9, .ref o11, .int v13, .ref o14, .int v16, .ref o17, .int v19, .int v20, .int v21, .ref o22, .ref o24, .ref o26, .ref o28, .ref o30, .int v32, .ref o33, .ref o35, .ref o37, .int v8, .ref o40, .ref o42, .ref o44, .int v46, .ref o47])), (o37, .inl (cI, 12, .inl f1619)), (o9, .inl (cI, 12, .inl fw10)), (o42, .inl (cI, 49152, .inl fw43)), (o40, .inl (cZ, 49152, .inl fw41)), (o44, .inl (cI, 12, .inl fw45))]) H := hP
                  have hD : va_D A ([(o1, .inr (12, [.int v2, .ref o3, .int v5, .ref o6, .int v8, .ref o9, .ref o11, .int v13, .ref o14, .int v16, .ref o17, .int v19, .int v20, .int v21, .ref o22, .ref o24, .ref o26, .ref o28, .ref o30, .int v32, .ref o33, .ref o35, .ref o37, .int v8, .ref o40, .ref o42, .ref o44, .int v46, .ref o47])), (o37, .inl (cI, 12, .inl f1619)), (o9, .inl (cI, 12, .inl fw10)), (o42, .inl (cI, 49152, .inl fw43)), (o40, .inl (cZ, 49152, .inl fw41)), (o44, .inl (cI, 12, .inl fw45))]) := hD
                  obtain ⟨x1620, x1620_e⟩ : ∃ z : Int32, z = x1598 + 1 := ⟨_, rfl⟩
                  have x1620_h : Iv 1 12 x1620 := iv_e x1620_e (iv_add j1603 ik_1 (by decide))
                  refine lv_iinc (v := x1620) (lv' := [(2, .int x1620), (1, .int x1390), (0, .ref o1)]) hx hb dX12_seat_71 hl (k := 0) rfl (incN (by decide +kernel) x1620_e) (by decide) rfl (fun ls hl => ?_)
                  refine lv_goto (tgt := 27) hx hb dX12_seat_74 (by decide) ?_
                  exact ih8 x1620 f1619 _ _ _ (ms_up x1620_e j1603 (by decide) hM8) (iv_w x1620_h (by decide)) (TA_upd iv8_0 f1619_e) (TI_n iv8_1 (iv_w (c := 0) (d := 4095) j1603 (by decide)) x1620_e x1604_e x1618_e f1619_e (tt_b x1612_e b1617)) hP hD hS hl
                ·
                  have j1621 : Iv 1 1 x1613 := r_nelo h1615 x1613_h ik_0 (by decide)
                  have b1622 : bt x1612 (Int32.toNatClampNeg x1390) = true := has_t e1614 h1615
                  refine lv_iconst (v := 1) hx hb dX12_seat_62 (by decide) ?_
                  refine lv_iload_n hx hb dX12_seat_63 rfl (lv_at hl 0 rfl) ?_
                  refine lv_ishl hx hb dX12_seat_64 (lv_topi (fun x1623 x1623_e => ?_))
                  have x1623_h : Iv 1 2048 x1623 := iv_e x1623_e (iv_shl1 j1603 (by decide))
                  refine lv_goto (tgt := 69) hx hb dX12_seat_65 (by decide) ?_
                  refine lv_ior hx hb dX12_seat_69 (lv_topi (fun x1624 x1624_e => ?_))
                  refine k_iast hx hb hK hP hD hS 1 0 rfl rfl (vin_iv j1398 (by decide)) dX12_seat_70 (fun f1625 H locs f1625_e hP hD hS => ?_)
                  have hP : va_P (dC, dI) vwCl ([(o1, .inr (12, [.int v2, .ref o3, .int v5, .ref o6, .int v8, .ref o9, .ref o11, .int v13, .ref o14, .int v16, .ref o17, .int v19, .int v20, .int v21, .ref o22, .ref o24, .ref o26, .ref o28, .ref o30, .int v32, .ref o33, .ref o35, .ref o37, .int v8, .ref o40, .ref o42, .ref o44, .int v46, .ref o47])), (o37, .inl (cI, 12, .inl f1625)), (o9, .inl (cI, 12, .inl fw10)), (o42, .inl (cI, 49152, .inl fw43)), (o40, .inl (cZ, 49152, .inl fw41)), (o44, .inl (cI, 12, .inl fw45))]) H := hP
                  have hD : va_D A ([(o1, .inr (12, [.int v2, .ref o3, .int v5, .ref o6, .int v8, .ref o9, .ref o11, .int v13, .ref o14, .int v16, .ref o17, .int v19, .int v20, .int v21, .ref o22, .ref o24, .ref o26, .ref o28, .ref o30, .int v32, .ref o33, .ref o35, .ref o37, .int v8, .ref o40, .ref o42, .ref o44, .int v46, .ref o47])), (o37, .inl (cI, 12, .inl f1625)), (o9, .inl (cI, 12, .inl fw10)), (o42, .inl (cI, 49152, .inl fw43)), (o40, .inl (cZ, 49152, .inl fw41)), (o44, .inl (cI, 12, .inl fw45))]) := hD
                  obtain ⟨x1626, x1626_e⟩ : ∃ z : Int32, z = x1598 + 1 := ⟨_, rfl⟩
                  have x1626_h : Iv 1 12 x1626 := iv_e x1626_e (iv_add j1603 ik_1 (by decide))
                  refine lv_iinc (v := x1626) (lv' := [(2, .int x1626), (1, .int x1390), (0, .ref o1)]) hx hb dX12_seat_71 hl (k := 0) rfl (incN (by decide +kernel) x1626_e) (by decide) rfl (fun ls hl => ?_)
                  refine lv_goto (tgt := 27) hx hb dX12_seat_74 (by decide) ?_
                  exact ih8 x1626 f1625 _ _ _ (ms_up x1626_e j1603 (by decide) hM8) (iv_w x1626_h (by decide)) (TA_upd iv8_0 f1625_e) (TI_y iv8_1 j1603 x1626_e x1604_e x1623_e x1624_e f1625_e (tt_y j1603 x1605_e qh1606 x1612_e b1622)) hP hD hS hl
        exact L8 _ 0 f1400 _ _ _ (Nat.lt_succ_self _) (iv_w ik_0 (by decide)) (TA_upd iv7_0 f1400_e) (TI_0 f1400_e) hP hD hS hl
  exact L7 _ 0 fw38 _ _ _ (Nat.lt_succ_self _) (iv_w ik_0 (by decide)) TA_0 hP hD hS hl
set_option maxHeartbeats 4000000 in
set_option maxRecDepth 100000 in
theorem kxX12_lines_2 (l : Launch) (dC : Nat → ClassId) (dI : Nat → Nat → Nat) (cI c2 cZ : ClassId) (o1 : Nat) (o3 : Nat) (o6 : Nat) (o9 : Nat) (o11 : Nat) (o14 : Nat) (o17 : Nat) (o22 : Nat) (o24 : Nat) (o26 : Nat) (o28 : Nat) (o30 : Nat) (o33 : Nat) (o35 : Nat) (o37 : Nat) (o40 : Nat) (o42 : Nat) (o44 : Nat) (o47 : Nat) (v2 : Int32) (v5 : Int32) (v8 : Int32) (v13 : Int32) (v16 : Int32) (v19 : Int32) (v20 : Int32) (v21 : Int32) (v32 : Int32) (fw38 : Nat → Int32) (v39 : Int32) (fw43 : Nat → Int32) (v46 : Int32) (sz : Nat) (v5_h : Iv 0 12 v5) (v8_h : Iv 0 8 v8) (v13_h : Iv 0 12 v13) (v16_h : Iv 0 12 v16) (v19_h : Iv (-9) 12 v19) (v32_h : Iv 0 99 v32) (v39_h : Iv 0 12 v39) (v46_h : Iv 0 12 v46) (pre0 : CD fw38 fw43 (Int32.toNatClampNeg v39)) : Met l yX12_lines wsX12_lines ({ frames := 0, cells := 0, slots := 0, locals := 0 }) (va_Pc [.ref o1] (wPre (dC, dI) [(cI, .int), (c2, .array .int), (cZ, .boolean)] ([(o1, .inr (12, [.int v2, .ref o3, .int v5, .ref o6, .int v8, .ref o9, .ref o11, .int v13, .ref o14, .int v16, .ref o17, .int v19, .int v20, .int v21, .ref o22, .ref o24, .ref o26, .ref o28, .ref o30, .int v32, .ref o33, .ref o35, .ref o37, .int v39, .ref o40, .ref o42, .ref o44, .int v46, .ref o47])), (o42, .inl (cI, 49152, .inl fw43)), (o37, .inl (cI, 12, .inl fw38))]) sz)) (va_Qi (fun (r : Int32) (_ : Unit) => r = Int32.ofNat (VV (okR (Tt fw38) (Int32.toNatClampNeg v39)) (Int32.toNatClampNeg v39) (fun _ => false))) (fun _ t => wPost (dC, dI) [(cI, .int), (c2, .array .int), (cZ, .boolean)] (va_A ([(o1, .inr (12, [.int v2, .ref o3, .int v5, .ref o6, .int v8, .ref o9, .ref o11, .int v13, .ref o14, .int v16, .ref o17, .int v19, .int v20, .int v21, .ref o22, .ref o24, .ref o26, .ref o28, .ref o30, .int v32, .ref o33, .ref o35, .ref o37, .int v39, .ref o40, .ref o42, .ref o44, .int v46, .ref o47])), (o42, .inl (cI, 49152, .inl fw43)), (o37, .inl (cI, 12, .inl fw38))]) sz) ([(o1, .inr (12, [.int v2, .ref o3, .int v5, .ref o6, .int v8, .ref o9, .ref o11, .int v13, .ref o14, .int v16, .ref o17, .int v19, .int v20, .int v21, .ref o22, .ref o24, .ref o26, .ref o28, .ref o30, .int v32, .ref o33, .ref o35, .ref o37, .int v39, .ref o40, .ref o42, .ref o44, .int v46, .ref o47])), (o42, .inl (cI, 49152, .inl fw43)), (o37, .inl (cI, 12, .inl fw38))]) t) (va_A ([(o1, .inr (12, [.int v2, .ref o3, .int v5, .ref o6, .int v8, .ref o9, .ref o11, .int v13, .ref o14, .int v16, .ref o17, .int v19, .int v20, .int v21, .ref o22, .ref o24, .ref o26, .ref o28, .ref o30, .int v32, .ref o33, .ref o35, .ref o37, .int v39, .ref o40, .ref o42, .ref o44, .int v46, .ref o47])), (o42, .inl (cI, 49152, .inl fw43)), (o37, .inl (cI, 12, .inl fw38))]) sz)) 0 0 (va_A ([(o1, .inr (12, [.int v2, .ref o3, .int v5, .ref o6, .int v8, .ref o9, .ref o11, .int v13, .ref o14, .int v16, .ref o17, .int v19, .int v20, .int v21, .ref o22, .ref o24, .ref o26, .ref o28, .ref o30, .int v32, .ref o33, .ref o35, .ref o37, .int v39, .ref o40, .ref o42, .ref o44, .int v46, .ref o47])), (o42, .inl (cI, 49152, .inl fw43)), (o37, .inl (cI, 12, .inl fw38))]) sz) := by
  refine Met.ofW (cc := cX12_lines) (maxL := 3) (ret := (some .int)) (by decide) rfl ?_
  intro p e s m args below meth c s₁ B hml hv
  obtain ⟨rfl, hsz, hP, hK, hD0, hN⟩ := hv
  have hx := B.exec
  have hb := B.bytes
  have hr := B.returns
  have hts := atoms_spec (ws := wsX12_lines) B.pre
  have hown : s.vm.findClass RX12 = some m.cls := findClass_of_methodNamed B.named
  have hlocks := B.notSynchronized
  subst hsz
  have hD := hD0.self (sz := s.heap.size)
  generalize hAe : va_A ([(o1, .inr (12, [.int v2, .ref o3, .int v5, .ref o6, .int v8, .ref o9, .ref o11, .int v13, .ref o14, .int v16, .ref o17, .int v19, .int v20, .int v21, .ref o22, .ref o24, .ref o26, .ref o28, .ref o30, .int v32, .ref o33, .ref o35, .ref o37, .int v39, .ref o40, .ref o42, .ref o44, .int v46, .ref o47])), (o42, .inl (cI, 49152, .inl fw43)), (o37, .inl (cI, 12, .inl fw38))]) s.heap.size = A at hD ⊢
  have hA : ∀ q : Nat, s.heap.size ≤ q → A q := fun q h => by rw [← hAe]; exact Or.inr h
  have hS : va_S A s.heap s.heap [] := va_S.rf
  have hP : va_P (dC, dI) vwCl ([(o1, .inr (12, [.int v2, .ref o3, .int v5, .ref o6, .int v8, .ref o9, .ref o11, .int v13, .ref o14, .int v16, .ref o17, .int v19, .int v20, .int v21, .ref o22, .ref o24, .ref o26, .ref o28, .ref o30, .int v32, .ref o33, .ref o35, .ref o37, .int v39, .ref o40, .ref o42, .ref o44, .int v46, .ref o47])), (o42, .inl (cI, 49152, .inl fw43)), (o37, .inl (cI, 12, .inl fw38))]) s.heap := hP
  have hl := lv_entry ([.ref o1]) (n := 3) (Nat.le_of_ble_eq_true rfl)
  rw [lg_entry_eq]
  generalize (lg_sl ([.ref o1]) ++ List.replicate (3 - (lg_sl ([.ref o1])).length) Slot.unset).toArray = ls at hl ⊢
  have hl : lv_has ls 3 [(0, .ref o1)] := hl
  refine gen_Q (fun Q hQ => ?_)
  refine lv_aload_n hx hb dX12_lines_0 rfl (lv_at hl 0 rfl) ?_
  refine va_get (D := (dC, dI)) (ci := 12) (v := .int v39) (C := RX12) (T := TX12) (N := 29) hx hb hts iw_X12_lines_X12 hown hK hP 0 rfl rfl 23 (by decide) (hts (.fieldLink RX12 191 "HolelessHouseModel" "thingMany" "I") hm_X12_lines_1) (fun _ h9 => h9) rfl dX12_lines_1 ?_
  refine lv_if_ne (tgt := 11) hx hb dX12_lines_4 (by decide) (fun h1 => ?_) (fun h1 => ?_)
  ·
    have j2 : Iv 1 12 v39 := r_nelo h1 v39_h ik_0 (by decide)
    refine lv_iconst (v := 0) hx hb dX12_lines_11 (by decide) ?_
    refine lv_istore_n (lv' := [(1, .int 0), (0, .ref o1)]) hx hb dX12_lines_12 rfl hl (by decide) rfl (fun ls hl => ?_)
    refine lv_iconst (v := 0) hx hb dX12_lines_13 (by decide) ?_
    refine lv_istore_n (lv' := [(2, .int 0), (1, .int 0), (0, .ref o1)]) hx hb dX12_lines_14 rfl hl (by decide) rfl (fun ls hl => ?_)
    have L1 : ∀ (N : Nat) (x82 : Int32) (x83 : Int32) (H : Heap) (locs : List Loc) (ls : Array Slot), (12 - x82.toInt).toNat < N → Iv 0 12 x82 → (LI fw38 (Int32.toNatClampNeg v39) 0 (Int32.toNatClampNeg x82) x83) → (Int32.toInt x82 ≤ Int32.toInt v39) → va_P (dC, dI) vwCl ([(o1, .inr (12, [.int v2, .ref o3, .int v5, .ref o6, .int v8, .ref o9, .ref o11, .int v13, .ref o14, .int v16, .ref o17, .int v19, .int v20, .int v21, .ref o22, .ref o24, .ref o26, .ref o28, .ref o30, .int v32, .ref o33, .ref o35, .ref o37, .int v39, .ref o40, .ref o42, .ref o44, .int v46, .ref o47])), (o42, .inl (cI, 49152, .inl fw43)), (o37, .inl (cI, 12, .inl fw38))]) H → va_D A ([(o1, .inr (12, [.int v2, .ref o3, .int v5, .ref o6, .int v8, .ref o9, .ref o11, .int v13, .ref o14, .int v16, .ref o17, .int v19, .int v20, .int v21, .ref o22, .ref o24, .ref o26, .ref o28, .ref o30, .int v32, .ref o33, .ref o35, .ref o37, .int v39, .ref o40, .ref o42, .ref o44, .int v46, .ref o47])), (o42, .inl (cI, 49152, .inl fw43)), (o37, .inl (cI, 12, .inl fw38))]) → va_S A s.heap H locs → lv_has ls 3 [(2, .int x82), (1, .int x83), (0, .ref o1)] → W p l e ({ frames := 0, cells := 0, slots := 0, locals := 0 }) s m ([.ref o1] : List Value).toArray below meth c H locs 0 0 Q (F0 m 15 ls []) := by
      intro N
      induction N with
      | zero =>
        intro x82 x83 H locs ls hM
        exact absurd hM (Nat.not_lt_zero _)
      | succ N ih1 =>
        intro x82 x83 H locs ls hM1 x82_h iv1_0 iv1_1 hP hD hS hl
        refine lv_iload_n hx hb dX12_lines_15 rfl (lv_at hl 0 rfl) ?_
        refine lv_aload_n hx hb dX12_lines_16 rfl (lv_at hl 2 rfl) ?_
        refine va_get (D := (dC, dI)) (ci := 12) (v := .int v39) (C := RX12) (T := TX12) (N := 29) hx hb hts iw_X12_lines_X12 hown hK hP 0 rfl rfl 23 (by decide) (hts (.fieldLink RX12 191 "HolelessHouseModel" "thingMany" "I") hm_X12_lines_1) (fun _ h9 => h9) rfl dX12_lines_17 ?_
        refine lv_icmp_ge (tgt := 45) hx hb dX12_lines_20 (by decide) (fun h84 => ?_) (fun h84 => ?_)
        ·
          have qh84 := le_i h84
          have j85 : Iv 1 12 x82 := r_ler qh84 j2 x82_h (by decide)
          refine lv_iload_n hx hb dX12_lines_45 rfl (lv_at hl 1 rfl) ?_
          rw [hQ]
          exact W.iret (v := x83) hx hb hr (fun t ht hW => ⟨⟨x83, (), rfl, (LI_e0 iv1_0 qh84 iv1_1 (iv_w (c := 0) (d := 12) j2 (by decide)) h1), by rw [ht]; exact hP, va_K.moved hW.alike hK, hD⟩, hS.F ht⟩) hS.2.2 dX12_lines_46
        ·
          have qh84 := nle_i h84
          have j86 : Iv 0 11 x82 := r_ltl qh84 x82_h j2 (by decide)
          refine lv_iload_n hx hb dX12_lines_23 rfl (lv_at hl 1 rfl) ?_
          refine lv_aload_n hx hb dX12_lines_24 rfl (lv_at hl 2 rfl) ?_
          refine va_get (D := (dC, dI)) (ci := 12) (v := .ref o42) (C := RX12) (T := TX12) (N := 29) hx hb hts iw_X12_lines_X12 hown hK hP 0 rfl rfl 25 (by decide) (hts (.fieldLink RX12 61 "HolelessHouseModel" "counts" "[I") hm_X12_lines_2) (fun _ h9 => h9) rfl dX12_lines_25 ?_
          refine lv_bipush (v := 12) hx hb dX12_lines_28 (by decide) ?_
          refine lv_iconst (v := 1) hx hb dX12_lines_30 (by decide) ?_
          refine lv_iload_n hx hb dX12_lines_31 rfl (lv_at hl 0 rfl) ?_
          refine lv_ishl hx hb dX12_lines_32 (lv_topi (fun x87 x87_e => ?_))
          have x87_h : Iv 1 2048 x87 := iv_e x87_e (iv_shl1 j86 (by decide))
          refine lv_imul hx hb dX12_lines_33 (lv_topi (fun x88 x88_e => ?_))
          have x88_h : Iv 0 24576 x88 := iv_e x88_e (iv_mul ik_12 x87_h (by decide))
          refine lv_iload_n hx hb dX12_lines_34 rfl (lv_at hl 0 rfl) ?_
          refine lv_iadd hx hb dX12_lines_35 (lv_topi (fun x89 x89_e => ?_))
          have x89_h : Iv 0 24587 x89 := iv_e x89_e (iv_add x88_h j86 (by decide))
          refine va_iald hx hb hK hP 1 0 rfl rfl (vin_iv x89_h (by decide)) dX12_lines_36 (lv_topi (fun x90 x90_e => ?_))
          refine lv_iadd hx hb dX12_lines_37 (lv_topi (fun x91 x91_e => ?_))
          refine lv_istore_n (lv' := [(1, .int x91), (2, .int x82), (0, .ref o1)]) hx hb dX12_lines_38 rfl hl (by decide) rfl (fun ls hl => ?_)
          obtain ⟨x92, x92_e⟩ : ∃ z : Int32, z = x82 + 1 := ⟨_, rfl⟩
          have x92_h : Iv 1 12 x92 := iv_e x92_e (iv_add j86 ik_1 (by decide))
          refine lv_iinc (v := x92) (lv' := [(2, .int x92), (1, .int x91), (0, .ref o1)]) hx hb dX12_lines_39 hl (k := 1) rfl (incN (by decide +kernel) x92_e) (by decide) rfl (fun ls hl => ?_)
          refine lv_goto (tgt := 15) hx hb dX12_lines_42 (by decide) ?_
          exact ih1 x92 x91 _ _ _ (ms_up x92_e j86 (by decide) hM1) (iv_w x92_h (by decide)) (LI_s iv1_0 pre0 j86 (cl_in qh84 j86) x92_e x87_e (iv_w (c := 1) (d := 4095) x87_h (by decide)) x88_e x89_e x90_e x91_e) (kn_s (iv_w (c := 0) (d := 4095) j86 (by decide)) x92_e qh84) hP hD hS hl
    exact L1 _ 0 0 _ _ _ (Nat.lt_succ_self _) (iv_w ik_0 (by decide)) (LI_0 (by decide +kernel)) (kn_0 (iv_w (c := 0) (d := 4095) j2 (by decide))) hP hD hS hl
  ·
    have j93 : Iv 0 0 v39 := r_eq h1 ik_0
    refine lv_iconst (v := 1) hx hb dX12_lines_7 (by decide) ?_
    refine lv_goto (tgt := 12) hx hb dX12_lines_8 (by decide) ?_
    refine lv_istore_n (lv' := [(1, .int 1), (0, .ref o1)]) hx hb dX12_lines_12 rfl hl (by decide) rfl (fun ls hl => ?_)
    refine lv_iconst (v := 0) hx hb dX12_lines_13 (by decide) ?_
    refine lv_istore_n (lv' := [(2, .int 0), (1, .int 1), (0, .ref o1)]) hx hb dX12_lines_14 rfl hl (by decide) rfl (fun ls hl => ?_)
    refine lv_iload_n hx hb dX12_lines_15 rfl (lv_at hl 0 rfl) ?_
    refine lv_aload_n hx hb dX12_lines_16 rfl (lv_at hl 2 rfl) ?_
    refine va_get (D := (dC, dI)) (ci := 12) (v := .int v39) (C := RX12) (T := TX12) (N := 29) hx hb hts iw_X12_lines_X12 hown hK hP 0 rfl rfl 23 (by decide) (hts (.fieldLink RX12 191 "HolelessHouseModel" "thingMany" "I") hm_X12_lines_1) (fun _ h9 => h9) rfl dX12_lines_17 ?_
    refine lv_icmp_ge (tgt := 45) hx hb dX12_lines_20 (by decide) (fun _ => ?_) (fun h9 => absurd (d_le j93 ik_0 (by decide)) h9)
    refine lv_iload_n hx hb dX12_lines_45 rfl (lv_at hl 1 rfl) ?_
    rw [hQ]
    exact W.iret (v := 1) hx hb hr (fun t ht hW => ⟨⟨1, (), rfl, (LI_z h1), by rw [ht]; exact hP, va_K.moved hW.alike hK, hD⟩, hS.F ht⟩) hS.2.2 dX12_lines_46
set_option maxHeartbeats 4000000 in
set_option maxRecDepth 100000 in
theorem kxX12_seatings_2 (l : Launch) (dC : Nat → ClassId) (dI : Nat → Nat → Nat) (cI c2 cZ : ClassId) (o1 : Nat) (o3 : Nat) (o6 : Nat) (o9 : Nat) (o11 : Nat) (o14 : Nat) (o17 : Nat) (o22 : Nat) (o24 : Nat) (o26 : Nat) (o28 : Nat) (o30 : Nat) (o33 : Nat) (o35 : Nat) (o37 : Nat) (o40 : Nat) (o42 : Nat) (o44 : Nat) (o47 : Nat) (v2 : Int32) (v5 : Int32) (v8 : Int32) (fw10 : Nat → Int32) (v13 : Int32) (v16 : Int32) (v19 : Int32) (v20 : Int32) (v21 : Int32) (v32 : Int32) (fw38 : Nat → Int32) (v39 : Int32) (fw41 : Nat → Int32) (fw43 : Nat → Int32) (fw45 : Nat → Int32) (v46 : Int32) (sz : Nat) (v5_h : Iv 0 12 v5) (v8_h : Iv 0 8 v8) (fw10_b : Bd 12 (-9) 255 fw10) (v13_h : Iv 0 12 v13) (v16_h : Iv 0 12 v16) (v19_h : Iv (-9) 12 v19) (v32_h : Iv 0 99 v32) (v39_h : Iv 0 12 v39) (fw45_b : Bd 12 0 11 fw45) (v46_h : Iv 0 12 v46) : Met l yX12_seatings wsX12_seatings ({ frames := 4, cells := 0, slots := 0, locals := 93 }) (va_Pc [.ref o1] (wPre (dC, dI) [(cI, .int), (c2, .array .int), (cZ, .boolean)] ([(o1, .inr (12, [.int v2, .ref o3, .int v5, .ref o6, .int v8, .ref o9, .ref o11, .int v13, .ref o14, .int v16, .ref o17, .int v19, .int v20, .int v21, .ref o22, .ref o24, .ref o26, .ref o28, .ref o30, .int v32, .ref o33, .ref o35, .ref o37, .int v39, .ref o40, .ref o42, .ref o44, .int v46, .ref o47])), (o37, .inl (cI, 12, .inl fw38)), (o9, .inl (cI, 12, .inl fw10)), (o42, .inl (cI, 49152, .inl fw43)), (o40, .inl (cZ, 49152, .inl fw41)), (o44, .inl (cI, 12, .inl fw45))]) sz)) (va_Qi (fun (r : Int32) (u : Int32 × Int32 × (Nat → Int32) × (Nat → Int32) × (Nat → Int32) × (Nat → Int32)) => Iv 0 12 u.1 ∧ Iv 0 12 u.2.1 ∧ Bd 12 0 11 u.2.2.2.2.2 ∧ r = Int32.ofNat (cnt (Int32.toNatClampNeg v8) fw10)) (fun u t => wPost (dC, dI) [(cI, .int), (c2, .array .int), (cZ, .boolean)] (va_A ([(o1, .inr (12, [.int v2, .ref o3, .int v5, .ref o6, .int v8, .ref o9, .ref o11, .int v13, .ref o14, .int v16, .ref o17, .int v19, .int v20, .int v21, .ref o22, .ref o24, .ref o26, .ref o28, .ref o30, .int v32, .ref o33, .ref o35, .ref o37, .int v39, .ref o40, .ref o42, .ref o44, .int v46, .ref o47])), (o37, .inl (cI, 12, .inl fw38)), (o9, .inl (cI, 12, .inl fw10)), (o42, .inl (cI, 49152, .inl fw43)), (o40, .inl (cZ, 49152, .inl fw41)), (o44, .inl (cI, 12, .inl fw45))]) sz) ([(o1, .inr (12, [.int v2, .ref o3, .int v5, .ref o6, .int v8, .ref o9, .ref o11, .int v13, .ref o14, .int v16, .ref o17, .int v19, .int v20, .int v21, .ref o22, .ref o24, .ref o26, .ref o28, .ref o30, .int v32, .ref o33, .ref o35, .ref o37, .int u.1, .ref o40, .ref o42, .ref o44, .int u.2.1, .ref o47])), (o37, .inl (cI, 12, .inl u.2.2.1)), (o9, .inl (cI, 12, .inl fw10)), (o42, .inl (cI, 49152, .inl u.2.2.2.1)), (o40, .inl (cZ, 49152, .inl u.2.2.2.2.1)), (o44, .inl (cI, 12, .inl u.2.2.2.2.2))]) t) (va_A ([(o1, .inr (12, [.int v2, .ref o3, .int v5, .ref o6, .int v8, .ref o9, .ref o11, .int v13, .ref o14, .int v16, .ref o17, .int v19, .int v20, .int v21, .ref o22, .ref o24, .ref o26, .ref o28, .ref o30, .int v32, .ref o33, .ref o35, .ref o37, .int v39, .ref o40, .ref o42, .ref o44, .int v46, .ref o47])), (o37, .inl (cI, 12, .inl fw38)), (o9, .inl (cI, 12, .inl fw10)), (o42, .inl (cI, 49152, .inl fw43)), (o40, .inl (cZ, 49152, .inl fw41)), (o44, .inl (cI, 12, .inl fw45))]) sz)) 0 0 (va_A ([(o1, .inr (12, [.int v2, .ref o3, .int v5, .ref o6, .int v8, .ref o9, .ref o11, .int v13, .ref o14, .int v16, .ref o17, .int v19, .int v20, .int v21, .ref o22, .ref o24, .ref o26, .ref o28, .ref o30, .int v32, .ref o33, .ref o35, .ref o37, .int v39, .ref o40, .ref o42, .ref o44, .int v46, .ref o47])), (o37, .inl (cI, 12, .inl fw38)), (o9, .inl (cI, 12, .inl fw10)), (o42, .inl (cI, 49152, .inl fw43)), (o40, .inl (cZ, 49152, .inl fw41)), (o44, .inl (cI, 12, .inl fw45))]) sz) := by
  refine Met.ofW (cc := cX12_seatings) (maxL := 1) (ret := (some .int)) (by decide) rfl ?_
  intro p e s m args below meth c s₁ B hml hv
  obtain ⟨rfl, hsz, hP, hK, hD0, hN⟩ := hv
  have hx := B.exec
  have hb := B.bytes
  have hr := B.returns
  have hts := atoms_spec (ws := wsX12_seatings) B.pre
  have hown : s.vm.findClass RX12 = some m.cls := findClass_of_methodNamed B.named
  have hlocks := B.notSynchronized
  subst hsz
  have hD := hD0.self (sz := s.heap.size)
  generalize hAe : va_A ([(o1, .inr (12, [.int v2, .ref o3, .int v5, .ref o6, .int v8, .ref o9, .ref o11, .int v13, .ref o14, .int v16, .ref o17, .int v19, .int v20, .int v21, .ref o22, .ref o24, .ref o26, .ref o28, .ref o30, .int v32, .ref o33, .ref o35, .ref o37, .int v39, .ref o40, .ref o42, .ref o44, .int v46, .ref o47])), (o37, .inl (cI, 12, .inl fw38)), (o9, .inl (cI, 12, .inl fw10)), (o42, .inl (cI, 49152, .inl fw43)), (o40, .inl (cZ, 49152, .inl fw41)), (o44, .inl (cI, 12, .inl fw45))]) s.heap.size = A at hD ⊢
  have hA : ∀ q : Nat, s.heap.size ≤ q → A q := fun q h => by rw [← hAe]; exact Or.inr h
  have hS : va_S A s.heap s.heap [] := va_S.rf
  have hP : va_P (dC, dI) vwCl ([(o1, .inr (12, [.int v2, .ref o3, .int v5, .ref o6, .int v8, .ref o9, .ref o11, .int v13, .ref o14, .int v16, .ref o17, .int v19, .int v20, .int v21, .ref o22, .ref o24, .ref o26, .ref o28, .ref o30, .int v32, .ref o33, .ref o35, .ref o37, .int v39, .ref o40, .ref o42, .ref o44, .int v46, .ref o47])), (o37, .inl (cI, 12, .inl fw38)), (o9, .inl (cI, 12, .inl fw10)), (o42, .inl (cI, 49152, .inl fw43)), (o40, .inl (cZ, 49152, .inl fw41)), (o44, .inl (cI, 12, .inl fw45))]) s.heap := hP
  have hl := lv_entry ([.ref o1]) (n := 1) (Nat.le_of_ble_eq_true rfl)
  rw [lg_entry_eq]
  generalize (lg_sl ([.ref o1]) ++ List.replicate (1 - (lg_sl ([.ref o1])).length) Slot.unset).toArray = ls at hl ⊢
  have hl : lv_has ls 1 [(0, .ref o1)] := hl
  refine gen_Q (fun Q hQ => ?_)
  refine lv_aload_n hx hb dX12_seatings_0 rfl (lv_at hl 0 rfl) ?_
  refine kc_v (D := (dC, dI)) (S := Int32 × Int32 × (Nat → Int32) × (Nat → Int32) × (Nat → Int32) × (Nat → Int32)) (wc := [(o1, .inr (12, [.int v2, .ref o3, .int v5, .ref o6, .int v8, .ref o9, .ref o11, .int v13, .ref o14, .int v16, .ref o17, .int v19, .int v20, .int v21, .ref o22, .ref o24, .ref o26, .ref o28, .ref o30, .int v32, .ref o33, .ref o35, .ref o37, .int v39, .ref o40, .ref o42, .ref o44, .int v46, .ref o47])), (o37, .inl (cI, 12, .inl fw38)), (o9, .inl (cI, 12, .inl fw10)), (o42, .inl (cI, 49152, .inl fw43)), (o40, .inl (cZ, 49152, .inl fw41)), (o44, .inl (cI, 12, .inl fw45))]) (wr := []) (w1 := fun u => [(o1, .inr (12, [.int v2, .ref o3, .int v5, .ref o6, .int v8, .ref o9, .ref o11, .int v13, .ref o14, .int v16, .ref o17, .int v19, .int v20, .int v21, .ref o22, .ref o24, .ref o26, .ref o28, .ref o30, .int v32, .ref o33, .ref o35, .ref o37, .int u.1, .ref o40, .ref o42, .ref o44, .int u.2.1, .ref o47])), (o37, .inl (cI, 12, .inl u.2.2.1)), (o9, .inl (cI, 12, .inl fw10)), (o42, .inl (cI, 49152, .inl u.2.2.2.1)), (o40, .inl (cZ, 49152, .inl u.2.2.2.2.1)), (o44, .inl (cI, 12, .inl u.2.2.2.2.2))]) (wn := fun u => [(o1, .inr (12, [.int v2, .ref o3, .int v5, .ref o6, .int v8, .ref o9, .ref o11, .int v13, .ref o14, .int v16, .ref o17, .int v19, .int v20, .int v21, .ref o22, .ref o24, .ref o26, .ref o28, .ref o30, .int v32, .ref o33, .ref o35, .ref o37, .int u.1, .ref o40, .ref o42, .ref o44, .int u.2.1, .ref o47])), (o37, .inl (cI, 12, .inl u.2.2.1)), (o9, .inl (cI, 12, .inl fw10)), (o42, .inl (cI, 49152, .inl u.2.2.2.1)), (o40, .inl (cZ, 49152, .inl u.2.2.2.2.1)), (o44, .inl (cI, 12, .inl u.2.2.2.2.2))]) (fun hPc hDc => va_runV (As := []) (rest := []) ⟨hx, hb, hml, hown, hts⟩ (kxX12_seat_2 l dC dI cI c2 cZ o1 o3 o6 o9 o11 o14 o17 o22 o24 o26 o28 o30 o33 o35 o37 o40 o42 o44 o47 v2 v5 v8 fw10 v13 v16 v19 v20 v21 v32 fw38 v39 fw41 fw43 fw45 v46 s.heap.size v5_h v8_h fw10_b v13_h v16_h v19_h v32_h v39_h fw45_b v46_h) (cwV 0 hts gX12_seatings_X12_seat rfl rfl rfl (by decide +kernel) ⟨Nat.le_of_ble_eq_true rfl, Nat.le_of_ble_eq_true rfl⟩) (pre_V hPc hK hDc hN (ci := 12) (q0 := 0) rfl rfl) rfl rfl hl.1 rfl (lv_room (Nat.le_of_ble_eq_true rfl)) dX12_seatings_1 ⟨Nat.le_of_ble_eq_true rfl, Nat.le_of_ble_eq_true rfl⟩) hP hD hS hA [0, 1, 2, 3, 4, 5] [] [0, 1, 2, 3, 4, 5] rfl rfl (by decide +kernel) (by decide +kernel) (by decide +kernel) (by decide +kernel) (fun _ => rfl) (fun u H locs hq hP hD hS => ?_)
  obtain ⟨y1, y2, f3, f4, f5, f6⟩ := u
  obtain ⟨y1_h, y2_h, f6_b, e7, e8, e9⟩ := hq
  have y1_h : Iv 0 12 y1 := y1_h
  have y2_h : Iv 0 12 y2 := y2_h
  have f6_b : Bd 12 0 11 f6 := f6_b
  have e7 : y1 = v8 := e7
  have e8 : TA fw10 f3 (Int32.toNatClampNeg y1) := e8
  have e9 : CD f3 f4 (Int32.toNatClampNeg y1) := e9
  have hP : va_P (dC, dI) vwCl ([(o1, .inr (12, [.int v2, .ref o3, .int v5, .ref o6, .int v8, .ref o9, .ref o11, .int v13, .ref o14, .int v16, .ref o17, .int v19, .int v20, .int v21, .ref o22, .ref o24, .ref o26, .ref o28, .ref o30, .int v32, .ref o33, .ref o35, .ref o37, .int y1, .ref o40, .ref o42, .ref o44, .int y2, .ref o47])), (o37, .inl (cI, 12, .inl f3)), (o9, .inl (cI, 12, .inl fw10)), (o42, .inl (cI, 49152, .inl f4)), (o40, .inl (cZ, 49152, .inl f5)), (o44, .inl (cI, 12, .inl f6))]) H := hP
  have hD : va_D A ([(o1, .inr (12, [.int v2, .ref o3, .int v5, .ref o6, .int v8, .ref o9, .ref o11, .int v13, .ref o14, .int v16, .ref o17, .int v19, .int v20, .int v21, .ref o22, .ref o24, .ref o26, .ref o28, .ref o30, .int v32, .ref o33, .ref o35, .ref o37, .int y1, .ref o40, .ref o42, .ref o44, .int y2, .ref o47])), (o37, .inl (cI, 12, .inl f3)), (o9, .inl (cI, 12, .inl fw10)), (o42, .inl (cI, 49152, .inl f4)), (o40, .inl (cZ, 49152, .inl f5)), (o44, .inl (cI, 12, .inl f6))]) := hD
  refine lv_aload_n hx hb dX12_seatings_4 rfl (lv_at hl 0 rfl) ?_
  refine kc_i (D := (dC, dI)) (S := Unit) (wc := [(o1, .inr (12, [.int v2, .ref o3, .int v5, .ref o6, .int v8, .ref o9, .ref o11, .int v13, .ref o14, .int v16, .ref o17, .int v19, .int v20, .int v21, .ref o22, .ref o24, .ref o26, .ref o28, .ref o30, .int v32, .ref o33, .ref o35, .ref o37, .int y1, .ref o40, .ref o42, .ref o44, .int y2, .ref o47])), (o42, .inl (cI, 49152, .inl f4)), (o37, .inl (cI, 12, .inl f3))]) (wr := [(o9, .inl (cI, 12, .inl fw10)), (o40, .inl (cZ, 49152, .inl f5)), (o44, .inl (cI, 12, .inl f6))]) (w1 := fun _ => [(o1, .inr (12, [.int v2, .ref o3, .int v5, .ref o6, .int v8, .ref o9, .ref o11, .int v13, .ref o14, .int v16, .ref o17, .int v19, .int v20, .int v21, .ref o22, .ref o24, .ref o26, .ref o28, .ref o30, .int v32, .ref o33, .ref o35, .ref o37, .int y1, .ref o40, .ref o42, .ref o44, .int y2, .ref o47])), (o42, .inl (cI, 49152, .inl f4)), (o37, .inl (cI, 12, .inl f3))]) (wn := fun _ => [(o1, .inr (12, [.int v2, .ref o3, .int v5, .ref o6, .int v8, .ref o9, .ref o11, .int v13, .ref o14, .int v16, .ref o17, .int v19, .int v20, .int v21, .ref o22, .ref o24, .ref o26, .ref o28, .ref o30, .int v32, .ref o33, .ref o35, .ref o37, .int y1, .ref o40, .ref o42, .ref o44, .int y2, .ref o47])), (o37, .inl (cI, 12, .inl f3)), (o9, .inl (cI, 12, .inl fw10)), (o42, .inl (cI, 49152, .inl f4)), (o40, .inl (cZ, 49152, .inl f5)), (o44, .inl (cI, 12, .inl f6))]) (fun hPc hDc => va_runV (As := []) (rest := []) ⟨hx, hb, hml, hown, hts⟩ (kxX12_lines_2 l dC dI cI c2 cZ o1 o3 o6 o9 o11 o14 o17 o22 o24 o26 o28 o30 o33 o35 o37 o40 o42 o44 o47 v2 v5 v8 v13 v16 v19 v20 v21 v32 f3 y1 f4 y2 H.size v5_h v8_h v13_h v16_h v19_h v32_h y1_h y2_h e9) (cwV 0 hts gX12_seatings_X12_lines rfl rfl rfl (by decide +kernel) ⟨Nat.le_of_ble_eq_true rfl, Nat.le_of_ble_eq_true rfl⟩) (pre_V hPc hK hDc hN (ci := 12) (q0 := 0) rfl rfl) rfl rfl hl.1 rfl (lv_room (Nat.le_of_ble_eq_true rfl)) dX12_seatings_5 ⟨Nat.le_of_ble_eq_true rfl, Nat.le_of_ble_eq_true rfl⟩) hP hD hS hA [0, 3, 1] [2, 4, 5] [3, 5, 0, 4, 1, 2] rfl rfl (by decide +kernel) (by decide +kernel) (by decide +kernel) (by decide +kernel) (fun _ => rfl) (fun x10 _ H locs hq hP hD hS => ?_)
  have e11 := hq
  have hP : va_P (dC, dI) vwCl ([(o1, .inr (12, [.int v2, .ref o3, .int v5, .ref o6, .int v8, .ref o9, .ref o11, .int v13, .ref o14, .int v16, .ref o17, .int v19, .int v20, .int v21, .ref o22, .ref o24, .ref o26, .ref o28, .ref o30, .int v32, .ref o33, .ref o35, .ref o37, .int y1, .ref o40, .ref o42, .ref o44, .int y2, .ref o47])), (o37, .inl (cI, 12, .inl f3)), (o9, .inl (cI, 12, .inl fw10)), (o42, .inl (cI, 49152, .inl f4)), (o40, .inl (cZ, 49152, .inl f5)), (o44, .inl (cI, 12, .inl f6))]) H := hP
  have hD : va_D A ([(o1, .inr (12, [.int v2, .ref o3, .int v5, .ref o6, .int v8, .ref o9, .ref o11, .int v13, .ref o14, .int v16, .ref o17, .int v19, .int v20, .int v21, .ref o22, .ref o24, .ref o26, .ref o28, .ref o30, .int v32, .ref o33, .ref o35, .ref o37, .int y1, .ref o40, .ref o42, .ref o44, .int y2, .ref o47])), (o37, .inl (cI, 12, .inl f3)), (o9, .inl (cI, 12, .inl fw10)), (o42, .inl (cI, 49152, .inl f4)), (o40, .inl (cZ, 49152, .inl f5)), (o44, .inl (cI, 12, .inl f6))]) := hD
  rw [hQ]
  exact W.iret (v := x10) hx hb hr (fun t ht hW => ⟨⟨x10, (y1, y2, f3, f4, f5, f6), rfl, ⟨y1_h, y2_h, f6_b, (sg_f e11 e7 e8)⟩, by rw [ht]; exact hP, va_K.moved hW.alike hK, hD⟩, hS.F ht⟩) hS.2.2 dX12_seatings_8
set_option maxHeartbeats 4000000 in
set_option maxRecDepth 100000 in
theorem kxX12_tear_2 (l : Launch) (dC : Nat → ClassId) (dI : Nat → Nat → Nat) (cI c2 cZ : ClassId) (o1 : Nat) (o3 : Nat) (o6 : Nat) (o9 : Nat) (o11 : Nat) (o14 : Nat) (o17 : Nat) (o22 : Nat) (o24 : Nat) (o26 : Nat) (o28 : Nat) (o30 : Nat) (o33 : Nat) (o35 : Nat) (o37 : Nat) (o40 : Nat) (o42 : Nat) (o44 : Nat) (o47 : Nat) (v2 : Int32) (fw4 : Nat → Int32) (v5 : Int32) (v8 : Int32) (fw10 : Nat → Int32) (v13 : Int32) (v16 : Int32) (v19 : Int32) (v20 : Int32) (v21 : Int32) (v32 : Int32) (v39 : Int32) (v46 : Int32) (a1 : Int32) (sz : Nat) (v5_h : Iv 0 12 v5) (v8_h : Iv 0 8 v8) (fw10_b : Bd 12 (-9) 255 fw10) (v13_h : Iv 0 12 v13) (v16_h : Iv 0 12 v16) (v19_h : Iv (-9) 12 v19) (v32_h : Iv 0 99 v32) (v39_h : Iv 0 12 v39) (v46_h : Iv 0 12 v46) : Met l yX12_tear wsX12_tear ({ frames := 1, cells := 0, slots := 0, locals := 22 }) (va_Pc [.ref o1, .int a1] (wPre (dC, dI) [(cI, .int), (c2, .array .int), (cZ, .boolean)] ([(o1, .inr (12, [.int v2, .ref o3, .int v5, .ref o6, .int v8, .ref o9, .ref o11, .int v13, .ref o14, .int v16, .ref o17, .int v19, .int v20, .int v21, .ref o22, .ref o24, .ref o26, .ref o28, .ref o30, .int v32, .ref o33, .ref o35, .ref o37, .int v39, .ref o40, .ref o42, .ref o44, .int v46, .ref o47])), (o9, .inl (cI, 12, .inl fw10)), (o3, .inl (cI, 5, .inl fw4))]) sz)) (va_Qi (fun (r : Int32) (u : Int32 × (Nat → Int32) × (Nat → Int32)) => Iv (-3) 1 r ∧ Bd 12 (-9) 255 u.2.1 ∧ teaP (-9) a1 fw10 u.2.1 r) (fun u t => wPost (dC, dI) [(cI, .int), (c2, .array .int), (cZ, .boolean)] (va_A ([(o1, .inr (12, [.int v2, .ref o3, .int v5, .ref o6, .int v8, .ref o9, .ref o11, .int v13, .ref o14, .int v16, .ref o17, .int v19, .int v20, .int v21, .ref o22, .ref o24, .ref o26, .ref o28, .ref o30, .int v32, .ref o33, .ref o35, .ref o37, .int v39, .ref o40, .ref o42, .ref o44, .int v46, .ref o47])), (o9, .inl (cI, 12, .inl fw10)), (o3, .inl (cI, 5, .inl fw4))]) sz) ([(o1, .inr (12, [.int u.1, .ref o3, .int v5, .ref o6, .int v8, .ref o9, .ref o11, .int v13, .ref o14, .int v16, .ref o17, .int v19, .int v20, .int v21, .ref o22, .ref o24, .ref o26, .ref o28, .ref o30, .int v32, .ref o33, .ref o35, .ref o37, .int v39, .ref o40, .ref o42, .ref o44, .int v46, .ref o47])), (o9, .inl (cI, 12, .inl u.2.1)), (o3, .inl (cI, 5, .inl u.2.2))]) t) (va_A ([(o1, .inr (12, [.int v2, .ref o3, .int v5, .ref o6, .int v8, .ref o9, .ref o11, .int v13, .ref o14, .int v16, .ref o17, .int v19, .int v20, .int v21, .ref o22, .ref o24, .ref o26, .ref o28, .ref o30, .int v32, .ref o33, .ref o35, .ref o37, .int v39, .ref o40, .ref o42, .ref o44, .int v46, .ref o47])), (o9, .inl (cI, 12, .inl fw10)), (o3, .inl (cI, 5, .inl fw4))]) sz)) 0 0 (va_A ([(o1, .inr (12, [.int v2, .ref o3, .int v5, .ref o6, .int v8, .ref o9, .ref o11, .int v13, .ref o14, .int v16, .ref o17, .int v19, .int v20, .int v21, .ref o22, .ref o24, .ref o26, .ref o28, .ref o30, .int v32, .ref o33, .ref o35, .ref o37, .int v39, .ref o40, .ref o42, .ref o44, .int v46, .ref o47])), (o9, .inl (cI, 12, .inl fw10)), (o3, .inl (cI, 5, .inl fw4))]) sz) := by
  refine Met.ofW (cc := cX12_tear) (maxL := 2) (ret := (some .int)) (by decide) rfl ?_
  intro p e s m args below meth c s₁ B hml hv
  obtain ⟨rfl, hsz, hP, hK, hD0, hN⟩ := hv
  have hx := B.exec
  have hb := B.bytes
  have hr := B.returns
  have hts := atoms_spec (ws := wsX12_tear) B.pre
  have hown : s.vm.findClass RX12 = some m.cls := findClass_of_methodNamed B.named
  have hlocks := B.notSynchronized
  subst hsz
  have hD := hD0.self (sz := s.heap.size)
  generalize hAe : va_A ([(o1, .inr (12, [.int v2, .ref o3, .int v5, .ref o6, .int v8, .ref o9, .ref o11, .int v13, .ref o14, .int v16, .ref o17, .int v19, .int v20, .int v21, .ref o22, .ref o24, .ref o26, .ref o28, .ref o30, .int v32, .ref o33, .ref o35, .ref o37, .int v39, .ref o40, .ref o42, .ref o44, .int v46, .ref o47])), (o9, .inl (cI, 12, .inl fw10)), (o3, .inl (cI, 5, .inl fw4))]) s.heap.size = A at hD ⊢
  have hA : ∀ q : Nat, s.heap.size ≤ q → A q := fun q h => by rw [← hAe]; exact Or.inr h
  have hS : va_S A s.heap s.heap [] := va_S.rf
  have hP : va_P (dC, dI) vwCl ([(o1, .inr (12, [.int v2, .ref o3, .int v5, .ref o6, .int v8, .ref o9, .ref o11, .int v13, .ref o14, .int v16, .ref o17, .int v19, .int v20, .int v21, .ref o22, .ref o24, .ref o26, .ref o28, .ref o30, .int v32, .ref o33, .ref o35, .ref o37, .int v39, .ref o40, .ref o42, .ref o44, .int v46, .ref o47])), (o9, .inl (cI, 12, .inl fw10)), (o3, .inl (cI, 5, .inl fw4))]) s.heap := hP
  have hl := lv_entry ([.ref o1, .int a1]) (n := 2) (Nat.le_of_ble_eq_true rfl)
  rw [lg_entry_eq]
  generalize (lg_sl ([.ref o1, .int a1]) ++ List.replicate (2 - (lg_sl ([.ref o1, .int a1])).length) Slot.unset).toArray = ls at hl ⊢
  have hl : lv_has ls 2 [(0, .ref o1), (1, .int a1)] := hl
  refine gen_Q (fun Q hQ => ?_)
  refine lv_iload_n hx hb dX12_tear_0 rfl (lv_at hl 1 rfl) ?_
  refine lv_iconst (v := 0) hx hb dX12_tear_1 (by decide) ?_
  refine lv_bipush (v := 11) hx hb dX12_tear_2 (by decide) ?_
  refine kc_i (D := (dC, dI)) (S := Unit) (wc := []) (wr := [(o1, .inr (12, [.int v2, .ref o3, .int v5, .ref o6, .int v8, .ref o9, .ref o11, .int v13, .ref o14, .int v16, .ref o17, .int v19, .int v20, .int v21, .ref o22, .ref o24, .ref o26, .ref o28, .ref o30, .int v32, .ref o33, .ref o35, .ref o37, .int v39, .ref o40, .ref o42, .ref o44, .int v46, .ref o47])), (o9, .inl (cI, 12, .inl fw10)), (o3, .inl (cI, 5, .inl fw4))]) (w1 := fun _ => []) (wn := fun _ => [(o1, .inr (12, [.int v2, .ref o3, .int v5, .ref o6, .int v8, .ref o9, .ref o11, .int v13, .ref o14, .int v16, .ref o17, .int v19, .int v20, .int v21, .ref o22, .ref o24, .ref o26, .ref o28, .ref o30, .int v32, .ref o33, .ref o35, .ref o37, .int v39, .ref o40, .ref o42, .ref o44, .int v46, .ref o47])), (o9, .inl (cI, 12, .inl fw10)), (o3, .inl (cI, 5, .inl fw4))]) (fun hPc hDc => va_runS (As := [.int a1, .int 0, .int 11]) (rest := []) ⟨hx, hb, hml, hown, hts⟩ (kxX12_in_14 l dC dI cI c2 cZ a1 0 11 s.heap.size ik_0 (iv_w ik_11 (by decide))) (va_cwS 3 hts gX12_tear_X12_in rfl rfl rfl (by decide +kernel) ⟨Nat.le_of_ble_eq_true rfl, Nat.le_of_ble_eq_true rfl⟩) (pre_S hPc hK hDc hN) rfl rfl hl.1 rfl (lv_room (Nat.le_of_ble_eq_true rfl)) dX12_tear_4 ⟨Nat.le_of_ble_eq_true rfl, Nat.le_of_ble_eq_true rfl⟩) hP hD hS hA [] [0, 1, 2] [0, 1, 2] rfl rfl (by decide +kernel) (by decide +kernel) (by decide +kernel) (by decide +kernel) (fun _ => rfl) (fun x1 _ H locs hq hP hD hS => ?_)
  obtain ⟨x1_h, i2, e3⟩ := hq
  have hP : va_P (dC, dI) vwCl ([(o1, .inr (12, [.int v2, .ref o3, .int v5, .ref o6, .int v8, .ref o9, .ref o11, .int v13, .ref o14, .int v16, .ref o17, .int v19, .int v20, .int v21, .ref o22, .ref o24, .ref o26, .ref o28, .ref o30, .int v32, .ref o33, .ref o35, .ref o37, .int v39, .ref o40, .ref o42, .ref o44, .int v46, .ref o47])), (o9, .inl (cI, 12, .inl fw10)), (o3, .inl (cI, 5, .inl fw4))]) H := hP
  have hD : va_D A ([(o1, .inr (12, [.int v2, .ref o3, .int v5, .ref o6, .int v8, .ref o9, .ref o11, .int v13, .ref o14, .int v16, .ref o17, .int v19, .int v20, .int v21, .ref o22, .ref o24, .ref o26, .ref o28, .ref o30, .int v32, .ref o33, .ref o35, .ref o37, .int v39, .ref o40, .ref o42, .ref o44, .int v46, .ref o47])), (o9, .inl (cI, 12, .inl fw10)), (o3, .inl (cI, 5, .inl fw4))]) := hD
  refine lv_if_ne (tgt := 16) hx hb dX12_tear_7 (by decide) (fun h4 => ?_) (fun h4 => ?_)
  ·
    have j5 : Iv 1 1 x1 := r_nelo h4 x1_h ik_0 (by decide)
    have j6 : Iv 0 11 a1 := i2 h4
    refine lv_aload_n hx hb dX12_tear_16 rfl (lv_at hl 0 rfl) ?_
    refine va_get (D := (dC, dI)) (ci := 12) (v := .ref o9) (C := RX12) (T := TX12) (N := 29) hx hb hts iw_X12_tear_X12 hown hK hP 0 rfl rfl 5 (by decide) (hts (.fieldLink RX12 16 "HolelessHouseModel" "rows" "[I") hm_X12_tear_1) (fun _ h9 => h9) rfl dX12_tear_17 ?_
    refine lv_iload_n hx hb dX12_tear_20 rfl (lv_at hl 1 rfl) ?_
    refine va_iald hx hb hK hP 1 0 rfl rfl (vin_iv j6 (by decide)) dX12_tear_21 (lv_topi (fun x7 x7_e => ?_))
    have x7_h : Iv (-9) 255 x7 := iv_e x7_e (bd_at fw10_b (vin_iv j6 (by decide)))
    refine lv_if_ge (tgt := 31) hx hb dX12_tear_22 (by decide) (fun h8 => ?_) (fun h8 => ?_)
    ·
      have qh8 := le_i h8
      have j9 : Iv 0 255 x7 := r_ler qh8 ik_0 x7_h (by decide)
      refine lv_aload_n hx hb dX12_tear_31 rfl (lv_at hl 0 rfl) ?_
      refine va_get (D := (dC, dI)) (ci := 12) (v := .ref o9) (C := RX12) (T := TX12) (N := 29) hx hb hts iw_X12_tear_X12 hown hK hP 0 rfl rfl 5 (by decide) (hts (.fieldLink RX12 16 "HolelessHouseModel" "rows" "[I") hm_X12_tear_1) (fun _ h9 => h9) rfl dX12_tear_32 ?_
      refine lv_iload_n hx hb dX12_tear_35 rfl (lv_at hl 1 rfl) ?_
      refine lv_bipush (v := (-9)) hx hb dX12_tear_36 (by decide) ?_
      refine k_iast hx hb hK hP hD hS 1 0 rfl rfl (vin_iv j6 (by decide)) dX12_tear_38 (fun f10 H locs f10_e hP hD hS => ?_)
      have f10_b : Bd 12 (-9) 255 f10 := bd_upd f10_e fw10_b ikm_9 (by decide)
      have hP : va_P (dC, dI) vwCl ([(o1, .inr (12, [.int v2, .ref o3, .int v5, .ref o6, .int v8, .ref o9, .ref o11, .int v13, .ref o14, .int v16, .ref o17, .int v19, .int v20, .int v21, .ref o22, .ref o24, .ref o26, .ref o28, .ref o30, .int v32, .ref o33, .ref o35, .ref o37, .int v39, .ref o40, .ref o42, .ref o44, .int v46, .ref o47])), (o9, .inl (cI, 12, .inl f10)), (o3, .inl (cI, 5, .inl fw4))]) H := hP
      have hD : va_D A ([(o1, .inr (12, [.int v2, .ref o3, .int v5, .ref o6, .int v8, .ref o9, .ref o11, .int v13, .ref o14, .int v16, .ref o17, .int v19, .int v20, .int v21, .ref o22, .ref o24, .ref o26, .ref o28, .ref o30, .int v32, .ref o33, .ref o35, .ref o37, .int v39, .ref o40, .ref o42, .ref o44, .int v46, .ref o47])), (o9, .inl (cI, 12, .inl f10)), (o3, .inl (cI, 5, .inl fw4))]) := hD
      refine lv_iconst (v := 1) hx hb dX12_tear_39 (by decide) ?_
      rw [hQ]
      exact W.iret (v := 1) hx hb hr (fun t ht hW => ⟨⟨1, (v2, f10, fw4), rfl, ⟨(iv_w ik_1 (by decide)), f10_b, (teaP_2 (has_y (inx_ne e3 h4) x7_e j9) f10_e)⟩, by rw [ht]; exact hP, va_K.moved hW.alike hK, hD⟩, hS.F ht⟩) hS.2.2 dX12_tear_40
    ·
      have qh8 := nle_i h8
      have j11 : Iv (-9) (-1) x7 := r_ltl qh8 x7_h ik_0 (by decide)
      refine lv_aload_n hx hb dX12_tear_25 rfl (lv_at hl 0 rfl) ?_
      refine lv_iconst (v := 1) hx hb dX12_tear_26 (by decide) ?_
      refine kc_i (D := (dC, dI)) (S := Int32 × (Nat → Int32)) (wc := [(o1, .inr (12, [.int v2, .ref o3, .int v5, .ref o6, .int v8, .ref o9, .ref o11, .int v13, .ref o14, .int v16, .ref o17, .int v19, .int v20, .int v21, .ref o22, .ref o24, .ref o26, .ref o28, .ref o30, .int v32, .ref o33, .ref o35, .ref o37, .int v39, .ref o40, .ref o42, .ref o44, .int v46, .ref o47])), (o3, .inl (cI, 5, .inl fw4))]) (wr := [(o9, .inl (cI, 12, .inl fw10))]) (w1 := fun u => [(o1, .inr (12, [.int u.1, .ref o3, .int v5, .ref o6, .int v8, .ref o9, .ref o11, .int v13, .ref o14, .int v16, .ref o17, .int v19, .int v20, .int v21, .ref o22, .ref o24, .ref o26, .ref o28, .ref o30, .int v32, .ref o33, .ref o35, .ref o37, .int v39, .ref o40, .ref o42, .ref o44, .int v46, .ref o47])), (o3, .inl (cI, 5, .inl u.2))]) (wn := fun u => [(o1, .inr (12, [.int u.1, .ref o3, .int v5, .ref o6, .int v8, .ref o9, .ref o11, .int v13, .ref o14, .int v16, .ref o17, .int v19, .int v20, .int v21, .ref o22, .ref o24, .ref o26, .ref o28, .ref o30, .int v32, .ref o33, .ref o35, .ref o37, .int v39, .ref o40, .ref o42, .ref o44, .int v46, .ref o47])), (o9, .inl (cI, 12, .inl fw10)), (o3, .inl (cI, 5, .inl u.2))]) (fun hPc hDc => va_runV (As := [.int 1]) (rest := []) ⟨hx, hb, hml, hown, hts⟩ (kX12_meets_4 l dC dI cI c2 cZ o1 o3 o6 o9 o11 o14 o17 o22 o24 o26 o28 o30 o33 o35 o37 o40 o42 o44 o47 v2 fw4 v5 v8 v13 v16 v19 v20 v21 v32 v39 v46 1 H.size v5_h v8_h v13_h v16_h v19_h v32_h v39_h v46_h ik_1) (cwV 1 hts gX12_tear_X12_meets rfl rfl rfl (by decide +kernel) ⟨Nat.le_of_ble_eq_true rfl, Nat.le_of_ble_eq_true rfl⟩) (pre_V hPc hK hDc hN (ci := 12) (q0 := 0) rfl rfl) rfl rfl hl.1 rfl (lv_room (Nat.le_of_ble_eq_true rfl)) dX12_tear_27 ⟨Nat.le_of_ble_eq_true rfl, Nat.le_of_ble_eq_true rfl⟩) hP hD hS hA [0, 2] [1] [1, 0, 2] rfl rfl (by decide +kernel) (by decide +kernel) (by decide +kernel) (by decide +kernel) (fun _ => rfl) (fun x14 u H locs hq hP hD hS => ?_)
      obtain ⟨y12, f13⟩ := u
      have x14_h := hq
      have x14_h : Iv (-3) (-3) x14 := x14_h
      have hP : va_P (dC, dI) vwCl ([(o1, .inr (12, [.int y12, .ref o3, .int v5, .ref o6, .int v8, .ref o9, .ref o11, .int v13, .ref o14, .int v16, .ref o17, .int v19, .int v20, .int v21, .ref o22, .ref o24, .ref o26, .ref o28, .ref o30, .int v32, .ref o33, .ref o35, .ref o37, .int v39, .ref o40, .ref o42, .ref o44, .int v46, .ref o47])), (o9, .inl (cI, 12, .inl fw10)), (o3, .inl (cI, 5, .inl f13))]) H := hP
      have hD : va_D A ([(o1, .inr (12, [.int y12, .ref o3, .int v5, .ref o6, .int v8, .ref o9, .ref o11, .int v13, .ref o14, .int v16, .ref o17, .int v19, .int v20, .int v21, .ref o22, .ref o24, .ref o26, .ref o28, .ref o30, .int v32, .ref o33, .ref o35, .ref o37, .int v39, .ref o40, .ref o42, .ref o44, .int v46, .ref o47])), (o9, .inl (cI, 12, .inl fw10)), (o3, .inl (cI, 5, .inl f13))]) := hD
      rw [hQ]
      exact W.iret (v := x14) hx hb hr (fun t ht hW => ⟨⟨x14, (y12, fw10, f13), rfl, ⟨(iv_w x14_h (by decide)), fw10_b, (teaP_1 (has_n x7_e qh8) (d_eq x14_h ikm_3))⟩, by rw [ht]; exact hP, va_K.moved hW.alike hK, hD⟩, hS.F ht⟩) hS.2.2 dX12_tear_30
  ·
    have j15 : Iv 0 0 x1 := r_eq h4 ik_0
    refine lv_aload_n hx hb dX12_tear_10 rfl (lv_at hl 0 rfl) ?_
    refine lv_iconst (v := 2) hx hb dX12_tear_11 (by decide) ?_
    refine kc_i (D := (dC, dI)) (S := Int32 × (Nat → Int32)) (wc := [(o1, .inr (12, [.int v2, .ref o3, .int v5, .ref o6, .int v8, .ref o9, .ref o11, .int v13, .ref o14, .int v16, .ref o17, .int v19, .int v20, .int v21, .ref o22, .ref o24, .ref o26, .ref o28, .ref o30, .int v32, .ref o33, .ref o35, .ref o37, .int v39, .ref o40, .ref o42, .ref o44, .int v46, .ref o47])), (o3, .inl (cI, 5, .inl fw4))]) (wr := [(o9, .inl (cI, 12, .inl fw10))]) (w1 := fun u => [(o1, .inr (12, [.int u.1, .ref o3, .int v5, .ref o6, .int v8, .ref o9, .ref o11, .int v13, .ref o14, .int v16, .ref o17, .int v19, .int v20, .int v21, .ref o22, .ref o24, .ref o26, .ref o28, .ref o30, .int v32, .ref o33, .ref o35, .ref o37, .int v39, .ref o40, .ref o42, .ref o44, .int v46, .ref o47])), (o3, .inl (cI, 5, .inl u.2))]) (wn := fun u => [(o1, .inr (12, [.int u.1, .ref o3, .int v5, .ref o6, .int v8, .ref o9, .ref o11, .int v13, .ref o14, .int v16, .ref o17, .int v19, .int v20, .int v21, .ref o22, .ref o24, .ref o26, .ref o28, .ref o30, .int v32, .ref o33, .ref o35, .ref o37, .int v39, .ref o40, .ref o42, .ref o44, .int v46, .ref o47])), (o9, .inl (cI, 12, .inl fw10)), (o3, .inl (cI, 5, .inl u.2))]) (fun hPc hDc => va_runV (As := [.int 2]) (rest := []) ⟨hx, hb, hml, hown, hts⟩ (kX12_meets_3 l dC dI cI c2 cZ o1 o3 o6 o9 o11 o14 o17 o22 o24 o26 o28 o30 o33 o35 o37 o40 o42 o44 o47 v2 fw4 v5 v8 v13 v16 v19 v20 v21 v32 v39 v46 2 H.size v5_h v8_h v13_h v16_h v19_h v32_h v39_h v46_h ik_2) (cwV 1 hts gX12_tear_X12_meets rfl rfl rfl (by decide +kernel) ⟨Nat.le_of_ble_eq_true rfl, Nat.le_of_ble_eq_true rfl⟩) (pre_V hPc hK hDc hN (ci := 12) (q0 := 0) rfl rfl) rfl rfl hl.1 rfl (lv_room (Nat.le_of_ble_eq_true rfl)) dX12_tear_12 ⟨Nat.le_of_ble_eq_true rfl, Nat.le_of_ble_eq_true rfl⟩) hP hD hS hA [0, 2] [1] [1, 0, 2] rfl rfl (by decide +kernel) (by decide +kernel) (by decide +kernel) (by decide +kernel) (fun _ => rfl) (fun x18 u H locs hq hP hD hS => ?_)
    obtain ⟨y16, f17⟩ := u
    have x18_h := hq
    have x18_h : Iv (-3) (-3) x18 := x18_h
    have hP : va_P (dC, dI) vwCl ([(o1, .inr (12, [.int y16, .ref o3, .int v5, .ref o6, .int v8, .ref o9, .ref o11, .int v13, .ref o14, .int v16, .ref o17, .int v19, .int v20, .int v21, .ref o22, .ref o24, .ref o26, .ref o28, .ref o30, .int v32, .ref o33, .ref o35, .ref o37, .int v39, .ref o40, .ref o42, .ref o44, .int v46, .ref o47])), (o9, .inl (cI, 12, .inl fw10)), (o3, .inl (cI, 5, .inl f17))]) H := hP
    have hD : va_D A ([(o1, .inr (12, [.int y16, .ref o3, .int v5, .ref o6, .int v8, .ref o9, .ref o11, .int v13, .ref o14, .int v16, .ref o17, .int v19, .int v20, .int v21, .ref o22, .ref o24, .ref o26, .ref o28, .ref o30, .int v32, .ref o33, .ref o35, .ref o37, .int v39, .ref o40, .ref o42, .ref o44, .int v46, .ref o47])), (o9, .inl (cI, 12, .inl fw10)), (o3, .inl (cI, 5, .inl f17))]) := hD
    rw [hQ]
    exact W.iret (v := x18) hx hb hr (fun t ht hW => ⟨⟨x18, (y16, fw10, f17), rfl, ⟨(iv_w x18_h (by decide)), fw10_b, (teaP_1 (has_no (inx_eq e3 h4)) (d_eq x18_h ikm_3))⟩, by rw [ht]; exact hP, va_K.moved hW.alike hK, hD⟩, hS.F ht⟩) hS.2.2 dX12_tear_15
