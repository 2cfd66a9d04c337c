set_option maxHeartbeats 4000000 in
set_option maxRecDepth 100000 in
theorem kJ7_fill_53178_1 (l : Launch) (dC : Nat → ClassId) (dI : Nat → Nat → Nat) (cI c2 cZ : ClassId) (o1 : Nat) (fw2 : Nat → Int32) (a1 : Int32) (sz : Nat) (fw2_b : Bd 12 0 4095 fw2) (a1_h : Iv 0 0 a1) : Met l yJ7_fill_53178 wsJ7_fill_53178 ({ frames := 0, cells := 0, slots := 0, locals := 0 }) (va_Pc [.ref o1, .int a1] (wPre (dC, dI) [(cI, .int), (c2, .array .int), (cZ, .boolean)] ([(o1, .inl (cI, 12, .inl fw2))]) sz)) (va_Qv (fun (u : (Nat → Int32)) => Bd 12 0 4095 u) (fun u t => wPost (dC, dI) [(cI, .int), (c2, .array .int), (cZ, .boolean)] (va_A ([(o1, .inl (cI, 12, .inl fw2))]) sz) ([(o1, .inl (cI, 12, .inl u))]) t) (va_A ([(o1, .inl (cI, 12, .inl fw2))]) sz)) 0 0 (va_A ([(o1, .inl (cI, 12, .inl fw2))]) sz) := by
  refine Met.ofW (cc := cJ7_fill_53178) (maxL := 4) (ret := none) (by decide) rfl ?_
  intro p e s m args below meth c s₁ B hml hv
  obtain ⟨rfl, hsz, hP, hK, hD0, hN⟩ := hv
  have hx := B.exec
  have hb := B.bytes
  have hr := B.returns
  have hts := atoms_spec (ws := wsJ7_fill_53178) B.pre
  have hown : s.vm.findClass RJ7 = some m.cls := findClass_of_methodNamed B.named
  have hlocks := B.notSynchronized
  subst hsz
  have hD := hD0.self (sz := s.heap.size)
  generalize hAe : va_A ([(o1, .inl (cI, 12, .inl fw2))]) s.heap.size = A at hD ⊢
  have hA : ∀ q : Nat, s.heap.size ≤ q → A q := fun q h => by rw [← hAe]; exact Or.inr h
  have hS : va_S A s.heap s.heap [] := va_S.rf
  have hP : va_P (dC, dI) vwCl ([(o1, .inl (cI, 12, .inl fw2))]) s.heap := hP
  have hl := lv_entry ([.ref o1, .int a1]) (n := 4) (Nat.le_of_ble_eq_true rfl)
  rw [lg_entry_eq]
  generalize (lg_sl ([.ref o1, .int a1]) ++ List.replicate (4 - (lg_sl ([.ref o1, .int a1])).length) Slot.unset).toArray = ls at hl ⊢
  have hl : lv_has ls 4 [(0, .ref o1), (1, .int a1)] := hl
  refine gen_Q (fun Q hQ => ?_)
  refine lv_iconst (v := 0) hx hb dJ7_fill_53178_0 (by decide) ?_
  refine lv_istore_n (lv' := [(2, .int 0), (0, .ref o1), (1, .int a1)]) hx hb dJ7_fill_53178_1 rfl hl (by decide) rfl (fun ls hl => ?_)
  refine lv_aload_n hx hb dJ7_fill_53178_2 rfl (lv_at hl 1 rfl) ?_
  refine va_alen (v := 12) hx hb hK hP 0 0 rfl rfl (by show Int32.ofNat 12 = 12; decide +kernel) dJ7_fill_53178_3 ?_
  refine lv_istore_n (lv' := [(3, .int 12), (2, .int 0), (0, .ref o1), (1, .int a1)]) hx hb dJ7_fill_53178_4 rfl hl (by decide) rfl (fun ls hl => ?_)
  have L1 : ∀ (N : Nat) (x33 : Int32) (f34 : Nat → Int32) (H : Heap) (locs : List Loc) (ls : Array Slot), (12 - x33.toInt).toNat < N → Iv 0 12 x33 → Bd 12 0 4095 f34 → va_P (dC, dI) vwCl ([(o1, .inl (cI, 12, .inl f34))]) H → va_D A ([(o1, .inl (cI, 12, .inl f34))]) → va_S A s.heap H locs → lv_has ls 4 [(3, .int 12), (2, .int x33), (0, .ref o1), (1, .int a1)] → W p l e ({ frames := 0, cells := 0, slots := 0, locals := 0 }) s m ([.ref o1, .int a1] : List Value).toArray below meth c H locs 0 0 Q (F0 m 5 ls []) := by
    intro N
    induction N with
    | zero =>
      intro x33 f34 H locs ls hM
      exact absurd hM (Nat.not_lt_zero _)
    | succ N ih1 =>
      intro x33 f34 H locs ls hM1 x33_h f34_b hP hD hS hl
      refine lv_iload_n hx hb dJ7_fill_53178_5 rfl (lv_at hl 1 rfl) ?_
      refine lv_iload_n hx hb dJ7_fill_53178_6 rfl (lv_at hl 0 rfl) ?_
      refine lv_icmp_ge (tgt := 20) hx hb dJ7_fill_53178_7 (by decide) (fun h35 => ?_) (fun h35 => ?_)
      ·
        have qh35 := le_i h35
        have j36 : Iv 12 12 x33 := r_ler qh35 ik_12 x33_h (by decide)
        rw [hQ]
        exact W.vret hx hb hr (fun t ht hW => ⟨⟨f34, rfl, f34_b, by rw [ht]; exact hP, va_K.moved hW.alike hK, hD⟩, hS.F ht⟩) hS.2.2 dJ7_fill_53178_20
      ·
        have qh35 := nle_i h35
        have j37 : Iv 0 11 x33 := r_ltl qh35 x33_h ik_12 (by decide)
        refine lv_aload_n hx hb dJ7_fill_53178_10 rfl (lv_at hl 2 rfl) ?_
        refine lv_iload_n hx hb dJ7_fill_53178_11 rfl (lv_at hl 1 rfl) ?_
        refine lv_iload_n hx hb dJ7_fill_53178_12 rfl (lv_at hl 3 rfl) ?_
        refine k_iast hx hb hK hP hD hS 0 0 rfl rfl (vin_iv j37 (by decide)) dJ7_fill_53178_13 (fun f38 H locs f38_e hP hD hS => ?_)
        have f38_b : Bd 12 0 4095 f38 := bd_upd f38_e f34_b a1_h (by decide)
        have hP : va_P (dC, dI) vwCl ([(o1, .inl (cI, 12, .inl f38))]) H := hP
        have hD : va_D A ([(o1, .inl (cI, 12, .inl f38))]) := hD
        obtain ⟨x39, x39_e⟩ : ∃ z : Int32, z = x33 + 1 := ⟨_, rfl⟩
        have x39_h : Iv 1 12 x39 := iv_e x39_e (iv_add j37 ik_1 (by decide))
        refine lv_iinc (v := x39) (lv' := [(2, .int x39), (3, .int 12), (0, .ref o1), (1, .int a1)]) hx hb dJ7_fill_53178_14 hl (k := 1) rfl (incN (by decide +kernel) x39_e) (by decide) rfl (fun ls hl => ?_)
        refine lv_goto (tgt := 5) hx hb dJ7_fill_53178_17 (by decide) ?_
        exact ih1 x39 f38 _ _ _ (ms_up x39_e j37 (by decide) hM1) (iv_w x39_h (by decide)) f38_b hP hD hS (lv_sub hl [1, 0, 2, 3] rfl)
  exact L1 _ 0 fw2 _ _ _ (Nat.lt_succ_self _) (iv_w ik_0 (by decide)) fw2_b hP hD hS hl
theorem iw_X4_restart_X4 : ∀ w ∈ wsX40, w ∈ wsX4_restart := by decide +kernel
set_option maxHeartbeats 4000000 in
set_option maxRecDepth 100000 in
theorem kX4_restart_1 (l : Launch) (dC : Nat → ClassId) (dI : Nat → Nat → Nat) (cI c2 cZ : ClassId) (o1 : Nat) (o2 : Nat) (fw3 : Nat → Int32) (v4 : Int32) (v5 : Int32) (a1 : Int32) (sz : Nat) (fw3_b : Bd 12 0 4095 fw3) (v4_h : Iv 0 12 v4) (a1_h : Iv 0 12 a1) : Met l yX4_restart wsX4_restart ({ frames := 1, cells := 0, slots := 0, locals := 23 }) (va_Pc [.ref o1, .int a1] (wPre (dC, dI) [(cI, .int), (c2, .array .int), (cZ, .boolean)] ([(o1, .inr (4, [.ref o2, .int v4, .int v5])), (o2, .inl (cI, 12, .inl fw3))]) sz)) (va_Qv (fun (u : Int32 × Int32 × (Nat → Int32)) => Iv 0 12 u.1 ∧ Bd 12 0 4095 u.2.2) (fun u t => wPost (dC, dI) [(cI, .int), (c2, .array .int), (cZ, .boolean)] (va_A ([(o1, .inr (4, [.ref o2, .int v4, .int v5])), (o2, .inl (cI, 12, .inl fw3))]) sz) ([(o1, .inr (4, [.ref o2, .int u.1, .int u.2.1])), (o2, .inl (cI, 12, .inl u.2.2))]) t) (va_A ([(o1, .inr (4, [.ref o2, .int v4, .int v5])), (o2, .inl (cI, 12, .inl fw3))]) sz)) 0 0 (va_A ([(o1, .inr (4, [.ref o2, .int v4, .int v5])), (o2, .inl (cI, 12, .inl fw3))]) sz) := by
  refine Met.ofW (cc := cX4_restart) (maxL := 2) (ret := none) (by decide) rfl ?_
  intro p e s m args below meth c s₁ B hml hv
  obtain ⟨rfl, hsz, hP, hK, hD0, hN⟩ := hv
  have hx := B.exec
  have hb := B.bytes
  have hr := B.returns
  have hts := atoms_spec (ws := wsX4_restart) B.pre
  have hown : s.vm.findClass RX4 = some m.cls := findClass_of_methodNamed B.named
  have hlocks := B.notSynchronized
  subst hsz
  have hD := hD0.self (sz := s.heap.size)
  generalize hAe : va_A ([(o1, .inr (4, [.ref o2, .int v4, .int v5])), (o2, .inl (cI, 12, .inl fw3))]) s.heap.size = A at hD ⊢
  have hA : ∀ q : Nat, s.heap.size ≤ q → A q := fun q h => by rw [← hAe]; exact Or.inr h
  have hS : va_S A s.heap s.heap [] := va_S.rf
  have hP : va_P (dC, dI) vwCl ([(o1, .inr (4, [.ref o2, .int v4, .int v5])), (o2, .inl (cI, 12, .inl fw3))]) s.heap := hP
  have hl := lv_entry ([.ref o1, .int a1]) (n := 2) (Nat.le_of_ble_eq_true rfl)
  rw [lg_entry_eq]
  generalize (lg_sl ([.ref o1, .int a1]) ++ List.replicate (2 - (lg_sl ([.ref o1, .int a1])).length) Slot.unset).toArray = ls at hl ⊢
  have hl : lv_has ls 2 [(0, .ref o1), (1, .int a1)] := hl
  refine gen_Q (fun Q hQ => ?_)
  refine lv_aload_n hx hb dX4_restart_0 rfl (lv_at hl 0 rfl) ?_
  refine lv_iload_n hx hb dX4_restart_1 rfl (lv_at hl 1 rfl) ?_
  refine va_put (D := (dC, dI)) (ci := 4) (v := .int a1) (ty := .int) (C := RX4) (T := TX4) (N := 3) hx hb hts iw_X4_restart_X4 tyX4 tyX4_ok nmX4 hown hK hP hD hS 0 rfl rfl 1 (by decide) (hts (.fieldLink RX4 15 "HolelessHouse$Graph" "size" "I") (by decide +kernel)) (fun _ h9 => h9) rfl (by decide +kernel) rfl rfl (Nat.le_of_ble_eq_true rfl) dX4_restart_2 (fun H locs hP hD hS => ?_)
  have hP : va_P (dC, dI) vwCl ([(o1, .inr (4, [.ref o2, .int a1, .int v5])), (o2, .inl (cI, 12, .inl fw3))]) H := hP
  have hD : va_D A ([(o1, .inr (4, [.ref o2, .int a1, .int v5])), (o2, .inl (cI, 12, .inl fw3))]) := hD
  refine lv_aload_n hx hb dX4_restart_5 rfl (lv_at hl 0 rfl) ?_
  refine va_get (D := (dC, dI)) (ci := 4) (v := .ref o2) (C := RX4) (T := TX4) (N := 3) hx hb hts iw_X4_restart_X4 hown hK hP 0 rfl rfl 0 (by decide) (hts (.fieldLink RX4 9 "HolelessHouse$Graph" "near" "[I") (by decide +kernel)) (fun _ h9 => h9) rfl dX4_restart_6 ?_
  refine lv_iconst (v := 0) hx hb dX4_restart_9 (by decide) ?_
  refine kc_v (D := (dC, dI)) (S := (Nat → Int32)) (wc := [(o2, .inl (cI, 12, .inl fw3))]) (wr := [(o1, .inr (4, [.ref o2, .int a1, .int v5]))]) (w1 := fun u => [(o2, .inl (cI, 12, .inl u))]) (wn := fun u => [(o1, .inr (4, [.ref o2, .int a1, .int v5])), (o2, .inl (cI, 12, .inl u))]) (fun hPc hDc => va_runS (As := [.ref o2, .int 0]) (rest := []) ⟨hx, hb, hml, hown, hts⟩ (kJ7_fill_53178_1 l dC dI cI c2 cZ o2 fw3 0 H.size fw3_b ik_0) (va_cwS 2 hts gX4_restart_J7_fill_53178 rfl rfl rfl (by decide +kernel) ⟨Nat.le_of_ble_eq_true rfl, Nat.le_of_ble_eq_true rfl⟩) (pre_S hPc hK hDc hN) rfl rfl hl.1 rfl (lv_room (Nat.le_of_ble_eq_true rfl)) dX4_restart_10 ⟨Nat.le_of_ble_eq_true rfl, Nat.le_of_ble_eq_true rfl⟩) hP hD hS hA [1] [0] [0, 1] rfl rfl (by decide) (by decide) (by decide) (by decide) (fun _ => rfl) (fun f1 H locs hq hP hD hS => ?_)
  have f1_b := hq
  have hP : va_P (dC, dI) vwCl ([(o1, .inr (4, [.ref o2, .int a1, .int v5])), (o2, .inl (cI, 12, .inl f1))]) H := hP
  have hD : va_D A ([(o1, .inr (4, [.ref o2, .int a1, .int v5])), (o2, .inl (cI, 12, .inl f1))]) := hD
  refine lv_aload_n hx hb dX4_restart_13 rfl (lv_at hl 0 rfl) ?_
  refine lv_dup hx hb dX4_restart_14 rfl ?_
  refine va_get (D := (dC, dI)) (ci := 4) (v := .int v5) (C := RX4) (T := TX4) (N := 3) hx hb hts iw_X4_restart_X4 hown hK hP 0 rfl rfl 2 (by decide) (hts (.fieldLink RX4 19 "HolelessHouse$Graph" "version" "I") (by decide +kernel)) (fun _ h9 => h9) rfl dX4_restart_15 ?_
  refine lv_iconst (v := 1) hx hb dX4_restart_18 (by decide) ?_
  refine lv_iadd hx hb dX4_restart_19 (lv_topi (fun x2 x2_e => ?_))
  refine va_put (D := (dC, dI)) (ci := 4) (v := .int x2) (ty := .int) (C := RX4) (T := TX4) (N := 3) hx hb hts iw_X4_restart_X4 tyX4 tyX4_ok nmX4 hown hK hP hD hS 0 rfl rfl 2 (by decide) (hts (.fieldLink RX4 19 "HolelessHouse$Graph" "version" "I") (by decide +kernel)) (fun _ h9 => h9) rfl (by decide +kernel) rfl rfl (Nat.le_of_ble_eq_true rfl) dX4_restart_20 (fun H locs hP hD hS => ?_)
  have hP : va_P (dC, dI) vwCl ([(o1, .inr (4, [.ref o2, .int a1, .int x2])), (o2, .inl (cI, 12, .inl f1))]) H := hP
  have hD : va_D A ([(o1, .inr (4, [.ref o2, .int a1, .int x2])), (o2, .inl (cI, 12, .inl f1))]) := hD
  rw [hQ]
  exact W.vret hx hb hr (fun t ht hW => ⟨⟨(a1, x2, f1), rfl, ⟨a1_h, f1_b⟩, by rw [ht]; exact hP, va_K.moved hW.alike hK, hD⟩, hS.F ht⟩) hS.2.2 dX4_restart_23
theorem iw_X6_drop_X6 : ∀ w ∈ wsX60, w ∈ wsX6_drop := by decide +kernel
set_option maxHeartbeats 4000000 in
set_option maxRecDepth 100000 in
theorem kX6_drop_1 (l : Launch) (dC : Nat → ClassId) (dI : Nat → Nat → Nat) (cI c2 cZ : ClassId) (o1 : Nat) (o2 : Nat) (o7 : Nat) (o21 : Nat) (o23 : Nat) (v25 : Int32) (v26 : Int32) (v27 : Int32) (v28 : Int32) (v29 : Int32) (sz : Nat) (v25_h : Iv 0 12 v25) (v26_h : Iv 0 12 v26) (v27_h : Iv 0 1 v27) : Met l yX6_drop wsX6_drop ({ frames := 0, cells := 0, slots := 0, locals := 0 }) (va_Pc [.ref o1] (wPre (dC, dI) [(cI, .int), (c2, .array .int), (cZ, .boolean)] ([(o1, .inr (6, [.ref o2, .ref o7, .ref o21, .ref o23, .int v25, .int v26, .int v27, .int v28, .int v29]))]) sz)) (va_Qv (fun (u : Int32) => Iv 0 1 u) (fun u t => wPost (dC, dI) [(cI, .int), (c2, .array .int), (cZ, .boolean)] (va_A ([(o1, .inr (6, [.ref o2, .ref o7, .ref o21, .ref o23, .int v25, .int v26, .int v27, .int v28, .int v29]))]) sz) ([(o1, .inr (6, [.ref o2, .ref o7, .ref o21, .ref o23, .int v25, .int v26, .int u, .int v28, .int v29]))]) t) (va_A ([(o1, .inr (6, [.ref o2, .ref o7, .ref o21, .ref o23, .int v25, .int v26, .int v27, .int v28, .int v29]))]) sz)) 0 0 (va_A ([(o1, .inr (6, [.ref o2, .ref o7, .ref o21, .ref o23, .int v25, .int v26, .int v27, .int v28, .int v29]))]) sz) := by
  refine Met.ofW (cc := cX6_drop) (maxL := 1) (ret := none) (by decide) rfl ?_
  intro p e s m args below meth c s₁ B hml hv
  obtain ⟨rfl, hsz, hP, hK, hD0, hN⟩ := hv
  have hx := B.exec
  have hb := B.bytes
  have hr := B.returns
  have hts := atoms_spec (ws := wsX6_drop) B.pre
  have hown : s.vm.findClass RX6 = some m.cls := findClass_of_methodNamed B.named
  have hlocks := B.notSynchronized
  subst hsz
  have hD := hD0.self (sz := s.heap.size)
  generalize hAe : va_A ([(o1, .inr (6, [.ref o2, .ref o7, .ref o21, .ref o23, .int v25, .int v26, .int v27, .int v28, .int v29]))]) s.heap.size = A at hD ⊢
  have hA : ∀ q : Nat, s.heap.size ≤ q → A q := fun q h => by rw [← hAe]; exact Or.inr h
  have hS : va_S A s.heap s.heap [] := va_S.rf
  have hP : va_P (dC, dI) vwCl ([(o1, .inr (6, [.ref o2, .ref o7, .ref o21, .ref o23, .int v25, .int v26, .int v27, .int v28, .int v29]))]) s.heap := hP
  have hl := lv_entry ([.ref o1]) (n := 1) (Nat.le_of_ble_eq_true rfl)
  rw [lg_entry_eq]
  generalize (lg_sl ([.ref o1]) ++ List.replicate (1 - (lg_sl ([.ref o1])).length) Slot.unset).toArray = ls at hl ⊢
  have hl : lv_has ls 1 [(0, .ref o1)] := hl
  refine gen_Q (fun Q hQ => ?_)
  refine lv_aload_n hx hb dX6_drop_0 rfl (lv_at hl 0 rfl) ?_
  refine lv_iconst (v := 0) hx hb dX6_drop_1 (by decide) ?_
  refine va_put (D := (dC, dI)) (ci := 6) (v := .int 0) (ty := .boolean) (C := RX6) (T := TX6) (N := 9) hx hb hts iw_X6_drop_X6 tyX6 tyX6_ok nmX6 hown hK hP hD hS 0 rfl rfl 6 (by decide) (hts (.fieldLink RX6 39 "HolelessHouse$Ordering" "there" "Z") (by decide +kernel)) (fun _ h9 => h9) rfl (by decide +kernel) rfl rfl (Nat.le_of_ble_eq_true rfl) dX6_drop_2 (fun H locs hP hD hS => ?_)
  have hP : va_P (dC, dI) vwCl ([(o1, .inr (6, [.ref o2, .ref o7, .ref o21, .ref o23, .int v25, .int v26, .int 0, .int v28, .int v29]))]) H := hP
  have hD : va_D A ([(o1, .inr (6, [.ref o2, .ref o7, .ref o21, .ref o23, .int v25, .int v26, .int 0, .int v28, .int v29]))]) := hD
  rw [hQ]
  exact W.vret hx hb hr (fun t ht hW => ⟨⟨0, rfl, (iv_w ik_0 (by decide)), by rw [ht]; exact hP, va_K.moved hW.alike hK, hD⟩, hS.F ht⟩) hS.2.2 dX6_drop_5
theorem iw_X4_all_X4 : ∀ w ∈ wsX40, w ∈ wsX4_all := by decide +kernel
set_option maxHeartbeats 4000000 in
set_option maxRecDepth 100000 in
theorem kX4_all_1 (l : Launch) (dC : Nat → ClassId) (dI : Nat → Nat → Nat) (cI c2 cZ : ClassId) (o1 : Nat) (o2 : Nat) (v4 : Int32) (v5 : Int32) (sz : Nat) (v4_h : Iv 0 12 v4) : Met l yX4_all wsX4_all ({ frames := 0, cells := 0, slots := 0, locals := 0 }) (va_Pc [.ref o1] (wPre (dC, dI) [(cI, .int), (c2, .array .int), (cZ, .boolean)] ([(o1, .inr (4, [.ref o2, .int v4, .int v5]))]) sz)) (va_Qi (fun (r : Int32) (_ : Unit) => Iv 0 4095 r) (fun _ t => wPost (dC, dI) [(cI, .int), (c2, .array .int), (cZ, .boolean)] (va_A ([(o1, .inr (4, [.ref o2, .int v4, .int v5]))]) sz) ([(o1, .inr (4, [.ref o2, .int v4, .int v5]))]) t) (va_A ([(o1, .inr (4, [.ref o2, .int v4, .int v5]))]) sz)) 0 0 (va_A ([(o1, .inr (4, [.ref o2, .int v4, .int v5]))]) sz) := by
  refine Met.ofW (cc := cX4_all) (maxL := 1) (ret := (some .int)) (by decide) rfl ?_
  intro p e s m args below meth c s₁ B hml hv
  obtain ⟨rfl, hsz, hP, hK, hD0, hN⟩ := hv
  have hx := B.exec
  have hb := B.bytes
  have hr := B.returns
  have hts := atoms_spec (ws := wsX4_all) B.pre
  have hown : s.vm.findClass RX4 = some m.cls := findClass_of_methodNamed B.named
  have hlocks := B.notSynchronized
  subst hsz
  have hD := hD0.self (sz := s.heap.size)
  generalize hAe : va_A ([(o1, .inr (4, [.ref o2, .int v4, .int v5]))]) s.heap.size = A at hD ⊢
  have hA : ∀ q : Nat, s.heap.size ≤ q → A q := fun q h => by rw [← hAe]; exact Or.inr h
  have hS : va_S A s.heap s.heap [] := va_S.rf
  have hP : va_P (dC, dI) vwCl ([(o1, .inr (4, [.ref o2, .int v4, .int v5]))]) s.heap := hP
  have hl := lv_entry ([.ref o1]) (n := 1) (Nat.le_of_ble_eq_true rfl)
  rw [lg_entry_eq]
  generalize (lg_sl ([.ref o1]) ++ List.replicate (1 - (lg_sl ([.ref o1])).length) Slot.unset).toArray = ls at hl ⊢
  have hl : lv_has ls 1 [(0, .ref o1)] := hl
  refine gen_Q (fun Q hQ => ?_)
  refine lv_iconst (v := 1) hx hb dX4_all_0 (by decide) ?_
  refine lv_aload_n hx hb dX4_all_1 rfl (lv_at hl 0 rfl) ?_
  refine va_get (D := (dC, dI)) (ci := 4) (v := .int v4) (C := RX4) (T := TX4) (N := 3) hx hb hts iw_X4_all_X4 hown hK hP 0 rfl rfl 1 (by decide) (hts (.fieldLink RX4 15 "HolelessHouse$Graph" "size" "I") (by decide +kernel)) (fun _ h9 => h9) rfl dX4_all_2 ?_
  refine lv_ishl hx hb dX4_all_5 (lv_topi (fun x1 x1_e => ?_))
  have x1_h : Iv 1 4096 x1 := iv_e x1_e (iv_shl1 v4_h (by decide))
  refine lv_iconst (v := 1) hx hb dX4_all_6 (by decide) ?_
  refine lv_isub hx hb dX4_all_7 (lv_topi (fun x2 x2_e => ?_))
  have x2_h : Iv 0 4095 x2 := iv_e x2_e (iv_sub x1_h ik_1 (by decide))
  rw [hQ]
  exact W.iret (v := x2) hx hb hr (fun t ht hW => ⟨⟨x2, (), rfl, x2_h, by rw [ht]; exact hP, va_K.moved hW.alike hK, hD⟩, hS.F ht⟩) hS.2.2 dX4_all_8
set_option maxHeartbeats 4000000 in
set_option maxRecDepth 100000 in
theorem kX11_in_1 (l : Launch) (dC : Nat → ClassId) (dI : Nat → Nat → Nat) (cI c2 cZ : ClassId) (a0 : Int32) (a1 : Int32) (sz : Nat) : Met l yX11_in wsX11_in ({ frames := 0, cells := 0, slots := 0, locals := 0 }) (va_Pc [.int a0, .int a1] (wPre (dC, dI) [(cI, .int), (c2, .array .int), (cZ, .boolean)] ([]) sz)) (va_Qi (fun (r : Int32) (_ : Unit) => Iv 0 1 r) (fun _ t => wPost (dC, dI) [(cI, .int), (c2, .array .int), (cZ, .boolean)] (va_A ([]) sz) ([]) t) (va_A ([]) sz)) 0 0 (va_A ([]) sz) := by
  refine Met.ofW (cc := cX11_in) (maxL := 2) (ret := (some .boolean)) (by decide) rfl ?_
  intro p e s m args below meth c s₁ B hml hv
  obtain ⟨rfl, hsz, hP, hK, hD0, hN⟩ := hv
  have hx := B.exec
  have hb := B.bytes
  have hr := B.returns
  have hts := atoms_spec (ws := wsX11_in) B.pre
  have hown : s.vm.findClass RX11 = some m.cls := findClass_of_methodNamed B.named
  have hlocks := B.notSynchronized
  subst hsz
  have hD := hD0.self (sz := s.heap.size)
  generalize hAe : va_A ([]) s.heap.size = A at hD ⊢
  have hA : ∀ q : Nat, s.heap.size ≤ q → A q := fun q h => by rw [← hAe]; exact Or.inr h
  have hS : va_S A s.heap s.heap [] := va_S.rf
  have hP : va_P (dC, dI) vwCl ([]) s.heap := hP
  have hl := lv_entry ([.int a0, .int a1]) (n := 2) (Nat.le_of_ble_eq_true rfl)
  rw [lg_entry_eq]
  generalize (lg_sl ([.int a0, .int a1]) ++ List.replicate (2 - (lg_sl ([.int a0, .int a1])).length) Slot.unset).toArray = ls at hl ⊢
  have hl : lv_has ls 2 [(0, .int a0), (1, .int a1)] := hl
  refine gen_Q (fun Q hQ => ?_)
  refine lv_iload_n hx hb dX11_in_0 rfl (lv_at hl 0 rfl) ?_
  refine lv_iload_n hx hb dX11_in_1 rfl (lv_at hl 1 rfl) ?_
  refine lv_ishr hx hb dX11_in_2 (lv_topi (fun x1 x1_e => ?_))
  refine lv_iconst (v := 1) hx hb dX11_in_3 (by decide) ?_
  refine lv_iand hx hb dX11_in_4 (lv_topi (fun x2 x2_e => ?_))
  have x2_h : Iv 0 1 x2 := iv_e x2_e (iv_andR _ ik_1 (by decide))
  refine lv_if_eq (tgt := 12) hx hb dX11_in_5 (by decide) (fun h3 => ?_) (fun h3 => ?_)
  ·
    have j4 : Iv 0 0 x2 := r_eq h3 ik_0
    refine lv_iconst (v := 0) hx hb dX11_in_12 (by decide) ?_
    rw [hQ]
    exact W.zret (v := 0) (ty := .boolean) hx hb hr rfl (fun t ht hW => ⟨⟨0, (), rfl, (iv_w ik_0 (by decide)), by rw [ht]; exact hP, va_K.moved hW.alike hK, hD⟩, hS.F ht⟩) hS.2.2 dX11_in_13
  ·
    have j5 : Iv 1 1 x2 := r_nelo h3 x2_h ik_0 (by decide)
    refine lv_iconst (v := 1) hx hb dX11_in_8 (by decide) ?_
    refine lv_goto (tgt := 13) hx hb dX11_in_9 (by decide) ?_
    rw [hQ]
    exact W.zret (v := 1) (ty := .boolean) hx hb hr rfl (fun t ht hW => ⟨⟨1, (), rfl, (iv_w ik_1 (by decide)), by rw [ht]; exact hP, va_K.moved hW.alike hK, hD⟩, hS.F ht⟩) hS.2.2 dX11_in_13
theorem iw_X6_keepDrafted_X6 : ∀ w ∈ wsX60, w ∈ wsX6_keepDrafted := by decide +kernel
set_option maxHeartbeats 4000000 in
set_option maxRecDepth 100000 in
theorem kX6_keepDrafted_1 (l : Launch) (dC : Nat → ClassId) (dI : Nat → Nat → Nat) (cI c2 cZ : ClassId) (o1 : Nat) (o2 : Nat) (o7 : Nat) (o21 : Nat) (o23 : Nat) (fw24 : Nat → Int32) (v25 : Int32) (v26 : Int32) (v27 : Int32) (v28 : Int32) (v29 : Int32) (a1 : Int32) (sz : Nat) (fw24_b : Bd 12 0 11 fw24) (v25_h : Iv 0 12 v25) (v26_h : Iv 0 12 v26) (v27_h : Iv 0 1 v27) : Met l yX6_keepDrafted wsX6_keepDrafted ({ frames := 1, cells := 0, slots := 0, locals := 21 }) (va_Pc [.ref o1, .int a1] (wPre (dC, dI) [(cI, .int), (c2, .array .int), (cZ, .boolean)] ([(o1, .inr (6, [.ref o2, .ref o7, .ref o21, .ref o23, .int v25, .int v26, .int v27, .int v28, .int v29])), (o23, .inl (cI, 12, .inl fw24))]) sz)) (va_Qv (fun (u : Int32 × (Nat → Int32)) => Iv 0 12 u.1 ∧ Bd 12 0 11 u.2) (fun u t => wPost (dC, dI) [(cI, .int), (c2, .array .int), (cZ, .boolean)] (va_A ([(o1, .inr (6, [.ref o2, .ref o7, .ref o21, .ref o23, .int v25, .int v26, .int v27, .int v28, .int v29])), (o23, .inl (cI, 12, .inl fw24))]) sz) ([(o1, .inr (6, [.ref o2, .ref o7, .ref o21, .ref o23, .int u.1, .int v26, .int v27, .int v28, .int v29])), (o23, .inl (cI, 12, .inl u.2))]) t) (va_A ([(o1, .inr (6, [.ref o2, .ref o7, .ref o21, .ref o23, .int v25, .int v26, .int v27, .int v28, .int v29])), (o23, .inl (cI, 12, .inl fw24))]) sz)) 0 0 (va_A ([(o1, .inr (6, [.ref o2, .ref o7, .ref o21, .ref o23, .int v25, .int v26, .int v27, .int v28, .int v29])), (o23, .inl (cI, 12, .inl fw24))]) sz) := by
  refine Met.ofW (cc := cX6_keepDrafted) (maxL := 4) (ret := none) (by decide) rfl ?_
  intro p e s m args below meth c s₁ B hml hv
  obtain ⟨rfl, hsz, hP, hK, hD0, hN⟩ := hv
  have hx := B.exec
  have hb := B.bytes
  have hr := B.returns
  have hts := atoms_spec (ws := wsX6_keepDrafted) B.pre
  have hown : s.vm.findClass RX6 = some m.cls := findClass_of_methodNamed B.named
  have hlocks := B.notSynchronized
  subst hsz
  have hD := hD0.self (sz := s.heap.size)
  generalize hAe : va_A ([(o1, .inr (6, [.ref o2, .ref o7, .ref o21, .ref o23, .int v25, .int v26, .int v27, .int v28, .int v29])), (o23, .inl (cI, 12, .inl fw24))]) s.heap.size = A at hD ⊢
  have hA : ∀ q : Nat, s.heap.size ≤ q → A q := fun q h => by rw [← hAe]; exact Or.inr h
  have hS : va_S A s.heap s.heap [] := va_S.rf
  have hP : va_P (dC, dI) vwCl ([(o1, .inr (6, [.ref o2, .ref o7, .ref o21, .ref o23, .int v25, .int v26, .int v27, .int v28, .int v29])), (o23, .inl (cI, 12, .inl fw24))]) s.heap := hP
  have hl := lv_entry ([.ref o1, .int a1]) (n := 4) (Nat.le_of_ble_eq_true rfl)
  rw [lg_entry_eq]
  generalize (lg_sl ([.ref o1, .int a1]) ++ List.replicate (4 - (lg_sl ([.ref o1, .int a1])).length) Slot.unset).toArray = ls at hl ⊢
  have hl : lv_has ls 4 [(0, .ref o1), (1, .int a1)] := hl
  refine gen_Q (fun Q hQ => ?_)
  refine lv_iconst (v := 0) hx hb dX6_keepDrafted_0 (by decide) ?_
  refine lv_istore_n (lv' := [(2, .int 0), (0, .ref o1), (1, .int a1)]) hx hb dX6_keepDrafted_1 rfl hl (by decide) rfl (fun ls hl => ?_)
  refine lv_iconst (v := 0) hx hb dX6_keepDrafted_2 (by decide) ?_
  refine lv_istore_n (lv' := [(3, .int 0), (2, .int 0), (0, .ref o1), (1, .int a1)]) hx hb dX6_keepDrafted_3 rfl hl (by decide) rfl (fun ls hl => ?_)
  have L1 : ∀ (N : Nat) (x124 : Int32) (x125 : Int32) (f126 : Nat → Int32) (H : Heap) (locs : List Loc) (ls : Array Slot), (12 - x124.toInt).toNat < N → Iv 0 12 x124 → Iv 0 12 x125 → Bd 12 0 11 f126 → Int32.toInt x125 ≤ Int32.toInt x124 → va_P (dC, dI) vwCl ([(o1, .inr (6, [.ref o2, .ref o7, .ref o21, .ref o23, .int v25, .int v26, .int v27, .int v28, .int v29])), (o23, .inl (cI, 12, .inl f126))]) H → va_D A ([(o1, .inr (6, [.ref o2, .ref o7, .ref o21, .ref o23, .int v25, .int v26, .int v27, .int v28, .int v29])), (o23, .inl (cI, 12, .inl f126))]) → va_S A s.heap H locs → lv_has ls 4 [(3, .int x124), (2, .int x125), (0, .ref o1), (1, .int a1)] → W p l e ({ frames := 1, cells := 0, slots := 0, locals := 21 }) s m ([.ref o1, .int a1] : List Value).toArray below meth c H locs 0 0 Q (F0 m 4 ls []) := by
    intro N
    induction N with
    | zero =>
      intro x124 x125 f126 H locs ls hM
      exact absurd hM (Nat.not_lt_zero _)
    | succ N ih1 =>
      intro x124 x125 f126 H locs ls hM1 x124_h x125_h f126_b rl1_0 hP hD hS hl
      refine lv_iload_n hx hb dX6_keepDrafted_4 rfl (lv_at hl 0 rfl) ?_
      refine lv_aload_n hx hb dX6_keepDrafted_5 rfl (lv_at hl 2 rfl) ?_
      refine va_get (D := (dC, dI)) (ci := 6) (v := .int v25) (C := RX6) (T := TX6) (N := 9) hx hb hts iw_X6_keepDrafted_X6 hown hK hP 0 rfl rfl 4 (by decide) (hts (.fieldLink RX6 32 "HolelessHouse$Ordering" "draftSize" "I") (by decide +kernel)) (fun _ h9 => h9) rfl dX6_keepDrafted_6 ?_
      refine lv_icmp_ge (tgt := 46) hx hb dX6_keepDrafted_9 (by decide) (fun h127 => ?_) (fun h127 => ?_)
      ·
        have qh127 := le_i h127
        refine lv_aload_n hx hb dX6_keepDrafted_46 rfl (lv_at hl 2 rfl) ?_
        refine lv_iload_n hx hb dX6_keepDrafted_47 rfl (lv_at hl 1 rfl) ?_
        refine va_put (D := (dC, dI)) (ci := 6) (v := .int x125) (ty := .int) (C := RX6) (T := TX6) (N := 9) hx hb hts iw_X6_keepDrafted_X6 tyX6 tyX6_ok nmX6 hown hK hP hD hS 0 rfl rfl 4 (by decide) (hts (.fieldLink RX6 32 "HolelessHouse$Ordering" "draftSize" "I") (by decide +kernel)) (fun _ h9 => h9) rfl (by decide +kernel) rfl rfl (Nat.le_of_ble_eq_true rfl) dX6_keepDrafted_48 (fun H locs hP hD hS => ?_)
        have hP : va_P (dC, dI) vwCl ([(o1, .inr (6, [.ref o2, .ref o7, .ref o21, .ref o23, .int x125, .int v26, .int v27, .int v28, .int v29])), (o23, .inl (cI, 12, .inl f126))]) H := hP
        have hD : va_D A ([(o1, .inr (6, [.ref o2, .ref o7, .ref o21, .ref o23, .int x125, .int v26, .int v27, .int v28, .int v29])), (o23, .inl (cI, 12, .inl f126))]) := hD
        rw [hQ]
        exact W.vret hx hb hr (fun t ht hW => ⟨⟨(x125, f126), rfl, ⟨x125_h, f126_b⟩, by rw [ht]; exact hP, va_K.moved hW.alike hK, hD⟩, hS.F ht⟩) hS.2.2 dX6_keepDrafted_51
      ·
        have qh127 := nle_i h127
        have j128 : Iv 0 11 x124 := r_ltl qh127 x124_h v25_h (by decide)
        have j129 : Iv 0 11 x125 := r_lel rl1_0 x125_h j128 (by decide)
        have j130 : Iv 1 12 v25 := r_ltr qh127 x124_h v25_h (by decide)
        refine lv_iload_n hx hb dX6_keepDrafted_12 rfl (lv_at hl 3 rfl) ?_
        refine lv_aload_n hx hb dX6_keepDrafted_13 rfl (lv_at hl 2 rfl) ?_
        refine va_get (D := (dC, dI)) (ci := 6) (v := .ref o23) (C := RX6) (T := TX6) (N := 9) hx hb hts iw_X6_keepDrafted_X6 hown hK hP 0 rfl rfl 3 (by decide) (hts (.fieldLink RX6 29 "HolelessHouse$Ordering" "drafts" "[I") (by decide +kernel)) (fun _ h9 => h9) rfl dX6_keepDrafted_14 ?_
        refine lv_iload_n hx hb dX6_keepDrafted_17 rfl (lv_at hl 0 rfl) ?_
        refine va_iald hx hb hK hP 1 0 rfl rfl (vin_iv j128 (by decide)) dX6_keepDrafted_18 (lv_topi (fun x131 x131_e => ?_))
        have x131_h : Iv 0 11 x131 := iv_e x131_e (bd_at f126_b (vin_iv j128 (by decide)))
        refine kc_i (D := (dC, dI)) (S := Unit) (wc := []) (wr := [(o1, .inr (6, [.ref o2, .ref o7, .ref o21, .ref o23, .int v25, .int v26, .int v27, .int v28, .int v29])), (o23, .inl (cI, 12, .inl f126))]) (w1 := fun _ => []) (wn := fun _ => [(o1, .inr (6, [.ref o2, .ref o7, .ref o21, .ref o23, .int v25, .int v26, .int v27, .int v28, .int v29])), (o23, .inl (cI, 12, .inl f126))]) (fun hPc hDc => va_runSN (As := [.int a1, .int x131]) (rest := []) ⟨hx, hb, hml, hown, hts⟩ (kX11_in_1 l dC dI cI c2 cZ a1 x131 H.size) ⟨va_cnB 2 hts gX6_keepDrafted_X11_in_n53 rfl rfl rfl (hN.1 _ ns_65) (hts (.initialized RX11) (by decide +kernel)) (by decide +kernel) ⟨Nat.le_of_ble_eq_true rfl, Nat.le_of_ble_eq_true rfl⟩, (hts (.static yX11_in) (by decide +kernel)), trivial⟩ (pre_S hPc hK hDc hN) rfl rfl hl.1 rfl (lv_room (Nat.le_of_ble_eq_true rfl)) dX6_keepDrafted_19 ⟨Nat.le_of_ble_eq_true rfl, Nat.le_of_ble_eq_true rfl⟩) hP hD hS hA [] [0, 1] [0, 1] rfl rfl (by decide) (by decide) (by decide) (by decide) (fun _ => rfl) (fun x132 _ H locs hq hP hD hS => ?_)
        have x132_h := hq
        have hP : va_P (dC, dI) vwCl ([(o1, .inr (6, [.ref o2, .ref o7, .ref o21, .ref o23, .int v25, .int v26, .int v27, .int v28, .int v29])), (o23, .inl (cI, 12, .inl f126))]) H := hP
        have hD : va_D A ([(o1, .inr (6, [.ref o2, .ref o7, .ref o21, .ref o23, .int v25, .int v26, .int v27, .int v28, .int v29])), (o23, .inl (cI, 12, .inl f126))]) := hD
        refine lv_if_eq (tgt := 40) hx hb dX6_keepDrafted_22 (by decide) (fun h133 => ?_) (fun h133 => ?_)
        ·
          have j134 : Iv 0 0 x132 := r_eq h133 ik_0
          obtain ⟨x135, x135_e⟩ : ∃ z : Int32, z = x124 + 1 := ⟨_, rfl⟩
          have x135_h : Iv 1 12 x135 := iv_e x135_e (iv_add j128 ik_1 (by decide))
          refine lv_iinc (v := x135) (lv' := [(3, .int x135), (2, .int x125), (0, .ref o1), (1, .int a1)]) hx hb dX6_keepDrafted_40 hl (k := 0) rfl (incN (by decide +kernel) x135_e) (by decide) rfl (fun ls hl => ?_)
          refine lv_goto (tgt := 4) hx hb dX6_keepDrafted_43 (by decide) ?_
          exact ih1 x135 x125 f126 _ _ _ (ms_up x135_e j128 (by decide) hM1) (iv_w x135_h (by decide)) (iv_w j129 (by decide)) f126_b (by have h70 := tia x135_e j128 ik_1 (by decide); have h8 := rl1_0; omega) hP hD hS hl
        ·
          have j136 : Iv 1 1 x132 := r_nelo h133 x132_h ik_0 (by decide)
          refine lv_aload_n hx hb dX6_keepDrafted_25 rfl (lv_at hl 2 rfl) ?_
          refine va_get (D := (dC, dI)) (ci := 6) (v := .ref o23) (C := RX6) (T := TX6) (N := 9) hx hb hts iw_X6_keepDrafted_X6 hown hK hP 0 rfl rfl 3 (by decide) (hts (.fieldLink RX6 29 "HolelessHouse$Ordering" "drafts" "[I") (by decide +kernel)) (fun _ h9 => h9) rfl dX6_keepDrafted_26 ?_
          refine lv_iload_n hx hb dX6_keepDrafted_29 rfl (lv_at hl 1 rfl) ?_
          refine lv_aload_n hx hb dX6_keepDrafted_30 rfl (lv_at hl 2 rfl) ?_
          refine va_get (D := (dC, dI)) (ci := 6) (v := .ref o23) (C := RX6) (T := TX6) (N := 9) hx hb hts iw_X6_keepDrafted_X6 hown hK hP 0 rfl rfl 3 (by decide) (hts (.fieldLink RX6 29 "HolelessHouse$Ordering" "drafts" "[I") (by decide +kernel)) (fun _ h9 => h9) rfl dX6_keepDrafted_31 ?_
          refine lv_iload_n hx hb dX6_keepDrafted_34 rfl (lv_at hl 0 rfl) ?_
          refine va_iald hx hb hK hP 1 0 rfl rfl (vin_iv j128 (by decide)) dX6_keepDrafted_35 (lv_topi (fun x137 x137_e => ?_))
          have x137_h : Iv 0 11 x137 := iv_e x137_e (bd_at f126_b (vin_iv j128 (by decide)))
          refine k_iast hx hb hK hP hD hS 1 0 rfl rfl (vin_iv j129 (by decide)) dX6_keepDrafted_36 (fun f138 H locs f138_e hP hD hS => ?_)
          have f138_b : Bd 12 0 11 f138 := bd_upd f138_e f126_b x137_h (by decide)
          have hP : va_P (dC, dI) vwCl ([(o1, .inr (6, [.ref o2, .ref o7, .ref o21, .ref o23, .int v25, .int v26, .int v27, .int v28, .int v29])), (o23, .inl (cI, 12, .inl f138))]) H := hP
          have hD : va_D A ([(o1, .inr (6, [.ref o2, .ref o7, .ref o21, .ref o23, .int v25, .int v26, .int v27, .int v28, .int v29])), (o23, .inl (cI, 12, .inl f138))]) := hD
          obtain ⟨x139, x139_e⟩ : ∃ z : Int32, z = x125 + 1 := ⟨_, rfl⟩
          have x139_h : Iv 1 12 x139 := iv_e x139_e (iv_add j129 ik_1 (by decide))
          refine lv_iinc (v := x139) (lv' := [(2, .int x139), (3, .int x124), (0, .ref o1), (1, .int a1)]) hx hb dX6_keepDrafted_37 hl (k := 1) rfl (incN (by decide +kernel) x139_e) (by decide) rfl (fun ls hl => ?_)
          obtain ⟨x140, x140_e⟩ : ∃ z : Int32, z = x124 + 1 := ⟨_, rfl⟩
          have x140_h : Iv 1 12 x140 := iv_e x140_e (iv_add j128 ik_1 (by decide))
          refine lv_iinc (v := x140) (lv' := [(3, .int x140), (2, .int x139), (0, .ref o1), (1, .int a1)]) hx hb dX6_keepDrafted_40 hl (k := 1) rfl (incN (by decide +kernel) x140_e) (by decide) rfl (fun ls hl => ?_)
          refine lv_goto (tgt := 4) hx hb dX6_keepDrafted_43 (by decide) ?_
          exact ih1 x140 x139 f138 _ _ _ (ms_up x140_e j128 (by decide) hM1) (iv_w x140_h (by decide)) (iv_w x139_h (by decide)) f138_b (by have h70 := tia x139_e j129 ik_1 (by decide); have h71 := tia x140_e j128 ik_1 (by decide); have h8 := rl1_0; omega) hP hD hS hl
  exact L1 _ 0 0 fw24 _ _ _ (Nat.lt_succ_self _) (iv_w ik_0 (by decide)) (iv_w ik_0 (by decide)) fw24_b (by decide +kernel) hP hD hS hl
theorem iw_X11_startGraph_X11 : ∀ w ∈ wsX110, w ∈ wsX11_startGraph := by decide +kernel
set_option maxHeartbeats 4000000 in
set_option maxRecDepth 100000 in
theorem kX11_startGraph_1 (l : Launch) (dC : Nat → ClassId) (dI : Nat → Nat → Nat) (cI c2 cZ : ClassId) (o1 : Nat) (o2 : Nat) (o7 : Nat) (o12 : Nat) (o41 : Nat) (o51 : Nat) (o64 : Nat) (o77 : Nat) (o84 : Nat) (o91 : Nat) (o99 : Nat) (o111 : Nat) (o123 : Nat) (o3 : Nat) (o13 : Nat) (o18 : Nat) (o32 : Nat) (o34 : Nat) (fw4 : Nat → Int32) (v5 : Int32) (v6 : Int32) (fw35 : Nat → Int32) (v36 : Int32) (v37 : Int32) (v38 : Int32) (v39 : Int32) (v40 : Int32) (v125 : Int32) (a1 : Int32) (sz : Nat) (fw4_b : Bd 12 0 4095 fw4) (v5_h : Iv 0 12 v5) (fw35_b : Bd 12 0 11 fw35) (v36_h : Iv 0 12 v36) (v37_h : Iv 0 12 v37) (v38_h : Iv 0 1 v38) (a1_h : Iv 0 12 a1) : Met l yX11_startGraph wsX11_startGraph ({ frames := 2, cells := 0, slots := 0, locals := 44 }) (va_Pc [.ref o1, .int a1] (wPre (dC, dI) [(cI, .int), (c2, .array .int), (cZ, .boolean)] ([(o1, .inr (11, [.ref o2, .ref o7, .ref o12, .ref o41, .ref o51, .ref o64, .ref o77, .ref o84, .ref o91, .ref o99, .ref o111, .ref o123, .int v125])), (o2, .inr (4, [.ref o3, .int v5, .int v6])), (o3, .inl (cI, 12, .inl fw4)), (o12, .inr (6, [.ref o13, .ref o18, .ref o32, .ref o34, .int v36, .int v37, .int v38, .int v39, .int v40])), (o34, .inl (cI, 12, .inl fw35))]) sz)) (va_Qv (fun (u : Int32 × Int32 × (Nat → Int32) × Int32 × Int32 × (Nat → Int32)) => Iv 0 12 u.1 ∧ Bd 12 0 4095 u.2.2.1 ∧ Iv 0 12 u.2.2.2.1 ∧ Iv 0 1 u.2.2.2.2.1 ∧ Bd 12 0 11 u.2.2.2.2.2) (fun u t => wPost (dC, dI) [(cI, .int), (c2, .array .int), (cZ, .boolean)] (va_A ([(o1, .inr (11, [.ref o2, .ref o7, .ref o12, .ref o41, .ref o51, .ref o64, .ref o77, .ref o84, .ref o91, .ref o99, .ref o111, .ref o123, .int v125])), (o2, .inr (4, [.ref o3, .int v5, .int v6])), (o3, .inl (cI, 12, .inl fw4)), (o12, .inr (6, [.ref o13, .ref o18, .ref o32, .ref o34, .int v36, .int v37, .int v38, .int v39, .int v40])), (o34, .inl (cI, 12, .inl fw35))]) sz) ([(o1, .inr (11, [.ref o2, .ref o7, .ref o12, .ref o41, .ref o51, .ref o64, .ref o77, .ref o84, .ref o91, .ref o99, .ref o111, .ref o123, .int v125])), (o2, .inr (4, [.ref o3, .int u.1, .int u.2.1])), (o3, .inl (cI, 12, .inl u.2.2.1)), (o12, .inr (6, [.ref o13, .ref o18, .ref o32, .ref o34, .int u.2.2.2.1, .int v37, .int u.2.2.2.2.1, .int v39, .int v40])), (o34, .inl (cI, 12, .inl u.2.2.2.2.2))]) t) (va_A ([(o1, .inr (11, [.ref o2, .ref o7, .ref o12, .ref o41, .ref o51, .ref o64, .ref o77, .ref o84, .ref o91, .ref o99, .ref o111, .ref o123, .int v125])), (o2, .inr (4, [.ref o3, .int v5, .int v6])), (o3, .inl (cI, 12, .inl fw4)), (o12, .inr (6, [.ref o13, .ref o18, .ref o32, .ref o34, .int v36, .int v37, .int v38, .int v39, .int v40])), (o34, .inl (cI, 12, .inl fw35))]) sz)) 0 0 (va_A ([(o1, .inr (11, [.ref o2, .ref o7, .ref o12, .ref o41, .ref o51, .ref o64, .ref o77, .ref o84, .ref o91, .ref o99, .ref o111, .ref o123, .int v125])), (o2, .inr (4, [.ref o3, .int v5, .int v6])), (o3, .inl (cI, 12, .inl fw4)), (o12, .inr (6, [.ref o13, .ref o18, .ref o32, .ref o34, .int v36, .int v37, .int v38, .int v39, .int v40])), (o34, .inl (cI, 12, .inl fw35))]) sz) := by
  refine Met.ofW (cc := cX11_startGraph) (maxL := 2) (ret := none) (by decide) rfl ?_
  intro p e s m args below meth c s₁ B hml hv
  obtain ⟨rfl, hsz, hP, hK, hD0, hN⟩ := hv
  have hx := B.exec
  have hb := B.bytes
  have hr := B.returns
  have hts := atoms_spec (ws := wsX11_startGraph) B.pre
  have hown : s.vm.findClass RX11 = some m.cls := findClass_of_methodNamed B.named
  have hlocks := B.notSynchronized
  subst hsz
  have hD := hD0.self (sz := s.heap.size)
  generalize hAe : va_A ([(o1, .inr (11, [.ref o2, .ref o7, .ref o12, .ref o41, .ref o51, .ref o64, .ref o77, .ref o84, .ref o91, .ref o99, .ref o111, .ref o123, .int v125])), (o2, .inr (4, [.ref o3, .int v5, .int v6])), (o3, .inl (cI, 12, .inl fw4)), (o12, .inr (6, [.ref o13, .ref o18, .ref o32, .ref o34, .int v36, .int v37, .int v38, .int v39, .int v40])), (o34, .inl (cI, 12, .inl fw35))]) s.heap.size = A at hD ⊢
  have hA : ∀ q : Nat, s.heap.size ≤ q → A q := fun q h => by rw [← hAe]; exact Or.inr h
  have hS : va_S A s.heap s.heap [] := va_S.rf
  have hP : va_P (dC, dI) vwCl ([(o1, .inr (11, [.ref o2, .ref o7, .ref o12, .ref o41, .ref o51, .ref o64, .ref o77, .ref o84, .ref o91, .ref o99, .ref o111, .ref o123, .int v125])), (o2, .inr (4, [.ref o3, .int v5, .int v6])), (o3, .inl (cI, 12, .inl fw4)), (o12, .inr (6, [.ref o13, .ref o18, .ref o32, .ref o34, .int v36, .int v37, .int v38, .int v39, .int v40])), (o34, .inl (cI, 12, .inl fw35))]) s.heap := hP
  have hl := lv_entry ([.ref o1, .int a1]) (n := 2) (Nat.le_of_ble_eq_true rfl)
  rw [lg_entry_eq]
  generalize (lg_sl ([.ref o1, .int a1]) ++ List.replicate (2 - (lg_sl ([.ref o1, .int a1])).length) Slot.unset).toArray = ls at hl ⊢
  have hl : lv_has ls 2 [(0, .ref o1), (1, .int a1)] := hl
  refine gen_Q (fun Q hQ => ?_)
  refine lv_aload_n hx hb dX11_startGraph_0 rfl (lv_at hl 0 rfl) ?_
  refine va_get (D := (dC, dI)) (ci := 11) (v := .ref o2) (C := RX11) (T := TX11) (N := 13) hx hb hts iw_X11_startGraph_X11 hown hK hP 0 rfl rfl 0 (by decide) (hts (.fieldLink RX11 10 "HolelessHouse" "graph" "LHolelessHouse$Graph;") (by decide +kernel)) (fun _ h9 => h9) rfl dX11_startGraph_1 ?_
  refine lv_iload_n hx hb dX11_startGraph_4 rfl (lv_at hl 1 rfl) ?_
  refine kc_v (D := (dC, dI)) (S := Int32 × Int32 × (Nat → Int32)) (wc := [(o2, .inr (4, [.ref o3, .int v5, .int v6])), (o3, .inl (cI, 12, .inl fw4))]) (wr := [(o1, .inr (11, [.ref o2, .ref o7, .ref o12, .ref o41, .ref o51, .ref o64, .ref o77, .ref o84, .ref o91, .ref o99, .ref o111, .ref o123, .int v125])), (o12, .inr (6, [.ref o13, .ref o18, .ref o32, .ref o34, .int v36, .int v37, .int v38, .int v39, .int v40])), (o34, .inl (cI, 12, .inl fw35))]) (w1 := fun u => [(o2, .inr (4, [.ref o3, .int u.1, .int u.2.1])), (o3, .inl (cI, 12, .inl u.2.2))]) (wn := fun u => [(o1, .inr (11, [.ref o2, .ref o7, .ref o12, .ref o41, .ref o51, .ref o64, .ref o77, .ref o84, .ref o91, .ref o99, .ref o111, .ref o123, .int v125])), (o2, .inr (4, [.ref o3, .int u.1, .int u.2.1])), (o3, .inl (cI, 12, .inl u.2.2)), (o12, .inr (6, [.ref o13, .ref o18, .ref o32, .ref o34, .int v36, .int v37, .int v38, .int v39, .int v40])), (o34, .inl (cI, 12, .inl fw35))]) (fun hPc hDc => va_runVN (As := [.int a1]) (rest := []) ⟨hx, hb, hml, hown, hts⟩ (kX4_restart_1 l dC dI cI c2 cZ o2 o3 fw4 v5 v6 a1 s.heap.size fw4_b v5_h a1_h) ⟨va_cnB 1 hts gX11_startGraph_X4_restart_n290 rfl rfl rfl (hN.1 _ ns_61) (hts (.initialized RX4) (by decide +kernel)) (by decide +kernel) ⟨Nat.le_of_ble_eq_true rfl, Nat.le_of_ble_eq_true rfl⟩, (hts (.instanceMethod yX4_restart) (by decide +kernel)), (hts (.selects RX4 yX4_restart yX4_restart) (by decide +kernel))⟩ (pre_V hPc hK hDc hN (ci := 4) (q0 := 0) rfl rfl) rfl rfl hl.1 rfl (lv_room (Nat.le_of_ble_eq_true rfl)) dX11_startGraph_5 ⟨Nat.le_of_ble_eq_true rfl, Nat.le_of_ble_eq_true rfl⟩) hP hD hS hA [1, 2] [0, 3, 4] [0, 3, 4, 1, 2] rfl rfl (by decide) (by decide) (by decide) (by decide) (fun _ => rfl) (fun u H locs hq hP hD hS => ?_)
  obtain ⟨y1, y2, f3⟩ := u
  obtain ⟨y1_h, f3_b⟩ := hq
  have hP : va_P (dC, dI) vwCl ([(o1, .inr (11, [.ref o2, .ref o7, .ref o12, .ref o41, .ref o51, .ref o64, .ref o77, .ref o84, .ref o91, .ref o99, .ref o111, .ref o123, .int v125])), (o2, .inr (4, [.ref o3, .int y1, .int y2])), (o3, .inl (cI, 12, .inl f3)), (o12, .inr (6, [.ref o13, .ref o18, .ref o32, .ref o34, .int v36, .int v37, .int v38, .int v39, .int v40])), (o34, .inl (cI, 12, .inl fw35))]) H := hP
  have hD : va_D A ([(o1, .inr (11, [.ref o2, .ref o7, .ref o12, .ref o41, .ref o51, .ref o64, .ref o77, .ref o84, .ref o91, .ref o99, .ref o111, .ref o123, .int v125])), (o2, .inr (4, [.ref o3, .int y1, .int y2])), (o3, .inl (cI, 12, .inl f3)), (o12, .inr (6, [.ref o13, .ref o18, .ref o32, .ref o34, .int v36, .int v37, .int v38, .int v39, .int v40])), (o34, .inl (cI, 12, .inl fw35))]) := hD
  refine lv_aload_n hx hb dX11_startGraph_8 rfl (lv_at hl 0 rfl) ?_
  refine va_get (D := (dC, dI)) (ci := 11) (v := .ref o12) (C := RX11) (T := TX11) (N := 13) hx hb hts iw_X11_startGraph_X11 hown hK hP 0 rfl rfl 2 (by decide) (hts (.fieldLink RX11 26 "HolelessHouse" "ordering" "LHolelessHouse$Ordering;") (by decide +kernel)) (fun _ h9 => h9) rfl dX11_startGraph_9 ?_
  refine kc_v (D := (dC, dI)) (S := Int32) (wc := [(o12, .inr (6, [.ref o13, .ref o18, .ref o32, .ref o34, .int v36, .int v37, .int v38, .int v39, .int v40]))]) (wr := [(o1, .inr (11, [.ref o2, .ref o7, .ref o12, .ref o41, .ref o51, .ref o64, .ref o77, .ref o84, .ref o91, .ref o99, .ref o111, .ref o123, .int v125])), (o2, .inr (4, [.ref o3, .int y1, .int y2])), (o3, .inl (cI, 12, .inl f3)), (o34, .inl (cI, 12, .inl fw35))]) (w1 := fun u => [(o12, .inr (6, [.ref o13, .ref o18, .ref o32, .ref o34, .int v36, .int v37, .int u, .int v39, .int v40]))]) (wn := fun u => [(o1, .inr (11, [.ref o2, .ref o7, .ref o12, .ref o41, .ref o51, .ref o64, .ref o77, .ref o84, .ref o91, .ref o99, .ref o111, .ref o123, .int v125])), (o2, .inr (4, [.ref o3, .int y1, .int y2])), (o3, .inl (cI, 12, .inl f3)), (o12, .inr (6, [.ref o13, .ref o18, .ref o32, .ref o34, .int v36, .int v37, .int u, .int v39, .int v40])), (o34, .inl (cI, 12, .inl fw35))]) (fun hPc hDc => va_runVN (As := []) (rest := []) ⟨hx, hb, hml, hown, hts⟩ (kX6_drop_1 l dC dI cI c2 cZ o12 o13 o18 o32 o34 v36 v37 v38 v39 v40 H.size v36_h v37_h v38_h) ⟨va_cnB 0 hts gX11_startGraph_X6_drop_n105 rfl rfl rfl (hN.1 _ ns_62) (hts (.initialized RX6) (by decide +kernel)) (by decide +kernel) ⟨Nat.le_of_ble_eq_true rfl, Nat.le_of_ble_eq_true rfl⟩, (hts (.instanceMethod yX6_drop) (by decide +kernel)), (hts (.selects RX6 yX6_drop yX6_drop) (by decide +kernel))⟩ (pre_V hPc hK hDc hN (ci := 6) (q0 := 0) rfl rfl) rfl rfl hl.1 rfl (lv_room (Nat.le_of_ble_eq_true rfl)) dX11_startGraph_12 ⟨Nat.le_of_ble_eq_true rfl, Nat.le_of_ble_eq_true rfl⟩) hP hD hS hA [3] [0, 1, 2, 4] [0, 1, 2, 4, 3] rfl rfl (by decide) (by decide) (by decide) (by decide) (fun _ => rfl) (fun y4 H locs hq hP hD hS => ?_)
  have y4_h := hq
  have hP : va_P (dC, dI) vwCl ([(o1, .inr (11, [.ref o2, .ref o7, .ref o12, .ref o41, .ref o51, .ref o64, .ref o77, .ref o84, .ref o91, .ref o99, .ref o111, .ref o123, .int v125])), (o2, .inr (4, [.ref o3, .int y1, .int y2])), (o3, .inl (cI, 12, .inl f3)), (o12, .inr (6, [.ref o13, .ref o18, .ref o32, .ref o34, .int v36, .int v37, .int y4, .int v39, .int v40])), (o34, .inl (cI, 12, .inl fw35))]) H := hP
  have hD : va_D A ([(o1, .inr (11, [.ref o2, .ref o7, .ref o12, .ref o41, .ref o51, .ref o64, .ref o77, .ref o84, .ref o91, .ref o99, .ref o111, .ref o123, .int v125])), (o2, .inr (4, [.ref o3, .int y1, .int y2])), (o3, .inl (cI, 12, .inl f3)), (o12, .inr (6, [.ref o13, .ref o18, .ref o32, .ref o34, .int v36, .int v37, .int y4, .int v39, .int v40])), (o34, .inl (cI, 12, .inl fw35))]) := hD
  refine lv_aload_n hx hb dX11_startGraph_15 rfl (lv_at hl 0 rfl) ?_
  refine va_get (D := (dC, dI)) (ci := 11) (v := .ref o12) (C := RX11) (T := TX11) (N := 13) hx hb hts iw_X11_startGraph_X11 hown hK hP 0 rfl rfl 2 (by decide) (hts (.fieldLink RX11 26 "HolelessHouse" "ordering" "LHolelessHouse$Ordering;") (by decide +kernel)) (fun _ h9 => h9) rfl dX11_startGraph_16 ?_
  refine lv_aload_n hx hb dX11_startGraph_19 rfl (lv_at hl 0 rfl) ?_
  refine va_get (D := (dC, dI)) (ci := 11) (v := .ref o2) (C := RX11) (T := TX11) (N := 13) hx hb hts iw_X11_startGraph_X11 hown hK hP 0 rfl rfl 0 (by decide) (hts (.fieldLink RX11 10 "HolelessHouse" "graph" "LHolelessHouse$Graph;") (by decide +kernel)) (fun _ h9 => h9) rfl dX11_startGraph_20 ?_
  refine kc_i (D := (dC, dI)) (S := Unit) (wc := [(o2, .inr (4, [.ref o3, .int y1, .int y2]))]) (wr := [(o1, .inr (11, [.ref o2, .ref o7, .ref o12, .ref o41, .ref o51, .ref o64, .ref o77, .ref o84, .ref o91, .ref o99, .ref o111, .ref o123, .int v125])), (o3, .inl (cI, 12, .inl f3)), (o12, .inr (6, [.ref o13, .ref o18, .ref o32, .ref o34, .int v36, .int v37, .int y4, .int v39, .int v40])), (o34, .inl (cI, 12, .inl fw35))]) (w1 := fun _ => [(o2, .inr (4, [.ref o3, .int y1, .int y2]))]) (wn := fun _ => [(o1, .inr (11, [.ref o2, .ref o7, .ref o12, .ref o41, .ref o51, .ref o64, .ref o77, .ref o84, .ref o91, .ref o99, .ref o111, .ref o123, .int v125])), (o2, .inr (4, [.ref o3, .int y1, .int y2])), (o3, .inl (cI, 12, .inl f3)), (o12, .inr (6, [.ref o13, .ref o18, .ref o32, .ref o34, .int v36, .int v37, .int y4, .int v39, .int v40])), (o34, .inl (cI, 12, .inl fw35))]) (fun hPc hDc => va_runVN (As := []) (rest := [.ref o12]) ⟨hx, hb, hml, hown, hts⟩ (kX4_all_1 l dC dI cI c2 cZ o2 o3 y1 y2 H.size y1_h) ⟨va_cnB 0 hts gX11_startGraph_X4_all_n164 rfl rfl rfl (hN.1 _ ns_63) (hts (.initialized RX4) (by decide +kernel)) (by decide +kernel) ⟨Nat.le_of_ble_eq_true rfl, Nat.le_of_ble_eq_true rfl⟩, (hts (.instanceMethod yX4_all) (by decide +kernel)), (hts (.selects RX4 yX4_all yX4_all) (by decide +kernel))⟩ (pre_V hPc hK hDc hN (ci := 4) (q0 := 0) rfl rfl) rfl rfl hl.1 rfl (lv_room (Nat.le_of_ble_eq_true rfl)) dX11_startGraph_23 ⟨Nat.le_of_ble_eq_true rfl, Nat.le_of_ble_eq_true rfl⟩) hP hD hS hA [1] [0, 2, 3, 4] [0, 4, 1, 2, 3] rfl rfl (by decide) (by decide) (by decide) (by decide) (fun _ => rfl) (fun x5 _ H locs hq hP hD hS => ?_)
  have x5_h := hq
  have hP : va_P (dC, dI) vwCl ([(o1, .inr (11, [.ref o2, .ref o7, .ref o12, .ref o41, .ref o51, .ref o64, .ref o77, .ref o84, .ref o91, .ref o99, .ref o111, .ref o123, .int v125])), (o2, .inr (4, [.ref o3, .int y1, .int y2])), (o3, .inl (cI, 12, .inl f3)), (o12, .inr (6, [.ref o13, .ref o18, .ref o32, .ref o34, .int v36, .int v37, .int y4, .int v39, .int v40])), (o34, .inl (cI, 12, .inl fw35))]) H := hP
  have hD : va_D A ([(o1, .inr (11, [.ref o2, .ref o7, .ref o12, .ref o41, .ref o51, .ref o64, .ref o77, .ref o84, .ref o91, .ref o99, .ref o111, .ref o123, .int v125])), (o2, .inr (4, [.ref o3, .int y1, .int y2])), (o3, .inl (cI, 12, .inl f3)), (o12, .inr (6, [.ref o13, .ref o18, .ref o32, .ref o34, .int v36, .int v37, .int y4, .int v39, .int v40])), (o34, .inl (cI, 12, .inl fw35))]) := hD
  refine kc_v (D := (dC, dI)) (S := Int32 × (Nat → Int32)) (wc := [(o12, .inr (6, [.ref o13, .ref o18, .ref o32, .ref o34, .int v36, .int v37, .int y4, .int v39, .int v40])), (o34, .inl (cI, 12, .inl fw35))]) (wr := [(o1, .inr (11, [.ref o2, .ref o7, .ref o12, .ref o41, .ref o51, .ref o64, .ref o77, .ref o84, .ref o91, .ref o99, .ref o111, .ref o123, .int v125])), (o2, .inr (4, [.ref o3, .int y1, .int y2])), (o3, .inl (cI, 12, .inl f3))]) (w1 := fun u => [(o12, .inr (6, [.ref o13, .ref o18, .ref o32, .ref o34, .int u.1, .int v37, .int y4, .int v39, .int v40])), (o34, .inl (cI, 12, .inl u.2))]) (wn := fun u => [(o1, .inr (11, [.ref o2, .ref o7, .ref o12, .ref o41, .ref o51, .ref o64, .ref o77, .ref o84, .ref o91, .ref o99, .ref o111, .ref o123, .int v125])), (o2, .inr (4, [.ref o3, .int y1, .int y2])), (o3, .inl (cI, 12, .inl f3)), (o12, .inr (6, [.ref o13, .ref o18, .ref o32, .ref o34, .int u.1, .int v37, .int y4, .int v39, .int v40])), (o34, .inl (cI, 12, .inl u.2))]) (fun hPc hDc => va_runVN (As := [.int x5]) (rest := []) ⟨hx, hb, hml, hown, hts⟩ (kX6_keepDrafted_1 l dC dI cI c2 cZ o12 o13 o18 o32 o34 fw35 v36 v37 y4 v39 v40 x5 H.size fw35_b v36_h v37_h y4_h) ⟨va_cnB 1 hts gX11_startGraph_X6_keepDrafted_n291 rfl rfl rfl (hN.1 _ ns_64) (hts (.initialized RX6) (by decide +kernel)) (by decide +kernel) ⟨Nat.le_of_ble_eq_true rfl, Nat.le_of_ble_eq_true rfl⟩, (hts (.instanceMethod yX6_keepDrafted) (by decide +kernel)), (hts (.selects RX6 yX6_keepDrafted yX6_keepDrafted) (by decide +kernel))⟩ (pre_V hPc hK hDc hN (ci := 6) (q0 := 0) rfl rfl) rfl rfl hl.1 rfl (lv_room (Nat.le_of_ble_eq_true rfl)) dX11_startGraph_26 ⟨Nat.le_of_ble_eq_true rfl, Nat.le_of_ble_eq_true rfl⟩) hP hD hS hA [3, 4] [0, 1, 2] [0, 1, 2, 3, 4] rfl rfl (by decide) (by decide) (by decide) (by decide) (fun _ => rfl) (fun u H locs hq hP hD hS => ?_)
  obtain ⟨y6, f7⟩ := u
  obtain ⟨y6_h, f7_b⟩ := hq
  have hP : va_P (dC, dI) vwCl ([(o1, .inr (11, [.ref o2, .ref o7, .ref o12, .ref o41, .ref o51, .ref o64, .ref o77, .ref o84, .ref o91, .ref o99, .ref o111, .ref o123, .int v125])), (o2, .inr (4, [.ref o3, .int y1, .int y2])), (o3, .inl (cI, 12, .inl f3)), (o12, .inr (6, [.ref o13, .ref o18, .ref o32, .ref o34, .int y6, .int v37, .int y4, .int v39, .int v40])), (o34, .inl (cI, 12, .inl f7))]) H := hP
  have hD : va_D A ([(o1, .inr (11, [.ref o2, .ref o7, .ref o12, .ref o41, .ref o51, .ref o64, .ref o77, .ref o84, .ref o91, .ref o99, .ref o111, .ref o123, .int v125])), (o2, .inr (4, [.ref o3, .int y1, .int y2])), (o3, .inl (cI, 12, .inl f3)), (o12, .inr (6, [.ref o13, .ref o18, .ref o32, .ref o34, .int y6, .int v37, .int y4, .int v39, .int v40])), (o34, .inl (cI, 12, .inl f7))]) := hD
  rw [hQ]
  exact W.vret hx hb hr (fun t ht hW => ⟨⟨(y1, y2, f3, y6, y4, f7), rfl, ⟨y1_h, f3_b, y6_h, y4_h, f7_b⟩, by rw [ht]; exact hP, va_K.moved hW.alike hK, hD⟩, hS.F ht⟩) hS.2.2 dX11_startGraph_29
set_option maxHeartbeats 4000000 in
set_option maxRecDepth 100000 in
theorem kX11_nodes_1 (l : Launch) (dC : Nat → ClassId) (dI : Nat → Nat → Nat) (cI c2 cZ : ClassId) (o1 : Nat) (o2 : Nat) (o7 : Nat) (o12 : Nat) (o41 : Nat) (o51 : Nat) (o64 : Nat) (o77 : Nat) (o84 : Nat) (o91 : Nat) (o99 : Nat) (o111 : Nat) (o123 : Nat) (o3 : Nat) (o13 : Nat) (o18 : Nat) (o32 : Nat) (o34 : Nat) (fw4 : Nat → Int32) (v5 : Int32) (v6 : Int32) (fw35 : Nat → Int32) (v36 : Int32) (v37 : Int32) (v38 : Int32) (v39 : Int32) (v40 : Int32) (v125 : Int32) (a1 : Int32) (sz : Nat) (fw4_b : Bd 12 0 4095 fw4) (v5_h : Iv 0 12 v5) (fw35_b : Bd 12 0 11 fw35) (v36_h : Iv 0 12 v36) (v37_h : Iv 0 12 v37) (v38_h : Iv 0 1 v38) : Met l yX11_nodes wsX11_nodes ({ frames := 3, cells := 0, slots := 0, locals := 65 }) (va_Pc [.ref o1, .int a1] (wPre (dC, dI) [(cI, .int), (c2, .array .int), (cZ, .boolean)] ([(o1, .inr (11, [.ref o2, .ref o7, .ref o12, .ref o41, .ref o51, .ref o64, .ref o77, .ref o84, .ref o91, .ref o99, .ref o111, .ref o123, .int v125])), (o2, .inr (4, [.ref o3, .int v5, .int v6])), (o3, .inl (cI, 12, .inl fw4)), (o12, .inr (6, [.ref o13, .ref o18, .ref o32, .ref o34, .int v36, .int v37, .int v38, .int v39, .int v40])), (o34, .inl (cI, 12, .inl fw35))]) sz)) (va_Qi (fun (r : Int32) (u : Int32 × Int32 × (Nat → Int32) × Int32 × Int32 × (Nat → Int32)) => Iv (-1) 12 r ∧ Iv 0 12 u.1 ∧ Bd 12 0 4095 u.2.2.1 ∧ Iv 0 12 u.2.2.2.1 ∧ Iv 0 1 u.2.2.2.2.1 ∧ Bd 12 0 11 u.2.2.2.2.2) (fun u t => wPost (dC, dI) [(cI, .int), (c2, .array .int), (cZ, .boolean)] (va_A ([(o1, .inr (11, [.ref o2, .ref o7, .ref o12, .ref o41, .ref o51, .ref o64, .ref o77, .ref o84, .ref o91, .ref o99, .ref o111, .ref o123, .int v125])), (o2, .inr (4, [.ref o3, .int v5, .int v6])), (o3, .inl (cI, 12, .inl fw4)), (o12, .inr (6, [.ref o13, .ref o18, .ref o32, .ref o34, .int v36, .int v37, .int v38, .int v39, .int v40])), (o34, .inl (cI, 12, .inl fw35))]) sz) ([(o1, .inr (11, [.ref o2, .ref o7, .ref o12, .ref o41, .ref o51, .ref o64, .ref o77, .ref o84, .ref o91, .ref o99, .ref o111, .ref o123, .int v125])), (o2, .inr (4, [.ref o3, .int u.1, .int u.2.1])), (o3, .inl (cI, 12, .inl u.2.2.1)), (o12, .inr (6, [.ref o13, .ref o18, .ref o32, .ref o34, .int u.2.2.2.1, .int v37, .int u.2.2.2.2.1, .int v39, .int v40])), (o34, .inl (cI, 12, .inl u.2.2.2.2.2))]) t) (va_A ([(o1, .inr (11, [.ref o2, .ref o7, .ref o12, .ref o41, .ref o51, .ref o64, .ref o77, .ref o84, .ref o91, .ref o99, .ref o111, .ref o123, .int v125])), (o2, .inr (4, [.ref o3, .int v5, .int v6])), (o3, .inl (cI, 12, .inl fw4)), (o12, .inr (6, [.ref o13, .ref o18, .ref o32, .ref o34, .int v36, .int v37, .int v38, .int v39, .int v40])), (o34, .inl (cI, 12, .inl fw35))]) sz)) 0 0 (va_A ([(o1, .inr (11, [.ref o2, .ref o7, .ref o12, .ref o41, .ref o51, .ref o64, .ref o77, .ref o84, .ref o91, .ref o99, .ref o111, .ref o123, .int v125])), (o2, .inr (4, [.ref o3, .int v5, .int v6])), (o3, .inl (cI, 12, .inl fw4)), (o12, .inr (6, [.ref o13, .ref o18, .ref o32, .ref o34, .int v36, .int v37, .int v38, .int v39, .int v40])), (o34, .inl (cI, 12, .inl fw35))]) sz) := by
  refine Met.ofW (cc := cX11_nodes) (maxL := 2) (ret := (some .int)) (by decide) rfl ?_
  intro p e s m args below meth c s₁ B hml hv
  obtain ⟨rfl, hsz, hP, hK, hD0, hN⟩ := hv
  have hx := B.exec
  have hb := B.bytes
  have hr := B.returns
  have hts := atoms_spec (ws := wsX11_nodes) B.pre
  have hown : s.vm.findClass RX11 = some m.cls := findClass_of_methodNamed B.named
  have hlocks := B.notSynchronized
  subst hsz
  have hD := hD0.self (sz := s.heap.size)
  generalize hAe : va_A ([(o1, .inr (11, [.ref o2, .ref o7, .ref o12, .ref o41, .ref o51, .ref o64, .ref o77, .ref o84, .ref o91, .ref o99, .ref o111, .ref o123, .int v125])), (o2, .inr (4, [.ref o3, .int v5, .int v6])), (o3, .inl (cI, 12, .inl fw4)), (o12, .inr (6, [.ref o13, .ref o18, .ref o32, .ref o34, .int v36, .int v37, .int v38, .int v39, .int v40])), (o34, .inl (cI, 12, .inl fw35))]) s.heap.size = A at hD ⊢
  have hA : ∀ q : Nat, s.heap.size ≤ q → A q := fun q h => by rw [← hAe]; exact Or.inr h
  have hS : va_S A s.heap s.heap [] := va_S.rf
  have hP : va_P (dC, dI) vwCl ([(o1, .inr (11, [.ref o2, .ref o7, .ref o12, .ref o41, .ref o51, .ref o64, .ref o77, .ref o84, .ref o91, .ref o99, .ref o111, .ref o123, .int v125])), (o2, .inr (4, [.ref o3, .int v5, .int v6])), (o3, .inl (cI, 12, .inl fw4)), (o12, .inr (6, [.ref o13, .ref o18, .ref o32, .ref o34, .int v36, .int v37, .int v38, .int v39, .int v40])), (o34, .inl (cI, 12, .inl fw35))]) s.heap := hP
  have hl := lv_entry ([.ref o1, .int a1]) (n := 2) (Nat.le_of_ble_eq_true rfl)
  rw [lg_entry_eq]
  generalize (lg_sl ([.ref o1, .int a1]) ++ List.replicate (2 - (lg_sl ([.ref o1, .int a1])).length) Slot.unset).toArray = ls at hl ⊢
  have hl : lv_has ls 2 [(0, .ref o1), (1, .int a1)] := hl
  refine gen_Q (fun Q hQ => ?_)
  refine lv_iload_n hx hb dX11_nodes_0 rfl (lv_at hl 1 rfl) ?_
  refine lv_if_lt (tgt := 10) hx hb dX11_nodes_1 (by decide) (fun h1 => ?_) (fun h1 => ?_)
  ·
    have qh1 := lt_i h1
    have j2 : Iv (-2147483648) (-1) a1 := r_ltl qh1 (iv_full a1) ik_0 (by decide)
    refine lv_iconst (v := (-1)) hx hb dX11_nodes_10 (by decide) ?_
    rw [hQ]
    exact W.iret (v := (-1)) hx hb hr (fun t ht hW => ⟨⟨(-1), (v5, v6, fw4, v36, v38, fw35), rfl, ⟨(iv_w ikm_1 (by decide)), v5_h, fw4_b, v36_h, v38_h, fw35_b⟩, by rw [ht]; exact hP, va_K.moved hW.alike hK, hD⟩, hS.F ht⟩) hS.2.2 dX11_nodes_11
  ·
    have qh1 := nlt_i h1
    have j3 : Iv 0 2147483647 a1 := r_ler qh1 ik_0 (iv_full a1) (by decide)
    refine lv_iload_n hx hb dX11_nodes_4 rfl (lv_at hl 1 rfl) ?_
    refine lv_bipush (v := 12) hx hb dX11_nodes_5 (by decide) ?_
    refine lv_icmp_le (tgt := 12) hx hb dX11_nodes_7 (by decide) (fun h4 => ?_) (fun h4 => ?_)
    ·
      have qh4 := le_i h4
      have j5 : Iv 0 12 a1 := r_lel qh4 j3 ik_12 (by decide)
      refine lv_aload_n hx hb dX11_nodes_12 rfl (lv_at hl 0 rfl) ?_
      refine lv_iload_n hx hb dX11_nodes_13 rfl (lv_at hl 1 rfl) ?_
      refine kc_v (D := (dC, dI)) (S := Int32 × Int32 × (Nat → Int32) × Int32 × Int32 × (Nat → Int32)) (wc := [(o1, .inr (11, [.ref o2, .ref o7, .ref o12, .ref o41, .ref o51, .ref o64, .ref o77, .ref o84, .ref o91, .ref o99, .ref o111, .ref o123, .int v125])), (o2, .inr (4, [.ref o3, .int v5, .int v6])), (o3, .inl (cI, 12, .inl fw4)), (o12, .inr (6, [.ref o13, .ref o18, .ref o32, .ref o34, .int v36, .int v37, .int v38, .int v39, .int v40])), (o34, .inl (cI, 12, .inl fw35))]) (wr := []) (w1 := fun u => [(o1, .inr (11, [.ref o2, .ref o7, .ref o12, .ref o41, .ref o51, .ref o64, .ref o77, .ref o84, .ref o91, .ref o99, .ref o111, .ref o123, .int v125])), (o2, .inr (4, [.ref o3, .int u.1, .int u.2.1])), (o3, .inl (cI, 12, .inl u.2.2.1)), (o12, .inr (6, [.ref o13, .ref o18, .ref o32, .ref o34, .int u.2.2.2.1, .int v37, .int u.2.2.2.2.1, .int v39, .int v40])), (o34, .inl (cI, 12, .inl u.2.2.2.2.2))]) (wn := fun u => [(o1, .inr (11, [.ref o2, .ref o7, .ref o12, .ref o41, .ref o51, .ref o64, .ref o77, .ref o84, .ref o91, .ref o99, .ref o111, .ref o123, .int v125])), (o2, .inr (4, [.ref o3, .int u.1, .int u.2.1])), (o3, .inl (cI, 12, .inl u.2.2.1)), (o12, .inr (6, [.ref o13, .ref o18, .ref o32, .ref o34, .int u.2.2.2.1, .int v37, .int u.2.2.2.2.1, .int v39, .int v40])), (o34, .inl (cI, 12, .inl u.2.2.2.2.2))]) (fun hPc hDc => va_runV (As := [.int a1]) (rest := []) ⟨hx, hb, hml, hown, hts⟩ (kX11_startGraph_1 l dC dI cI c2 cZ o1 o2 o7 o12 o41 o51 o64 o77 o84 o91 o99 o111 o123 o3 o13 o18 o32 o34 fw4 v5 v6 fw35 v36 v37 v38 v39 v40 v125 a1 s.heap.size fw4_b v5_h fw35_b v36_h v37_h v38_h j5) (cwV 1 hts gX11_nodes_X11_startGraph rfl rfl rfl (by decide +kernel) ⟨Nat.le_of_ble_eq_true rfl, Nat.le_of_ble_eq_true rfl⟩) (pre_V hPc hK hDc hN (ci := 11) (q0 := 0) rfl rfl) rfl rfl hl.1 rfl (lv_room (Nat.le_of_ble_eq_true rfl)) dX11_nodes_14 ⟨Nat.le_of_ble_eq_true rfl, Nat.le_of_ble_eq_true rfl⟩) hP hD hS hA [0, 1, 2, 3, 4] [] [0, 1, 2, 3, 4] rfl rfl (by decide) (by decide) (by decide) (by decide) (fun _ => rfl) (fun u H locs hq hP hD hS => ?_)
      obtain ⟨y6, y7, f8, y9, y10, f11⟩ := u
      obtain ⟨y6_h, f8_b, y9_h, y10_h, f11_b⟩ := hq
      have hP : va_P (dC, dI) vwCl ([(o1, .inr (11, [.ref o2, .ref o7, .ref o12, .ref o41, .ref o51, .ref o64, .ref o77, .ref o84, .ref o91, .ref o99, .ref o111, .ref o123, .int v125])), (o2, .inr (4, [.ref o3, .int y6, .int y7])), (o3, .inl (cI, 12, .inl f8)), (o12, .inr (6, [.ref o13, .ref o18, .ref o32, .ref o34, .int y9, .int v37, .int y10, .int v39, .int v40])), (o34, .inl (cI, 12, .inl f11))]) H := hP
      have hD : va_D A ([(o1, .inr (11, [.ref o2, .ref o7, .ref o12, .ref o41, .ref o51, .ref o64, .ref o77, .ref o84, .ref o91, .ref o99, .ref o111, .ref o123, .int v125])), (o2, .inr (4, [.ref o3, .int y6, .int y7])), (o3, .inl (cI, 12, .inl f8)), (o12, .inr (6, [.ref o13, .ref o18, .ref o32, .ref o34, .int y9, .int v37, .int y10, .int v39, .int v40])), (o34, .inl (cI, 12, .inl f11))]) := hD
      refine lv_iload_n hx hb dX11_nodes_17 rfl (lv_at hl 1 rfl) ?_
      rw [hQ]
      exact W.iret (v := a1) hx hb hr (fun t ht hW => ⟨⟨a1, (y6, y7, f8, y9, y10, f11), rfl, ⟨(iv_w j5 (by decide)), y6_h, f8_b, y9_h, y10_h, f11_b⟩, by rw [ht]; exact hP, va_K.moved hW.alike hK, hD⟩, hS.F ht⟩) hS.2.2 dX11_nodes_18
    ·
      have qh4 := nle_i h4
      have j12 : Iv 13 2147483647 a1 := r_ltr qh4 ik_12 j3 (by decide)
      refine lv_iconst (v := (-1)) hx hb dX11_nodes_10 (by decide) ?_
      rw [hQ]
      exact W.iret (v := (-1)) hx hb hr (fun t ht hW => ⟨⟨(-1), (v5, v6, fw4, v36, v38, fw35), rfl, ⟨(iv_w ikm_1 (by decide)), v5_h, fw4_b, v36_h, v38_h, fw35_b⟩, by rw [ht]; exact hP, va_K.moved hW.alike hK, hD⟩, hS.F ht⟩) hS.2.2 dX11_nodes_11
set_option maxHeartbeats 4000000 in
set_option maxRecDepth 100000 in
theorem kJ7_fill_53178_2 (l : Launch) (dC : Nat → ClassId) (dI : Nat → Nat → Nat) (cI c2 cZ : ClassId) (o1 : Nat) (fw2 : Nat → Int32) (a1 : Int32) (sz : Nat) (fw2_b : Bd 12 (-1) 255 fw2) (a1_h : Iv (-1) (-1) a1) : Met l yJ7_fill_53178 wsJ7_fill_53178 ({ frames := 0, cells := 0, slots := 0, locals := 0 }) (va_Pc [.ref o1, .int a1] (wPre (dC, dI) [(cI, .int), (c2, .array .int), (cZ, .boolean)] ([(o1, .inl (cI, 12, .inl fw2))]) sz)) (va_Qv (fun (u : (Nat → Int32)) => Bd 12 (-1) 255 u) (fun u t => wPost (dC, dI) [(cI, .int), (c2, .array .int), (cZ, .boolean)] (va_A ([(o1, .inl (cI, 12, .inl fw2))]) sz) ([(o1, .inl (cI, 12, .inl u))]) t) (va_A ([(o1, .inl (cI, 12, .inl fw2))]) sz)) 0 0 (va_A ([(o1, .inl (cI, 12, .inl fw2))]) sz) := by
  refine Met.ofW (cc := cJ7_fill_53178) (maxL := 4) (ret := none) (by decide) rfl ?_
  intro p e s m args below meth c s₁ B hml hv
  obtain ⟨rfl, hsz, hP, hK, hD0, hN⟩ := hv
  have hx := B.exec
  have hb := B.bytes
  have hr := B.returns
  have hts := atoms_spec (ws := wsJ7_fill_53178) B.pre
  have hown : s.vm.findClass RJ7 = some m.cls := findClass_of_methodNamed B.named
  have hlocks := B.notSynchronized
  subst hsz
  have hD := hD0.self (sz := s.heap.size)
  generalize hAe : va_A ([(o1, .inl (cI, 12, .inl fw2))]) s.heap.size = A at hD ⊢
  have hA : ∀ q : Nat, s.heap.size ≤ q → A q := fun q h => by rw [← hAe]; exact Or.inr h
  have hS : va_S A s.heap s.heap [] := va_S.rf
  have hP : va_P (dC, dI) vwCl ([(o1, .inl (cI, 12, .inl fw2))]) s.heap := hP
  have hl := lv_entry ([.ref o1, .int a1]) (n := 4) (Nat.le_of_ble_eq_true rfl)
  rw [lg_entry_eq]
  generalize (lg_sl ([.ref o1, .int a1]) ++ List.replicate (4 - (lg_sl ([.ref o1, .int a1])).length) Slot.unset).toArray = ls at hl ⊢
  have hl : lv_has ls 4 [(0, .ref o1), (1, .int a1)] := hl
  refine gen_Q (fun Q hQ => ?_)
  refine lv_iconst (v := 0) hx hb dJ7_fill_53178_0 (by decide) ?_
  refine lv_istore_n (lv' := [(2, .int 0), (0, .ref o1), (1, .int a1)]) hx hb dJ7_fill_53178_1 rfl hl (by decide) rfl (fun ls hl => ?_)
  refine lv_aload_n hx hb dJ7_fill_53178_2 rfl (lv_at hl 1 rfl) ?_
  refine va_alen (v := 12) hx hb hK hP 0 0 rfl rfl (by show Int32.ofNat 12 = 12; decide +kernel) dJ7_fill_53178_3 ?_
  refine lv_istore_n (lv' := [(3, .int 12), (2, .int 0), (0, .ref o1), (1, .int a1)]) hx hb dJ7_fill_53178_4 rfl hl (by decide) rfl (fun ls hl => ?_)
  have L1 : ∀ (N : Nat) (x33 : Int32) (f34 : Nat → Int32) (H : Heap) (locs : List Loc) (ls : Array Slot), (12 - x33.toInt).toNat < N → Iv 0 12 x33 → Bd 12 (-1) 255 f34 → va_P (dC, dI) vwCl ([(o1, .inl (cI, 12, .inl f34))]) H → va_D A ([(o1, .inl (cI, 12, .inl f34))]) → va_S A s.heap H locs → lv_has ls 4 [(3, .int 12), (2, .int x33), (0, .ref o1), (1, .int a1)] → W p l e ({ frames := 0, cells := 0, slots := 0, locals := 0 }) s m ([.ref o1, .int a1] : List Value).toArray below meth c H locs 0 0 Q (F0 m 5 ls []) := by
    intro N
    induction N with
    | zero =>
      intro x33 f34 H locs ls hM
      exact absurd hM (Nat.not_lt_zero _)
    | succ N ih1 =>
      intro x33 f34 H locs ls hM1 x33_h f34_b hP hD hS hl
      refine lv_iload_n hx hb dJ7_fill_53178_5 rfl (lv_at hl 1 rfl) ?_
      refine lv_iload_n hx hb dJ7_fill_53178_6 rfl (lv_at hl 0 rfl) ?_
      refine lv_icmp_ge (tgt := 20) hx hb dJ7_fill_53178_7 (by decide) (fun h35 => ?_) (fun h35 => ?_)
      ·
        have qh35 := le_i h35
        have j36 : Iv 12 12 x33 := r_ler qh35 ik_12 x33_h (by decide)
        rw [hQ]
        exact W.vret hx hb hr (fun t ht hW => ⟨⟨f34, rfl, f34_b, by rw [ht]; exact hP, va_K.moved hW.alike hK, hD⟩, hS.F ht⟩) hS.2.2 dJ7_fill_53178_20
      ·
        have qh35 := nle_i h35
        have j37 : Iv 0 11 x33 := r_ltl qh35 x33_h ik_12 (by decide)
        refine lv_aload_n hx hb dJ7_fill_53178_10 rfl (lv_at hl 2 rfl) ?_
        refine lv_iload_n hx hb dJ7_fill_53178_11 rfl (lv_at hl 1 rfl) ?_
        refine lv_iload_n hx hb dJ7_fill_53178_12 rfl (lv_at hl 3 rfl) ?_
        refine k_iast hx hb hK hP hD hS 0 0 rfl rfl (vin_iv j37 (by decide)) dJ7_fill_53178_13 (fun f38 H locs f38_e hP hD hS => ?_)
        have f38_b : Bd 12 (-1) 255 f38 := bd_upd f38_e f34_b a1_h (by decide)
        have hP : va_P (dC, dI) vwCl ([(o1, .inl (cI, 12, .inl f38))]) H := hP
        have hD : va_D A ([(o1, .inl (cI, 12, .inl f38))]) := hD
        obtain ⟨x39, x39_e⟩ : ∃ z : Int32, z = x33 + 1 := ⟨_, rfl⟩
        have x39_h : Iv 1 12 x39 := iv_e x39_e (iv_add j37 ik_1 (by decide))
        refine lv_iinc (v := x39) (lv' := [(2, .int x39), (3, .int 12), (0, .ref o1), (1, .int a1)]) hx hb dJ7_fill_53178_14 hl (k := 1) rfl (incN (by decide +kernel) x39_e) (by decide) rfl (fun ls hl => ?_)
        refine lv_goto (tgt := 5) hx hb dJ7_fill_53178_17 (by decide) ?_
        exact ih1 x39 f38 _ _ _ (ms_up x39_e j37 (by decide) hM1) (iv_w x39_h (by decide)) f38_b hP hD hS (lv_sub hl [1, 0, 2, 3] rfl)
  exact L1 _ 0 fw2 _ _ _ (Nat.lt_succ_self _) (iv_w ik_0 (by decide)) fw2_b hP hD hS hl
theorem iw_X10_restart_X10 : ∀ w ∈ wsX100, w ∈ wsX10_restart := by decide +kernel
set_option maxHeartbeats 4000000 in
set_option maxRecDepth 100000 in
theorem kX10_restart_1 (l : Launch) (dC : Nat → ClassId) (dI : Nat → Nat → Nat) (cI c2 cZ : ClassId) (o1 : Nat) (o2 : Nat) (fw3 : Nat → Int32) (v4 : Int32) (v5 : Int32) (a1 : Int32) (sz : Nat) (fw3_b : Bd 12 (-1) 255 fw3) (v4_h : Iv 0 8 v4) (a1_h : Iv 0 8 a1) : Met l yX10_restart wsX10_restart ({ frames := 1, cells := 0, slots := 0, locals := 23 }) (va_Pc [.ref o1, .int a1] (wPre (dC, dI) [(cI, .int), (c2, .array .int), (cZ, .boolean)] ([(o1, .inr (10, [.ref o2, .int v4, .int v5])), (o2, .inl (cI, 12, .inl fw3))]) sz)) (va_Qv (fun (u : Int32 × Int32 × (Nat → Int32)) => Iv 0 8 u.1 ∧ Bd 12 (-1) 255 u.2.2) (fun u t => wPost (dC, dI) [(cI, .int), (c2, .array .int), (cZ, .boolean)] (va_A ([(o1, .inr (10, [.ref o2, .int v4, .int v5])), (o2, .inl (cI, 12, .inl fw3))]) sz) ([(o1, .inr (10, [.ref o2, .int u.1, .int u.2.1])), (o2, .inl (cI, 12, .inl u.2.2))]) t) (va_A ([(o1, .inr (10, [.ref o2, .int v4, .int v5])), (o2, .inl (cI, 12, .inl fw3))]) sz)) 0 0 (va_A ([(o1, .inr (10, [.ref o2, .int v4, .int v5])), (o2, .inl (cI, 12, .inl fw3))]) sz) := by
  refine Met.ofW (cc := cX10_restart) (maxL := 2) (ret := none) (by decide) rfl ?_
  intro p e s m args below meth c s₁ B hml hv
  obtain ⟨rfl, hsz, hP, hK, hD0, hN⟩ := hv
  have hx := B.exec
  have hb := B.bytes
  have hr := B.returns
  have hts := atoms_spec (ws := wsX10_restart) B.pre
  have hown : s.vm.findClass RX10 = some m.cls := findClass_of_methodNamed B.named
  have hlocks := B.notSynchronized
  subst hsz
  have hD := hD0.self (sz := s.heap.size)
  generalize hAe : va_A ([(o1, .inr (10, [.ref o2, .int v4, .int v5])), (o2, .inl (cI, 12, .inl fw3))]) s.heap.size = A at hD ⊢
  have hA : ∀ q : Nat, s.heap.size ≤ q → A q := fun q h => by rw [← hAe]; exact Or.inr h
  have hS : va_S A s.heap s.heap [] := va_S.rf
  have hP : va_P (dC, dI) vwCl ([(o1, .inr (10, [.ref o2, .int v4, .int v5])), (o2, .inl (cI, 12, .inl fw3))]) s.heap := hP
  have hl := lv_entry ([.ref o1, .int a1]) (n := 2) (Nat.le_of_ble_eq_true rfl)
  rw [lg_entry_eq]
  generalize (lg_sl ([.ref o1, .int a1]) ++ List.replicate (2 - (lg_sl ([.ref o1, .int a1])).length) Slot.unset).toArray = ls at hl ⊢
  have hl : lv_has ls 2 [(0, .ref o1), (1, .int a1)] := hl
  refine gen_Q (fun Q hQ => ?_)
  refine lv_aload_n hx hb dX10_restart_0 rfl (lv_at hl 0 rfl) ?_
  refine lv_iload_n hx hb dX10_restart_1 rfl (lv_at hl 1 rfl) ?_
  refine va_put (D := (dC, dI)) (ci := 10) (v := .int a1) (ty := .int) (C := RX10) (T := TX10) (N := 3) hx hb hts iw_X10_restart_X10 tyX10 tyX10_ok nmX10 hown hK hP hD hS 0 rfl rfl 1 (by decide) (hts (.fieldLink RX10 15 "HolelessHouse$Table" "width" "I") (by decide +kernel)) (fun _ h9 => h9) rfl (by decide +kernel) rfl rfl (Nat.le_of_ble_eq_true rfl) dX10_restart_2 (fun H locs hP hD hS => ?_)
  have hP : va_P (dC, dI) vwCl ([(o1, .inr (10, [.ref o2, .int a1, .int v5])), (o2, .inl (cI, 12, .inl fw3))]) H := hP
  have hD : va_D A ([(o1, .inr (10, [.ref o2, .int a1, .int v5])), (o2, .inl (cI, 12, .inl fw3))]) := hD
  refine lv_aload_n hx hb dX10_restart_5 rfl (lv_at hl 0 rfl) ?_
  refine va_get (D := (dC, dI)) (ci := 10) (v := .ref o2) (C := RX10) (T := TX10) (N := 3) hx hb hts iw_X10_restart_X10 hown hK hP 0 rfl rfl 0 (by decide) (hts (.fieldLink RX10 9 "HolelessHouse$Table" "rows" "[I") (by decide +kernel)) (fun _ h9 => h9) rfl dX10_restart_6 ?_
  refine lv_iconst (v := (-1)) hx hb dX10_restart_9 (by decide) ?_
  refine kc_v (D := (dC, dI)) (S := (Nat → Int32)) (wc := [(o2, .inl (cI, 12, .inl fw3))]) (wr := [(o1, .inr (10, [.ref o2, .int a1, .int v5]))]) (w1 := fun u => [(o2, .inl (cI, 12, .inl u))]) (wn := fun u => [(o1, .inr (10, [.ref o2, .int a1, .int v5])), (o2, .inl (cI, 12, .inl u))]) (fun hPc hDc => va_runS (As := [.ref o2, .int (-1)]) (rest := []) ⟨hx, hb, hml, hown, hts⟩ (kJ7_fill_53178_2 l dC dI cI c2 cZ o2 fw3 (-1) H.size fw3_b ikm_1) (va_cwS 2 hts gX10_restart_J7_fill_53178 rfl rfl rfl (by decide +kernel) ⟨Nat.le_of_ble_eq_true rfl, Nat.le_of_ble_eq_true rfl⟩) (pre_S hPc hK hDc hN) rfl rfl hl.1 rfl (lv_room (Nat.le_of_ble_eq_true rfl)) dX10_restart_10 ⟨Nat.le_of_ble_eq_true rfl, Nat.le_of_ble_eq_true rfl⟩) hP hD hS hA [1] [0] [0, 1] rfl rfl (by decide) (by decide) (by decide) (by decide) (fun _ => rfl) (fun f1 H locs hq hP hD hS => ?_)
  have f1_b := hq
  have hP : va_P (dC, dI) vwCl ([(o1, .inr (10, [.ref o2, .int a1, .int v5])), (o2, .inl (cI, 12, .inl f1))]) H := hP
  have hD : va_D A ([(o1, .inr (10, [.ref o2, .int a1, .int v5])), (o2, .inl (cI, 12, .inl f1))]) := hD
  refine lv_aload_n hx hb dX10_restart_13 rfl (lv_at hl 0 rfl) ?_
  refine lv_dup hx hb dX10_restart_14 rfl ?_
  refine va_get (D := (dC, dI)) (ci := 10) (v := .int v5) (C := RX10) (T := TX10) (N := 3) hx hb hts iw_X10_restart_X10 hown hK hP 0 rfl rfl 2 (by decide) (hts (.fieldLink RX10 19 "HolelessHouse$Table" "version" "I") (by decide +kernel)) (fun _ h9 => h9) rfl dX10_restart_15 ?_
  refine lv_iconst (v := 1) hx hb dX10_restart_18 (by decide) ?_
  refine lv_iadd hx hb dX10_restart_19 (lv_topi (fun x2 x2_e => ?_))
  refine va_put (D := (dC, dI)) (ci := 10) (v := .int x2) (ty := .int) (C := RX10) (T := TX10) (N := 3) hx hb hts iw_X10_restart_X10 tyX10 tyX10_ok nmX10 hown hK hP hD hS 0 rfl rfl 2 (by decide) (hts (.fieldLink RX10 19 "HolelessHouse$Table" "version" "I") (by decide +kernel)) (fun _ h9 => h9) rfl (by decide +kernel) rfl rfl (Nat.le_of_ble_eq_true rfl) dX10_restart_20 (fun H locs hP hD hS => ?_)
  have hP : va_P (dC, dI) vwCl ([(o1, .inr (10, [.ref o2, .int a1, .int x2])), (o2, .inl (cI, 12, .inl f1))]) H := hP
  have hD : va_D A ([(o1, .inr (10, [.ref o2, .int a1, .int x2])), (o2, .inl (cI, 12, .inl f1))]) := hD
  rw [hQ]
  exact W.vret hx hb hr (fun t ht hW => ⟨⟨(a1, x2, f1), rfl, ⟨a1_h, f1_b⟩, by rw [ht]; exact hP, va_K.moved hW.alike hK, hD⟩, hS.F ht⟩) hS.2.2 dX10_restart_23
theorem iw_X11_found_X11 : ∀ w ∈ wsX110, w ∈ wsX11_found := by decide +kernel
set_option maxHeartbeats 4000000 in
set_option maxRecDepth 100000 in
theorem kX11_found_1 (l : Launch) (dC : Nat → ClassId) (dI : Nat → Nat → Nat) (cI c2 cZ : ClassId) (o1 : Nat) (o2 : Nat) (o7 : Nat) (o12 : Nat) (o41 : Nat) (o51 : Nat) (o64 : Nat) (o77 : Nat) (o84 : Nat) (o91 : Nat) (o99 : Nat) (o111 : Nat) (o123 : Nat) (fw124 : Nat → Int32) (v125 : Int32) (a1 : Int32) (sz : Nat) (a1_h : Iv 4 4 a1) : Met l yX11_found wsX11_found ({ frames := 0, cells := 0, slots := 0, locals := 0 }) (va_Pc [.ref o1, .int a1] (wPre (dC, dI) [(cI, .int), (c2, .array .int), (cZ, .boolean)] ([(o1, .inr (11, [.ref o2, .ref o7, .ref o12, .ref o41, .ref o51, .ref o64, .ref o77, .ref o84, .ref o91, .ref o99, .ref o111, .ref o123, .int v125])), (o123, .inl (cI, 5, .inl fw124))]) sz)) (va_Qi (fun (r : Int32) (u : Int32 × (Nat → Int32)) => Iv (-3) (-3) r) (fun u t => wPost (dC, dI) [(cI, .int), (c2, .array .int), (cZ, .boolean)] (va_A ([(o1, .inr (11, [.ref o2, .ref o7, .ref o12, .ref o41, .ref o51, .ref o64, .ref o77, .ref o84, .ref o91, .ref o99, .ref o111, .ref o123, .int v125])), (o123, .inl (cI, 5, .inl fw124))]) sz) ([(o1, .inr (11, [.ref o2, .ref o7, .ref o12, .ref o41, .ref o51, .ref o64, .ref o77, .ref o84, .ref o91, .ref o99, .ref o111, .ref o123, .int u.1])), (o123, .inl (cI, 5, .inl u.2))]) t) (va_A ([(o1, .inr (11, [.ref o2, .ref o7, .ref o12, .ref o41, .ref o51, .ref o64, .ref o77, .ref o84, .ref o91, .ref o99, .ref o111, .ref o123, .int v125])), (o123, .inl (cI, 5, .inl fw124))]) sz)) 0 0 (va_A ([(o1, .inr (11, [.ref o2, .ref o7, .ref o12, .ref o41, .ref o51, .ref o64, .ref o77, .ref o84, .ref o91, .ref o99, .ref o111, .ref o123, .int v125])), (o123, .inl (cI, 5, .inl fw124))]) sz) := by
  refine Met.ofW (cc := cX11_found) (maxL := 2) (ret := (some .int)) (by decide) rfl ?_
  intro p e s m args below meth c s₁ B hml hv
  obtain ⟨rfl, hsz, hP, hK, hD0, hN⟩ := hv
  have hx := B.exec
  have hb := B.bytes
  have hr := B.returns
  have hts := atoms_spec (ws := wsX11_found) B.pre
  have hown : s.vm.findClass RX11 = some m.cls := findClass_of_methodNamed B.named
  have hlocks := B.notSynchronized
  subst hsz
  have hD := hD0.self (sz := s.heap.size)
  generalize hAe : va_A ([(o1, .inr (11, [.ref o2, .ref o7, .ref o12, .ref o41, .ref o51, .ref o64, .ref o77, .ref o84, .ref o91, .ref o99, .ref o111, .ref o123, .int v125])), (o123, .inl (cI, 5, .inl fw124))]) s.heap.size = A at hD ⊢
  have hA : ∀ q : Nat, s.heap.size ≤ q → A q := fun q h => by rw [← hAe]; exact Or.inr h
  have hS : va_S A s.heap s.heap [] := va_S.rf
  have hP : va_P (dC, dI) vwCl ([(o1, .inr (11, [.ref o2, .ref o7, .ref o12, .ref o41, .ref o51, .ref o64, .ref o77, .ref o84, .ref o91, .ref o99, .ref o111, .ref o123, .int v125])), (o123, .inl (cI, 5, .inl fw124))]) s.heap := hP
  have hl := lv_entry ([.ref o1, .int a1]) (n := 2) (Nat.le_of_ble_eq_true rfl)
  rw [lg_entry_eq]
  generalize (lg_sl ([.ref o1, .int a1]) ++ List.replicate (2 - (lg_sl ([.ref o1, .int a1])).length) Slot.unset).toArray = ls at hl ⊢
  have hl : lv_has ls 2 [(0, .ref o1), (1, .int a1)] := hl
  refine gen_Q (fun Q hQ => ?_)
  refine lv_aload_n hx hb dX11_found_0 rfl (lv_at hl 0 rfl) ?_
  refine lv_iload_n hx hb dX11_found_1 rfl (lv_at hl 1 rfl) ?_
  refine va_put (D := (dC, dI)) (ci := 11) (v := .int a1) (ty := .int) (C := RX11) (T := TX11) (N := 13) hx hb hts iw_X11_found_X11 tyX11 tyX11_ok nmX11 hown hK hP hD hS 0 rfl rfl 12 (by decide) (hts (.fieldLink RX11 86 "HolelessHouse" "latest" "I") (by decide +kernel)) (fun _ h9 => h9) rfl (by decide +kernel) rfl rfl (Nat.le_of_ble_eq_true rfl) dX11_found_2 (fun H locs hP hD hS => ?_)
  have hP : va_P (dC, dI) vwCl ([(o1, .inr (11, [.ref o2, .ref o7, .ref o12, .ref o41, .ref o51, .ref o64, .ref o77, .ref o84, .ref o91, .ref o99, .ref o111, .ref o123, .int a1])), (o123, .inl (cI, 5, .inl fw124))]) H := hP
  have hD : va_D A ([(o1, .inr (11, [.ref o2, .ref o7, .ref o12, .ref o41, .ref o51, .ref o64, .ref o77, .ref o84, .ref o91, .ref o99, .ref o111, .ref o123, .int a1])), (o123, .inl (cI, 5, .inl fw124))]) := hD
  refine lv_aload_n hx hb dX11_found_5 rfl (lv_at hl 0 rfl) ?_
  refine va_get (D := (dC, dI)) (ci := 11) (v := .ref o123) (C := RX11) (T := TX11) (N := 13) hx hb hts iw_X11_found_X11 hown hK hP 0 rfl rfl 11 (by decide) (hts (.fieldLink RX11 82 "HolelessHouse" "timesFound" "[I") (by decide +kernel)) (fun _ h9 => h9) rfl dX11_found_6 ?_
  refine lv_iload_n hx hb dX11_found_9 rfl (lv_at hl 1 rfl) ?_
  refine lv_dup2_11 hx hb dX11_found_10 rfl rfl ?_
  refine va_iald hx hb hK hP 1 0 rfl rfl (vin_iv a1_h (by decide)) dX11_found_11 (lv_topi (fun x1 x1_e => ?_))
  refine lv_iconst (v := 1) hx hb dX11_found_12 (by decide) ?_
  refine lv_iadd hx hb dX11_found_13 (lv_topi (fun x2 x2_e => ?_))
  refine k_iast hx hb hK hP hD hS 1 0 rfl rfl (vin_iv a1_h (by decide)) dX11_found_14 (fun f3 H locs f3_e hP hD hS => ?_)
  have hP : va_P (dC, dI) vwCl ([(o1, .inr (11, [.ref o2, .ref o7, .ref o12, .ref o41, .ref o51, .ref o64, .ref o77, .ref o84, .ref o91, .ref o99, .ref o111, .ref o123, .int a1])), (o123, .inl (cI, 5, .inl f3))]) H := hP
  have hD : va_D A ([(o1, .inr (11, [.ref o2, .ref o7, .ref o12, .ref o41, .ref o51, .ref o64, .ref o77, .ref o84, .ref o91, .ref o99, .ref o111, .ref o123, .int a1])), (o123, .inl (cI, 5, .inl f3))]) := hD
  refine lv_bipush (v := (-3)) hx hb dX11_found_15 (by decide) ?_
  rw [hQ]
  exact W.iret (v := (-3)) hx hb hr (fun t ht hW => ⟨⟨(-3), (a1, f3), rfl, ikm_3, by rw [ht]; exact hP, va_K.moved hW.alike hK, hD⟩, hS.F ht⟩) hS.2.2 dX11_found_17
theorem iw_X11_columns_X11 : ∀ w ∈ wsX110, w ∈ wsX11_columns := by decide +kernel
set_option maxHeartbeats 4000000 in
set_option maxRecDepth 100000 in
theorem kX11_columns_1 (l : Launch) (dC : Nat → ClassId) (dI : Nat → Nat → Nat) (cI c2 cZ : ClassId) (o1 : Nat) (o2 : Nat) (o7 : Nat) (o12 : Nat) (o41 : Nat) (o51 : Nat) (o64 : Nat) (o77 : Nat) (o84 : Nat) (o91 : Nat) (o99 : Nat) (o111 : Nat) (o123 : Nat) (o8 : Nat) (fw9 : Nat → Int32) (v10 : Int32) (v11 : Int32) (fw124 : Nat → Int32) (v125 : Int32) (a1 : Int32) (sz : Nat) (fw9_b : Bd 12 (-1) 255 fw9) (v10_h : Iv 0 8 v10) : Met l yX11_columns wsX11_columns ({ frames := 2, cells := 0, slots := 0, locals := 44 }) (va_Pc [.ref o1, .int a1] (wPre (dC, dI) [(cI, .int), (c2, .array .int), (cZ, .boolean)] ([(o1, .inr (11, [.ref o2, .ref o7, .ref o12, .ref o41, .ref o51, .ref o64, .ref o77, .ref o84, .ref o91, .ref o99, .ref o111, .ref o123, .int v125])), (o7, .inr (10, [.ref o8, .int v10, .int v11])), (o8, .inl (cI, 12, .inl fw9)), (o123, .inl (cI, 5, .inl fw124))]) sz)) (va_Qi (fun (r : Int32) (u : Int32 × Int32 × Int32 × (Nat → Int32) × (Nat → Int32)) => Iv (-3) 8 r ∧ Iv 0 8 u.2.1 ∧ Bd 12 (-1) 255 u.2.2.2.1) (fun u t => wPost (dC, dI) [(cI, .int), (c2, .array .int), (cZ, .boolean)] (va_A ([(o1, .inr (11, [.ref o2, .ref o7, .ref o12, .ref o41, .ref o51, .ref o64, .ref o77, .ref o84, .ref o91, .ref o99, .ref o111, .ref o123, .int v125])), (o7, .inr (10, [.ref o8, .int v10, .int v11])), (o8, .inl (cI, 12, .inl fw9)), (o123, .inl (cI, 5, .inl fw124))]) sz) ([(o1, .inr (11, [.ref o2, .ref o7, .ref o12, .ref o41, .ref o51, .ref o64, .ref o77, .ref o84, .ref o91, .ref o99, .ref o111, .ref o123, .int u.1])), (o7, .inr (10, [.ref o8, .int u.2.1, .int u.2.2.1])), (o8, .inl (cI, 12, .inl u.2.2.2.1)), (o123, .inl (cI, 5, .inl u.2.2.2.2))]) t) (va_A ([(o1, .inr (11, [.ref o2, .ref o7, .ref o12, .ref o41, .ref o51, .ref o64, .ref o77, .ref o84, .ref o91, .ref o99, .ref o111, .ref o123, .int v125])), (o7, .inr (10, [.ref o8, .int v10, .int v11])), (o8, .inl (cI, 12, .inl fw9)), (o123, .inl (cI, 5, .inl fw124))]) sz)) 0 0 (va_A ([(o1, .inr (11, [.ref o2, .ref o7, .ref o12, .ref o41, .ref o51, .ref o64, .ref o77, .ref o84, .ref o91, .ref o99, .ref o111, .ref o123, .int v125])), (o7, .inr (10, [.ref o8, .int v10, .int v11])), (o8, .inl (cI, 12, .inl fw9)), (o123, .inl (cI, 5, .inl fw124))]) sz) := by
  refine Met.ofW (cc := cX11_columns) (maxL := 2) (ret := (some .int)) (by decide) rfl ?_
  intro p e s m args below meth c s₁ B hml hv
  obtain ⟨rfl, hsz, hP, hK, hD0, hN⟩ := hv
  have hx := B.exec
  have hb := B.bytes
  have hr := B.returns
  have hts := atoms_spec (ws := wsX11_columns) B.pre
  have hown : s.vm.findClass RX11 = some m.cls := findClass_of_methodNamed B.named
  have hlocks := B.notSynchronized
  subst hsz
  have hD := hD0.self (sz := s.heap.size)
  generalize hAe : va_A ([(o1, .inr (11, [.ref o2, .ref o7, .ref o12, .ref o41, .ref o51, .ref o64, .ref o77, .ref o84, .ref o91, .ref o99, .ref o111, .ref o123, .int v125])), (o7, .inr (10, [.ref o8, .int v10, .int v11])), (o8, .inl (cI, 12, .inl fw9)), (o123, .inl (cI, 5, .inl fw124))]) s.heap.size = A at hD ⊢
  have hA : ∀ q : Nat, s.heap.size ≤ q → A q := fun q h => by rw [← hAe]; exact Or.inr h
  have hS : va_S A s.heap s.heap [] := va_S.rf
  have hP : va_P (dC, dI) vwCl ([(o1, .inr (11, [.ref o2, .ref o7, .ref o12, .ref o41, .ref o51, .ref o64, .ref o77, .ref o84, .ref o91, .ref o99, .ref o111, .ref o123, .int v125])), (o7, .inr (10, [.ref o8, .int v10, .int v11])), (o8, .inl (cI, 12, .inl fw9)), (o123, .inl (cI, 5, .inl fw124))]) s.heap := hP
  have hl := lv_entry ([.ref o1, .int a1]) (n := 2) (Nat.le_of_ble_eq_true rfl)
  rw [lg_entry_eq]
  generalize (lg_sl ([.ref o1, .int a1]) ++ List.replicate (2 - (lg_sl ([.ref o1, .int a1])).length) Slot.unset).toArray = ls at hl ⊢
  have hl : lv_has ls 2 [(0, .ref o1), (1, .int a1)] := hl
  refine gen_Q (fun Q hQ => ?_)
  refine lv_iload_n hx hb dX11_columns_0 rfl (lv_at hl 1 rfl) ?_
  refine lv_bipush (v := 8) hx hb dX11_columns_1 (by decide) ?_
  refine lv_icmp_le (tgt := 8) hx hb dX11_columns_3 (by decide) (fun h1 => ?_) (fun h1 => ?_)
  ·
    have qh1 := le_i h1
    have j2 : Iv (-2147483648) 8 a1 := r_lel qh1 (iv_full a1) ik_8 (by decide)
    refine lv_iload_n hx hb dX11_columns_8 rfl (lv_at hl 1 rfl) ?_
    refine lv_if_ge (tgt := 18) hx hb dX11_columns_9 (by decide) (fun h3 => ?_) (fun h3 => ?_)
    ·
      have qh3 := le_i h3
      have j4 : Iv 0 8 a1 := r_ler qh3 ik_0 j2 (by decide)
      refine lv_aload_n hx hb dX11_columns_18 rfl (lv_at hl 0 rfl) ?_
      refine va_get (D := (dC, dI)) (ci := 11) (v := .ref o7) (C := RX11) (T := TX11) (N := 13) hx hb hts iw_X11_columns_X11 hown hK hP 0 rfl rfl 1 (by decide) (hts (.fieldLink RX11 19 "HolelessHouse" "table" "LHolelessHouse$Table;") (by decide +kernel)) (fun _ h9 => h9) rfl dX11_columns_19 ?_
      refine lv_iload_n hx hb dX11_columns_22 rfl (lv_at hl 1 rfl) ?_
      refine kc_v (D := (dC, dI)) (S := Int32 × Int32 × (Nat → Int32)) (wc := [(o7, .inr (10, [.ref o8, .int v10, .int v11])), (o8, .inl (cI, 12, .inl fw9))]) (wr := [(o1, .inr (11, [.ref o2, .ref o7, .ref o12, .ref o41, .ref o51, .ref o64, .ref o77, .ref o84, .ref o91, .ref o99, .ref o111, .ref o123, .int v125])), (o123, .inl (cI, 5, .inl fw124))]) (w1 := fun u => [(o7, .inr (10, [.ref o8, .int u.1, .int u.2.1])), (o8, .inl (cI, 12, .inl u.2.2))]) (wn := fun u => [(o1, .inr (11, [.ref o2, .ref o7, .ref o12, .ref o41, .ref o51, .ref o64, .ref o77, .ref o84, .ref o91, .ref o99, .ref o111, .ref o123, .int v125])), (o7, .inr (10, [.ref o8, .int u.1, .int u.2.1])), (o8, .inl (cI, 12, .inl u.2.2)), (o123, .inl (cI, 5, .inl fw124))]) (fun hPc hDc => va_runVN (As := [.int a1]) (rest := []) ⟨hx, hb, hml, hown, hts⟩ (kX10_restart_1 l dC dI cI c2 cZ o7 o8 fw9 v10 v11 a1 s.heap.size fw9_b v10_h j4) ⟨va_cnB 1 hts gX11_columns_X10_restart_n249 rfl rfl rfl (hN.1 _ ns_132) (hts (.initialized RX10) (by decide +kernel)) (by decide +kernel) ⟨Nat.le_of_ble_eq_true rfl, Nat.le_of_ble_eq_true rfl⟩, (hts (.instanceMethod yX10_restart) (by decide +kernel)), (hts (.selects RX10 yX10_restart yX10_restart) (by decide +kernel))⟩ (pre_V hPc hK hDc hN (ci := 10) (q0 := 0) rfl rfl) rfl rfl hl.1 rfl (lv_room (Nat.le_of_ble_eq_true rfl)) dX11_columns_23 ⟨Nat.le_of_ble_eq_true rfl, Nat.le_of_ble_eq_true rfl⟩) hP hD hS hA [1, 2] [0, 3] [0, 2, 3, 1] rfl rfl (by decide) (by decide) (by decide) (by decide) (fun _ => rfl) (fun u H locs hq hP hD hS => ?_)
      obtain ⟨y5, y6, f7⟩ := u
      obtain ⟨y5_h, f7_b⟩ := hq
      have hP : va_P (dC, dI) vwCl ([(o1, .inr (11, [.ref o2, .ref o7, .ref o12, .ref o41, .ref o51, .ref o64, .ref o77, .ref o84, .ref o91, .ref o99, .ref o111, .ref o123, .int v125])), (o7, .inr (10, [.ref o8, .int y5, .int y6])), (o8, .inl (cI, 12, .inl f7)), (o123, .inl (cI, 5, .inl fw124))]) H := hP
      have hD : va_D A ([(o1, .inr (11, [.ref o2, .ref o7, .ref o12, .ref o41, .ref o51, .ref o64, .ref o77, .ref o84, .ref o91, .ref o99, .ref o111, .ref o123, .int v125])), (o7, .inr (10, [.ref o8, .int y5, .int y6])), (o8, .inl (cI, 12, .inl f7)), (o123, .inl (cI, 5, .inl fw124))]) := hD
      refine lv_iload_n hx hb dX11_columns_26 rfl (lv_at hl 1 rfl) ?_
      rw [hQ]
      exact W.iret (v := a1) hx hb hr (fun t ht hW => ⟨⟨a1, (v125, y5, y6, f7, fw124), rfl, ⟨(iv_w j4 (by decide)), y5_h, f7_b⟩, by rw [ht]; exact hP, va_K.moved hW.alike hK, hD⟩, hS.F ht⟩) hS.2.2 dX11_columns_27
    ·
      have qh3 := nle_i h3
      have j8 : Iv (-2147483648) (-1) a1 := r_ltl qh3 j2 ik_0 (by decide)
      refine lv_aload_n hx hb dX11_columns_12 rfl (lv_at hl 0 rfl) ?_
      refine lv_iconst (v := 4) hx hb dX11_columns_13 (by decide) ?_
      refine kc_i (D := (dC, dI)) (S := Int32 × (Nat → Int32)) (wc := [(o1, .inr (11, [.ref o2, .ref o7, .ref o12, .ref o41, .ref o51, .ref o64, .ref o77, .ref o84, .ref o91, .ref o99, .ref o111, .ref o123, .int v125])), (o123, .inl (cI, 5, .inl fw124))]) (wr := [(o7, .inr (10, [.ref o8, .int v10, .int v11])), (o8, .inl (cI, 12, .inl fw9))]) (w1 := fun u => [(o1, .inr (11, [.ref o2, .ref o7, .ref o12, .ref o41, .ref o51, .ref o64, .ref o77, .ref o84, .ref o91, .ref o99, .ref o111, .ref o123, .int u.1])), (o123, .inl (cI, 5, .inl u.2))]) (wn := fun u => [(o1, .inr (11, [.ref o2, .ref o7, .ref o12, .ref o41, .ref o51, .ref o64, .ref o77, .ref o84, .ref o91, .ref o99, .ref o111, .ref o123, .int u.1])), (o7, .inr (10, [.ref o8, .int v10, .int v11])), (o8, .inl (cI, 12, .inl fw9)), (o123, .inl (cI, 5, .inl u.2))]) (fun hPc hDc => va_runV (As := [.int 4]) (rest := []) ⟨hx, hb, hml, hown, hts⟩ (kX11_found_1 l dC dI cI c2 cZ o1 o2 o7 o12 o41 o51 o64 o77 o84 o91 o99 o111 o123 fw124 v125 4 s.heap.size ik_4) (cwV 1 hts gX11_columns_X11_found rfl rfl rfl (by decide +kernel) ⟨Nat.le_of_ble_eq_true rfl, Nat.le_of_ble_eq_true rfl⟩) (pre_V hPc hK hDc hN (ci := 11) (q0 := 0) rfl rfl) rfl rfl hl.1 rfl (lv_room (Nat.le_of_ble_eq_true rfl)) dX11_columns_14 ⟨Nat.le_of_ble_eq_true rfl, Nat.le_of_ble_eq_true rfl⟩) hP hD hS hA [0, 3] [1, 2] [2, 0, 1, 3] rfl rfl (by decide) (by decide) (by decide) (by decide) (fun _ => rfl) (fun x11 u H locs hq hP hD hS => ?_)
      obtain ⟨y9, f10⟩ := u
      have x11_h := hq
      have hP : va_P (dC, dI) vwCl ([(o1, .inr (11, [.ref o2, .ref o7, .ref o12, .ref o41, .ref o51, .ref o64, .ref o77, .ref o84, .ref o91, .ref o99, .ref o111, .ref o123, .int y9])), (o7, .inr (10, [.ref o8, .int v10, .int v11])), (o8, .inl (cI, 12, .inl fw9)), (o123, .inl (cI, 5, .inl f10))]) H := hP
      have hD : va_D A ([(o1, .inr (11, [.ref o2, .ref o7, .ref o12, .ref o41, .ref o51, .ref o64, .ref o77, .ref o84, .ref o91, .ref o99, .ref o111, .ref o123, .int y9])), (o7, .inr (10, [.ref o8, .int v10, .int v11])), (o8, .inl (cI, 12, .inl fw9)), (o123, .inl (cI, 5, .inl f10))]) := hD
      rw [hQ]
      exact W.iret (v := x11) hx hb hr (fun t ht hW => ⟨⟨x11, (y9, v10, v11, fw9, f10), rfl, ⟨(iv_w x11_h (by decide)), v10_h, fw9_b⟩, by rw [ht]; exact hP, va_K.moved hW.alike hK, hD⟩, hS.F ht⟩) hS.2.2 dX11_columns_17
  ·
    have qh1 := nle_i h1
    have j12 : Iv 9 2147483647 a1 := r_ltr qh1 ik_8 (iv_full a1) (by decide)
    refine lv_iconst (v := (-1)) hx hb dX11_columns_6 (by decide) ?_
    rw [hQ]
    exact W.iret (v := (-1)) hx hb hr (fun t ht hW => ⟨⟨(-1), (v125, v10, v11, fw9, fw124), rfl, ⟨(iv_w ikm_1 (by decide)), v10_h, fw9_b⟩, by rw [ht]; exact hP, va_K.moved hW.alike hK, hD⟩, hS.F ht⟩) hS.2.2 dX11_columns_7
theorem iw_X4_invert_X4 : ∀ w ∈ wsX40, w ∈ wsX4_invert := by decide +kernel
set_option maxHeartbeats 4000000 in
set_option maxRecDepth 100000 in
theorem kX4_invert_1 (l : Launch) (dC : Nat → ClassId) (dI : Nat → Nat → Nat) (cI c2 cZ : ClassId) (o1 : Nat) (o2 : Nat) (fw3 : Nat → Int32) (v4 : Int32) (v5 : Int32) (sz : Nat) (fw3_b : Bd 12 0 4095 fw3) (v4_h : Iv 0 12 v4) : Met l yX4_invert wsX4_invert ({ frames := 1, cells := 0, slots := 0, locals := 20 }) (va_Pc [.ref o1] (wPre (dC, dI) [(cI, .int), (c2, .array .int), (cZ, .boolean)] ([(o1, .inr (4, [.ref o2, .int v4, .int v5])), (o2, .inl (cI, 12, .inl fw3))]) sz)) (va_Qv (fun (u : Int32 × (Nat → Int32)) => Bd 12 0 4095 u.2) (fun u t => wPost (dC, dI) [(cI, .int), (c2, .array .int), (cZ, .boolean)] (va_A ([(o1, .inr (4, [.ref o2, .int v4, .int v5])), (o2, .inl (cI, 12, .inl fw3))]) sz) ([(o1, .inr (4, [.ref o2, .int v4, .int u.1])), (o2, .inl (cI, 12, .inl u.2))]) t) (va_A ([(o1, .inr (4, [.ref o2, .int v4, .int v5])), (o2, .inl (cI, 12, .inl fw3))]) sz)) 0 0 (va_A ([(o1, .inr (4, [.ref o2, .int v4, .int v5])), (o2, .inl (cI, 12, .inl fw3))]) sz) := by
  refine Met.ofW (cc := cX4_invert) (maxL := 2) (ret := none) (by decide) rfl ?_
  intro p e s m args below meth c s₁ B hml hv
  obtain ⟨rfl, hsz, hP, hK, hD0, hN⟩ := hv
  have hx := B.exec
  have hb := B.bytes
  have hr := B.returns
  have hts := atoms_spec (ws := wsX4_invert) B.pre
  have hown : s.vm.findClass RX4 = some m.cls := findClass_of_methodNamed B.named
  have hlocks := B.notSynchronized
  subst hsz
  have hD := hD0.self (sz := s.heap.size)
  generalize hAe : va_A ([(o1, .inr (4, [.ref o2, .int v4, .int v5])), (o2, .inl (cI, 12, .inl fw3))]) s.heap.size = A at hD ⊢
  have hA : ∀ q : Nat, s.heap.size ≤ q → A q := fun q h => by rw [← hAe]; exact Or.inr h
  have hS : va_S A s.heap s.heap [] := va_S.rf
  have hP : va_P (dC, dI) vwCl ([(o1, .inr (4, [.ref o2, .int v4, .int v5])), (o2, .inl (cI, 12, .inl fw3))]) s.heap := hP
  have hl := lv_entry ([.ref o1]) (n := 2) (Nat.le_of_ble_eq_true rfl)
  rw [lg_entry_eq]
  generalize (lg_sl ([.ref o1]) ++ List.replicate (2 - (lg_sl ([.ref o1])).length) Slot.unset).toArray = ls at hl ⊢
  have hl : lv_has ls 2 [(0, .ref o1)] := hl
  refine gen_Q (fun Q hQ => ?_)
  refine lv_iconst (v := 0) hx hb dX4_invert_0 (by decide) ?_
  refine lv_istore_n (lv' := [(1, .int 0), (0, .ref o1)]) hx hb dX4_invert_1 rfl hl (by decide) rfl (fun ls hl => ?_)
  have L1 : ∀ (N : Nat) (x108 : Int32) (f109 : Nat → Int32) (H : Heap) (locs : List Loc) (ls : Array Slot), (12 - x108.toInt).toNat < N → Iv 0 12 x108 → Bd 12 0 4095 f109 → va_P (dC, dI) vwCl ([(o1, .inr (4, [.ref o2, .int v4, .int v5])), (o2, .inl (cI, 12, .inl f109))]) H → va_D A ([(o1, .inr (4, [.ref o2, .int v4, .int v5])), (o2, .inl (cI, 12, .inl f109))]) → va_S A s.heap H locs → lv_has ls 2 [(1, .int x108), (0, .ref o1)] → W p l e ({ frames := 1, cells := 0, slots := 0, locals := 20 }) s m ([.ref o1] : List Value).toArray below meth c H locs 0 0 Q (F0 m 2 ls []) := by
    intro N
    induction N with
    | zero =>
      intro x108 f109 H locs ls hM
      exact absurd hM (Nat.not_lt_zero _)
    | succ N ih1 =>
      intro x108 f109 H locs ls hM1 x108_h f109_b hP hD hS hl
      refine lv_iload_n hx hb dX4_invert_2 rfl (lv_at hl 0 rfl) ?_
      refine lv_aload_n hx hb dX4_invert_3 rfl (lv_at hl 1 rfl) ?_
      refine va_get (D := (dC, dI)) (ci := 4) (v := .int v4) (C := RX4) (T := TX4) (N := 3) hx hb hts iw_X4_invert_X4 hown hK hP 0 rfl rfl 1 (by decide) (hts (.fieldLink RX4 15 "HolelessHouse$Graph" "size" "I") (by decide +kernel)) (fun _ h9 => h9) rfl dX4_invert_4 ?_
      refine lv_icmp_ge (tgt := 41) hx hb dX4_invert_7 (by decide) (fun h110 => ?_) (fun h110 => ?_)
      ·
        have qh110 := le_i h110
        refine lv_aload_n hx hb dX4_invert_41 rfl (lv_at hl 1 rfl) ?_
        refine lv_dup hx hb dX4_invert_42 rfl ?_
        refine va_get (D := (dC, dI)) (ci := 4) (v := .int v5) (C := RX4) (T := TX4) (N := 3) hx hb hts iw_X4_invert_X4 hown hK hP 0 rfl rfl 2 (by decide) (hts (.fieldLink RX4 19 "HolelessHouse$Graph" "version" "I") (by decide +kernel)) (fun _ h9 => h9) rfl dX4_invert_43 ?_
        refine lv_iconst (v := 1) hx hb dX4_invert_46 (by decide) ?_
        refine lv_iadd hx hb dX4_invert_47 (lv_topi (fun x111 x111_e => ?_))
        refine va_put (D := (dC, dI)) (ci := 4) (v := .int x111) (ty := .int) (C := RX4) (T := TX4) (N := 3) hx hb hts iw_X4_invert_X4 tyX4 tyX4_ok nmX4 hown hK hP hD hS 0 rfl rfl 2 (by decide) (hts (.fieldLink RX4 19 "HolelessHouse$Graph" "version" "I") (by decide +kernel)) (fun _ h9 => h9) rfl (by decide +kernel) rfl rfl (Nat.le_of_ble_eq_true rfl) dX4_invert_48 (fun H locs hP hD hS => ?_)
        have hP : va_P (dC, dI) vwCl ([(o1, .inr (4, [.ref o2, .int v4, .int x111])), (o2, .inl (cI, 12, .inl f109))]) H := hP
        have hD : va_D A ([(o1, .inr (4, [.ref o2, .int v4, .int x111])), (o2, .inl (cI, 12, .inl f109))]) := hD
        rw [hQ]
        exact W.vret hx hb hr (fun t ht hW => ⟨⟨(x111, f109), rfl, f109_b, by rw [ht]; exact hP, va_K.moved hW.alike hK, hD⟩, hS.F ht⟩) hS.2.2 dX4_invert_51
      ·
        have qh110 := nle_i h110
        have j112 : Iv 0 11 x108 := r_ltl qh110 x108_h v4_h (by decide)
        have j113 : Iv 1 12 v4 := r_ltr qh110 x108_h v4_h (by decide)
        refine lv_aload_n hx hb dX4_invert_10 rfl (lv_at hl 1 rfl) ?_
        refine va_get (D := (dC, dI)) (ci := 4) (v := .ref o2) (C := RX4) (T := TX4) (N := 3) hx hb hts iw_X4_invert_X4 hown hK hP 0 rfl rfl 0 (by decide) (hts (.fieldLink RX4 9 "HolelessHouse$Graph" "near" "[I") (by decide +kernel)) (fun _ h9 => h9) rfl dX4_invert_11 ?_
        refine lv_iload_n hx hb dX4_invert_14 rfl (lv_at hl 0 rfl) ?_
        refine lv_aload_n hx hb dX4_invert_15 rfl (lv_at hl 1 rfl) ?_
        refine kc_i (D := (dC, dI)) (S := Unit) (wc := [(o1, .inr (4, [.ref o2, .int v4, .int v5]))]) (wr := [(o2, .inl (cI, 12, .inl f109))]) (w1 := fun _ => [(o1, .inr (4, [.ref o2, .int v4, .int v5]))]) (wn := fun _ => [(o1, .inr (4, [.ref o2, .int v4, .int v5])), (o2, .inl (cI, 12, .inl f109))]) (fun hPc hDc => va_runV (As := []) (rest := [.int x108, .ref o2]) ⟨hx, hb, hml, hown, hts⟩ (kX4_all_1 l dC dI cI c2 cZ o1 o2 v4 v5 H.size (iv_w j113 (by decide))) (cwV 0 hts gX4_invert_X4_all rfl rfl rfl (by decide +kernel) ⟨Nat.le_of_ble_eq_true rfl, Nat.le_of_ble_eq_true rfl⟩) (pre_V hPc hK hDc hN (ci := 4) (q0 := 0) rfl rfl) rfl rfl hl.1 rfl (lv_room (Nat.le_of_ble_eq_true rfl)) dX4_invert_16 ⟨Nat.le_of_ble_eq_true rfl, Nat.le_of_ble_eq_true rfl⟩) hP hD hS hA [0] [1] [1, 0] rfl rfl (by decide) (by decide) (by decide) (by decide) (fun _ => rfl) (fun x114 _ H locs hq hP hD hS => ?_)
        have x114_h := hq
        have hP : va_P (dC, dI) vwCl ([(o1, .inr (4, [.ref o2, .int v4, .int v5])), (o2, .inl (cI, 12, .inl f109))]) H := hP
        have hD : va_D A ([(o1, .inr (4, [.ref o2, .int v4, .int v5])), (o2, .inl (cI, 12, .inl f109))]) := hD
        refine lv_aload_n hx hb dX4_invert_19 rfl (lv_at hl 1 rfl) ?_
        refine va_get (D := (dC, dI)) (ci := 4) (v := .ref o2) (C := RX4) (T := TX4) (N := 3) hx hb hts iw_X4_invert_X4 hown hK hP 0 rfl rfl 0 (by decide) (hts (.fieldLink RX4 9 "HolelessHouse$Graph" "near" "[I") (by decide +kernel)) (fun _ h9 => h9) rfl dX4_invert_20 ?_
        refine lv_iload_n hx hb dX4_invert_23 rfl (lv_at hl 0 rfl) ?_
        refine va_iald hx hb hK hP 1 0 rfl rfl (vin_iv j112 (by decide)) dX4_invert_24 (lv_topi (fun x115 x115_e => ?_))
        have x115_h : Iv 0 4095 x115 := iv_e x115_e (bd_at f109_b (vin_iv j112 (by decide)))
        refine lv_iconst (v := (-1)) hx hb dX4_invert_25 (by decide) ?_
        refine lv_ixor hx hb dX4_invert_26 (lv_topi (fun x116 x116_e => ?_))
        refine lv_iand hx hb dX4_invert_27 (lv_topi (fun x117 x117_e => ?_))
        have x117_h : Iv 0 4095 x117 := iv_e x117_e (iv_andL _ x114_h (by decide))
        refine lv_iconst (v := 1) hx hb dX4_invert_28 (by decide) ?_
        refine lv_iload_n hx hb dX4_invert_29 rfl (lv_at hl 0 rfl) ?_
        refine lv_ishl hx hb dX4_invert_30 (lv_topi (fun x118 x118_e => ?_))
        have x118_h : Iv 1 2048 x118 := iv_e x118_e (iv_shl1 j112 (by decide))
        refine lv_iconst (v := (-1)) hx hb dX4_invert_31 (by decide) ?_
        refine lv_ixor hx hb dX4_invert_32 (lv_topi (fun x119 x119_e => ?_))
        refine lv_iand hx hb dX4_invert_33 (lv_topi (fun x120 x120_e => ?_))
        have x120_h : Iv 0 4095 x120 := iv_e x120_e (iv_andL _ x117_h (by decide))
        refine k_iast hx hb hK hP hD hS 1 0 rfl rfl (vin_iv j112 (by decide)) dX4_invert_34 (fun f121 H locs f121_e hP hD hS => ?_)
        have f121_b : Bd 12 0 4095 f121 := bd_upd f121_e f109_b x120_h (by decide)
        have hP : va_P (dC, dI) vwCl ([(o1, .inr (4, [.ref o2, .int v4, .int v5])), (o2, .inl (cI, 12, .inl f121))]) H := hP
        have hD : va_D A ([(o1, .inr (4, [.ref o2, .int v4, .int v5])), (o2, .inl (cI, 12, .inl f121))]) := hD
        obtain ⟨x122, x122_e⟩ : ∃ z : Int32, z = x108 + 1 := ⟨_, rfl⟩
        have x122_h : Iv 1 12 x122 := iv_e x122_e (iv_add j112 ik_1 (by decide))
        refine lv_iinc (v := x122) (lv' := [(1, .int x122), (0, .ref o1)]) hx hb dX4_invert_35 hl (k := 0) rfl (incN (by decide +kernel) x122_e) (by decide) rfl (fun ls hl => ?_)
        refine lv_goto (tgt := 2) hx hb dX4_invert_38 (by decide) ?_
        exact ih1 x122 f121 _ _ _ (ms_up x122_e j112 (by decide) hM1) (iv_w x122_h (by decide)) f121_b hP hD hS hl
  exact L1 _ 0 fw3 _ _ _ (Nat.lt_succ_self _) (iv_w ik_0 (by decide)) fw3_b hP hD hS hl
set_option maxHeartbeats 4000000 in
set_option maxRecDepth 100000 in
theorem kJ6_bitCount_0f7a4_1 (l : Launch) (dC : Nat → ClassId) (dI : Nat → Nat → Nat) (cI c2 cZ : ClassId) (a0 : Int32) (sz : Nat) : Met l yJ6_bitCount_0f7a4 wsJ6_bitCount_0f7a4 ({ frames := 0, cells := 0, slots := 0, locals := 0 }) (va_Pc [.int a0] (wPre (dC, dI) [(cI, .int), (c2, .array .int), (cZ, .boolean)] ([]) sz)) (va_Qi (fun (r : Int32) (_ : Unit) => Iv 0 63 r) (fun _ t => wPost (dC, dI) [(cI, .int), (c2, .array .int), (cZ, .boolean)] (va_A ([]) sz) ([]) t) (va_A ([]) sz)) 0 0 (va_A ([]) sz) := by
  refine Met.ofW (cc := cJ6_bitCount_0f7a4) (maxL := 1) (ret := (some .int)) (by decide) rfl ?_
  intro p e s m args below meth c s₁ B hml hv
  obtain ⟨rfl, hsz, hP, hK, hD0, hN⟩ := hv
  have hx := B.exec
  have hb := B.bytes
  have hr := B.returns
  have hts := atoms_spec (ws := wsJ6_bitCount_0f7a4) B.pre
  have hown : s.vm.findClass RJ6 = some m.cls := findClass_of_methodNamed B.named
  have hlocks := B.notSynchronized
  subst hsz
  have hD := hD0.self (sz := s.heap.size)
  generalize hAe : va_A ([]) s.heap.size = A at hD ⊢
  have hA : ∀ q : Nat, s.heap.size ≤ q → A q := fun q h => by rw [← hAe]; exact Or.inr h
  have hS : va_S A s.heap s.heap [] := va_S.rf
  have hP : va_P (dC, dI) vwCl ([]) s.heap := hP
  have hl := lv_entry ([.int a0]) (n := 1) (Nat.le_of_ble_eq_true rfl)
  rw [lg_entry_eq]
  generalize (lg_sl ([.int a0]) ++ List.replicate (1 - (lg_sl ([.int a0])).length) Slot.unset).toArray = ls at hl ⊢
  have hl : lv_has ls 1 [(0, .int a0)] := hl
  refine gen_Q (fun Q hQ => ?_)
  refine lv_iload_n hx hb dJ6_bitCount_0f7a4_0 rfl (lv_at hl 0 rfl) ?_
  refine lv_iload_n hx hb dJ6_bitCount_0f7a4_1 rfl (lv_at hl 0 rfl) ?_
  refine lv_iconst (v := 1) hx hb dJ6_bitCount_0f7a4_2 (by decide) ?_
  obtain ⟨x1, x1_e⟩ : ∃ z : Int32, z = (Int32.toUInt32 a0 >>> (Int32.toUInt32 1 &&& Int32.toUInt32 31)).toInt32 := ⟨_, rfl⟩
  refine lv_iushr (v := x1) hx hb dJ6_bitCount_0f7a4_3 x1_e.symm ?_
  refine lv_ldcw (v := 1431655765) hx hb hown (hts (.constant RJ6 265 (1431655765)) (by decide +kernel)) dJ6_bitCount_0f7a4_4 ?_
  refine lv_iand hx hb dJ6_bitCount_0f7a4_7 (lv_topi (fun x2 x2_e => ?_))
  have x2_h : Iv 0 1431655765 x2 := iv_e x2_e (iv_andR _ ik_1431655765 (by decide))
  refine lv_isub hx hb dJ6_bitCount_0f7a4_8 (lv_topi (fun x3 x3_e => ?_))
  refine lv_istore_n (lv' := [(0, .int x3)]) hx hb dJ6_bitCount_0f7a4_9 rfl hl (by decide) rfl (fun ls hl => ?_)
  refine lv_iload_n hx hb dJ6_bitCount_0f7a4_10 rfl (lv_at hl 0 rfl) ?_
  refine lv_ldcw (v := 858993459) hx hb hown (hts (.constant RJ6 266 (858993459)) (by decide +kernel)) dJ6_bitCount_0f7a4_11 ?_
  refine lv_iand hx hb dJ6_bitCount_0f7a4_14 (lv_topi (fun x4 x4_e => ?_))
  have x4_h : Iv 0 858993459 x4 := iv_e x4_e (iv_andR _ ik_858993459 (by decide))
  refine lv_iload_n hx hb dJ6_bitCount_0f7a4_15 rfl (lv_at hl 0 rfl) ?_
  refine lv_iconst (v := 2) hx hb dJ6_bitCount_0f7a4_16 (by decide) ?_
  obtain ⟨x5, x5_e⟩ : ∃ z : Int32, z = (Int32.toUInt32 x3 >>> (Int32.toUInt32 2 &&& Int32.toUInt32 31)).toInt32 := ⟨_, rfl⟩
  refine lv_iushr (v := x5) hx hb dJ6_bitCount_0f7a4_17 x5_e.symm ?_
  refine lv_ldcw (v := 858993459) hx hb hown (hts (.constant RJ6 266 (858993459)) (by decide +kernel)) dJ6_bitCount_0f7a4_18 ?_
  refine lv_iand hx hb dJ6_bitCount_0f7a4_21 (lv_topi (fun x6 x6_e => ?_))
  have x6_h : Iv 0 858993459 x6 := iv_e x6_e (iv_andR _ ik_858993459 (by decide))
  refine lv_iadd hx hb dJ6_bitCount_0f7a4_22 (lv_topi (fun x7 x7_e => ?_))
  have x7_h : Iv 0 1717986918 x7 := iv_e x7_e (iv_add x4_h x6_h (by decide))
  refine lv_istore_n (lv' := [(0, .int x7)]) hx hb dJ6_bitCount_0f7a4_23 rfl hl (by decide) rfl (fun ls hl => ?_)
  refine lv_iload_n hx hb dJ6_bitCount_0f7a4_24 rfl (lv_at hl 0 rfl) ?_
  refine lv_iload_n hx hb dJ6_bitCount_0f7a4_25 rfl (lv_at hl 0 rfl) ?_
  refine lv_iconst (v := 4) hx hb dJ6_bitCount_0f7a4_26 (by decide) ?_
  obtain ⟨x8, x8_e⟩ : ∃ z : Int32, z = (Int32.toUInt32 x7 >>> (Int32.toUInt32 4 &&& Int32.toUInt32 31)).toInt32 := ⟨_, rfl⟩
  refine lv_iushr (v := x8) hx hb dJ6_bitCount_0f7a4_27 x8_e.symm ?_
  have x8_h : Iv 0 107374182 x8 := iv_e x8_e (iv_ushr 4 x7_h (by decide +kernel) (by decide))
  refine lv_iadd hx hb dJ6_bitCount_0f7a4_28 (lv_topi (fun x9 x9_e => ?_))
  have x9_h : Iv 0 1825361100 x9 := iv_e x9_e (iv_add x7_h x8_h (by decide))
  refine lv_ldcw (v := 252645135) hx hb hown (hts (.constant RJ6 267 (252645135)) (by decide +kernel)) dJ6_bitCount_0f7a4_29 ?_
  refine lv_iand hx hb dJ6_bitCount_0f7a4_32 (lv_topi (fun x10 x10_e => ?_))
  have x10_h : Iv 0 252645135 x10 := iv_e x10_e (iv_andR _ ik_252645135 (by decide))
  refine lv_istore_n (lv' := [(0, .int x10)]) hx hb dJ6_bitCount_0f7a4_33 rfl hl (by decide) rfl (fun ls hl => ?_)
  refine lv_iload_n hx hb dJ6_bitCount_0f7a4_34 rfl (lv_at hl 0 rfl) ?_
  refine lv_iload_n hx hb dJ6_bitCount_0f7a4_35 rfl (lv_at hl 0 rfl) ?_
  refine lv_bipush (v := 8) hx hb dJ6_bitCount_0f7a4_36 (by decide) ?_
  obtain ⟨x11, x11_e⟩ : ∃ z : Int32, z = (Int32.toUInt32 x10 >>> (Int32.toUInt32 8 &&& Int32.toUInt32 31)).toInt32 := ⟨_, rfl⟩
  refine lv_iushr (v := x11) hx hb dJ6_bitCount_0f7a4_38 x11_e.symm ?_
  have x11_h : Iv 0 986895 x11 := iv_e x11_e (iv_ushr 8 x10_h (by decide +kernel) (by decide))
  refine lv_iadd hx hb dJ6_bitCount_0f7a4_39 (lv_topi (fun x12 x12_e => ?_))
  have x12_h : Iv 0 253632030 x12 := iv_e x12_e (iv_add x10_h x11_h (by decide))
  refine lv_istore_n (lv' := [(0, .int x12)]) hx hb dJ6_bitCount_0f7a4_40 rfl hl (by decide) rfl (fun ls hl => ?_)
  refine lv_iload_n hx hb dJ6_bitCount_0f7a4_41 rfl (lv_at hl 0 rfl) ?_
  refine lv_iload_n hx hb dJ6_bitCount_0f7a4_42 rfl (lv_at hl 0 rfl) ?_
  refine lv_bipush (v := 16) hx hb dJ6_bitCount_0f7a4_43 (by decide) ?_
  obtain ⟨x13, x13_e⟩ : ∃ z : Int32, z = (Int32.toUInt32 x12 >>> (Int32.toUInt32 16 &&& Int32.toUInt32 31)).toInt32 := ⟨_, rfl⟩
  refine lv_iushr (v := x13) hx hb dJ6_bitCount_0f7a4_45 x13_e.symm ?_
  have x13_h : Iv 0 3870 x13 := iv_e x13_e (iv_ushr 16 x12_h (by decide +kernel) (by decide))
  refine lv_iadd hx hb dJ6_bitCount_0f7a4_46 (lv_topi (fun x14 x14_e => ?_))
  have x14_h : Iv 0 253635900 x14 := iv_e x14_e (iv_add x12_h x13_h (by decide))
  refine lv_istore_n (lv' := [(0, .int x14)]) hx hb dJ6_bitCount_0f7a4_47 rfl hl (by decide) rfl (fun ls hl => ?_)
  refine lv_iload_n hx hb dJ6_bitCount_0f7a4_48 rfl (lv_at hl 0 rfl) ?_
  refine lv_bipush (v := 63) hx hb dJ6_bitCount_0f7a4_49 (by decide) ?_
  refine lv_iand hx hb dJ6_bitCount_0f7a4_51 (lv_topi (fun x15 x15_e => ?_))
  have x15_h : Iv 0 63 x15 := iv_e x15_e (iv_andR _ ik_63 (by decide))
  rw [hQ]
  exact W.iret (v := x15) hx hb hr (fun t ht hW => ⟨⟨x15, (), rfl, x15_h, by rw [ht]; exact hP, va_K.moved hW.alike hK, hD⟩, hS.F ht⟩) hS.2.2 dJ6_bitCount_0f7a4_52
theorem iw_X4_pairs_X4 : ∀ w ∈ wsX40, w ∈ wsX4_pairs := by decide +kernel
set_option maxHeartbeats 4000000 in
set_option maxRecDepth 100000 in
theorem kX4_pairs_1 (l : Launch) (dC : Nat → ClassId) (dI : Nat → Nat → Nat) (cI c2 cZ : ClassId) (o1 : Nat) (o2 : Nat) (fw3 : Nat → Int32) (v4 : Int32) (v5 : Int32) (sz : Nat) (fw3_b : Bd 12 0 4095 fw3) (v4_h : Iv 0 12 v4) : Met l yX4_pairs wsX4_pairs ({ frames := 1, cells := 0, slots := 0, locals := 20 }) (va_Pc [.ref o1] (wPre (dC, dI) [(cI, .int), (c2, .array .int), (cZ, .boolean)] ([(o1, .inr (4, [.ref o2, .int v4, .int v5])), (o2, .inl (cI, 12, .inl fw3))]) sz)) (va_Qi (fun (r : Int32) (_ : Unit) => True) (fun _ t => wPost (dC, dI) [(cI, .int), (c2, .array .int), (cZ, .boolean)] (va_A ([(o1, .inr (4, [.ref o2, .int v4, .int v5])), (o2, .inl (cI, 12, .inl fw3))]) sz) ([(o1, .inr (4, [.ref o2, .int v4, .int v5])), (o2, .inl (cI, 12, .inl fw3))]) t) (va_A ([(o1, .inr (4, [.ref o2, .int v4, .int v5])), (o2, .inl (cI, 12, .inl fw3))]) sz)) 0 0 (va_A ([(o1, .inr (4, [.ref o2, .int v4, .int v5])), (o2, .inl (cI, 12, .inl fw3))]) sz) := by
  refine Met.ofW (cc := cX4_pairs) (maxL := 3) (ret := (some .int)) (by decide) rfl ?_
  intro p e s m args below meth c s₁ B hml hv
  obtain ⟨rfl, hsz, hP, hK, hD0, hN⟩ := hv
  have hx := B.exec
  have hb := B.bytes
  have hr := B.returns
  have hts := atoms_spec (ws := wsX4_pairs) B.pre
  have hown : s.vm.findClass RX4 = some m.cls := findClass_of_methodNamed B.named
  have hlocks := B.notSynchronized
  subst hsz
  have hD := hD0.self (sz := s.heap.size)
  generalize hAe : va_A ([(o1, .inr (4, [.ref o2, .int v4, .int v5])), (o2, .inl (cI, 12, .inl fw3))]) s.heap.size = A at hD ⊢
  have hA : ∀ q : Nat, s.heap.size ≤ q → A q := fun q h => by rw [← hAe]; exact Or.inr h
  have hS : va_S A s.heap s.heap [] := va_S.rf
  have hP : va_P (dC, dI) vwCl ([(o1, .inr (4, [.ref o2, .int v4, .int v5])), (o2, .inl (cI, 12, .inl fw3))]) s.heap := hP
  have hl := lv_entry ([.ref o1]) (n := 3) (Nat.le_of_ble_eq_true rfl)
  rw [lg_entry_eq]
  generalize (lg_sl ([.ref o1]) ++ List.replicate (3 - (lg_sl ([.ref o1])).length) Slot.unset).toArray = ls at hl ⊢
  have hl : lv_has ls 3 [(0, .ref o1)] := hl
  refine gen_Q (fun Q hQ => ?_)
  refine lv_iconst (v := 0) hx hb dX4_pairs_0 (by decide) ?_
  refine lv_istore_n (lv' := [(1, .int 0), (0, .ref o1)]) hx hb dX4_pairs_1 rfl hl (by decide) rfl (fun ls hl => ?_)
  refine lv_iconst (v := 0) hx hb dX4_pairs_2 (by decide) ?_
  refine lv_istore_n (lv' := [(2, .int 0), (1, .int 0), (0, .ref o1)]) hx hb dX4_pairs_3 rfl hl (by decide) rfl (fun ls hl => ?_)
  have L1 : ∀ (N : Nat) (x70 : Int32) (x71 : Int32) (H : Heap) (locs : List Loc) (ls : Array Slot), (12 - x70.toInt).toNat < N → Iv 0 12 x70 → va_P (dC, dI) vwCl ([(o1, .inr (4, [.ref o2, .int v4, .int v5])), (o2, .inl (cI, 12, .inl fw3))]) H → va_D A ([(o1, .inr (4, [.ref o2, .int v4, .int v5])), (o2, .inl (cI, 12, .inl fw3))]) → va_S A s.heap H locs → lv_has ls 3 [(2, .int x70), (1, .int x71), (0, .ref o1)] → W p l e ({ frames := 1, cells := 0, slots := 0, locals := 20 }) s m ([.ref o1] : List Value).toArray below meth c H locs 0 0 Q (F0 m 4 ls []) := by
    intro N
    induction N with
    | zero =>
      intro x70 x71 H locs ls hM
      exact absurd hM (Nat.not_lt_zero _)
    | succ N ih1 =>
      intro x70 x71 H locs ls hM1 x70_h hP hD hS hl
      refine lv_iload_n hx hb dX4_pairs_4 rfl (lv_at hl 0 rfl) ?_
      refine lv_aload_n hx hb dX4_pairs_5 rfl (lv_at hl 2 rfl) ?_
      refine va_get (D := (dC, dI)) (ci := 4) (v := .int v4) (C := RX4) (T := TX4) (N := 3) hx hb hts iw_X4_pairs_X4 hown hK hP 0 rfl rfl 1 (by decide) (hts (.fieldLink RX4 15 "HolelessHouse$Graph" "size" "I") (by decide +kernel)) (fun _ h9 => h9) rfl dX4_pairs_6 ?_
      refine lv_icmp_ge (tgt := 30) hx hb dX4_pairs_9 (by decide) (fun h72 => ?_) (fun h72 => ?_)
      ·
        have qh72 := le_i h72
        refine lv_iload_n hx hb dX4_pairs_30 rfl (lv_at hl 1 rfl) ?_
        refine lv_iconst (v := 2) hx hb dX4_pairs_31 (by decide) ?_
        refine lv_idiv hx hb dX4_pairs_32 (by decide +kernel) (lv_topi (fun x73 x73_e => ?_))
        rw [hQ]
        exact W.iret (v := x73) hx hb hr (fun t ht hW => ⟨⟨x73, (), rfl, trivial, by rw [ht]; exact hP, va_K.moved hW.alike hK, hD⟩, hS.F ht⟩) hS.2.2 dX4_pairs_33
      ·
        have qh72 := nle_i h72
        have j74 : Iv 0 11 x70 := r_ltl qh72 x70_h v4_h (by decide)
        have j75 : Iv 1 12 v4 := r_ltr qh72 x70_h v4_h (by decide)
        refine lv_iload_n hx hb dX4_pairs_12 rfl (lv_at hl 1 rfl) ?_
        refine lv_aload_n hx hb dX4_pairs_13 rfl (lv_at hl 2 rfl) ?_
        refine va_get (D := (dC, dI)) (ci := 4) (v := .ref o2) (C := RX4) (T := TX4) (N := 3) hx hb hts iw_X4_pairs_X4 hown hK hP 0 rfl rfl 0 (by decide) (hts (.fieldLink RX4 9 "HolelessHouse$Graph" "near" "[I") (by decide +kernel)) (fun _ h9 => h9) rfl dX4_pairs_14 ?_
        refine lv_iload_n hx hb dX4_pairs_17 rfl (lv_at hl 0 rfl) ?_
        refine va_iald hx hb hK hP 1 0 rfl rfl (vin_iv j74 (by decide)) dX4_pairs_18 (lv_topi (fun x76 x76_e => ?_))
        have x76_h : Iv 0 4095 x76 := iv_e x76_e (bd_at fw3_b (vin_iv j74 (by decide)))
        refine kc_i (D := (dC, dI)) (S := Unit) (wc := []) (wr := [(o1, .inr (4, [.ref o2, .int v4, .int v5])), (o2, .inl (cI, 12, .inl fw3))]) (w1 := fun _ => []) (wn := fun _ => [(o1, .inr (4, [.ref o2, .int v4, .int v5])), (o2, .inl (cI, 12, .inl fw3))]) (fun hPc hDc => va_runS (As := [.int x76]) (rest := [.int x71]) ⟨hx, hb, hml, hown, hts⟩ (kJ6_bitCount_0f7a4_1 l dC dI cI c2 cZ x76 H.size) (va_cwS 1 hts gX4_pairs_J6_bitCount_0f7a4 rfl rfl rfl (by decide +kernel) ⟨Nat.le_of_ble_eq_true rfl, Nat.le_of_ble_eq_true rfl⟩) (pre_S hPc hK hDc hN) rfl rfl hl.1 rfl (lv_room (Nat.le_of_ble_eq_true rfl)) dX4_pairs_19 ⟨Nat.le_of_ble_eq_true rfl, Nat.le_of_ble_eq_true rfl⟩) hP hD hS hA [] [0, 1] [0, 1] rfl rfl (by decide) (by decide) (by decide) (by decide) (fun _ => rfl) (fun x77 _ H locs hq hP hD hS => ?_)
        have x77_h := hq
        have hP : va_P (dC, dI) vwCl ([(o1, .inr (4, [.ref o2, .int v4, .int v5])), (o2, .inl (cI, 12, .inl fw3))]) H := hP
        have hD : va_D A ([(o1, .inr (4, [.ref o2, .int v4, .int v5])), (o2, .inl (cI, 12, .inl fw3))]) := hD
        refine lv_iadd hx hb dX4_pairs_22 (lv_topi (fun x78 x78_e => ?_))
        refine lv_istore_n (lv' := [(1, .int x78), (2, .int x70), (0, .ref o1)]) hx hb dX4_pairs_23 rfl hl (by decide) rfl (fun ls hl => ?_)
        obtain ⟨x79, x79_e⟩ : ∃ z : Int32, z = x70 + 1 := ⟨_, rfl⟩
        have x79_h : Iv 1 12 x79 := iv_e x79_e (iv_add j74 ik_1 (by decide))
        refine lv_iinc (v := x79) (lv' := [(2, .int x79), (1, .int x78), (0, .ref o1)]) hx hb dX4_pairs_24 hl (k := 1) rfl (incN (by decide +kernel) x79_e) (by decide) rfl (fun ls hl => ?_)
        refine lv_goto (tgt := 4) hx hb dX4_pairs_27 (by decide) ?_
        exact ih1 x79 x78 _ _ _ (ms_up x79_e j74 (by decide) hM1) (iv_w x79_h (by decide)) hP hD hS hl
  exact L1 _ 0 0 _ _ _ (Nat.lt_succ_self _) (iv_w ik_0 (by decide)) hP hD hS hl
theorem iw_X11_turn_X11 : ∀ w ∈ wsX110, w ∈ wsX11_turn := by decide +kernel
set_option maxHeartbeats 4000000 in
set_option maxRecDepth 100000 in
theorem kX11_turn_1 (l : Launch) (dC : Nat → ClassId) (dI : Nat → Nat → Nat) (cI c2 cZ : ClassId) (o1 : Nat) (o2 : Nat) (o7 : Nat) (o12 : Nat) (o41 : Nat) (o51 : Nat) (o64 : Nat) (o77 : Nat) (o84 : Nat) (o91 : Nat) (o99 : Nat) (o111 : Nat) (o123 : Nat) (o3 : Nat) (o13 : Nat) (o18 : Nat) (o32 : Nat) (o34 : Nat) (fw4 : Nat → Int32) (v5 : Int32) (v6 : Int32) (v36 : Int32) (v37 : Int32) (v38 : Int32) (v39 : Int32) (v40 : Int32) (v125 : Int32) (sz : Nat) (fw4_b : Bd 12 0 4095 fw4) (v5_h : Iv 0 12 v5) (v36_h : Iv 0 12 v36) (v37_h : Iv 0 12 v37) (v38_h : Iv 0 1 v38) : Met l yX11_turn wsX11_turn ({ frames := 2, cells := 0, slots := 0, locals := 42 }) (va_Pc [.ref o1] (wPre (dC, dI) [(cI, .int), (c2, .array .int), (cZ, .boolean)] ([(o1, .inr (11, [.ref o2, .ref o7, .ref o12, .ref o41, .ref o51, .ref o64, .ref o77, .ref o84, .ref o91, .ref o99, .ref o111, .ref o123, .int v125])), (o2, .inr (4, [.ref o3, .int v5, .int v6])), (o3, .inl (cI, 12, .inl fw4)), (o12, .inr (6, [.ref o13, .ref o18, .ref o32, .ref o34, .int v36, .int v37, .int v38, .int v39, .int v40]))]) sz)) (va_Qi (fun (r : Int32) (u : Int32 × (Nat → Int32) × Int32) => Bd 12 0 4095 u.2.1 ∧ Iv 0 1 u.2.2) (fun u t => wPost (dC, dI) [(cI, .int), (c2, .array .int), (cZ, .boolean)] (va_A ([(o1, .inr (11, [.ref o2, .ref o7, .ref o12, .ref o41, .ref o51, .ref o64, .ref o77, .ref o84, .ref o91, .ref o99, .ref o111, .ref o123, .int v125])), (o2, .inr (4, [.ref o3, .int v5, .int v6])), (o3, .inl (cI, 12, .inl fw4)), (o12, .inr (6, [.ref o13, .ref o18, .ref o32, .ref o34, .int v36, .int v37, .int v38, .int v39, .int v40]))]) sz) ([(o1, .inr (11, [.ref o2, .ref o7, .ref o12, .ref o41, .ref o51, .ref o64, .ref o77, .ref o84, .ref o91, .ref o99, .ref o111, .ref o123, .int v125])), (o2, .inr (4, [.ref o3, .int v5, .int u.1])), (o3, .inl (cI, 12, .inl u.2.1)), (o12, .inr (6, [.ref o13, .ref o18, .ref o32, .ref o34, .int v36, .int v37, .int u.2.2, .int v39, .int v40]))]) t) (va_A ([(o1, .inr (11, [.ref o2, .ref o7, .ref o12, .ref o41, .ref o51, .ref o64, .ref o77, .ref o84, .ref o91, .ref o99, .ref o111, .ref o123, .int v125])), (o2, .inr (4, [.ref o3, .int v5, .int v6])), (o3, .inl (cI, 12, .inl fw4)), (o12, .inr (6, [.ref o13, .ref o18, .ref o32, .ref o34, .int v36, .int v37, .int v38, .int v39, .int v40]))]) sz)) 0 0 (va_A ([(o1, .inr (11, [.ref o2, .ref o7, .ref o12, .ref o41, .ref o51, .ref o64, .ref o77, .ref o84, .ref o91, .ref o99, .ref o111, .ref o123, .int v125])), (o2, .inr (4, [.ref o3, .int v5, .int v6])), (o3, .inl (cI, 12, .inl fw4)), (o12, .inr (6, [.ref o13, .ref o18, .ref o32, .ref o34, .int v36, .int v37, .int v38, .int v39, .int v40]))]) sz) := by
  refine Met.ofW (cc := cX11_turn) (maxL := 1) (ret := (some .int)) (by decide) rfl ?_
  intro p e s m args below meth c s₁ B hml hv
  obtain ⟨rfl, hsz, hP, hK, hD0, hN⟩ := hv
  have hx := B.exec
  have hb := B.bytes
  have hr := B.returns
  have hts := atoms_spec (ws := wsX11_turn) B.pre
  have hown : s.vm.findClass RX11 = some m.cls := findClass_of_methodNamed B.named
  have hlocks := B.notSynchronized
  subst hsz
  have hD := hD0.self (sz := s.heap.size)
  generalize hAe : va_A ([(o1, .inr (11, [.ref o2, .ref o7, .ref o12, .ref o41, .ref o51, .ref o64, .ref o77, .ref o84, .ref o91, .ref o99, .ref o111, .ref o123, .int v125])), (o2, .inr (4, [.ref o3, .int v5, .int v6])), (o3, .inl (cI, 12, .inl fw4)), (o12, .inr (6, [.ref o13, .ref o18, .ref o32, .ref o34, .int v36, .int v37, .int v38, .int v39, .int v40]))]) s.heap.size = A at hD ⊢
  have hA : ∀ q : Nat, s.heap.size ≤ q → A q := fun q h => by rw [← hAe]; exact Or.inr h
  have hS : va_S A s.heap s.heap [] := va_S.rf
  have hP : va_P (dC, dI) vwCl ([(o1, .inr (11, [.ref o2, .ref o7, .ref o12, .ref o41, .ref o51, .ref o64, .ref o77, .ref o84, .ref o91, .ref o99, .ref o111, .ref o123, .int v125])), (o2, .inr (4, [.ref o3, .int v5, .int v6])), (o3, .inl (cI, 12, .inl fw4)), (o12, .inr (6, [.ref o13, .ref o18, .ref o32, .ref o34, .int v36, .int v37, .int v38, .int v39, .int v40]))]) s.heap := hP
  have hl := lv_entry ([.ref o1]) (n := 1) (Nat.le_of_ble_eq_true rfl)
  rw [lg_entry_eq]
  generalize (lg_sl ([.ref o1]) ++ List.replicate (1 - (lg_sl ([.ref o1])).length) Slot.unset).toArray = ls at hl ⊢
  have hl : lv_has ls 1 [(0, .ref o1)] := hl
  refine gen_Q (fun Q hQ => ?_)
  refine lv_aload_n hx hb dX11_turn_0 rfl (lv_at hl 0 rfl) ?_
  refine va_get (D := (dC, dI)) (ci := 11) (v := .ref o2) (C := RX11) (T := TX11) (N := 13) hx hb hts iw_X11_turn_X11 hown hK hP 0 rfl rfl 0 (by decide) (hts (.fieldLink RX11 10 "HolelessHouse" "graph" "LHolelessHouse$Graph;") (by decide +kernel)) (fun _ h9 => h9) rfl dX11_turn_1 ?_
  refine kc_v (D := (dC, dI)) (S := Int32 × (Nat → Int32)) (wc := [(o2, .inr (4, [.ref o3, .int v5, .int v6])), (o3, .inl (cI, 12, .inl fw4))]) (wr := [(o1, .inr (11, [.ref o2, .ref o7, .ref o12, .ref o41, .ref o51, .ref o64, .ref o77, .ref o84, .ref o91, .ref o99, .ref o111, .ref o123, .int v125])), (o12, .inr (6, [.ref o13, .ref o18, .ref o32, .ref o34, .int v36, .int v37, .int v38, .int v39, .int v40]))]) (w1 := fun u => [(o2, .inr (4, [.ref o3, .int v5, .int u.1])), (o3, .inl (cI, 12, .inl u.2))]) (wn := fun u => [(o1, .inr (11, [.ref o2, .ref o7, .ref o12, .ref o41, .ref o51, .ref o64, .ref o77, .ref o84, .ref o91, .ref o99, .ref o111, .ref o123, .int v125])), (o2, .inr (4, [.ref o3, .int v5, .int u.1])), (o3, .inl (cI, 12, .inl u.2)), (o12, .inr (6, [.ref o13, .ref o18, .ref o32, .ref o34, .int v36, .int v37, .int v38, .int v39, .int v40]))]) (fun hPc hDc => va_runVN (As := []) (rest := []) ⟨hx, hb, hml, hown, hts⟩ (kX4_invert_1 l dC dI cI c2 cZ o2 o3 fw4 v5 v6 s.heap.size fw4_b v5_h) ⟨va_cnB 0 hts gX11_turn_X4_invert_n145 rfl rfl rfl (hN.1 _ ns_78) (hts (.initialized RX4) (by decide +kernel)) (by decide +kernel) ⟨Nat.le_of_ble_eq_true rfl, Nat.le_of_ble_eq_true rfl⟩, (hts (.instanceMethod yX4_invert) (by decide +kernel)), (hts (.selects RX4 yX4_invert yX4_invert) (by decide +kernel))⟩ (pre_V hPc hK hDc hN (ci := 4) (q0 := 0) rfl rfl) rfl rfl hl.1 rfl (lv_room (Nat.le_of_ble_eq_true rfl)) dX11_turn_4 ⟨Nat.le_of_ble_eq_true rfl, Nat.le_of_ble_eq_true rfl⟩) hP hD hS hA [1, 2] [0, 3] [0, 2, 3, 1] rfl rfl (by decide) (by decide) (by decide) (by decide) (fun _ => rfl) (fun u H locs hq hP hD hS => ?_)
  obtain ⟨y1, f2⟩ := u
  have f2_b := hq
  have hP : va_P (dC, dI) vwCl ([(o1, .inr (11, [.ref o2, .ref o7, .ref o12, .ref o41, .ref o51, .ref o64, .ref o77, .ref o84, .ref o91, .ref o99, .ref o111, .ref o123, .int v125])), (o2, .inr (4, [.ref o3, .int v5, .int y1])), (o3, .inl (cI, 12, .inl f2)), (o12, .inr (6, [.ref o13, .ref o18, .ref o32, .ref o34, .int v36, .int v37, .int v38, .int v39, .int v40]))]) H := hP
  have hD : va_D A ([(o1, .inr (11, [.ref o2, .ref o7, .ref o12, .ref o41, .ref o51, .ref o64, .ref o77, .ref o84, .ref o91, .ref o99, .ref o111, .ref o123, .int v125])), (o2, .inr (4, [.ref o3, .int v5, .int y1])), (o3, .inl (cI, 12, .inl f2)), (o12, .inr (6, [.ref o13, .ref o18, .ref o32, .ref o34, .int v36, .int v37, .int v38, .int v39, .int v40]))]) := hD
  refine lv_aload_n hx hb dX11_turn_7 rfl (lv_at hl 0 rfl) ?_
  refine va_get (D := (dC, dI)) (ci := 11) (v := .ref o12) (C := RX11) (T := TX11) (N := 13) hx hb hts iw_X11_turn_X11 hown hK hP 0 rfl rfl 2 (by decide) (hts (.fieldLink RX11 26 "HolelessHouse" "ordering" "LHolelessHouse$Ordering;") (by decide +kernel)) (fun _ h9 => h9) rfl dX11_turn_8 ?_
  refine kc_v (D := (dC, dI)) (S := Int32) (wc := [(o12, .inr (6, [.ref o13, .ref o18, .ref o32, .ref o34, .int v36, .int v37, .int v38, .int v39, .int v40]))]) (wr := [(o1, .inr (11, [.ref o2, .ref o7, .ref o12, .ref o41, .ref o51, .ref o64, .ref o77, .ref o84, .ref o91, .ref o99, .ref o111, .ref o123, .int v125])), (o2, .inr (4, [.ref o3, .int v5, .int y1])), (o3, .inl (cI, 12, .inl f2))]) (w1 := fun u => [(o12, .inr (6, [.ref o13, .ref o18, .ref o32, .ref o34, .int v36, .int v37, .int u, .int v39, .int v40]))]) (wn := fun u => [(o1, .inr (11, [.ref o2, .ref o7, .ref o12, .ref o41, .ref o51, .ref o64, .ref o77, .ref o84, .ref o91, .ref o99, .ref o111, .ref o123, .int v125])), (o2, .inr (4, [.ref o3, .int v5, .int y1])), (o3, .inl (cI, 12, .inl f2)), (o12, .inr (6, [.ref o13, .ref o18, .ref o32, .ref o34, .int v36, .int v37, .int u, .int v39, .int v40]))]) (fun hPc hDc => va_runVN (As := []) (rest := []) ⟨hx, hb, hml, hown, hts⟩ (kX6_drop_1 l dC dI cI c2 cZ o12 o13 o18 o32 o34 v36 v37 v38 v39 v40 H.size v36_h v37_h v38_h) ⟨va_cnB 0 hts gX11_turn_X6_drop_n105 rfl rfl rfl (hN.1 _ ns_62) (hts (.initialized RX6) (by decide +kernel)) (by decide +kernel) ⟨Nat.le_of_ble_eq_true rfl, Nat.le_of_ble_eq_true rfl⟩, (hts (.instanceMethod yX6_drop) (by decide +kernel)), (hts (.selects RX6 yX6_drop yX6_drop) (by decide +kernel))⟩ (pre_V hPc hK hDc hN (ci := 6) (q0 := 0) rfl rfl) rfl rfl hl.1 rfl (lv_room (Nat.le_of_ble_eq_true rfl)) dX11_turn_11 ⟨Nat.le_of_ble_eq_true rfl, Nat.le_of_ble_eq_true rfl⟩) hP hD hS hA [3] [0, 1, 2] [0, 1, 2, 3] rfl rfl (by decide) (by decide) (by decide) (by decide) (fun _ => rfl) (fun y3 H locs hq hP hD hS => ?_)
  have y3_h := hq
  have hP : va_P (dC, dI) vwCl ([(o1, .inr (11, [.ref o2, .ref o7, .ref o12, .ref o41, .ref o51, .ref o64, .ref o77, .ref o84, .ref o91, .ref o99, .ref o111, .ref o123, .int v125])), (o2, .inr (4, [.ref o3, .int v5, .int y1])), (o3, .inl (cI, 12, .inl f2)), (o12, .inr (6, [.ref o13, .ref o18, .ref o32, .ref o34, .int v36, .int v37, .int y3, .int v39, .int v40]))]) H := hP
  have hD : va_D A ([(o1, .inr (11, [.ref o2, .ref o7, .ref o12, .ref o41, .ref o51, .ref o64, .ref o77, .ref o84, .ref o91, .ref o99, .ref o111, .ref o123, .int v125])), (o2, .inr (4, [.ref o3, .int v5, .int y1])), (o3, .inl (cI, 12, .inl f2)), (o12, .inr (6, [.ref o13, .ref o18, .ref o32, .ref o34, .int v36, .int v37, .int y3, .int v39, .int v40]))]) := hD
  refine lv_aload_n hx hb dX11_turn_14 rfl (lv_at hl 0 rfl) ?_
  refine va_get (D := (dC, dI)) (ci := 11) (v := .ref o2) (C := RX11) (T := TX11) (N := 13) hx hb hts iw_X11_turn_X11 hown hK hP 0 rfl rfl 0 (by decide) (hts (.fieldLink RX11 10 "HolelessHouse" "graph" "LHolelessHouse$Graph;") (by decide +kernel)) (fun _ h9 => h9) rfl dX11_turn_15 ?_
  refine kc_i (D := (dC, dI)) (S := Unit) (wc := [(o2, .inr (4, [.ref o3, .int v5, .int y1])), (o3, .inl (cI, 12, .inl f2))]) (wr := [(o1, .inr (11, [.ref o2, .ref o7, .ref o12, .ref o41, .ref o51, .ref o64, .ref o77, .ref o84, .ref o91, .ref o99, .ref o111, .ref o123, .int v125])), (o12, .inr (6, [.ref o13, .ref o18, .ref o32, .ref o34, .int v36, .int v37, .int y3, .int v39, .int v40]))]) (w1 := fun _ => [(o2, .inr (4, [.ref o3, .int v5, .int y1])), (o3, .inl (cI, 12, .inl f2))]) (wn := fun _ => [(o1, .inr (11, [.ref o2, .ref o7, .ref o12, .ref o41, .ref o51, .ref o64, .ref o77, .ref o84, .ref o91, .ref o99, .ref o111, .ref o123, .int v125])), (o2, .inr (4, [.ref o3, .int v5, .int y1])), (o3, .inl (cI, 12, .inl f2)), (o12, .inr (6, [.ref o13, .ref o18, .ref o32, .ref o34, .int v36, .int v37, .int y3, .int v39, .int v40]))]) (fun hPc hDc => va_runVN (As := []) (rest := []) ⟨hx, hb, hml, hown, hts⟩ (kX4_pairs_1 l dC dI cI c2 cZ o2 o3 f2 v5 y1 H.size f2_b v5_h) ⟨va_cnB 0 hts gX11_turn_X4_pairs_n148 rfl rfl rfl (hN.1 _ ns_79) (hts (.initialized RX4) (by decide +kernel)) (by decide +kernel) ⟨Nat.le_of_ble_eq_true rfl, Nat.le_of_ble_eq_true rfl⟩, (hts (.instanceMethod yX4_pairs) (by decide +kernel)), (hts (.selects RX4 yX4_pairs yX4_pairs) (by decide +kernel))⟩ (pre_V hPc hK hDc hN (ci := 4) (q0 := 0) rfl rfl) rfl rfl hl.1 rfl (lv_room (Nat.le_of_ble_eq_true rfl)) dX11_turn_18 ⟨Nat.le_of_ble_eq_true rfl, Nat.le_of_ble_eq_true rfl⟩) hP hD hS hA [1, 2] [0, 3] [0, 2, 3, 1] rfl rfl (by decide) (by decide) (by decide) (by decide) (fun _ => rfl) (fun x4 _ H locs hq hP hD hS => ?_)
  have hP : va_P (dC, dI) vwCl ([(o1, .inr (11, [.ref o2, .ref o7, .ref o12, .ref o41, .ref o51, .ref o64, .ref o77, .ref o84, .ref o91, .ref o99, .ref o111, .ref o123, .int v125])), (o2, .inr (4, [.ref o3, .int v5, .int y1])), (o3, .inl (cI, 12, .inl f2)), (o12, .inr (6, [.ref o13, .ref o18, .ref o32, .ref o34, .int v36, .int v37, .int y3, .int v39, .int v40]))]) H := hP
  have hD : va_D A ([(o1, .inr (11, [.ref o2, .ref o7, .ref o12, .ref o41, .ref o51, .ref o64, .ref o77, .ref o84, .ref o91, .ref o99, .ref o111, .ref o123, .int v125])), (o2, .inr (4, [.ref o3, .int v5, .int y1])), (o3, .inl (cI, 12, .inl f2)), (o12, .inr (6, [.ref o13, .ref o18, .ref o32, .ref o34, .int v36, .int v37, .int y3, .int v39, .int v40]))]) := hD
  rw [hQ]
  exact W.iret (v := x4) hx hb hr (fun t ht hW => ⟨⟨x4, (y1, f2, y3), rfl, ⟨f2_b, y3_h⟩, by rw [ht]; exact hP, va_K.moved hW.alike hK, hD⟩, hS.F ht⟩) hS.2.2 dX11_turn_21
set_option maxHeartbeats 4000000 in
set_option maxRecDepth 100000 in
theorem kX11_mix_1 (l : Launch) (dC : Nat → ClassId) (dI : Nat → Nat → Nat) (cI c2 cZ : ClassId) (a0 : Int64) (a1 : Int32) (sz : Nat) : Met l yX11_mix wsX11_mix ({ frames := 0, cells := 0, slots := 0, locals := 0 }) (va_Pc [.long a0, .int a1] (wPre (dC, dI) [(cI, .int), (c2, .array .int), (cZ, .boolean)] ([]) sz)) (va_Ql (fun (r : Int64) (_ : Unit) => True) (fun _ t => wPost (dC, dI) [(cI, .int), (c2, .array .int), (cZ, .boolean)] (va_A ([]) sz) ([]) t) (va_A ([]) sz)) 0 0 (va_A ([]) sz) := by
  refine Met.ofW (cc := cX11_mix) (maxL := 3) (ret := (some .long)) (by decide) rfl ?_
  intro p e s m args below meth c s₁ B hml hv
  obtain ⟨rfl, hsz, hP, hK, hD0, hN⟩ := hv
  have hx := B.exec
  have hb := B.bytes
  have hr := B.returns
  have hts := atoms_spec (ws := wsX11_mix) B.pre
  have hown : s.vm.findClass RX11 = some m.cls := findClass_of_methodNamed B.named
  have hlocks := B.notSynchronized
  subst hsz
  have hD := hD0.self (sz := s.heap.size)
  generalize hAe : va_A ([]) s.heap.size = A at hD ⊢
  have hA : ∀ q : Nat, s.heap.size ≤ q → A q := fun q h => by rw [← hAe]; exact Or.inr h
  have hS : va_S A s.heap s.heap [] := va_S.rf
  have hP : va_P (dC, dI) vwCl ([]) s.heap := hP
  have hl := lv_entry ([.long a0, .int a1]) (n := 3) (Nat.le_of_ble_eq_true rfl)
  rw [lg_entry_eq]
  generalize (lg_sl ([.long a0, .int a1]) ++ List.replicate (3 - (lg_sl ([.long a0, .int a1])).length) Slot.unset).toArray = ls at hl ⊢
  have hl : lv_has ls 3 [(0, .long a0), (2, .int a1)] := hl
  refine gen_Q (fun Q hQ => ?_)
  refine lv_ldc2 (v := 31) hx hb hown (hts (.constantLong RX11 288 (31)) (by decide +kernel)) dX11_mix_0 ?_
  refine lv_lload_n hx hb dX11_mix_3 rfl (lv_at hl 0 rfl) ?_
  refine lv_lmul hx hb dX11_mix_4 (lv_topl (fun l1 l1_e => ?_))
  refine lv_iload_n hx hb dX11_mix_5 rfl (lv_at hl 1 rfl) ?_
  refine lv_i2l (v := Int32.toInt64 a1) hx hb dX11_mix_6 rfl (lv_topl (fun l2 l2_e => ?_))
  refine lv_ladd hx hb dX11_mix_7 (lv_topl (fun l3 l3_e => ?_))
  rw [hQ]
  exact W.lret (v := l3) hx hb hr (fun t ht hW => ⟨⟨l3, (), rfl, trivial, by rw [ht]; exact hP, va_K.moved hW.alike hK, hD⟩, hS.F ht⟩) hS.2.2 dX11_mix_8
set_option maxHeartbeats 4000000 in
set_option maxRecDepth 100000 in
theorem kX11_mixAll_1 (l : Launch) (dC : Nat → ClassId) (dI : Nat → Nat → Nat) (cI c2 cZ : ClassId) (o1 : Nat) (a0 : Int64) (fw2 : Nat → Int32) (a2 : Int32) (sz : Nat) (fw2_b : Bd 12 0 4095 fw2) : Met l yX11_mixAll wsX11_mixAll ({ frames := 1, cells := 0, slots := 0, locals := 22 }) (va_Pc [.long a0, .ref o1, .int a2] (wPre (dC, dI) [(cI, .int), (c2, .array .int), (cZ, .boolean)] ([(o1, .inl (cI, 12, .inl fw2))]) sz)) (va_Ql (fun (r : Int64) (_ : Unit) => True) (fun _ t => wPost (dC, dI) [(cI, .int), (c2, .array .int), (cZ, .boolean)] (va_A ([(o1, .inl (cI, 12, .inl fw2))]) sz) ([(o1, .inl (cI, 12, .inl fw2))]) t) (va_A ([(o1, .inl (cI, 12, .inl fw2))]) sz)) 0 0 (va_A ([(o1, .inl (cI, 12, .inl fw2))]) sz) := by
  refine Met.ofW (cc := cX11_mixAll) (maxL := 7) (ret := (some .long)) (by decide) rfl ?_
  intro p e s m args below meth c s₁ B hml hv
  obtain ⟨rfl, hsz, hP, hK, hD0, hN⟩ := hv
  have hx := B.exec
  have hb := B.bytes
  have hr := B.returns
  have hts := atoms_spec (ws := wsX11_mixAll) B.pre
  have hown : s.vm.findClass RX11 = some m.cls := findClass_of_methodNamed B.named
  have hlocks := B.notSynchronized
  subst hsz
  have hD := hD0.self (sz := s.heap.size)
  generalize hAe : va_A ([(o1, .inl (cI, 12, .inl fw2))]) s.heap.size = A at hD ⊢
  have hA : ∀ q : Nat, s.heap.size ≤ q → A q := fun q h => by rw [← hAe]; exact Or.inr h
  have hS : va_S A s.heap s.heap [] := va_S.rf
  have hP : va_P (dC, dI) vwCl ([(o1, .inl (cI, 12, .inl fw2))]) s.heap := hP
  have hl := lv_entry ([.long a0, .ref o1, .int a2]) (n := 7) (Nat.le_of_ble_eq_true rfl)
  rw [lg_entry_eq]
  generalize (lg_sl ([.long a0, .ref o1, .int a2]) ++ List.replicate (7 - (lg_sl ([.long a0, .ref o1, .int a2])).length) Slot.unset).toArray = ls at hl ⊢
  have hl : lv_has ls 7 [(0, .long a0), (2, .ref o1), (3, .int a2)] := hl
  refine gen_Q (fun Q hQ => ?_)
  refine lv_lload_n hx hb dX11_mixAll_0 rfl (lv_at hl 0 rfl) ?_
  refine lv_lstore (lv' := [(4, .long a0), (0, .long a0), (2, .ref o1), (3, .int a2)]) hx hb dX11_mixAll_1 hl (by decide) rfl (fun ls hl => ?_)
  refine lv_iconst (v := 0) hx hb dX11_mixAll_3 (by decide) ?_
  refine lv_istore (lv' := [(6, .int 0), (4, .long a0), (0, .long a0), (2, .ref o1), (3, .int a2)]) hx hb dX11_mixAll_4 hl (by decide) rfl (fun ls hl => ?_)
  have L1 : ∀ (N : Nat) (x65 : Int32) (l66 : Int64) (H : Heap) (locs : List Loc) (ls : Array Slot), (12 - x65.toInt).toNat < N → Iv 0 12 x65 → va_P (dC, dI) vwCl ([(o1, .inl (cI, 12, .inl fw2))]) H → va_D A ([(o1, .inl (cI, 12, .inl fw2))]) → va_S A s.heap H locs → lv_has ls 7 [(6, .int x65), (4, .long l66), (0, .long a0), (2, .ref o1), (3, .int a2)] → W p l e ({ frames := 1, cells := 0, slots := 0, locals := 22 }) s m ([.long a0, .ref o1, .int a2] : List Value).toArray below meth c H locs 0 0 Q (F0 m 6 ls []) := by
    intro N
    induction N with
    | zero =>
      intro x65 l66 H locs ls hM
      exact absurd hM (Nat.not_lt_zero _)
    | succ N ih1 =>
      intro x65 l66 H locs ls hM1 x65_h hP hD hS hl
      refine lv_iload hx hb dX11_mixAll_6 (lv_at hl 0 rfl) ?_
      refine lv_iload_n hx hb dX11_mixAll_8 rfl (lv_at hl 4 rfl) ?_
      refine lv_icmp_ge (tgt := 36) hx hb dX11_mixAll_9 (by decide) (fun h67 => ?_) (fun h67 => ?_)
      ·
        have qh67 := le_i h67
        have j68 : Iv (-2147483648) 12 a2 := r_lel qh67 (iv_full a2) x65_h (by decide)
        refine lv_lload hx hb dX11_mixAll_36 (lv_at hl 1 rfl) ?_
        rw [hQ]
        exact W.lret (v := l66) hx hb hr (fun t ht hW => ⟨⟨l66, (), rfl, trivial, by rw [ht]; exact hP, va_K.moved hW.alike hK, hD⟩, hS.F ht⟩) hS.2.2 dX11_mixAll_38
      ·
        have qh67 := nle_i h67
        have j69 : Iv 1 2147483647 a2 := r_ltr qh67 x65_h (iv_full a2) (by decide)
        refine lv_iload hx hb dX11_mixAll_12 (lv_at hl 0 rfl) ?_
        refine lv_aload_n hx hb dX11_mixAll_14 rfl (lv_at hl 3 rfl) ?_
        refine va_alen (v := 12) hx hb hK hP 0 0 rfl rfl (by show Int32.ofNat 12 = 12; decide +kernel) dX11_mixAll_15 ?_
        refine lv_icmp_ge (tgt := 36) hx hb dX11_mixAll_16 (by decide) (fun h70 => ?_) (fun h70 => ?_)
        ·
          have qh70 := le_i h70
          have j71 : Iv 12 12 x65 := r_ler qh70 ik_12 x65_h (by decide)
          refine lv_lload hx hb dX11_mixAll_36 (lv_at hl 1 rfl) ?_
          rw [hQ]
          exact W.lret (v := l66) hx hb hr (fun t ht hW => ⟨⟨l66, (), rfl, trivial, by rw [ht]; exact hP, va_K.moved hW.alike hK, hD⟩, hS.F ht⟩) hS.2.2 dX11_mixAll_38
        ·
          have qh70 := nle_i h70
          have j72 : Iv 0 11 x65 := r_ltl qh70 x65_h ik_12 (by decide)
          refine lv_lload hx hb dX11_mixAll_19 (lv_at hl 1 rfl) ?_
          refine lv_aload_n hx hb dX11_mixAll_21 rfl (lv_at hl 3 rfl) ?_
          refine lv_iload hx hb dX11_mixAll_22 (lv_at hl 0 rfl) ?_
          refine va_iald hx hb hK hP 0 0 rfl rfl (vin_iv j72 (by decide)) dX11_mixAll_24 (lv_topi (fun x73 x73_e => ?_))
          have x73_h : Iv 0 4095 x73 := iv_e x73_e (bd_at fw2_b (vin_iv j72 (by decide)))
          refine kc_l (D := (dC, dI)) (S := Unit) (wc := []) (wr := [(o1, .inl (cI, 12, .inl fw2))]) (w1 := fun _ => []) (wn := fun _ => [(o1, .inl (cI, 12, .inl fw2))]) (fun hPc hDc => va_runS (As := [.long l66, .int x73]) (rest := []) ⟨hx, hb, hml, hown, hts⟩ (kX11_mix_1 l dC dI cI c2 cZ l66 x73 H.size) (va_cwS 2 hts gX11_mixAll_X11_mix rfl rfl rfl (by decide +kernel) ⟨Nat.le_of_ble_eq_true rfl, Nat.le_of_ble_eq_true rfl⟩) (pre_S hPc hK hDc hN) rfl rfl hl.1 rfl (lv_room (Nat.le_of_ble_eq_true rfl)) dX11_mixAll_25 ⟨Nat.le_of_ble_eq_true rfl, Nat.le_of_ble_eq_true rfl⟩) hP hD hS hA [] [0] [0] rfl rfl (by decide) (by decide) (by decide) (by decide) (fun _ => rfl) (fun l74 _ H locs hq hP hD hS => ?_)
          have hP : va_P (dC, dI) vwCl ([(o1, .inl (cI, 12, .inl fw2))]) H := hP
          have hD : va_D A ([(o1, .inl (cI, 12, .inl fw2))]) := hD
          refine lv_lstore (lv' := [(4, .long l74), (6, .int x65), (0, .long a0), (2, .ref o1), (3, .int a2)]) hx hb dX11_mixAll_28 hl (by decide) rfl (fun ls hl => ?_)
          obtain ⟨x75, x75_e⟩ : ∃ z : Int32, z = x65 + 1 := ⟨_, rfl⟩
          have x75_h : Iv 1 12 x75 := iv_e x75_e (iv_add j72 ik_1 (by decide))
          refine lv_iinc (v := x75) (lv' := [(6, .int x75), (4, .long l74), (0, .long a0), (2, .ref o1), (3, .int a2)]) hx hb dX11_mixAll_30 hl (k := 1) rfl (incN (by decide +kernel) x75_e) (by decide) rfl (fun ls hl => ?_)
          refine lv_goto (tgt := 6) hx hb dX11_mixAll_33 (by decide) ?_
          exact ih1 x75 l74 _ _ _ (ms_up x75_e j72 (by decide) hM1) (iv_w x75_h (by decide)) hP hD hS hl
  exact L1 _ 0 a0 _ _ _ (Nat.lt_succ_self _) (iv_w ik_0 (by decide)) hP hD hS hl
theorem iw_X6_length_X6 : ∀ w ∈ wsX60, w ∈ wsX6_length := by decide +kernel
set_option maxHeartbeats 4000000 in
set_option maxRecDepth 100000 in
theorem kX6_length_1 (l : Launch) (dC : Nat → ClassId) (dI : Nat → Nat → Nat) (cI c2 cZ : ClassId) (o1 : Nat) (o2 : Nat) (o7 : Nat) (o21 : Nat) (o23 : Nat) (v25 : Int32) (v26 : Int32) (v27 : Int32) (v28 : Int32) (v29 : Int32) (sz : Nat) (v25_h : Iv 0 12 v25) (v26_h : Iv 0 12 v26) (v27_h : Iv 0 1 v27) : Met l yX6_length wsX6_length ({ frames := 0, cells := 0, slots := 0, locals := 0 }) (va_Pc [.ref o1] (wPre (dC, dI) [(cI, .int), (c2, .array .int), (cZ, .boolean)] ([(o1, .inr (6, [.ref o2, .ref o7, .ref o21, .ref o23, .int v25, .int v26, .int v27, .int v28, .int v29]))]) sz)) (va_Qi (fun (r : Int32) (_ : Unit) => Iv 0 12 r) (fun _ t => wPost (dC, dI) [(cI, .int), (c2, .array .int), (cZ, .boolean)] (va_A ([(o1, .inr (6, [.ref o2, .ref o7, .ref o21, .ref o23, .int v25, .int v26, .int v27, .int v28, .int v29]))]) sz) ([(o1, .inr (6, [.ref o2, .ref o7, .ref o21, .ref o23, .int v25, .int v26, .int v27, .int v28, .int v29]))]) t) (va_A ([(o1, .inr (6, [.ref o2, .ref o7, .ref o21, .ref o23, .int v25, .int v26, .int v27, .int v28, .int v29]))]) sz)) 0 0 (va_A ([(o1, .inr (6, [.ref o2, .ref o7, .ref o21, .ref o23, .int v25, .int v26, .int v27, .int v28, .int v29]))]) sz) := by
  refine Met.ofW (cc := cX6_length) (maxL := 1) (ret := (some .int)) (by decide) rfl ?_
  intro p e s m args below meth c s₁ B hml hv
  obtain ⟨rfl, hsz, hP, hK, hD0, hN⟩ := hv
  have hx := B.exec
  have hb := B.bytes
  have hr := B.returns
  have hts := atoms_spec (ws := wsX6_length) B.pre
  have hown : s.vm.findClass RX6 = some m.cls := findClass_of_methodNamed B.named
  have hlocks := B.notSynchronized
  subst hsz
  have hD := hD0.self (sz := s.heap.size)
  generalize hAe : va_A ([(o1, .inr (6, [.ref o2, .ref o7, .ref o21, .ref o23, .int v25, .int v26, .int v27, .int v28, .int v29]))]) s.heap.size = A at hD ⊢
  have hA : ∀ q : Nat, s.heap.size ≤ q → A q := fun q h => by rw [← hAe]; exact Or.inr h
  have hS : va_S A s.heap s.heap [] := va_S.rf
  have hP : va_P (dC, dI) vwCl ([(o1, .inr (6, [.ref o2, .ref o7, .ref o21, .ref o23, .int v25, .int v26, .int v27, .int v28, .int v29]))]) s.heap := hP
  have hl := lv_entry ([.ref o1]) (n := 1) (Nat.le_of_ble_eq_true rfl)
  rw [lg_entry_eq]
  generalize (lg_sl ([.ref o1]) ++ List.replicate (1 - (lg_sl ([.ref o1])).length) Slot.unset).toArray = ls at hl ⊢
  have hl : lv_has ls 1 [(0, .ref o1)] := hl
  refine gen_Q (fun Q hQ => ?_)
  refine lv_aload_n hx hb dX6_length_0 rfl (lv_at hl 0 rfl) ?_
  refine va_get (D := (dC, dI)) (ci := 6) (v := .int v27) (C := RX6) (T := TX6) (N := 9) hx hb hts iw_X6_length_X6 hown hK hP 0 rfl rfl 6 (by decide) (hts (.fieldLink RX6 39 "HolelessHouse$Ordering" "there" "Z") (by decide +kernel)) (fun _ h9 => h9) rfl dX6_length_1 ?_
  refine lv_if_eq (tgt := 14) hx hb dX6_length_4 (by decide) (fun h1 => ?_) (fun h1 => ?_)
  ·
    have j2 : Iv 0 0 v27 := r_eq h1 ik_0
    refine lv_iconst (v := 0) hx hb dX6_length_14 (by decide) ?_
    rw [hQ]
    exact W.iret (v := 0) hx hb hr (fun t ht hW => ⟨⟨0, (), rfl, (iv_w ik_0 (by decide)), by rw [ht]; exact hP, va_K.moved hW.alike hK, hD⟩, hS.F ht⟩) hS.2.2 dX6_length_15
  ·
    have j3 : Iv 1 1 v27 := r_nelo h1 v27_h ik_0 (by decide)
    refine lv_aload_n hx hb dX6_length_7 rfl (lv_at hl 0 rfl) ?_
    refine va_get (D := (dC, dI)) (ci := 6) (v := .int v26) (C := RX6) (T := TX6) (N := 9) hx hb hts iw_X6_length_X6 hown hK hP 0 rfl rfl 5 (by decide) (hts (.fieldLink RX6 36 "HolelessHouse$Ordering" "size" "I") (by decide +kernel)) (fun _ h9 => h9) rfl dX6_length_8 ?_
    refine lv_goto (tgt := 15) hx hb dX6_length_11 (by decide) ?_
    rw [hQ]
    exact W.iret (v := v26) hx hb hr (fun t ht hW => ⟨⟨v26, (), rfl, v26_h, by rw [ht]; exact hP, va_K.moved hW.alike hK, hD⟩, hS.F ht⟩) hS.2.2 dX6_length_15
set_option maxHeartbeats 4000000 in
set_option maxRecDepth 100000 in
theorem kX11_mixAll_2 (l : Launch) (dC : Nat → ClassId) (dI : Nat → Nat → Nat) (cI c2 cZ : ClassId) (o1 : Nat) (a0 : Int64) (fw2 : Nat → Int32) (a2 : Int32) (sz : Nat) (fw2_b : Bd 12 0 11 fw2) : Met l yX11_mixAll wsX11_mixAll ({ frames := 1, cells := 0, slots := 0, locals := 22 }) (va_Pc [.long a0, .ref o1, .int a2] (wPre (dC, dI) [(cI, .int), (c2, .array .int), (cZ, .boolean)] ([(o1, .inl (cI, 12, .inl fw2))]) sz)) (va_Ql (fun (r : Int64) (_ : Unit) => True) (fun _ t => wPost (dC, dI) [(cI, .int), (c2, .array .int), (cZ, .boolean)] (va_A ([(o1, .inl (cI, 12, .inl fw2))]) sz) ([(o1, .inl (cI, 12, .inl fw2))]) t) (va_A ([(o1, .inl (cI, 12, .inl fw2))]) sz)) 0 0 (va_A ([(o1, .inl (cI, 12, .inl fw2))]) sz) := by
  refine Met.ofW (cc := cX11_mixAll) (maxL := 7) (ret := (some .long)) (by decide) rfl ?_
  intro p e s m args below meth c s₁ B hml hv
  obtain ⟨rfl, hsz, hP, hK, hD0, hN⟩ := hv
  have hx := B.exec
  have hb := B.bytes
  have hr := B.returns
  have hts := atoms_spec (ws := wsX11_mixAll) B.pre
  have hown : s.vm.findClass RX11 = some m.cls := findClass_of_methodNamed B.named
  have hlocks := B.notSynchronized
  subst hsz
  have hD := hD0.self (sz := s.heap.size)
  generalize hAe : va_A ([(o1, .inl (cI, 12, .inl fw2))]) s.heap.size = A at hD ⊢
  have hA : ∀ q : Nat, s.heap.size ≤ q → A q := fun q h => by rw [← hAe]; exact Or.inr h
  have hS : va_S A s.heap s.heap [] := va_S.rf
  have hP : va_P (dC, dI) vwCl ([(o1, .inl (cI, 12, .inl fw2))]) s.heap := hP
  have hl := lv_entry ([.long a0, .ref o1, .int a2]) (n := 7) (Nat.le_of_ble_eq_true rfl)
  rw [lg_entry_eq]
  generalize (lg_sl ([.long a0, .ref o1, .int a2]) ++ List.replicate (7 - (lg_sl ([.long a0, .ref o1, .int a2])).length) Slot.unset).toArray = ls at hl ⊢
  have hl : lv_has ls 7 [(0, .long a0), (2, .ref o1), (3, .int a2)] := hl
  refine gen_Q (fun Q hQ => ?_)
  refine lv_lload_n hx hb dX11_mixAll_0 rfl (lv_at hl 0 rfl) ?_
  refine lv_lstore (lv' := [(4, .long a0), (0, .long a0), (2, .ref o1), (3, .int a2)]) hx hb dX11_mixAll_1 hl (by decide) rfl (fun ls hl => ?_)
  refine lv_iconst (v := 0) hx hb dX11_mixAll_3 (by decide) ?_
  refine lv_istore (lv' := [(6, .int 0), (4, .long a0), (0, .long a0), (2, .ref o1), (3, .int a2)]) hx hb dX11_mixAll_4 hl (by decide) rfl (fun ls hl => ?_)
  have L1 : ∀ (N : Nat) (x65 : Int32) (l66 : Int64) (H : Heap) (locs : List Loc) (ls : Array Slot), (12 - x65.toInt).toNat < N → Iv 0 12 x65 → va_P (dC, dI) vwCl ([(o1, .inl (cI, 12, .inl fw2))]) H → va_D A ([(o1, .inl (cI, 12, .inl fw2))]) → va_S A s.heap H locs → lv_has ls 7 [(6, .int x65), (4, .long l66), (0, .long a0), (2, .ref o1), (3, .int a2)] → W p l e ({ frames := 1, cells := 0, slots := 0, locals := 22 }) s m ([.long a0, .ref o1, .int a2] : List Value).toArray below meth c H locs 0 0 Q (F0 m 6 ls []) := by
    intro N
    induction N with
    | zero =>
      intro x65 l66 H locs ls hM
      exact absurd hM (Nat.not_lt_zero _)
    | succ N ih1 =>
      intro x65 l66 H locs ls hM1 x65_h hP hD hS hl
      refine lv_iload hx hb dX11_mixAll_6 (lv_at hl 0 rfl) ?_
      refine lv_iload_n hx hb dX11_mixAll_8 rfl (lv_at hl 4 rfl) ?_
      refine lv_icmp_ge (tgt := 36) hx hb dX11_mixAll_9 (by decide) (fun h67 => ?_) (fun h67 => ?_)
      ·
        have qh67 := le_i h67
        have j68 : Iv (-2147483648) 12 a2 := r_lel qh67 (iv_full a2) x65_h (by decide)
        refine lv_lload hx hb dX11_mixAll_36 (lv_at hl 1 rfl) ?_
        rw [hQ]
        exact W.lret (v := l66) hx hb hr (fun t ht hW => ⟨⟨l66, (), rfl, trivial, by rw [ht]; exact hP, va_K.moved hW.alike hK, hD⟩, hS.F ht⟩) hS.2.2 dX11_mixAll_38
      ·
        have qh67 := nle_i h67
        have j69 : Iv 1 2147483647 a2 := r_ltr qh67 x65_h (iv_full a2) (by decide)
        refine lv_iload hx hb dX11_mixAll_12 (lv_at hl 0 rfl) ?_
        refine lv_aload_n hx hb dX11_mixAll_14 rfl (lv_at hl 3 rfl) ?_
        refine va_alen (v := 12) hx hb hK hP 0 0 rfl rfl (by show Int32.ofNat 12 = 12; decide +kernel) dX11_mixAll_15 ?_
        refine lv_icmp_ge (tgt := 36) hx hb dX11_mixAll_16 (by decide) (fun h70 => ?_) (fun h70 => ?_)
        ·
          have qh70 := le_i h70
          have j71 : Iv 12 12 x65 := r_ler qh70 ik_12 x65_h (by decide)
          refine lv_lload hx hb dX11_mixAll_36 (lv_at hl 1 rfl) ?_
          rw [hQ]
          exact W.lret (v := l66) hx hb hr (fun t ht hW => ⟨⟨l66, (), rfl, trivial, by rw [ht]; exact hP, va_K.moved hW.alike hK, hD⟩, hS.F ht⟩) hS.2.2 dX11_mixAll_38
        ·
          have qh70 := nle_i h70
          have j72 : Iv 0 11 x65 := r_ltl qh70 x65_h ik_12 (by decide)
          refine lv_lload hx hb dX11_mixAll_19 (lv_at hl 1 rfl) ?_
          refine lv_aload_n hx hb dX11_mixAll_21 rfl (lv_at hl 3 rfl) ?_
          refine lv_iload hx hb dX11_mixAll_22 (lv_at hl 0 rfl) ?_
          refine va_iald hx hb hK hP 0 0 rfl rfl (vin_iv j72 (by decide)) dX11_mixAll_24 (lv_topi (fun x73 x73_e => ?_))
          have x73_h : Iv 0 11 x73 := iv_e x73_e (bd_at fw2_b (vin_iv j72 (by decide)))
          refine kc_l (D := (dC, dI)) (S := Unit) (wc := []) (wr := [(o1, .inl (cI, 12, .inl fw2))]) (w1 := fun _ => []) (wn := fun _ => [(o1, .inl (cI, 12, .inl fw2))]) (fun hPc hDc => va_runS (As := [.long l66, .int x73]) (rest := []) ⟨hx, hb, hml, hown, hts⟩ (kX11_mix_1 l dC dI cI c2 cZ l66 x73 H.size) (va_cwS 2 hts gX11_mixAll_X11_mix rfl rfl rfl (by decide +kernel) ⟨Nat.le_of_ble_eq_true rfl, Nat.le_of_ble_eq_true rfl⟩) (pre_S hPc hK hDc hN) rfl rfl hl.1 rfl (lv_room (Nat.le_of_ble_eq_true rfl)) dX11_mixAll_25 ⟨Nat.le_of_ble_eq_true rfl, Nat.le_of_ble_eq_true rfl⟩) hP hD hS hA [] [0] [0] rfl rfl (by decide) (by decide) (by decide) (by decide) (fun _ => rfl) (fun l74 _ H locs hq hP hD hS => ?_)
          have hP : va_P (dC, dI) vwCl ([(o1, .inl (cI, 12, .inl fw2))]) H := hP
          have hD : va_D A ([(o1, .inl (cI, 12, .inl fw2))]) := hD
          refine lv_lstore (lv' := [(4, .long l74), (6, .int x65), (0, .long a0), (2, .ref o1), (3, .int a2)]) hx hb dX11_mixAll_28 hl (by decide) rfl (fun ls hl => ?_)
          obtain ⟨x75, x75_e⟩ : ∃ z : Int32, z = x65 + 1 := ⟨_, rfl⟩
          have x75_h : Iv 1 12 x75 := iv_e x75_e (iv_add j72 ik_1 (by decide))
          refine lv_iinc (v := x75) (lv' := [(6, .int x75), (4, .long l74), (0, .long a0), (2, .ref o1), (3, .int a2)]) hx hb dX11_mixAll_30 hl (k := 1) rfl (incN (by decide +kernel) x75_e) (by decide) rfl (fun ls hl => ?_)
          refine lv_goto (tgt := 6) hx hb dX11_mixAll_33 (by decide) ?_
          exact ih1 x75 l74 _ _ _ (ms_up x75_e j72 (by decide) hM1) (iv_w x75_h (by decide)) hP hD hS hl
  exact L1 _ 0 a0 _ _ _ (Nat.lt_succ_self _) (iv_w ik_0 (by decide)) hP hD hS hl
set_option maxHeartbeats 4000000 in
set_option maxRecDepth 100000 in
theorem kX11_mixAll_3 (l : Launch) (dC : Nat → ClassId) (dI : Nat → Nat → Nat) (cI c2 cZ : ClassId) (o1 : Nat) (a0 : Int64) (fw2 : Nat → Int32) (a2 : Int32) (sz : Nat) (fw2_b : Bd 12 (-1) 255 fw2) : Met l yX11_mixAll wsX11_mixAll ({ frames := 1, cells := 0, slots := 0, locals := 22 }) (va_Pc [.long a0, .ref o1, .int a2] (wPre (dC, dI) [(cI, .int), (c2, .array .int), (cZ, .boolean)] ([(o1, .inl (cI, 12, .inl fw2))]) sz)) (va_Ql (fun (r : Int64) (_ : Unit) => True) (fun _ t => wPost (dC, dI) [(cI, .int), (c2, .array .int), (cZ, .boolean)] (va_A ([(o1, .inl (cI, 12, .inl fw2))]) sz) ([(o1, .inl (cI, 12, .inl fw2))]) t) (va_A ([(o1, .inl (cI, 12, .inl fw2))]) sz)) 0 0 (va_A ([(o1, .inl (cI, 12, .inl fw2))]) sz) := by
  refine Met.ofW (cc := cX11_mixAll) (maxL := 7) (ret := (some .long)) (by decide) rfl ?_
  intro p e s m args below meth c s₁ B hml hv
  obtain ⟨rfl, hsz, hP, hK, hD0, hN⟩ := hv
  have hx := B.exec
  have hb := B.bytes
  have hr := B.returns
  have hts := atoms_spec (ws := wsX11_mixAll) B.pre
  have hown : s.vm.findClass RX11 = some m.cls := findClass_of_methodNamed B.named
  have hlocks := B.notSynchronized
  subst hsz
  have hD := hD0.self (sz := s.heap.size)
  generalize hAe : va_A ([(o1, .inl (cI, 12, .inl fw2))]) s.heap.size = A at hD ⊢
  have hA : ∀ q : Nat, s.heap.size ≤ q → A q := fun q h => by rw [← hAe]; exact Or.inr h
  have hS : va_S A s.heap s.heap [] := va_S.rf
  have hP : va_P (dC, dI) vwCl ([(o1, .inl (cI, 12, .inl fw2))]) s.heap := hP
  have hl := lv_entry ([.long a0, .ref o1, .int a2]) (n := 7) (Nat.le_of_ble_eq_true rfl)
  rw [lg_entry_eq]
  generalize (lg_sl ([.long a0, .ref o1, .int a2]) ++ List.replicate (7 - (lg_sl ([.long a0, .ref o1, .int a2])).length) Slot.unset).toArray = ls at hl ⊢
  have hl : lv_has ls 7 [(0, .long a0), (2, .ref o1), (3, .int a2)] := hl
  refine gen_Q (fun Q hQ => ?_)
  refine lv_lload_n hx hb dX11_mixAll_0 rfl (lv_at hl 0 rfl) ?_
  refine lv_lstore (lv' := [(4, .long a0), (0, .long a0), (2, .ref o1), (3, .int a2)]) hx hb dX11_mixAll_1 hl (by decide) rfl (fun ls hl => ?_)
  refine lv_iconst (v := 0) hx hb dX11_mixAll_3 (by decide) ?_
  refine lv_istore (lv' := [(6, .int 0), (4, .long a0), (0, .long a0), (2, .ref o1), (3, .int a2)]) hx hb dX11_mixAll_4 hl (by decide) rfl (fun ls hl => ?_)
  have L1 : ∀ (N : Nat) (x65 : Int32) (l66 : Int64) (H : Heap) (locs : List Loc) (ls : Array Slot), (12 - x65.toInt).toNat < N → Iv 0 12 x65 → va_P (dC, dI) vwCl ([(o1, .inl (cI, 12, .inl fw2))]) H → va_D A ([(o1, .inl (cI, 12, .inl fw2))]) → va_S A s.heap H locs → lv_has ls 7 [(6, .int x65), (4, .long l66), (0, .long a0), (2, .ref o1), (3, .int a2)] → W p l e ({ frames := 1, cells := 0, slots := 0, locals := 22 }) s m ([.long a0, .ref o1, .int a2] : List Value).toArray below meth c H locs 0 0 Q (F0 m 6 ls []) := by
    intro N
    induction N with
    | zero =>
      intro x65 l66 H locs ls hM
      exact absurd hM (Nat.not_lt_zero _)
    | succ N ih1 =>
      intro x65 l66 H locs ls hM1 x65_h hP hD hS hl
      refine lv_iload hx hb dX11_mixAll_6 (lv_at hl 0 rfl) ?_
      refine lv_iload_n hx hb dX11_mixAll_8 rfl (lv_at hl 4 rfl) ?_
      refine lv_icmp_ge (tgt := 36) hx hb dX11_mixAll_9 (by decide) (fun h67 => ?_) (fun h67 => ?_)
      ·
        have qh67 := le_i h67
        have j68 : Iv (-2147483648) 12 a2 := r_lel qh67 (iv_full a2) x65_h (by decide)
        refine lv_lload hx hb dX11_mixAll_36 (lv_at hl 1 rfl) ?_
        rw [hQ]
        exact W.lret (v := l66) hx hb hr (fun t ht hW => ⟨⟨l66, (), rfl, trivial, by rw [ht]; exact hP, va_K.moved hW.alike hK, hD⟩, hS.F ht⟩) hS.2.2 dX11_mixAll_38
      ·
        have qh67 := nle_i h67
        have j69 : Iv 1 2147483647 a2 := r_ltr qh67 x65_h (iv_full a2) (by decide)
        refine lv_iload hx hb dX11_mixAll_12 (lv_at hl 0 rfl) ?_
        refine lv_aload_n hx hb dX11_mixAll_14 rfl (lv_at hl 3 rfl) ?_
        refine va_alen (v := 12) hx hb hK hP 0 0 rfl rfl (by show Int32.ofNat 12 = 12; decide +kernel) dX11_mixAll_15 ?_
        refine lv_icmp_ge (tgt := 36) hx hb dX11_mixAll_16 (by decide) (fun h70 => ?_) (fun h70 => ?_)
        ·
          have qh70 := le_i h70
          have j71 : Iv 12 12 x65 := r_ler qh70 ik_12 x65_h (by decide)
          refine lv_lload hx hb dX11_mixAll_36 (lv_at hl 1 rfl) ?_
          rw [hQ]
          exact W.lret (v := l66) hx hb hr (fun t ht hW => ⟨⟨l66, (), rfl, trivial, by rw [ht]; exact hP, va_K.moved hW.alike hK, hD⟩, hS.F ht⟩) hS.2.2 dX11_mixAll_38
        ·
          have qh70 := nle_i h70
          have j72 : Iv 0 11 x65 := r_ltl qh70 x65_h ik_12 (by decide)
          refine lv_lload hx hb dX11_mixAll_19 (lv_at hl 1 rfl) ?_
          refine lv_aload_n hx hb dX11_mixAll_21 rfl (lv_at hl 3 rfl) ?_
          refine lv_iload hx hb dX11_mixAll_22 (lv_at hl 0 rfl) ?_
          refine va_iald hx hb hK hP 0 0 rfl rfl (vin_iv j72 (by decide)) dX11_mixAll_24 (lv_topi (fun x73 x73_e => ?_))
          have x73_h : Iv (-1) 255 x73 := iv_e x73_e (bd_at fw2_b (vin_iv j72 (by decide)))
          refine kc_l (D := (dC, dI)) (S := Unit) (wc := []) (wr := [(o1, .inl (cI, 12, .inl fw2))]) (w1 := fun _ => []) (wn := fun _ => [(o1, .inl (cI, 12, .inl fw2))]) (fun hPc hDc => va_runS (As := [.long l66, .int x73]) (rest := []) ⟨hx, hb, hml, hown, hts⟩ (kX11_mix_1 l dC dI cI c2 cZ l66 x73 H.size) (va_cwS 2 hts gX11_mixAll_X11_mix rfl rfl rfl (by decide +kernel) ⟨Nat.le_of_ble_eq_true rfl, Nat.le_of_ble_eq_true rfl⟩) (pre_S hPc hK hDc hN) rfl rfl hl.1 rfl (lv_room (Nat.le_of_ble_eq_true rfl)) dX11_mixAll_25 ⟨Nat.le_of_ble_eq_true rfl, Nat.le_of_ble_eq_true rfl⟩) hP hD hS hA [] [0] [0] rfl rfl (by decide) (by decide) (by decide) (by decide) (fun _ => rfl) (fun l74 _ H locs hq hP hD hS => ?_)
          have hP : va_P (dC, dI) vwCl ([(o1, .inl (cI, 12, .inl fw2))]) H := hP
          have hD : va_D A ([(o1, .inl (cI, 12, .inl fw2))]) := hD
          refine lv_lstore (lv' := [(4, .long l74), (6, .int x65), (0, .long a0), (2, .ref o1), (3, .int a2)]) hx hb dX11_mixAll_28 hl (by decide) rfl (fun ls hl => ?_)
          obtain ⟨x75, x75_e⟩ : ∃ z : Int32, z = x65 + 1 := ⟨_, rfl⟩
          have x75_h : Iv 1 12 x75 := iv_e x75_e (iv_add j72 ik_1 (by decide))
          refine lv_iinc (v := x75) (lv' := [(6, .int x75), (4, .long l74), (0, .long a0), (2, .ref o1), (3, .int a2)]) hx hb dX11_mixAll_30 hl (k := 1) rfl (incN (by decide +kernel) x75_e) (by decide) rfl (fun ls hl => ?_)
          refine lv_goto (tgt := 6) hx hb dX11_mixAll_33 (by decide) ?_
          exact ih1 x75 l74 _ _ _ (ms_up x75_e j72 (by decide) hM1) (iv_w x75_h (by decide)) hP hD hS hl
  exact L1 _ 0 a0 _ _ _ (Nat.lt_succ_self _) (iv_w ik_0 (by decide)) hP hD hS hl
theorem iw_X11_digest_X10 : ∀ w ∈ wsX100, w ∈ wsX11_digest := by decide +kernel
theorem iw_X11_digest_X11 : ∀ w ∈ wsX110, w ∈ wsX11_digest := by decide +kernel
theorem iw_X11_digest_X4 : ∀ w ∈ wsX40, w ∈ wsX11_digest := by decide +kernel
theorem iw_X11_digest_X6 : ∀ w ∈ wsX60, w ∈ wsX11_digest := by decide +kernel
set_option maxHeartbeats 4000000 in
set_option maxRecDepth 100000 in
theorem kX11_digest_1 (l : Launch) (dC : Nat → ClassId) (dI : Nat → Nat → Nat) (cI c2 cZ : ClassId) (o1 : Nat) (o2 : Nat) (o7 : Nat) (o12 : Nat) (o41 : Nat) (o51 : Nat) (o64 : Nat) (o77 : Nat) (o84 : Nat) (o91 : Nat) (o99 : Nat) (o111 : Nat) (o123 : Nat) (o3 : Nat) (o13 : Nat) (o18 : Nat) (o32 : Nat) (o34 : Nat) (o8 : Nat) (fw4 : Nat → Int32) (v5 : Int32) (v6 : Int32) (fw9 : Nat → Int32) (v10 : Int32) (v11 : Int32) (fw33 : Nat → Int32) (fw35 : Nat → Int32) (v36 : Int32) (v37 : Int32) (v38 : Int32) (v39 : Int32) (v40 : Int32) (v125 : Int32) (sz : Nat) (fw4_b : Bd 12 0 4095 fw4) (v5_h : Iv 0 12 v5) (fw9_b : Bd 12 (-1) 255 fw9) (v10_h : Iv 0 8 v10) (fw33_b : Bd 12 0 11 fw33) (fw35_b : Bd 12 0 11 fw35) (v36_h : Iv 0 12 v36) (v37_h : Iv 0 12 v37) (v38_h : Iv 0 1 v38) : Met l yX11_digest wsX11_digest ({ frames := 2, cells := 0, slots := 0, locals := 48 }) (va_Pc [.ref o1] (wPre (dC, dI) [(cI, .int), (c2, .array .int), (cZ, .boolean)] ([(o1, .inr (11, [.ref o2, .ref o7, .ref o12, .ref o41, .ref o51, .ref o64, .ref o77, .ref o84, .ref o91, .ref o99, .ref o111, .ref o123, .int v125])), (o2, .inr (4, [.ref o3, .int v5, .int v6])), (o3, .inl (cI, 12, .inl fw4)), (o12, .inr (6, [.ref o13, .ref o18, .ref o32, .ref o34, .int v36, .int v37, .int v38, .int v39, .int v40])), (o32, .inl (cI, 12, .inl fw33)), (o7, .inr (10, [.ref o8, .int v10, .int v11])), (o8, .inl (cI, 12, .inl fw9)), (o34, .inl (cI, 12, .inl fw35))]) sz)) (va_Ql (fun (r : Int64) (_ : Unit) => True) (fun _ t => wPost (dC, dI) [(cI, .int), (c2, .array .int), (cZ, .boolean)] (va_A ([(o1, .inr (11, [.ref o2, .ref o7, .ref o12, .ref o41, .ref o51, .ref o64, .ref o77, .ref o84, .ref o91, .ref o99, .ref o111, .ref o123, .int v125])), (o2, .inr (4, [.ref o3, .int v5, .int v6])), (o3, .inl (cI, 12, .inl fw4)), (o12, .inr (6, [.ref o13, .ref o18, .ref o32, .ref o34, .int v36, .int v37, .int v38, .int v39, .int v40])), (o32, .inl (cI, 12, .inl fw33)), (o7, .inr (10, [.ref o8, .int v10, .int v11])), (o8, .inl (cI, 12, .inl fw9)), (o34, .inl (cI, 12, .inl fw35))]) sz) ([(o1, .inr (11, [.ref o2, .ref o7, .ref o12, .ref o41, .ref o51, .ref o64, .ref o77, .ref o84, .ref o91, .ref o99, .ref o111, .ref o123, .int v125])), (o2, .inr (4, [.ref o3, .int v5, .int v6])), (o3, .inl (cI, 12, .inl fw4)), (o12, .inr (6, [.ref o13, .ref o18, .ref o32, .ref o34, .int v36, .int v37, .int v38, .int v39, .int v40])), (o32, .inl (cI, 12, .inl fw33)), (o7, .inr (10, [.ref o8, .int v10, .int v11])), (o8, .inl (cI, 12, .inl fw9)), (o34, .inl (cI, 12, .inl fw35))]) t) (va_A ([(o1, .inr (11, [.ref o2, .ref o7, .ref o12, .ref o41, .ref o51, .ref o64, .ref o77, .ref o84, .ref o91, .ref o99, .ref o111, .ref o123, .int v125])), (o2, .inr (4, [.ref o3, .int v5, .int v6])), (o3, .inl (cI, 12, .inl fw4)), (o12, .inr (6, [.ref o13, .ref o18, .ref o32, .ref o34, .int v36, .int v37, .int v38, .int v39, .int v40])), (o32, .inl (cI, 12, .inl fw33)), (o7, .inr (10, [.ref o8, .int v10, .int v11])), (o8, .inl (cI, 12, .inl fw9)), (o34, .inl (cI, 12, .inl fw35))]) sz)) 0 0 (va_A ([(o1, .inr (11, [.ref o2, .ref o7, .ref o12, .ref o41, .ref o51, .ref o64, .ref o77, .ref o84, .ref o91, .ref o99, .ref o111, .ref o123, .int v125])), (o2, .inr (4, [.ref o3, .int v5, .int v6])), (o3, .inl (cI, 12, .inl fw4)), (o12, .inr (6, [.ref o13, .ref o18, .ref o32, .ref o34, .int v36, .int v37, .int v38, .int v39, .int v40])), (o32, .inl (cI, 12, .inl fw33)), (o7, .inr (10, [.ref o8, .int v10, .int v11])), (o8, .inl (cI, 12, .inl fw9)), (o34, .inl (cI, 12, .inl fw35))]) sz) := by
  refine Met.ofW (cc := cX11_digest) (maxL := 3) (ret := (some .long)) (by decide) rfl ?_
  intro p e s m args below meth c s₁ B hml hv
  obtain ⟨rfl, hsz, hP, hK, hD0, hN⟩ := hv
  have hx := B.exec
  have hb := B.bytes
  have hr := B.returns
  have hts := atoms_spec (ws := wsX11_digest) B.pre
  have hown : s.vm.findClass RX11 = some m.cls := findClass_of_methodNamed B.named
  have hlocks := B.notSynchronized
  subst hsz
  have hD := hD0.self (sz := s.heap.size)
  generalize hAe : va_A ([(o1, .inr (11, [.ref o2, .ref o7, .ref o12, .ref o41, .ref o51, .ref o64, .ref o77, .ref o84, .ref o91, .ref o99, .ref o111, .ref o123, .int v125])), (o2, .inr (4, [.ref o3, .int v5, .int v6])), (o3, .inl (cI, 12, .inl fw4)), (o12, .inr (6, [.ref o13, .ref o18, .ref o32, .ref o34, .int v36, .int v37, .int v38, .int v39, .int v40])), (o32, .inl (cI, 12, .inl fw33)), (o7, .inr (10, [.ref o8, .int v10, .int v11])), (o8, .inl (cI, 12, .inl fw9)), (o34, .inl (cI, 12, .inl fw35))]) s.heap.size = A at hD ⊢
  have hA : ∀ q : Nat, s.heap.size ≤ q → A q := fun q h => by rw [← hAe]; exact Or.inr h
  have hS : va_S A s.heap s.heap [] := va_S.rf
  have hP : va_P (dC, dI) vwCl ([(o1, .inr (11, [.ref o2, .ref o7, .ref o12, .ref o41, .ref o51, .ref o64, .ref o77, .ref o84, .ref o91, .ref o99, .ref o111, .ref o123, .int v125])), (o2, .inr (4, [.ref o3, .int v5, .int v6])), (o3, .inl (cI, 12, .inl fw4)), (o12, .inr (6, [.ref o13, .ref o18, .ref o32, .ref o34, .int v36, .int v37, .int v38, .int v39, .int v40])), (o32, .inl (cI, 12, .inl fw33)), (o7, .inr (10, [.ref o8, .int v10, .int v11])), (o8, .inl (cI, 12, .inl fw9)), (o34, .inl (cI, 12, .inl fw35))]) s.heap := hP
  have hl := lv_entry ([.ref o1]) (n := 3) (Nat.le_of_ble_eq_true rfl)
  rw [lg_entry_eq]
  generalize (lg_sl ([.ref o1]) ++ List.replicate (3 - (lg_sl ([.ref o1])).length) Slot.unset).toArray = ls at hl ⊢
  have hl : lv_has ls 3 [(0, .ref o1)] := hl
  refine gen_Q (fun Q hQ => ?_)
  refine lv_ldc2 (v := 17) hx hb hown (hts (.constantLong RX11 275 (17)) (by decide +kernel)) dX11_digest_0 ?_
  refine lv_aload_n hx hb dX11_digest_3 rfl (lv_at hl 0 rfl) ?_
  refine va_get (D := (dC, dI)) (ci := 11) (v := .ref o2) (C := RX11) (T := TX11) (N := 13) hx hb hts iw_X11_digest_X11 hown hK hP 0 rfl rfl 0 (by decide) (hts (.fieldLink RX11 10 "HolelessHouse" "graph" "LHolelessHouse$Graph;") (by decide +kernel)) (fun _ h9 => h9) rfl dX11_digest_4 ?_
  refine va_getN (D := (dC, dI)) (ci := 4) (v := .int v5) (C := RX4) (T := TX4) (N := 3) hx hb hts iw_X11_digest_X4 hown hK hP 1 rfl rfl 1 (by decide) (hN.use ns_14) (fun _ h9 => h9) rfl dX11_digest_7 ?_
  refine kc_l (D := (dC, dI)) (S := Unit) (wc := []) (wr := [(o1, .inr (11, [.ref o2, .ref o7, .ref o12, .ref o41, .ref o51, .ref o64, .ref o77, .ref o84, .ref o91, .ref o99, .ref o111, .ref o123, .int v125])), (o2, .inr (4, [.ref o3, .int v5, .int v6])), (o3, .inl (cI, 12, .inl fw4)), (o12, .inr (6, [.ref o13, .ref o18, .ref o32, .ref o34, .int v36, .int v37, .int v38, .int v39, .int v40])), (o32, .inl (cI, 12, .inl fw33)), (o7, .inr (10, [.ref o8, .int v10, .int v11])), (o8, .inl (cI, 12, .inl fw9)), (o34, .inl (cI, 12, .inl fw35))]) (w1 := fun _ => []) (wn := fun _ => [(o1, .inr (11, [.ref o2, .ref o7, .ref o12, .ref o41, .ref o51, .ref o64, .ref o77, .ref o84, .ref o91, .ref o99, .ref o111, .ref o123, .int v125])), (o2, .inr (4, [.ref o3, .int v5, .int v6])), (o3, .inl (cI, 12, .inl fw4)), (o12, .inr (6, [.ref o13, .ref o18, .ref o32, .ref o34, .int v36, .int v37, .int v38, .int v39, .int v40])), (o32, .inl (cI, 12, .inl fw33)), (o7, .inr (10, [.ref o8, .int v10, .int v11])), (o8, .inl (cI, 12, .inl fw9)), (o34, .inl (cI, 12, .inl fw35))]) (fun hPc hDc => va_runS (As := [.long 17, .int v5]) (rest := []) ⟨hx, hb, hml, hown, hts⟩ (kX11_mix_1 l dC dI cI c2 cZ 17 v5 s.heap.size) (va_cwS 2 hts gX11_digest_X11_mix rfl rfl rfl (by decide +kernel) ⟨Nat.le_of_ble_eq_true rfl, Nat.le_of_ble_eq_true rfl⟩) (pre_S hPc hK hDc hN) rfl rfl hl.1 rfl (lv_room (Nat.le_of_ble_eq_true rfl)) dX11_digest_10 ⟨Nat.le_of_ble_eq_true rfl, Nat.le_of_ble_eq_true rfl⟩) hP hD hS hA [] [0, 1, 2, 3, 4, 5, 6, 7] [0, 1, 2, 3, 4, 5, 6, 7] rfl rfl (by decide) (by decide) (by decide) (by decide) (fun _ => rfl) (fun l1 _ H locs hq hP hD hS => ?_)
  have hP : va_P (dC, dI) vwCl ([(o1, .inr (11, [.ref o2, .ref o7, .ref o12, .ref o41, .ref o51, .ref o64, .ref o77, .ref o84, .ref o91, .ref o99, .ref o111, .ref o123, .int v125])), (o2, .inr (4, [.ref o3, .int v5, .int v6])), (o3, .inl (cI, 12, .inl fw4)), (o12, .inr (6, [.ref o13, .ref o18, .ref o32, .ref o34, .int v36, .int v37, .int v38, .int v39, .int v40])), (o32, .inl (cI, 12, .inl fw33)), (o7, .inr (10, [.ref o8, .int v10, .int v11])), (o8, .inl (cI, 12, .inl fw9)), (o34, .inl (cI, 12, .inl fw35))]) H := hP
  have hD : va_D A ([(o1, .inr (11, [.ref o2, .ref o7, .ref o12, .ref o41, .ref o51, .ref o64, .ref o77, .ref o84, .ref o91, .ref o99, .ref o111, .ref o123, .int v125])), (o2, .inr (4, [.ref o3, .int v5, .int v6])), (o3, .inl (cI, 12, .inl fw4)), (o12, .inr (6, [.ref o13, .ref o18, .ref o32, .ref o34, .int v36, .int v37, .int v38, .int v39, .int v40])), (o32, .inl (cI, 12, .inl fw33)), (o7, .inr (10, [.ref o8, .int v10, .int v11])), (o8, .inl (cI, 12, .inl fw9)), (o34, .inl (cI, 12, .inl fw35))]) := hD
  refine lv_lstore_n (lv' := [(1, .long l1), (0, .ref o1)]) hx hb dX11_digest_13 rfl hl (by decide) rfl (fun ls hl => ?_)
  refine lv_lload_n hx hb dX11_digest_14 rfl (lv_at hl 0 rfl) ?_
  refine lv_aload_n hx hb dX11_digest_15 rfl (lv_at hl 1 rfl) ?_
  refine va_get (D := (dC, dI)) (ci := 11) (v := .ref o2) (C := RX11) (T := TX11) (N := 13) hx hb hts iw_X11_digest_X11 hown hK hP 0 rfl rfl 0 (by decide) (hts (.fieldLink RX11 10 "HolelessHouse" "graph" "LHolelessHouse$Graph;") (by decide +kernel)) (fun _ h9 => h9) rfl dX11_digest_16 ?_
  refine va_getN (D := (dC, dI)) (ci := 4) (v := .ref o3) (C := RX4) (T := TX4) (N := 3) hx hb hts iw_X11_digest_X4 hown hK hP 1 rfl rfl 0 (by decide) (hN.use ns_5) (fun _ h9 => h9) rfl dX11_digest_19 ?_
  refine lv_aload_n hx hb dX11_digest_22 rfl (lv_at hl 1 rfl) ?_
  refine va_get (D := (dC, dI)) (ci := 11) (v := .ref o2) (C := RX11) (T := TX11) (N := 13) hx hb hts iw_X11_digest_X11 hown hK hP 0 rfl rfl 0 (by decide) (hts (.fieldLink RX11 10 "HolelessHouse" "graph" "LHolelessHouse$Graph;") (by decide +kernel)) (fun _ h9 => h9) rfl dX11_digest_23 ?_
  refine va_getN (D := (dC, dI)) (ci := 4) (v := .int v5) (C := RX4) (T := TX4) (N := 3) hx hb hts iw_X11_digest_X4 hown hK hP 1 rfl rfl 1 (by decide) (hN.use ns_14) (fun _ h9 => h9) rfl dX11_digest_26 ?_
  refine kc_l (D := (dC, dI)) (S := Unit) (wc := [(o3, .inl (cI, 12, .inl fw4))]) (wr := [(o1, .inr (11, [.ref o2, .ref o7, .ref o12, .ref o41, .ref o51, .ref o64, .ref o77, .ref o84, .ref o91, .ref o99, .ref o111, .ref o123, .int v125])), (o2, .inr (4, [.ref o3, .int v5, .int v6])), (o12, .inr (6, [.ref o13, .ref o18, .ref o32, .ref o34, .int v36, .int v37, .int v38, .int v39, .int v40])), (o32, .inl (cI, 12, .inl fw33)), (o7, .inr (10, [.ref o8, .int v10, .int v11])), (o8, .inl (cI, 12, .inl fw9)), (o34, .inl (cI, 12, .inl fw35))]) (w1 := fun _ => [(o3, .inl (cI, 12, .inl fw4))]) (wn := fun _ => [(o1, .inr (11, [.ref o2, .ref o7, .ref o12, .ref o41, .ref o51, .ref o64, .ref o77, .ref o84, .ref o91, .ref o99, .ref o111, .ref o123, .int v125])), (o2, .inr (4, [.ref o3, .int v5, .int v6])), (o3, .inl (cI, 12, .inl fw4)), (o12, .inr (6, [.ref o13, .ref o18, .ref o32, .ref o34, .int v36, .int v37, .int v38, .int v39, .int v40])), (o32, .inl (cI, 12, .inl fw33)), (o7, .inr (10, [.ref o8, .int v10, .int v11])), (o8, .inl (cI, 12, .inl fw9)), (o34, .inl (cI, 12, .inl fw35))]) (fun hPc hDc => va_runS (As := [.long l1, .ref o3, .int v5]) (rest := []) ⟨hx, hb, hml, hown, hts⟩ (kX11_mixAll_1 l dC dI cI c2 cZ o3 l1 fw4 v5 H.size fw4_b) (va_cwS 3 hts gX11_digest_X11_mixAll rfl rfl rfl (by decide +kernel) ⟨Nat.le_of_ble_eq_true rfl, Nat.le_of_ble_eq_true rfl⟩) (pre_S hPc hK hDc hN) rfl rfl hl.1 rfl (lv_room (Nat.le_of_ble_eq_true rfl)) dX11_digest_29 ⟨Nat.le_of_ble_eq_true rfl, Nat.le_of_ble_eq_true rfl⟩) hP hD hS hA [2] [0, 1, 3, 4, 5, 6, 7] [0, 1, 7, 2, 3, 4, 5, 6] rfl rfl (by decide) (by decide) (by decide) (by decide) (fun _ => rfl) (fun l2 _ H locs hq hP hD hS => ?_)
  have hP : va_P (dC, dI) vwCl ([(o1, .inr (11, [.ref o2, .ref o7, .ref o12, .ref o41, .ref o51, .ref o64, .ref o77, .ref o84, .ref o91, .ref o99, .ref o111, .ref o123, .int v125])), (o2, .inr (4, [.ref o3, .int v5, .int v6])), (o3, .inl (cI, 12, .inl fw4)), (o12, .inr (6, [.ref o13, .ref o18, .ref o32, .ref o34, .int v36, .int v37, .int v38, .int v39, .int v40])), (o32, .inl (cI, 12, .inl fw33)), (o7, .inr (10, [.ref o8, .int v10, .int v11])), (o8, .inl (cI, 12, .inl fw9)), (o34, .inl (cI, 12, .inl fw35))]) H := hP
  have hD : va_D A ([(o1, .inr (11, [.ref o2, .ref o7, .ref o12, .ref o41, .ref o51, .ref o64, .ref o77, .ref o84, .ref o91, .ref o99, .ref o111, .ref o123, .int v125])), (o2, .inr (4, [.ref o3, .int v5, .int v6])), (o3, .inl (cI, 12, .inl fw4)), (o12, .inr (6, [.ref o13, .ref o18, .ref o32, .ref o34, .int v36, .int v37, .int v38, .int v39, .int v40])), (o32, .inl (cI, 12, .inl fw33)), (o7, .inr (10, [.ref o8, .int v10, .int v11])), (o8, .inl (cI, 12, .inl fw9)), (o34, .inl (cI, 12, .inl fw35))]) := hD
  refine lv_lstore_n (lv' := [(1, .long l2), (0, .ref o1)]) hx hb dX11_digest_32 rfl hl (by decide) rfl (fun ls hl => ?_)
  refine lv_lload_n hx hb dX11_digest_33 rfl (lv_at hl 0 rfl) ?_
  refine lv_aload_n hx hb dX11_digest_34 rfl (lv_at hl 1 rfl) ?_
  refine va_get (D := (dC, dI)) (ci := 11) (v := .ref o12) (C := RX11) (T := TX11) (N := 13) hx hb hts iw_X11_digest_X11 hown hK hP 0 rfl rfl 2 (by decide) (hts (.fieldLink RX11 26 "HolelessHouse" "ordering" "LHolelessHouse$Ordering;") (by decide +kernel)) (fun _ h9 => h9) rfl dX11_digest_35 ?_
  refine va_getN (D := (dC, dI)) (ci := 6) (v := .ref o32) (C := RX6) (T := TX6) (N := 9) hx hb hts iw_X11_digest_X6 hown hK hP 3 rfl rfl 2 (by decide) (hN.use ns_25) (fun _ h9 => h9) rfl dX11_digest_38 ?_
  refine lv_aload_n hx hb dX11_digest_41 rfl (lv_at hl 1 rfl) ?_
  refine va_get (D := (dC, dI)) (ci := 11) (v := .ref o12) (C := RX11) (T := TX11) (N := 13) hx hb hts iw_X11_digest_X11 hown hK hP 0 rfl rfl 2 (by decide) (hts (.fieldLink RX11 26 "HolelessHouse" "ordering" "LHolelessHouse$Ordering;") (by decide +kernel)) (fun _ h9 => h9) rfl dX11_digest_42 ?_
  refine kc_i (D := (dC, dI)) (S := Unit) (wc := [(o12, .inr (6, [.ref o13, .ref o18, .ref o32, .ref o34, .int v36, .int v37, .int v38, .int v39, .int v40]))]) (wr := [(o1, .inr (11, [.ref o2, .ref o7, .ref o12, .ref o41, .ref o51, .ref o64, .ref o77, .ref o84, .ref o91, .ref o99, .ref o111, .ref o123, .int v125])), (o2, .inr (4, [.ref o3, .int v5, .int v6])), (o3, .inl (cI, 12, .inl fw4)), (o32, .inl (cI, 12, .inl fw33)), (o7, .inr (10, [.ref o8, .int v10, .int v11])), (o8, .inl (cI, 12, .inl fw9)), (o34, .inl (cI, 12, .inl fw35))]) (w1 := fun _ => [(o12, .inr (6, [.ref o13, .ref o18, .ref o32, .ref o34, .int v36, .int v37, .int v38, .int v39, .int v40]))]) (wn := fun _ => [(o1, .inr (11, [.ref o2, .ref o7, .ref o12, .ref o41, .ref o51, .ref o64, .ref o77, .ref o84, .ref o91, .ref o99, .ref o111, .ref o123, .int v125])), (o2, .inr (4, [.ref o3, .int v5, .int v6])), (o3, .inl (cI, 12, .inl fw4)), (o12, .inr (6, [.ref o13, .ref o18, .ref o32, .ref o34, .int v36, .int v37, .int v38, .int v39, .int v40])), (o32, .inl (cI, 12, .inl fw33)), (o7, .inr (10, [.ref o8, .int v10, .int v11])), (o8, .inl (cI, 12, .inl fw9)), (o34, .inl (cI, 12, .inl fw35))]) (fun hPc hDc => va_runVN (As := []) (rest := [.ref o32, .long l2]) ⟨hx, hb, hml, hown, hts⟩ (kX6_length_1 l dC dI cI c2 cZ o12 o13 o18 o32 o34 v36 v37 v38 v39 v40 H.size v36_h v37_h v38_h) ⟨va_cnB 0 hts gX11_digest_X6_length_n181 rfl rfl rfl (hN.1 _ ns_102) (hts (.initialized RX6) (by decide +kernel)) (by decide +kernel) ⟨Nat.le_of_ble_eq_true rfl, Nat.le_of_ble_eq_true rfl⟩, (hts (.instanceMethod yX6_length) (by decide +kernel)), (hts (.selects RX6 yX6_length yX6_length) (by decide +kernel))⟩ (pre_V hPc hK hDc hN (ci := 6) (q0 := 0) rfl rfl) rfl rfl hl.1 rfl (lv_room (Nat.le_of_ble_eq_true rfl)) dX11_digest_45 ⟨Nat.le_of_ble_eq_true rfl, Nat.le_of_ble_eq_true rfl⟩) hP hD hS hA [3] [0, 1, 2, 4, 5, 6, 7] [0, 1, 2, 7, 3, 4, 5, 6] rfl rfl (by decide) (by decide) (by decide) (by decide) (fun _ => rfl) (fun x3 _ H locs hq hP hD hS => ?_)
  have x3_h := hq
  have hP : va_P (dC, dI) vwCl ([(o1, .inr (11, [.ref o2, .ref o7, .ref o12, .ref o41, .ref o51, .ref o64, .ref o77, .ref o84, .ref o91, .ref o99, .ref o111, .ref o123, .int v125])), (o2, .inr (4, [.ref o3, .int v5, .int v6])), (o3, .inl (cI, 12, .inl fw4)), (o12, .inr (6, [.ref o13, .ref o18, .ref o32, .ref o34, .int v36, .int v37, .int v38, .int v39, .int v40])), (o32, .inl (cI, 12, .inl fw33)), (o7, .inr (10, [.ref o8, .int v10, .int v11])), (o8, .inl (cI, 12, .inl fw9)), (o34, .inl (cI, 12, .inl fw35))]) H := hP
  have hD : va_D A ([(o1, .inr (11, [.ref o2, .ref o7, .ref o12, .ref o41, .ref o51, .ref o64, .ref o77, .ref o84, .ref o91, .ref o99, .ref o111, .ref o123, .int v125])), (o2, .inr (4, [.ref o3, .int v5, .int v6])), (o3, .inl (cI, 12, .inl fw4)), (o12, .inr (6, [.ref o13, .ref o18, .ref o32, .ref o34, .int v36, .int v37, .int v38, .int v39, .int v40])), (o32, .inl (cI, 12, .inl fw33)), (o7, .inr (10, [.ref o8, .int v10, .int v11])), (o8, .inl (cI, 12, .inl fw9)), (o34, .inl (cI, 12, .inl fw35))]) := hD
  refine kc_l (D := (dC, dI)) (S := Unit) (wc := [(o32, .inl (cI, 12, .inl fw33))]) (wr := [(o1, .inr (11, [.ref o2, .ref o7, .ref o12, .ref o41, .ref o51, .ref o64, .ref o77, .ref o84, .ref o91, .ref o99, .ref o111, .ref o123, .int v125])), (o2, .inr (4, [.ref o3, .int v5, .int v6])), (o3, .inl (cI, 12, .inl fw4)), (o12, .inr (6, [.ref o13, .ref o18, .ref o32, .ref o34, .int v36, .int v37, .int v38, .int v39, .int v40])), (o7, .inr (10, [.ref o8, .int v10, .int v11])), (o8, .inl (cI, 12, .inl fw9)), (o34, .inl (cI, 12, .inl fw35))]) (w1 := fun _ => [(o32, .inl (cI, 12, .inl fw33))]) (wn := fun _ => [(o1, .inr (11, [.ref o2, .ref o7, .ref o12, .ref o41, .ref o51, .ref o64, .ref o77, .ref o84, .ref o91, .ref o99, .ref o111, .ref o123, .int v125])), (o2, .inr (4, [.ref o3, .int v5, .int v6])), (o3, .inl (cI, 12, .inl fw4)), (o12, .inr (6, [.ref o13, .ref o18, .ref o32, .ref o34, .int v36, .int v37, .int v38, .int v39, .int v40])), (o32, .inl (cI, 12, .inl fw33)), (o7, .inr (10, [.ref o8, .int v10, .int v11])), (o8, .inl (cI, 12, .inl fw9)), (o34, .inl (cI, 12, .inl fw35))]) (fun hPc hDc => va_runS (As := [.long l2, .ref o32, .int x3]) (rest := []) ⟨hx, hb, hml, hown, hts⟩ (kX11_mixAll_2 l dC dI cI c2 cZ o32 l2 fw33 x3 H.size fw33_b) (va_cwS 3 hts gX11_digest_X11_mixAll rfl rfl rfl (by decide +kernel) ⟨Nat.le_of_ble_eq_true rfl, Nat.le_of_ble_eq_true rfl⟩) (pre_S hPc hK hDc hN) rfl rfl hl.1 rfl (lv_room (Nat.le_of_ble_eq_true rfl)) dX11_digest_48 ⟨Nat.le_of_ble_eq_true rfl, Nat.le_of_ble_eq_true rfl⟩) hP hD hS hA [4] [0, 1, 2, 3, 5, 6, 7] [0, 1, 2, 3, 7, 4, 5, 6] rfl rfl (by decide) (by decide) (by decide) (by decide) (fun _ => rfl) (fun l4 _ H locs hq hP hD hS => ?_)
  have hP : va_P (dC, dI) vwCl ([(o1, .inr (11, [.ref o2, .ref o7, .ref o12, .ref o41, .ref o51, .ref o64, .ref o77, .ref o84, .ref o91, .ref o99, .ref o111, .ref o123, .int v125])), (o2, .inr (4, [.ref o3, .int v5, .int v6])), (o3, .inl (cI, 12, .inl fw4)), (o12, .inr (6, [.ref o13, .ref o18, .ref o32, .ref o34, .int v36, .int v37, .int v38, .int v39, .int v40])), (o32, .inl (cI, 12, .inl fw33)), (o7, .inr (10, [.ref o8, .int v10, .int v11])), (o8, .inl (cI, 12, .inl fw9)), (o34, .inl (cI, 12, .inl fw35))]) H := hP
  have hD : va_D A ([(o1, .inr (11, [.ref o2, .ref o7, .ref o12, .ref o41, .ref o51, .ref o64, .ref o77, .ref o84, .ref o91, .ref o99, .ref o111, .ref o123, .int v125])), (o2, .inr (4, [.ref o3, .int v5, .int v6])), (o3, .inl (cI, 12, .inl fw4)), (o12, .inr (6, [.ref o13, .ref o18, .ref o32, .ref o34, .int v36, .int v37, .int v38, .int v39, .int v40])), (o32, .inl (cI, 12, .inl fw33)), (o7, .inr (10, [.ref o8, .int v10, .int v11])), (o8, .inl (cI, 12, .inl fw9)), (o34, .inl (cI, 12, .inl fw35))]) := hD
  refine lv_lstore_n (lv' := [(1, .long l4), (0, .ref o1)]) hx hb dX11_digest_51 rfl hl (by decide) rfl (fun ls hl => ?_)
  refine lv_lload_n hx hb dX11_digest_52 rfl (lv_at hl 0 rfl) ?_
  refine lv_aload_n hx hb dX11_digest_53 rfl (lv_at hl 1 rfl) ?_
  refine va_get (D := (dC, dI)) (ci := 11) (v := .ref o7) (C := RX11) (T := TX11) (N := 13) hx hb hts iw_X11_digest_X11 hown hK hP 0 rfl rfl 1 (by decide) (hts (.fieldLink RX11 19 "HolelessHouse" "table" "LHolelessHouse$Table;") (by decide +kernel)) (fun _ h9 => h9) rfl dX11_digest_54 ?_
  refine va_getN (D := (dC, dI)) (ci := 10) (v := .int v10) (C := RX10) (T := TX10) (N := 3) hx hb hts iw_X11_digest_X10 hown hK hP 5 rfl rfl 1 (by decide) (hN.use ns_22) (fun _ h9 => h9) rfl dX11_digest_57 ?_
  refine kc_l (D := (dC, dI)) (S := Unit) (wc := []) (wr := [(o1, .inr (11, [.ref o2, .ref o7, .ref o12, .ref o41, .ref o51, .ref o64, .ref o77, .ref o84, .ref o91, .ref o99, .ref o111, .ref o123, .int v125])), (o2, .inr (4, [.ref o3, .int v5, .int v6])), (o3, .inl (cI, 12, .inl fw4)), (o12, .inr (6, [.ref o13, .ref o18, .ref o32, .ref o34, .int v36, .int v37, .int v38, .int v39, .int v40])), (o32, .inl (cI, 12, .inl fw33)), (o7, .inr (10, [.ref o8, .int v10, .int v11])), (o8, .inl (cI, 12, .inl fw9)), (o34, .inl (cI, 12, .inl fw35))]) (w1 := fun _ => []) (wn := fun _ => [(o1, .inr (11, [.ref o2, .ref o7, .ref o12, .ref o41, .ref o51, .ref o64, .ref o77, .ref o84, .ref o91, .ref o99, .ref o111, .ref o123, .int v125])), (o2, .inr (4, [.ref o3, .int v5, .int v6])), (o3, .inl (cI, 12, .inl fw4)), (o12, .inr (6, [.ref o13, .ref o18, .ref o32, .ref o34, .int v36, .int v37, .int v38, .int v39, .int v40])), (o32, .inl (cI, 12, .inl fw33)), (o7, .inr (10, [.ref o8, .int v10, .int v11])), (o8, .inl (cI, 12, .inl fw9)), (o34, .inl (cI, 12, .inl fw35))]) (fun hPc hDc => va_runS (As := [.long l4, .int v10]) (rest := []) ⟨hx, hb, hml, hown, hts⟩ (kX11_mix_1 l dC dI cI c2 cZ l4 v10 H.size) (va_cwS 2 hts gX11_digest_X11_mix rfl rfl rfl (by decide +kernel) ⟨Nat.le_of_ble_eq_true rfl, Nat.le_of_ble_eq_true rfl⟩) (pre_S hPc hK hDc hN) rfl rfl hl.1 rfl (lv_room (Nat.le_of_ble_eq_true rfl)) dX11_digest_60 ⟨Nat.le_of_ble_eq_true rfl, Nat.le_of_ble_eq_true rfl⟩) hP hD hS hA [] [0, 1, 2, 3, 4, 5, 6, 7] [0, 1, 2, 3, 4, 5, 6, 7] rfl rfl (by decide) (by decide) (by decide) (by decide) (fun _ => rfl) (fun l5 _ H locs hq hP hD hS => ?_)
  have hP : va_P (dC, dI) vwCl ([(o1, .inr (11, [.ref o2, .ref o7, .ref o12, .ref o41, .ref o51, .ref o64, .ref o77, .ref o84, .ref o91, .ref o99, .ref o111, .ref o123, .int v125])), (o2, .inr (4, [.ref o3, .int v5, .int v6])), (o3, .inl (cI, 12, .inl fw4)), (o12, .inr (6, [.ref o13, .ref o18, .ref o32, .ref o34, .int v36, .int v37, .int v38, .int v39, .int v40])), (o32, .inl (cI, 12, .inl fw33)), (o7, .inr (10, [.ref o8, .int v10, .int v11])), (o8, .inl (cI, 12, .inl fw9)), (o34, .inl (cI, 12, .inl fw35))]) H := hP
  have hD : va_D A ([(o1, .inr (11, [.ref o2, .ref o7, .ref o12, .ref o41, .ref o51, .ref o64, .ref o77, .ref o84, .ref o91, .ref o99, .ref o111, .ref o123, .int v125])), (o2, .inr (4, [.ref o3, .int v5, .int v6])), (o3, .inl (cI, 12, .inl fw4)), (o12, .inr (6, [.ref o13, .ref o18, .ref o32, .ref o34, .int v36, .int v37, .int v38, .int v39, .int v40])), (o32, .inl (cI, 12, .inl fw33)), (o7, .inr (10, [.ref o8, .int v10, .int v11])), (o8, .inl (cI, 12, .inl fw9)), (o34, .inl (cI, 12, .inl fw35))]) := hD
  refine lv_lstore_n (lv' := [(1, .long l5), (0, .ref o1)]) hx hb dX11_digest_63 rfl hl (by decide) rfl (fun ls hl => ?_)
  refine lv_lload_n hx hb dX11_digest_64 rfl (lv_at hl 0 rfl) ?_
  refine lv_aload_n hx hb dX11_digest_65 rfl (lv_at hl 1 rfl) ?_
  refine va_get (D := (dC, dI)) (ci := 11) (v := .ref o7) (C := RX11) (T := TX11) (N := 13) hx hb hts iw_X11_digest_X11 hown hK hP 0 rfl rfl 1 (by decide) (hts (.fieldLink RX11 19 "HolelessHouse" "table" "LHolelessHouse$Table;") (by decide +kernel)) (fun _ h9 => h9) rfl dX11_digest_66 ?_
  refine va_getN (D := (dC, dI)) (ci := 10) (v := .ref o8) (C := RX10) (T := TX10) (N := 3) hx hb hts iw_X11_digest_X10 hown hK hP 5 rfl rfl 0 (by decide) (hN.use ns_21) (fun _ h9 => h9) rfl dX11_digest_69 ?_
  refine lv_bipush (v := 12) hx hb dX11_digest_72 (by decide) ?_
  refine kc_l (D := (dC, dI)) (S := Unit) (wc := [(o8, .inl (cI, 12, .inl fw9))]) (wr := [(o1, .inr (11, [.ref o2, .ref o7, .ref o12, .ref o41, .ref o51, .ref o64, .ref o77, .ref o84, .ref o91, .ref o99, .ref o111, .ref o123, .int v125])), (o2, .inr (4, [.ref o3, .int v5, .int v6])), (o3, .inl (cI, 12, .inl fw4)), (o12, .inr (6, [.ref o13, .ref o18, .ref o32, .ref o34, .int v36, .int v37, .int v38, .int v39, .int v40])), (o32, .inl (cI, 12, .inl fw33)), (o7, .inr (10, [.ref o8, .int v10, .int v11])), (o34, .inl (cI, 12, .inl fw35))]) (w1 := fun _ => [(o8, .inl (cI, 12, .inl fw9))]) (wn := fun _ => [(o1, .inr (11, [.ref o2, .ref o7, .ref o12, .ref o41, .ref o51, .ref o64, .ref o77, .ref o84, .ref o91, .ref o99, .ref o111, .ref o123, .int v125])), (o2, .inr (4, [.ref o3, .int v5, .int v6])), (o3, .inl (cI, 12, .inl fw4)), (o12, .inr (6, [.ref o13, .ref o18, .ref o32, .ref o34, .int v36, .int v37, .int v38, .int v39, .int v40])), (o32, .inl (cI, 12, .inl fw33)), (o7, .inr (10, [.ref o8, .int v10, .int v11])), (o8, .inl (cI, 12, .inl fw9)), (o34, .inl (cI, 12, .inl fw35))]) (fun hPc hDc => va_runS (As := [.long l5, .ref o8, .int 12]) (rest := []) ⟨hx, hb, hml, hown, hts⟩ (kX11_mixAll_3 l dC dI cI c2 cZ o8 l5 fw9 12 H.size fw9_b) (va_cwS 3 hts gX11_digest_X11_mixAll rfl rfl rfl (by decide +kernel) ⟨Nat.le_of_ble_eq_true rfl, Nat.le_of_ble_eq_true rfl⟩) (pre_S hPc hK hDc hN) rfl rfl hl.1 rfl (lv_room (Nat.le_of_ble_eq_true rfl)) dX11_digest_74 ⟨Nat.le_of_ble_eq_true rfl, Nat.le_of_ble_eq_true rfl⟩) hP hD hS hA [6] [0, 1, 2, 3, 4, 5, 7] [0, 1, 2, 3, 4, 5, 7, 6] rfl rfl (by decide) (by decide) (by decide) (by decide) (fun _ => rfl) (fun l6 _ H locs hq hP hD hS => ?_)
  have hP : va_P (dC, dI) vwCl ([(o1, .inr (11, [.ref o2, .ref o7, .ref o12, .ref o41, .ref o51, .ref o64, .ref o77, .ref o84, .ref o91, .ref o99, .ref o111, .ref o123, .int v125])), (o2, .inr (4, [.ref o3, .int v5, .int v6])), (o3, .inl (cI, 12, .inl fw4)), (o12, .inr (6, [.ref o13, .ref o18, .ref o32, .ref o34, .int v36, .int v37, .int v38, .int v39, .int v40])), (o32, .inl (cI, 12, .inl fw33)), (o7, .inr (10, [.ref o8, .int v10, .int v11])), (o8, .inl (cI, 12, .inl fw9)), (o34, .inl (cI, 12, .inl fw35))]) H := hP
  have hD : va_D A ([(o1, .inr (11, [.ref o2, .ref o7, .ref o12, .ref o41, .ref o51, .ref o64, .ref o77, .ref o84, .ref o91, .ref o99, .ref o111, .ref o123, .int v125])), (o2, .inr (4, [.ref o3, .int v5, .int v6])), (o3, .inl (cI, 12, .inl fw4)), (o12, .inr (6, [.ref o13, .ref o18, .ref o32, .ref o34, .int v36, .int v37, .int v38, .int v39, .int v40])), (o32, .inl (cI, 12, .inl fw33)), (o7, .inr (10, [.ref o8, .int v10, .int v11])), (o8, .inl (cI, 12, .inl fw9)), (o34, .inl (cI, 12, .inl fw35))]) := hD
  refine lv_lstore_n (lv' := [(1, .long l6), (0, .ref o1)]) hx hb dX11_digest_77 rfl hl (by decide) rfl (fun ls hl => ?_)
  refine lv_lload_n hx hb dX11_digest_78 rfl (lv_at hl 0 rfl) ?_
  refine lv_aload_n hx hb dX11_digest_79 rfl (lv_at hl 1 rfl) ?_
  refine va_get (D := (dC, dI)) (ci := 11) (v := .ref o12) (C := RX11) (T := TX11) (N := 13) hx hb hts iw_X11_digest_X11 hown hK hP 0 rfl rfl 2 (by decide) (hts (.fieldLink RX11 26 "HolelessHouse" "ordering" "LHolelessHouse$Ordering;") (by decide +kernel)) (fun _ h9 => h9) rfl dX11_digest_80 ?_
  refine va_getN (D := (dC, dI)) (ci := 6) (v := .ref o34) (C := RX6) (T := TX6) (N := 9) hx hb hts iw_X11_digest_X6 hown hK hP 3 rfl rfl 3 (by decide) (hN.use ns_26) (fun _ h9 => h9) rfl dX11_digest_83 ?_
  refine lv_aload_n hx hb dX11_digest_86 rfl (lv_at hl 1 rfl) ?_
  refine va_get (D := (dC, dI)) (ci := 11) (v := .ref o12) (C := RX11) (T := TX11) (N := 13) hx hb hts iw_X11_digest_X11 hown hK hP 0 rfl rfl 2 (by decide) (hts (.fieldLink RX11 26 "HolelessHouse" "ordering" "LHolelessHouse$Ordering;") (by decide +kernel)) (fun _ h9 => h9) rfl dX11_digest_87 ?_
  refine va_getN (D := (dC, dI)) (ci := 6) (v := .int v36) (C := RX6) (T := TX6) (N := 9) hx hb hts iw_X11_digest_X6 hown hK hP 3 rfl rfl 4 (by decide) (hN.use ns_27) (fun _ h9 => h9) rfl dX11_digest_90 ?_
  refine kc_l (D := (dC, dI)) (S := Unit) (wc := [(o34, .inl (cI, 12, .inl fw35))]) (wr := [(o1, .inr (11, [.ref o2, .ref o7, .ref o12, .ref o41, .ref o51, .ref o64, .ref o77, .ref o84, .ref o91, .ref o99, .ref o111, .ref o123, .int v125])), (o2, .inr (4, [.ref o3, .int v5, .int v6])), (o3, .inl (cI, 12, .inl fw4)), (o12, .inr (6, [.ref o13, .ref o18, .ref o32, .ref o34, .int v36, .int v37, .int v38, .int v39, .int v40])), (o32, .inl (cI, 12, .inl fw33)), (o7, .inr (10, [.ref o8, .int v10, .int v11])), (o8, .inl (cI, 12, .inl fw9))]) (w1 := fun _ => [(o34, .inl (cI, 12, .inl fw35))]) (wn := fun _ => [(o1, .inr (11, [.ref o2, .ref o7, .ref o12, .ref o41, .ref o51, .ref o64, .ref o77, .ref o84, .ref o91, .ref o99, .ref o111, .ref o123, .int v125])), (o2, .inr (4, [.ref o3, .int v5, .int v6])), (o3, .inl (cI, 12, .inl fw4)), (o12, .inr (6, [.ref o13, .ref o18, .ref o32, .ref o34, .int v36, .int v37, .int v38, .int v39, .int v40])), (o32, .inl (cI, 12, .inl fw33)), (o7, .inr (10, [.ref o8, .int v10, .int v11])), (o8, .inl (cI, 12, .inl fw9)), (o34, .inl (cI, 12, .inl fw35))]) (fun hPc hDc => va_runS (As := [.long l6, .ref o34, .int v36]) (rest := []) ⟨hx, hb, hml, hown, hts⟩ (kX11_mixAll_2 l dC dI cI c2 cZ o34 l6 fw35 v36 H.size fw35_b) (va_cwS 3 hts gX11_digest_X11_mixAll rfl rfl rfl (by decide +kernel) ⟨Nat.le_of_ble_eq_true rfl, Nat.le_of_ble_eq_true rfl⟩) (pre_S hPc hK hDc hN) rfl rfl hl.1 rfl (lv_room (Nat.le_of_ble_eq_true rfl)) dX11_digest_93 ⟨Nat.le_of_ble_eq_true rfl, Nat.le_of_ble_eq_true rfl⟩) hP hD hS hA [7] [0, 1, 2, 3, 4, 5, 6] [0, 1, 2, 3, 4, 5, 6, 7] rfl rfl (by decide) (by decide) (by decide) (by decide) (fun _ => rfl) (fun l7 _ H locs hq hP hD hS => ?_)
  have hP : va_P (dC, dI) vwCl ([(o1, .inr (11, [.ref o2, .ref o7, .ref o12, .ref o41, .ref o51, .ref o64, .ref o77, .ref o84, .ref o91, .ref o99, .ref o111, .ref o123, .int v125])), (o2, .inr (4, [.ref o3, .int v5, .int v6])), (o3, .inl (cI, 12, .inl fw4)), (o12, .inr (6, [.ref o13, .ref o18, .ref o32, .ref o34, .int v36, .int v37, .int v38, .int v39, .int v40])), (o32, .inl (cI, 12, .inl fw33)), (o7, .inr (10, [.ref o8, .int v10, .int v11])), (o8, .inl (cI, 12, .inl fw9)), (o34, .inl (cI, 12, .inl fw35))]) H := hP
  have hD : va_D A ([(o1, .inr (11, [.ref o2, .ref o7, .ref o12, .ref o41, .ref o51, .ref o64, .ref o77, .ref o84, .ref o91, .ref o99, .ref o111, .ref o123, .int v125])), (o2, .inr (4, [.ref o3, .int v5, .int v6])), (o3, .inl (cI, 12, .inl fw4)), (o12, .inr (6, [.ref o13, .ref o18, .ref o32, .ref o34, .int v36, .int v37, .int v38, .int v39, .int v40])), (o32, .inl (cI, 12, .inl fw33)), (o7, .inr (10, [.ref o8, .int v10, .int v11])), (o8, .inl (cI, 12, .inl fw9)), (o34, .inl (cI, 12, .inl fw35))]) := hD
  rw [hQ]
  exact W.lret (v := l7) hx hb hr (fun t ht hW => ⟨⟨l7, (), rfl, trivial, by rw [ht]; exact hP, va_K.moved hW.alike hK, hD⟩, hS.F ht⟩) hS.2.2 dX11_digest_96
