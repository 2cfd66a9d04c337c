set_option maxHeartbeats 4000000 in
set_option maxRecDepth 100000 in
theorem kxJ7_fill_53178_5 (l : Launch) (dC : Nat → ClassId) (dI : Nat → Nat → Nat) (cI c2 cZ : ClassId) (o1 : Nat) (fw2 : Nat → Int32) (a1 : Int32) (sz : Nat) (fw2_b : Bd 12 0 4095 fw2) (a1_h : Iv 0 0 a1) : Met l yJ7_fill_53178 wsJ7_fill_53178 ({ frames := 0, cells := 0, slots := 0, locals := 0 }) (va_Pc [.ref o1, .int a1] (wPre (dC, dI) [(cI, .int), (c2, .array .int), (cZ, .boolean)] ([(o1, .inl (cI, 12, .inl fw2))]) sz)) (va_Qv (fun (u : (Nat → Int32)) => Bd 12 0 4095 u ∧ (∀ i : Nat, i < 12 → u i = a1)) (fun u t => wPost (dC, dI) [(cI, .int), (c2, .array .int), (cZ, .boolean)] (va_A ([(o1, .inl (cI, 12, .inl fw2))]) sz) ([(o1, .inl (cI, 12, .inl u))]) t) (va_A ([(o1, .inl (cI, 12, .inl fw2))]) sz)) 0 0 (va_A ([(o1, .inl (cI, 12, .inl fw2))]) sz) := by
  refine Met.ofW (cc := cJ7_fill_53178) (maxL := 4) (ret := none) (by decide) rfl ?_
  intro p e s m args below meth c s₁ B hml hv
  obtain ⟨rfl, hsz, hP, hK, hD0, hN⟩ := hv
  have hx := B.exec
  have hb := B.bytes
  have hr := B.returns
  have hts := atoms_spec (ws := wsJ7_fill_53178) B.pre
  have hown : s.vm.findClass RJ7 = some m.cls := findClass_of_methodNamed B.named
  have hlocks := B.notSynchronized
  subst hsz
  have hD := hD0.self (sz := s.heap.size)
  generalize hAe : va_A ([(o1, .inl (cI, 12, .inl fw2))]) s.heap.size = A at hD ⊢
  have hA : ∀ q : Nat, s.heap.size ≤ q → A q := fun q h => by rw [← hAe]; exact Or.inr h
  have hS : va_S A s.heap s.heap [] := va_S.rf
  have hP : va_P (dC, dI) vwCl ([(o1, .inl (cI, 12, .inl fw2))]) s.heap := hP
  have hl := lv_entry ([.ref o1, .int a1]) (n := 4) (Nat.le_of_ble_eq_true rfl)
  rw [lg_entry_eq]
  generalize (lg_sl ([.ref o1, .int a1]) ++ List.replicate (4 - (lg_sl ([.ref o1, .int a1])).length) Slot.unset).toArray = ls at hl ⊢
  have hl : lv_has ls 4 [(0, .ref o1), (1, .int a1)] := hl
  refine gen_Q (fun Q hQ => ?_)
  refine lv_iconst (v := 0) hx hb dJ7_fill_53178_0 (by decide) ?_
  refine lv_istore_n (lv' := [(2, .int 0), (0, .ref o1), (1, .int a1)]) hx hb dJ7_fill_53178_1 rfl hl (by decide) rfl (fun ls hl => ?_)
  refine lv_aload_n hx hb dJ7_fill_53178_2 rfl (lv_at hl 1 rfl) ?_
  refine va_alen (v := 12) hx hb hK hP 0 0 rfl rfl (by show Int32.ofNat 12 = 12; decide +kernel) dJ7_fill_53178_3 ?_
  refine lv_istore_n (lv' := [(3, .int 12), (2, .int 0), (0, .ref o1), (1, .int a1)]) hx hb dJ7_fill_53178_4 rfl hl (by decide) rfl (fun ls hl => ?_)
  have L1 : ∀ (N : Nat) (x33 : Int32) (f34 : Nat → Int32) (H : Heap) (locs : List Loc) (ls : Array Slot), (12 - x33.toInt).toNat < N → Iv 0 12 x33 → Bd 12 0 4095 f34 → (∀ i : Nat, i < (Int32.toNatClampNeg x33) → f34 i = a1) → va_P (dC, dI) vwCl ([(o1, .inl (cI, 12, .inl f34))]) H → va_D A ([(o1, .inl (cI, 12, .inl f34))]) → va_S A s.heap H locs → lv_has ls 4 [(3, .int 12), (2, .int x33), (0, .ref o1), (1, .int a1)] → W p l e ({ frames := 0, cells := 0, slots := 0, locals := 0 }) s m ([.ref o1, .int a1] : List Value).toArray below meth c H locs 0 0 Q (F0 m 5 ls []) := by
    intro N
    induction N with
    | zero =>
      intro x33 f34 H locs ls hM
      exact absurd hM (Nat.not_lt_zero _)
    | succ N ih1 =>
      intro x33 f34 H locs ls hM1 x33_h f34_b iv1_0 hP hD hS hl
      refine lv_iload_n hx hb dJ7_fill_53178_5 rfl (lv_at hl 1 rfl) ?_
      refine lv_iload_n hx hb dJ7_fill_53178_6 rfl (lv_at hl 0 rfl) ?_
      refine lv_icmp_ge (tgt := 20) hx hb dJ7_fill_53178_7 (by decide) (fun h35 => ?_) (fun h35 => ?_)
      ·
        have qh35 := le_i h35
        have j36 : Iv 12 12 x33 := r_ler qh35 ik_12 x33_h (by decide)
        rw [hQ]
        exact W.vret hx hb hr (fun t ht hW => ⟨⟨f34, rfl, ⟨f34_b, (fil_e iv1_0 qh35)⟩, by rw [ht]; exact hP, va_K.moved hW.alike hK, hD⟩, hS.F ht⟩) hS.2.2 dJ7_fill_53178_20
      ·
        have qh35 := nle_i h35
        have j37 : Iv 0 11 x33 := r_ltl qh35 x33_h ik_12 (by decide)
        refine lv_aload_n hx hb dJ7_fill_53178_10 rfl (lv_at hl 2 rfl) ?_
        refine lv_iload_n hx hb dJ7_fill_53178_11 rfl (lv_at hl 1 rfl) ?_
        refine lv_iload_n hx hb dJ7_fill_53178_12 rfl (lv_at hl 3 rfl) ?_
        refine k_iast hx hb hK hP hD hS 0 0 rfl rfl (vin_iv j37 (by decide)) dJ7_fill_53178_13 (fun f38 H locs f38_e hP hD hS => ?_)
        have f38_b : Bd 12 0 4095 f38 := bd_upd f38_e f34_b a1_h (by decide)
        have hP : va_P (dC, dI) vwCl ([(o1, .inl (cI, 12, .inl f38))]) H := hP
        have hD : va_D A ([(o1, .inl (cI, 12, .inl f38))]) := hD
        obtain ⟨x39, x39_e⟩ : ∃ z : Int32, z = x33 + 1 := ⟨_, rfl⟩
        have x39_h : Iv 1 12 x39 := iv_e x39_e (iv_add j37 ik_1 (by decide))
        refine lv_iinc (v := x39) (lv' := [(2, .int x39), (3, .int 12), (0, .ref o1), (1, .int a1)]) hx hb dJ7_fill_53178_14 hl (k := 1) rfl (incN (by decide +kernel) x39_e) (by decide) rfl (fun ls hl => ?_)
        refine lv_goto (tgt := 5) hx hb dJ7_fill_53178_17 (by decide) ?_
        exact ih1 x39 f38 _ _ _ (ms_up x39_e j37 (by decide) hM1) (iv_w x39_h (by decide)) f38_b (fil_s iv1_0 (iv_w (c := 0) (d := 4095) j37 (by decide)) x39_e f38_e) hP hD hS (lv_sub hl [1, 0, 2, 3] rfl)
  exact L1 _ 0 fw2 _ _ _ (Nat.lt_succ_self _) (iv_w ik_0 (by decide)) fw2_b fil_0 hP hD hS hl
set_option maxHeartbeats 4000000 in
set_option maxRecDepth 100000 in
theorem kxX4_restart_2 (l : Launch) (dC : Nat → ClassId) (dI : Nat → Nat → Nat) (cI c2 cZ : ClassId) (o1 : Nat) (o2 : Nat) (fw3 : Nat → Int32) (v4 : Int32) (v5 : Int32) (a1 : Int32) (sz : Nat) (fw3_b : Bd 12 0 4095 fw3) (v4_h : Iv 0 12 v4) (a1_h : Iv 0 12 a1) : Met l yX4_restart wsX4_restart ({ frames := 1, cells := 0, slots := 0, locals := 23 }) (va_Pc [.ref o1, .int a1] (wPre (dC, dI) [(cI, .int), (c2, .array .int), (cZ, .boolean)] ([(o1, .inr (4, [.ref o2, .int v4, .int v5])), (o2, .inl (cI, 12, .inl fw3))]) sz)) (va_Qv (fun (u : Int32 × Int32 × (Nat → Int32)) => Iv 0 12 u.1 ∧ Bd 12 0 4095 u.2.2 ∧ u.1 = a1) (fun u t => wPost (dC, dI) [(cI, .int), (c2, .array .int), (cZ, .boolean)] (va_A ([(o1, .inr (4, [.ref o2, .int v4, .int v5])), (o2, .inl (cI, 12, .inl fw3))]) sz) ([(o1, .inr (4, [.ref o2, .int u.1, .int u.2.1])), (o2, .inl (cI, 12, .inl u.2.2))]) t) (va_A ([(o1, .inr (4, [.ref o2, .int v4, .int v5])), (o2, .inl (cI, 12, .inl fw3))]) sz)) 0 0 (va_A ([(o1, .inr (4, [.ref o2, .int v4, .int v5])), (o2, .inl (cI, 12, .inl fw3))]) sz) := by
  refine Met.ofW (cc := cX4_restart) (maxL := 2) (ret := none) (by decide) rfl ?_
  intro p e s m args below meth c s₁ B hml hv
  obtain ⟨rfl, hsz, hP, hK, hD0, hN⟩ := hv
  have hx := B.exec
  have hb := B.bytes
  have hr := B.returns
  have hts := atoms_spec (ws := wsX4_restart) B.pre
  have hown : s.vm.findClass RX4 = some m.cls := findClass_of_methodNamed B.named
  have hlocks := B.notSynchronized
  subst hsz
  have hD := hD0.self (sz := s.heap.size)
  generalize hAe : va_A ([(o1, .inr (4, [.ref o2, .int v4, .int v5])), (o2, .inl (cI, 12, .inl fw3))]) s.heap.size = A at hD ⊢
  have hA : ∀ q : Nat, s.heap.size ≤ q → A q := fun q h => by rw [← hAe]; exact Or.inr h
  have hS : va_S A s.heap s.heap [] := va_S.rf
  have hP : va_P (dC, dI) vwCl ([(o1, .inr (4, [.ref o2, .int v4, .int v5])), (o2, .inl (cI, 12, .inl fw3))]) s.heap := hP
  have hl := lv_entry ([.ref o1, .int a1]) (n := 2) (Nat.le_of_ble_eq_true rfl)
  rw [lg_entry_eq]
  generalize (lg_sl ([.ref o1, .int a1]) ++ List.replicate (2 - (lg_sl ([.ref o1, .int a1])).length) Slot.unset).toArray = ls at hl ⊢
  have hl : lv_has ls 2 [(0, .ref o1), (1, .int a1)] := hl
  refine gen_Q (fun Q hQ => ?_)
  refine lv_aload_n hx hb dX4_restart_0 rfl (lv_at hl 0 rfl) ?_
  refine lv_iload_n hx hb dX4_restart_1 rfl (lv_at hl 1 rfl) ?_
  refine va_put (D := (dC, dI)) (ci := 4) (v := .int a1) (ty := .int) (C := RX4) (T := TX4) (N := 3) hx hb hts iw_X4_restart_X4 tyX4 tyX4_ok nmX4 hown hK hP hD hS 0 rfl rfl 1 (by decide) (hts (.fieldLink RX4 15 "HolelessHouse$Graph" "size" "I") hm_X4_restart_1) (fun _ h9 => h9) rfl (by decide +kernel) rfl rfl (Nat.le_of_ble_eq_true rfl) dX4_restart_2 (fun H locs hP hD hS => ?_)
  have hP : va_P (dC, dI) vwCl ([(o1, .inr (4, [.ref o2, .int a1, .int v5])), (o2, .inl (cI, 12, .inl fw3))]) H := hP
  have hD : va_D A ([(o1, .inr (4, [.ref o2, .int a1, .int v5])), (o2, .inl (cI, 12, .inl fw3))]) := hD
  refine lv_aload_n hx hb dX4_restart_5 rfl (lv_at hl 0 rfl) ?_
  refine va_get (D := (dC, dI)) (ci := 4) (v := .ref o2) (C := RX4) (T := TX4) (N := 3) hx hb hts iw_X4_restart_X4 hown hK hP 0 rfl rfl 0 (by decide) (hts (.fieldLink RX4 9 "HolelessHouse$Graph" "near" "[I") hm_X4_restart_2) (fun _ h9 => h9) rfl dX4_restart_6 ?_
  refine lv_iconst (v := 0) hx hb dX4_restart_9 (by decide) ?_
  refine kc_v (D := (dC, dI)) (S := (Nat → Int32)) (wc := [(o2, .inl (cI, 12, .inl fw3))]) (wr := [(o1, .inr (4, [.ref o2, .int a1, .int v5]))]) (w1 := fun u => [(o2, .inl (cI, 12, .inl u))]) (wn := fun u => [(o1, .inr (4, [.ref o2, .int a1, .int v5])), (o2, .inl (cI, 12, .inl u))]) (fun hPc hDc => va_runS (As := [.ref o2, .int 0]) (rest := []) ⟨hx, hb, hml, hown, hts⟩ (kxJ7_fill_53178_5 l dC dI cI c2 cZ o2 fw3 0 H.size fw3_b ik_0) (va_cwS 2 hts gX4_restart_J7_fill_53178 rfl rfl rfl (by decide +kernel) ⟨Nat.le_of_ble_eq_true rfl, Nat.le_of_ble_eq_true rfl⟩) (pre_S hPc hK hDc hN) rfl rfl hl.1 rfl (lv_room (Nat.le_of_ble_eq_true rfl)) dX4_restart_10 ⟨Nat.le_of_ble_eq_true rfl, Nat.le_of_ble_eq_true rfl⟩) hP hD hS hA [1] [0] [0, 1] rfl rfl (by decide +kernel) (by decide +kernel) (by decide +kernel) (by decide +kernel) (fun _ => rfl) (fun f1 H locs hq hP hD hS => ?_)
  obtain ⟨f1_b, e2⟩ := hq
  have hP : va_P (dC, dI) vwCl ([(o1, .inr (4, [.ref o2, .int a1, .int v5])), (o2, .inl (cI, 12, .inl f1))]) H := hP
  have hD : va_D A ([(o1, .inr (4, [.ref o2, .int a1, .int v5])), (o2, .inl (cI, 12, .inl f1))]) := hD
  refine lv_aload_n hx hb dX4_restart_13 rfl (lv_at hl 0 rfl) ?_
  refine lv_dup hx hb dX4_restart_14 rfl ?_
  refine va_get (D := (dC, dI)) (ci := 4) (v := .int v5) (C := RX4) (T := TX4) (N := 3) hx hb hts iw_X4_restart_X4 hown hK hP 0 rfl rfl 2 (by decide) (hts (.fieldLink RX4 19 "HolelessHouse$Graph" "version" "I") hm_X4_restart_3) (fun _ h9 => h9) rfl dX4_restart_15 ?_
  refine lv_iconst (v := 1) hx hb dX4_restart_18 (by decide) ?_
  refine lv_iadd hx hb dX4_restart_19 (lv_topi (fun x3 x3_e => ?_))
  refine va_put (D := (dC, dI)) (ci := 4) (v := .int x3) (ty := .int) (C := RX4) (T := TX4) (N := 3) hx hb hts iw_X4_restart_X4 tyX4 tyX4_ok nmX4 hown hK hP hD hS 0 rfl rfl 2 (by decide) (hts (.fieldLink RX4 19 "HolelessHouse$Graph" "version" "I") hm_X4_restart_3) (fun _ h9 => h9) rfl (by decide +kernel) rfl rfl (Nat.le_of_ble_eq_true rfl) dX4_restart_20 (fun H locs hP hD hS => ?_)
  have hP : va_P (dC, dI) vwCl ([(o1, .inr (4, [.ref o2, .int a1, .int x3])), (o2, .inl (cI, 12, .inl f1))]) H := hP
  have hD : va_D A ([(o1, .inr (4, [.ref o2, .int a1, .int x3])), (o2, .inl (cI, 12, .inl f1))]) := hD
  rw [hQ]
  exact W.vret hx hb hr (fun t ht hW => ⟨⟨(a1, x3, f1), rfl, ⟨a1_h, f1_b, rfl⟩, by rw [ht]; exact hP, va_K.moved hW.alike hK, hD⟩, hS.F ht⟩) hS.2.2 dX4_restart_23
set_option maxHeartbeats 4000000 in
set_option maxRecDepth 100000 in
theorem kxX11_startGraph_2 (l : Launch) (dC : Nat → ClassId) (dI : Nat → Nat → Nat) (cI c2 cZ : ClassId) (o1 : Nat) (o2 : Nat) (o7 : Nat) (o12 : Nat) (o41 : Nat) (o51 : Nat) (o64 : Nat) (o77 : Nat) (o84 : Nat) (o91 : Nat) (o99 : Nat) (o111 : Nat) (o123 : Nat) (o3 : Nat) (o13 : Nat) (o18 : Nat) (o32 : Nat) (o34 : Nat) (fw4 : Nat → Int32) (v5 : Int32) (v6 : Int32) (fw35 : Nat → Int32) (v36 : Int32) (v37 : Int32) (v38 : Int32) (v39 : Int32) (v40 : Int32) (v125 : Int32) (a1 : Int32) (sz : Nat) (fw4_b : Bd 12 0 4095 fw4) (v5_h : Iv 0 12 v5) (fw35_b : Bd 12 0 11 fw35) (v36_h : Iv 0 12 v36) (v37_h : Iv 0 12 v37) (v38_h : Iv 0 1 v38) (a1_h : Iv 0 12 a1) : Met l yX11_startGraph wsX11_startGraph ({ frames := 2, cells := 0, slots := 0, locals := 44 }) (va_Pc [.ref o1, .int a1] (wPre (dC, dI) [(cI, .int), (c2, .array .int), (cZ, .boolean)] ([(o1, .inr (11, [.ref o2, .ref o7, .ref o12, .ref o41, .ref o51, .ref o64, .ref o77, .ref o84, .ref o91, .ref o99, .ref o111, .ref o123, .int v125])), (o2, .inr (4, [.ref o3, .int v5, .int v6])), (o3, .inl (cI, 12, .inl fw4)), (o12, .inr (6, [.ref o13, .ref o18, .ref o32, .ref o34, .int v36, .int v37, .int v38, .int v39, .int v40])), (o34, .inl (cI, 12, .inl fw35))]) sz)) (va_Qv (fun (u : Int32 × Int32 × (Nat → Int32) × Int32 × Int32 × (Nat → Int32)) => Iv 0 12 u.1 ∧ Bd 12 0 4095 u.2.2.1 ∧ Iv 0 12 u.2.2.2.1 ∧ Iv 0 1 u.2.2.2.2.1 ∧ Bd 12 0 11 u.2.2.2.2.2 ∧ u.1 = a1) (fun u t => wPost (dC, dI) [(cI, .int), (c2, .array .int), (cZ, .boolean)] (va_A ([(o1, .inr (11, [.ref o2, .ref o7, .ref o12, .ref o41, .ref o51, .ref o64, .ref o77, .ref o84, .ref o91, .ref o99, .ref o111, .ref o123, .int v125])), (o2, .inr (4, [.ref o3, .int v5, .int v6])), (o3, .inl (cI, 12, .inl fw4)), (o12, .inr (6, [.ref o13, .ref o18, .ref o32, .ref o34, .int v36, .int v37, .int v38, .int v39, .int v40])), (o34, .inl (cI, 12, .inl fw35))]) sz) ([(o1, .inr (11, [.ref o2, .ref o7, .ref o12, .ref o41, .ref o51, .ref o64, .ref o77, .ref o84, .ref o91, .ref o99, .ref o111, .ref o123, .int v125])), (o2, .inr (4, [.ref o3, .int u.1, .int u.2.1])), (o3, .inl (cI, 12, .inl u.2.2.1)), (o12, .inr (6, [.ref o13, .ref o18, .ref o32, .ref o34, .int u.2.2.2.1, .int v37, .int u.2.2.2.2.1, .int v39, .int v40])), (o34, .inl (cI, 12, .inl u.2.2.2.2.2))]) t) (va_A ([(o1, .inr (11, [.ref o2, .ref o7, .ref o12, .ref o41, .ref o51, .ref o64, .ref o77, .ref o84, .ref o91, .ref o99, .ref o111, .ref o123, .int v125])), (o2, .inr (4, [.ref o3, .int v5, .int v6])), (o3, .inl (cI, 12, .inl fw4)), (o12, .inr (6, [.ref o13, .ref o18, .ref o32, .ref o34, .int v36, .int v37, .int v38, .int v39, .int v40])), (o34, .inl (cI, 12, .inl fw35))]) sz)) 0 0 (va_A ([(o1, .inr (11, [.ref o2, .ref o7, .ref o12, .ref o41, .ref o51, .ref o64, .ref o77, .ref o84, .ref o91, .ref o99, .ref o111, .ref o123, .int v125])), (o2, .inr (4, [.ref o3, .int v5, .int v6])), (o3, .inl (cI, 12, .inl fw4)), (o12, .inr (6, [.ref o13, .ref o18, .ref o32, .ref o34, .int v36, .int v37, .int v38, .int v39, .int v40])), (o34, .inl (cI, 12, .inl fw35))]) sz) := by
  refine Met.ofW (cc := cX11_startGraph) (maxL := 2) (ret := none) (by decide) rfl ?_
  intro p e s m args below meth c s₁ B hml hv
  obtain ⟨rfl, hsz, hP, hK, hD0, hN⟩ := hv
  have hx := B.exec
  have hb := B.bytes
  have hr := B.returns
  have hts := atoms_spec (ws := wsX11_startGraph) B.pre
  have hown : s.vm.findClass RX11 = some m.cls := findClass_of_methodNamed B.named
  have hlocks := B.notSynchronized
  subst hsz
  have hD := hD0.self (sz := s.heap.size)
  generalize hAe : va_A ([(o1, .inr (11, [.ref o2, .ref o7, .ref o12, .ref o41, .ref o51, .ref o64, .ref o77, .ref o84, .ref o91, .ref o99, .ref o111, .ref o123, .int v125])), (o2, .inr (4, [.ref o3, .int v5, .int v6])), (o3, .inl (cI, 12, .inl fw4)), (o12, .inr (6, [.ref o13, .ref o18, .ref o32, .ref o34, .int v36, .int v37, .int v38, .int v39, .int v40])), (o34, .inl (cI, 12, .inl fw35))]) s.heap.size = A at hD ⊢
  have hA : ∀ q : Nat, s.heap.size ≤ q → A q := fun q h => by rw [← hAe]; exact Or.inr h
  have hS : va_S A s.heap s.heap [] := va_S.rf
  have hP : va_P (dC, dI) vwCl ([(o1, .inr (11, [.ref o2, .ref o7, .ref o12, .ref o41, .ref o51, .ref o64, .ref o77, .ref o84, .ref o91, .ref o99, .ref o111, .ref o123, .int v125])), (o2, .inr (4, [.ref o3, .int v5, .int v6])), (o3, .inl (cI, 12, .inl fw4)), (o12, .inr (6, [.ref o13, .ref o18, .ref o32, .ref o34, .int v36, .int v37, .int v38, .int v39, .int v40])), (o34, .inl (cI, 12, .inl fw35))]) s.heap := hP
  have hl := lv_entry ([.ref o1, .int a1]) (n := 2) (Nat.le_of_ble_eq_true rfl)
  rw [lg_entry_eq]
  generalize (lg_sl ([.ref o1, .int a1]) ++ List.replicate (2 - (lg_sl ([.ref o1, .int a1])).length) Slot.unset).toArray = ls at hl ⊢
  have hl : lv_has ls 2 [(0, .ref o1), (1, .int a1)] := hl
  refine gen_Q (fun Q hQ => ?_)
  refine lv_aload_n hx hb dX11_startGraph_0 rfl (lv_at hl 0 rfl) ?_
  refine va_get (D := (dC, dI)) (ci := 11) (v := .ref o2) (C := RX11) (T := TX11) (N := 13) hx hb hts iw_X11_startGraph_X11 hown hK hP 0 rfl rfl 0 (by decide) (hts (.fieldLink RX11 10 "HolelessHouse" "graph" "LHolelessHouse$Graph;") hm_X11_startGraph_1) (fun _ h9 => h9) rfl dX11_startGraph_1 ?_
  refine lv_iload_n hx hb dX11_startGraph_4 rfl (lv_at hl 1 rfl) ?_
  refine kc_v (D := (dC, dI)) (S := Int32 × Int32 × (Nat → Int32)) (wc := [(o2, .inr (4, [.ref o3, .int v5, .int v6])), (o3, .inl (cI, 12, .inl fw4))]) (wr := [(o1, .inr (11, [.ref o2, .ref o7, .ref o12, .ref o41, .ref o51, .ref o64, .ref o77, .ref o84, .ref o91, .ref o99, .ref o111, .ref o123, .int v125])), (o12, .inr (6, [.ref o13, .ref o18, .ref o32, .ref o34, .int v36, .int v37, .int v38, .int v39, .int v40])), (o34, .inl (cI, 12, .inl fw35))]) (w1 := fun u => [(o2, .inr (4, [.ref o3, .int u.1, .int u.2.1])), (o3, .inl (cI, 12, .inl u.2.2))]) (wn := fun u => [(o1, .inr (11, [.ref o2, .ref o7, .ref o12, .ref o41, .ref o51, .ref o64, .ref o77, .ref o84, .ref o91, .ref o99, .ref o111, .ref o123, .int v125])), (o2, .inr (4, [.ref o3, .int u.1, .int u.2.1])), (o3, .inl (cI, 12, .inl u.2.2)), (o12, .inr (6, [.ref o13, .ref o18, .ref o32, .ref o34, .int v36, .int v37, .int v38, .int v39, .int v40])), (o34, .inl (cI, 12, .inl fw35))]) (fun hPc hDc => va_runVN (As := [.int a1]) (rest := []) ⟨hx, hb, hml, hown, hts⟩ (kxX4_restart_2 l dC dI cI c2 cZ o2 o3 fw4 v5 v6 a1 s.heap.size fw4_b v5_h a1_h) ⟨va_cnB 1 hts gX11_startGraph_X4_restart_n290 rfl rfl rfl (hN.1 _ ns_61) (hts (.initialized RX4) hm_X11_startGraph_4) (by decide +kernel) ⟨Nat.le_of_ble_eq_true rfl, Nat.le_of_ble_eq_true rfl⟩, (hts (.instanceMethod yX4_restart) hm_X11_startGraph_3), (hts (.selects RX4 yX4_restart yX4_restart) hm_X11_startGraph_5)⟩ (pre_V hPc hK hDc hN (ci := 4) (q0 := 0) rfl rfl) rfl rfl hl.1 rfl (lv_room (Nat.le_of_ble_eq_true rfl)) dX11_startGraph_5 ⟨Nat.le_of_ble_eq_true rfl, Nat.le_of_ble_eq_true rfl⟩) hP hD hS hA [1, 2] [0, 3, 4] [0, 3, 4, 1, 2] rfl rfl (by decide +kernel) (by decide +kernel) (by decide +kernel) (by decide +kernel) (fun _ => rfl) (fun u H locs hq hP hD hS => ?_)
  obtain ⟨y1, y2, f3⟩ := u
  obtain ⟨y1_h, f3_b, e4⟩ := hq
  have hP : va_P (dC, dI) vwCl ([(o1, .inr (11, [.ref o2, .ref o7, .ref o12, .ref o41, .ref o51, .ref o64, .ref o77, .ref o84, .ref o91, .ref o99, .ref o111, .ref o123, .int v125])), (o2, .inr (4, [.ref o3, .int y1, .int y2])), (o3, .inl (cI, 12, .inl f3)), (o12, .inr (6, [.ref o13, .ref o18, .ref o32, .ref o34, .int v36, .int v37, .int v38, .int v39, .int v40])), (o34, .inl (cI, 12, .inl fw35))]) H := hP
  have hD : va_D A ([(o1, .inr (11, [.ref o2, .ref o7, .ref o12, .ref o41, .ref o51, .ref o64, .ref o77, .ref o84, .ref o91, .ref o99, .ref o111, .ref o123, .int v125])), (o2, .inr (4, [.ref o3, .int y1, .int y2])), (o3, .inl (cI, 12, .inl f3)), (o12, .inr (6, [.ref o13, .ref o18, .ref o32, .ref o34, .int v36, .int v37, .int v38, .int v39, .int v40])), (o34, .inl (cI, 12, .inl fw35))]) := hD
  refine lv_aload_n hx hb dX11_startGraph_8 rfl (lv_at hl 0 rfl) ?_
  refine va_get (D := (dC, dI)) (ci := 11) (v := .ref o12) (C := RX11) (T := TX11) (N := 13) hx hb hts iw_X11_startGraph_X11 hown hK hP 0 rfl rfl 2 (by decide) (hts (.fieldLink RX11 26 "HolelessHouse" "ordering" "LHolelessHouse$Ordering;") hm_X11_startGraph_2) (fun _ h9 => h9) rfl dX11_startGraph_9 ?_
  refine kc_v (D := (dC, dI)) (S := Int32) (wc := [(o12, .inr (6, [.ref o13, .ref o18, .ref o32, .ref o34, .int v36, .int v37, .int v38, .int v39, .int v40]))]) (wr := [(o1, .inr (11, [.ref o2, .ref o7, .ref o12, .ref o41, .ref o51, .ref o64, .ref o77, .ref o84, .ref o91, .ref o99, .ref o111, .ref o123, .int v125])), (o2, .inr (4, [.ref o3, .int y1, .int y2])), (o3, .inl (cI, 12, .inl f3)), (o34, .inl (cI, 12, .inl fw35))]) (w1 := fun u => [(o12, .inr (6, [.ref o13, .ref o18, .ref o32, .ref o34, .int v36, .int v37, .int u, .int v39, .int v40]))]) (wn := fun u => [(o1, .inr (11, [.ref o2, .ref o7, .ref o12, .ref o41, .ref o51, .ref o64, .ref o77, .ref o84, .ref o91, .ref o99, .ref o111, .ref o123, .int v125])), (o2, .inr (4, [.ref o3, .int y1, .int y2])), (o3, .inl (cI, 12, .inl f3)), (o12, .inr (6, [.ref o13, .ref o18, .ref o32, .ref o34, .int v36, .int v37, .int u, .int v39, .int v40])), (o34, .inl (cI, 12, .inl fw35))]) (fun hPc hDc => va_runVN (As := []) (rest := []) ⟨hx, hb, hml, hown, hts⟩ (kX6_drop_1 l dC dI cI c2 cZ o12 o13 o18 o32 o34 v36 v37 v38 v39 v40 H.size v36_h v37_h v38_h) ⟨va_cnB 0 hts gX11_startGraph_X6_drop_n105 rfl rfl rfl (hN.1 _ ns_62) (hts (.initialized RX6) hm_X11_startGraph_15) (by decide +kernel) ⟨Nat.le_of_ble_eq_true rfl, Nat.le_of_ble_eq_true rfl⟩, (hts (.instanceMethod yX6_drop) hm_X11_startGraph_14), (hts (.selects RX6 yX6_drop yX6_drop) hm_X11_startGraph_16)⟩ (pre_V hPc hK hDc hN (ci := 6) (q0 := 0) rfl rfl) rfl rfl hl.1 rfl (lv_room (Nat.le_of_ble_eq_true rfl)) dX11_startGraph_12 ⟨Nat.le_of_ble_eq_true rfl, Nat.le_of_ble_eq_true rfl⟩) hP hD hS hA [3] [0, 1, 2, 4] [0, 1, 2, 4, 3] rfl rfl (by decide +kernel) (by decide +kernel) (by decide +kernel) (by decide +kernel) (fun _ => rfl) (fun y5 H locs hq hP hD hS => ?_)
  have y5_h := hq
  have hP : va_P (dC, dI) vwCl ([(o1, .inr (11, [.ref o2, .ref o7, .ref o12, .ref o41, .ref o51, .ref o64, .ref o77, .ref o84, .ref o91, .ref o99, .ref o111, .ref o123, .int v125])), (o2, .inr (4, [.ref o3, .int y1, .int y2])), (o3, .inl (cI, 12, .inl f3)), (o12, .inr (6, [.ref o13, .ref o18, .ref o32, .ref o34, .int v36, .int v37, .int y5, .int v39, .int v40])), (o34, .inl (cI, 12, .inl fw35))]) H := hP
  have hD : va_D A ([(o1, .inr (11, [.ref o2, .ref o7, .ref o12, .ref o41, .ref o51, .ref o64, .ref o77, .ref o84, .ref o91, .ref o99, .ref o111, .ref o123, .int v125])), (o2, .inr (4, [.ref o3, .int y1, .int y2])), (o3, .inl (cI, 12, .inl f3)), (o12, .inr (6, [.ref o13, .ref o18, .ref o32, .ref o34, .int v36, .int v37, .int y5, .int v39, .int v40])), (o34, .inl (cI, 12, .inl fw35))]) := hD
  refine lv_aload_n hx hb dX11_startGraph_15 rfl (lv_at hl 0 rfl) ?_
  refine va_get (D := (dC, dI)) (ci := 11) (v := .ref o12) (C := RX11) (T := TX11) (N := 13) hx hb hts iw_X11_startGraph_X11 hown hK hP 0 rfl rfl 2 (by decide) (hts (.fieldLink RX11 26 "HolelessHouse" "ordering" "LHolelessHouse$Ordering;") hm_X11_startGraph_2) (fun _ h9 => h9) rfl dX11_startGraph_16 ?_
  refine lv_aload_n hx hb dX11_startGraph_19 rfl (lv_at hl 0 rfl) ?_
  refine va_get (D := (dC, dI)) (ci := 11) (v := .ref o2) (C := RX11) (T := TX11) (N := 13) hx hb hts iw_X11_startGraph_X11 hown hK hP 0 rfl rfl 0 (by decide) (hts (.fieldLink RX11 10 "HolelessHouse" "graph" "LHolelessHouse$Graph;") hm_X11_startGraph_1) (fun _ h9 => h9) rfl dX11_startGraph_20 ?_
  refine kc_i (D := (dC, dI)) (S := Unit) (wc := [(o2, .inr (4, [.ref o3, .int y1, .int y2]))]) (wr := [(o1, .inr (11, [.ref o2, .ref o7, .ref o12, .ref o41, .ref o51, .ref o64, .ref o77, .ref o84, .ref o91, .ref o99, .ref o111, .ref o123, .int v125])), (o3, .inl (cI, 12, .inl f3)), (o12, .inr (6, [.ref o13, .ref o18, .ref o32, .ref o34, .int v36, .int v37, .int y5, .int v39, .int v40])), (o34, .inl (cI, 12, .inl fw35))]) (w1 := fun _ => [(o2, .inr (4, [.ref o3, .int y1, .int y2]))]) (wn := fun _ => [(o1, .inr (11, [.ref o2, .ref o7, .ref o12, .ref o41, .ref o51, .ref o64, .ref o77, .ref o84, .ref o91, .ref o99, .ref o111, .ref o123, .int v125])), (o2, .inr (4, [.ref o3, .int y1, .int y2])), (o3, .inl (cI, 12, .inl f3)), (o12, .inr (6, [.ref o13, .ref o18, .ref o32, .ref o34, .int v36, .int v37, .int y5, .int v39, .int v40])), (o34, .inl (cI, 12, .inl fw35))]) (fun hPc hDc => va_runVN (As := []) (rest := [.ref o12]) ⟨hx, hb, hml, hown, hts⟩ (kX4_all_1 l dC dI cI c2 cZ o2 o3 y1 y2 H.size y1_h) ⟨va_cnB 0 hts gX11_startGraph_X4_all_n164 rfl rfl rfl (hN.1 _ ns_63) (hts (.initialized RX4) hm_X11_startGraph_4) (by decide +kernel) ⟨Nat.le_of_ble_eq_true rfl, Nat.le_of_ble_eq_true rfl⟩, (hts (.instanceMethod yX4_all) hm_X11_startGraph_19), (hts (.selects RX4 yX4_all yX4_all) hm_X11_startGraph_20)⟩ (pre_V hPc hK hDc hN (ci := 4) (q0 := 0) rfl rfl) rfl rfl hl.1 rfl (lv_room (Nat.le_of_ble_eq_true rfl)) dX11_startGraph_23 ⟨Nat.le_of_ble_eq_true rfl, Nat.le_of_ble_eq_true rfl⟩) hP hD hS hA [1] [0, 2, 3, 4] [0, 4, 1, 2, 3] rfl rfl (by decide +kernel) (by decide +kernel) (by decide +kernel) (by decide +kernel) (fun _ => rfl) (fun x6 _ H locs hq hP hD hS => ?_)
  have x6_h := hq
  have hP : va_P (dC, dI) vwCl ([(o1, .inr (11, [.ref o2, .ref o7, .ref o12, .ref o41, .ref o51, .ref o64, .ref o77, .ref o84, .ref o91, .ref o99, .ref o111, .ref o123, .int v125])), (o2, .inr (4, [.ref o3, .int y1, .int y2])), (o3, .inl (cI, 12, .inl f3)), (o12, .inr (6, [.ref o13, .ref o18, .ref o32, .ref o34, .int v36, .int v37, .int y5, .int v39, .int v40])), (o34, .inl (cI, 12, .inl fw35))]) H := hP
  have hD : va_D A ([(o1, .inr (11, [.ref o2, .ref o7, .ref o12, .ref o41, .ref o51, .ref o64, .ref o77, .ref o84, .ref o91, .ref o99, .ref o111, .ref o123, .int v125])), (o2, .inr (4, [.ref o3, .int y1, .int y2])), (o3, .inl (cI, 12, .inl f3)), (o12, .inr (6, [.ref o13, .ref o18, .ref o32, .ref o34, .int v36, .int v37, .int y5, .int v39, .int v40])), (o34, .inl (cI, 12, .inl fw35))]) := hD
  refine kc_v (D := (dC, dI)) (S := Int32 × (Nat → Int32)) (wc := [(o12, .inr (6, [.ref o13, .ref o18, .ref o32, .ref o34, .int v36, .int v37, .int y5, .int v39, .int v40])), (o34, .inl (cI, 12, .inl fw35))]) (wr := [(o1, .inr (11, [.ref o2, .ref o7, .ref o12, .ref o41, .ref o51, .ref o64, .ref o77, .ref o84, .ref o91, .ref o99, .ref o111, .ref o123, .int v125])), (o2, .inr (4, [.ref o3, .int y1, .int y2])), (o3, .inl (cI, 12, .inl f3))]) (w1 := fun u => [(o12, .inr (6, [.ref o13, .ref o18, .ref o32, .ref o34, .int u.1, .int v37, .int y5, .int v39, .int v40])), (o34, .inl (cI, 12, .inl u.2))]) (wn := fun u => [(o1, .inr (11, [.ref o2, .ref o7, .ref o12, .ref o41, .ref o51, .ref o64, .ref o77, .ref o84, .ref o91, .ref o99, .ref o111, .ref o123, .int v125])), (o2, .inr (4, [.ref o3, .int y1, .int y2])), (o3, .inl (cI, 12, .inl f3)), (o12, .inr (6, [.ref o13, .ref o18, .ref o32, .ref o34, .int u.1, .int v37, .int y5, .int v39, .int v40])), (o34, .inl (cI, 12, .inl u.2))]) (fun hPc hDc => va_runVN (As := [.int x6]) (rest := []) ⟨hx, hb, hml, hown, hts⟩ (kX6_keepDrafted_1 l dC dI cI c2 cZ o12 o13 o18 o32 o34 fw35 v36 v37 y5 v39 v40 x6 H.size fw35_b v36_h v37_h y5_h) ⟨va_cnB 1 hts gX11_startGraph_X6_keepDrafted_n291 rfl rfl rfl (hN.1 _ ns_64) (hts (.initialized RX6) hm_X11_startGraph_15) (by decide +kernel) ⟨Nat.le_of_ble_eq_true rfl, Nat.le_of_ble_eq_true rfl⟩, (hts (.instanceMethod yX6_keepDrafted) hm_X11_startGraph_22), (hts (.selects RX6 yX6_keepDrafted yX6_keepDrafted) hm_X11_startGraph_23)⟩ (pre_V hPc hK hDc hN (ci := 6) (q0 := 0) rfl rfl) rfl rfl hl.1 rfl (lv_room (Nat.le_of_ble_eq_true rfl)) dX11_startGraph_26 ⟨Nat.le_of_ble_eq_true rfl, Nat.le_of_ble_eq_true rfl⟩) hP hD hS hA [3, 4] [0, 1, 2] [0, 1, 2, 3, 4] rfl rfl (by decide +kernel) (by decide +kernel) (by decide +kernel) (by decide +kernel) (fun _ => rfl) (fun u H locs hq hP hD hS => ?_)
  obtain ⟨y7, f8⟩ := u
  obtain ⟨y7_h, f8_b⟩ := hq
  have hP : va_P (dC, dI) vwCl ([(o1, .inr (11, [.ref o2, .ref o7, .ref o12, .ref o41, .ref o51, .ref o64, .ref o77, .ref o84, .ref o91, .ref o99, .ref o111, .ref o123, .int v125])), (o2, .inr (4, [.ref o3, .int y1, .int y2])), (o3, .inl (cI, 12, .inl f3)), (o12, .inr (6, [.ref o13, .ref o18, .ref o32, .ref o34, .int y7, .int v37, .int y5, .int v39, .int v40])), (o34, .inl (cI, 12, .inl f8))]) H := hP
  have hD : va_D A ([(o1, .inr (11, [.ref o2, .ref o7, .ref o12, .ref o41, .ref o51, .ref o64, .ref o77, .ref o84, .ref o91, .ref o99, .ref o111, .ref o123, .int v125])), (o2, .inr (4, [.ref o3, .int y1, .int y2])), (o3, .inl (cI, 12, .inl f3)), (o12, .inr (6, [.ref o13, .ref o18, .ref o32, .ref o34, .int y7, .int v37, .int y5, .int v39, .int v40])), (o34, .inl (cI, 12, .inl f8))]) := hD
  rw [hQ]
  exact W.vret hx hb hr (fun t ht hW => ⟨⟨(y1, y2, f3, y7, y5, f8), rfl, ⟨y1_h, f3_b, y7_h, y5_h, f8_b, e4⟩, by rw [ht]; exact hP, va_K.moved hW.alike hK, hD⟩, hS.F ht⟩) hS.2.2 dX11_startGraph_29
set_option maxHeartbeats 4000000 in
set_option maxRecDepth 100000 in
theorem kxX11_nodes_2 (l : Launch) (dC : Nat → ClassId) (dI : Nat → Nat → Nat) (cI c2 cZ : ClassId) (o1 : Nat) (o2 : Nat) (o7 : Nat) (o12 : Nat) (o41 : Nat) (o51 : Nat) (o64 : Nat) (o77 : Nat) (o84 : Nat) (o91 : Nat) (o99 : Nat) (o111 : Nat) (o123 : Nat) (o3 : Nat) (o13 : Nat) (o18 : Nat) (o32 : Nat) (o34 : Nat) (fw4 : Nat → Int32) (v5 : Int32) (v6 : Int32) (fw35 : Nat → Int32) (v36 : Int32) (v37 : Int32) (v38 : Int32) (v39 : Int32) (v40 : Int32) (v125 : Int32) (a1 : Int32) (sz : Nat) (fw4_b : Bd 12 0 4095 fw4) (v5_h : Iv 0 12 v5) (fw35_b : Bd 12 0 11 fw35) (v36_h : Iv 0 12 v36) (v37_h : Iv 0 12 v37) (v38_h : Iv 0 1 v38) : Met l yX11_nodes wsX11_nodes ({ frames := 3, cells := 0, slots := 0, locals := 65 }) (va_Pc [.ref o1, .int a1] (wPre (dC, dI) [(cI, .int), (c2, .array .int), (cZ, .boolean)] ([(o1, .inr (11, [.ref o2, .ref o7, .ref o12, .ref o41, .ref o51, .ref o64, .ref o77, .ref o84, .ref o91, .ref o99, .ref o111, .ref o123, .int v125])), (o2, .inr (4, [.ref o3, .int v5, .int v6])), (o3, .inl (cI, 12, .inl fw4)), (o12, .inr (6, [.ref o13, .ref o18, .ref o32, .ref o34, .int v36, .int v37, .int v38, .int v39, .int v40])), (o34, .inl (cI, 12, .inl fw35))]) sz)) (va_Qi (fun (r : Int32) (u : Int32 × Int32 × (Nat → Int32) × Int32 × Int32 × (Nat → Int32)) => Iv (-1) 12 r ∧ Iv 0 12 u.1 ∧ Bd 12 0 4095 u.2.2.1 ∧ Iv 0 12 u.2.2.2.1 ∧ Iv 0 1 u.2.2.2.2.1 ∧ Bd 12 0 11 u.2.2.2.2.2 ∧ (r : Int32) = nodeF a1) (fun u t => wPost (dC, dI) [(cI, .int), (c2, .array .int), (cZ, .boolean)] (va_A ([(o1, .inr (11, [.ref o2, .ref o7, .ref o12, .ref o41, .ref o51, .ref o64, .ref o77, .ref o84, .ref o91, .ref o99, .ref o111, .ref o123, .int v125])), (o2, .inr (4, [.ref o3, .int v5, .int v6])), (o3, .inl (cI, 12, .inl fw4)), (o12, .inr (6, [.ref o13, .ref o18, .ref o32, .ref o34, .int v36, .int v37, .int v38, .int v39, .int v40])), (o34, .inl (cI, 12, .inl fw35))]) sz) ([(o1, .inr (11, [.ref o2, .ref o7, .ref o12, .ref o41, .ref o51, .ref o64, .ref o77, .ref o84, .ref o91, .ref o99, .ref o111, .ref o123, .int v125])), (o2, .inr (4, [.ref o3, .int u.1, .int u.2.1])), (o3, .inl (cI, 12, .inl u.2.2.1)), (o12, .inr (6, [.ref o13, .ref o18, .ref o32, .ref o34, .int u.2.2.2.1, .int v37, .int u.2.2.2.2.1, .int v39, .int v40])), (o34, .inl (cI, 12, .inl u.2.2.2.2.2))]) t) (va_A ([(o1, .inr (11, [.ref o2, .ref o7, .ref o12, .ref o41, .ref o51, .ref o64, .ref o77, .ref o84, .ref o91, .ref o99, .ref o111, .ref o123, .int v125])), (o2, .inr (4, [.ref o3, .int v5, .int v6])), (o3, .inl (cI, 12, .inl fw4)), (o12, .inr (6, [.ref o13, .ref o18, .ref o32, .ref o34, .int v36, .int v37, .int v38, .int v39, .int v40])), (o34, .inl (cI, 12, .inl fw35))]) sz)) 0 0 (va_A ([(o1, .inr (11, [.ref o2, .ref o7, .ref o12, .ref o41, .ref o51, .ref o64, .ref o77, .ref o84, .ref o91, .ref o99, .ref o111, .ref o123, .int v125])), (o2, .inr (4, [.ref o3, .int v5, .int v6])), (o3, .inl (cI, 12, .inl fw4)), (o12, .inr (6, [.ref o13, .ref o18, .ref o32, .ref o34, .int v36, .int v37, .int v38, .int v39, .int v40])), (o34, .inl (cI, 12, .inl fw35))]) sz) := by
  refine Met.ofW (cc := cX11_nodes) (maxL := 2) (ret := (some .int)) (by decide) rfl ?_
  intro p e s m args below meth c s₁ B hml hv
  obtain ⟨rfl, hsz, hP, hK, hD0, hN⟩ := hv
  have hx := B.exec
  have hb := B.bytes
  have hr := B.returns
  have hts := atoms_spec (ws := wsX11_nodes) B.pre
  have hown : s.vm.findClass RX11 = some m.cls := findClass_of_methodNamed B.named
  have hlocks := B.notSynchronized
  subst hsz
  have hD := hD0.self (sz := s.heap.size)
  generalize hAe : va_A ([(o1, .inr (11, [.ref o2, .ref o7, .ref o12, .ref o41, .ref o51, .ref o64, .ref o77, .ref o84, .ref o91, .ref o99, .ref o111, .ref o123, .int v125])), (o2, .inr (4, [.ref o3, .int v5, .int v6])), (o3, .inl (cI, 12, .inl fw4)), (o12, .inr (6, [.ref o13, .ref o18, .ref o32, .ref o34, .int v36, .int v37, .int v38, .int v39, .int v40])), (o34, .inl (cI, 12, .inl fw35))]) s.heap.size = A at hD ⊢
  have hA : ∀ q : Nat, s.heap.size ≤ q → A q := fun q h => by rw [← hAe]; exact Or.inr h
  have hS : va_S A s.heap s.heap [] := va_S.rf
  have hP : va_P (dC, dI) vwCl ([(o1, .inr (11, [.ref o2, .ref o7, .ref o12, .ref o41, .ref o51, .ref o64, .ref o77, .ref o84, .ref o91, .ref o99, .ref o111, .ref o123, .int v125])), (o2, .inr (4, [.ref o3, .int v5, .int v6])), (o3, .inl (cI, 12, .inl fw4)), (o12, .inr (6, [.ref o13, .ref o18, .ref o32, .ref o34, .int v36, .int v37, .int v38, .int v39, .int v40])), (o34, .inl (cI, 12, .inl fw35))]) s.heap := hP
  have hl := lv_entry ([.ref o1, .int a1]) (n := 2) (Nat.le_of_ble_eq_true rfl)
  rw [lg_entry_eq]
  generalize (lg_sl ([.ref o1, .int a1]) ++ List.replicate (2 - (lg_sl ([.ref o1, .int a1])).length) Slot.unset).toArray = ls at hl ⊢
  have hl : lv_has ls 2 [(0, .ref o1), (1, .int a1)] := hl
  refine gen_Q (fun Q hQ => ?_)
  refine lv_iload_n hx hb dX11_nodes_0 rfl (lv_at hl 1 rfl) ?_
  refine lv_if_lt (tgt := 10) hx hb dX11_nodes_1 (by decide) (fun h1 => ?_) (fun h1 => ?_)
  ·
    have qh1 := lt_i h1
    have j2 : Iv (-2147483648) (-1) a1 := r_ltl qh1 (iv_full a1) ik_0 (by decide)
    refine lv_iconst (v := (-1)) hx hb dX11_nodes_10 (by decide) ?_
    rw [hQ]
    exact W.iret (v := (-1)) hx hb hr (fun t ht hW => ⟨⟨(-1), (v5, v6, fw4, v36, v38, fw35), rfl, ⟨(iv_w ikm_1 (by decide)), v5_h, fw4_b, v36_h, v38_h, fw35_b, (nodeF_lo qh1)⟩, by rw [ht]; exact hP, va_K.moved hW.alike hK, hD⟩, hS.F ht⟩) hS.2.2 dX11_nodes_11
  ·
    have qh1 := nlt_i h1
    have j3 : Iv 0 2147483647 a1 := r_ler qh1 ik_0 (iv_full a1) (by decide)
    refine lv_iload_n hx hb dX11_nodes_4 rfl (lv_at hl 1 rfl) ?_
    refine lv_bipush (v := 12) hx hb dX11_nodes_5 (by decide) ?_
    refine lv_icmp_le (tgt := 12) hx hb dX11_nodes_7 (by decide) (fun h4 => ?_) (fun h4 => ?_)
    ·
      have qh4 := le_i h4
      have j5 : Iv 0 12 a1 := r_lel qh4 j3 ik_12 (by decide)
      refine lv_aload_n hx hb dX11_nodes_12 rfl (lv_at hl 0 rfl) ?_
      refine lv_iload_n hx hb dX11_nodes_13 rfl (lv_at hl 1 rfl) ?_
      refine kc_v (D := (dC, dI)) (S := Int32 × Int32 × (Nat → Int32) × Int32 × Int32 × (Nat → Int32)) (wc := [(o1, .inr (11, [.ref o2, .ref o7, .ref o12, .ref o41, .ref o51, .ref o64, .ref o77, .ref o84, .ref o91, .ref o99, .ref o111, .ref o123, .int v125])), (o2, .inr (4, [.ref o3, .int v5, .int v6])), (o3, .inl (cI, 12, .inl fw4)), (o12, .inr (6, [.ref o13, .ref o18, .ref o32, .ref o34, .int v36, .int v37, .int v38, .int v39, .int v40])), (o34, .inl (cI, 12, .inl fw35))]) (wr := []) (w1 := fun u => [(o1, .inr (11, [.ref o2, .ref o7, .ref o12, .ref o41, .ref o51, .ref o64, .ref o77, .ref o84, .ref o91, .ref o99, .ref o111, .ref o123, .int v125])), (o2, .inr (4, [.ref o3, .int u.1, .int u.2.1])), (o3, .inl (cI, 12, .inl u.2.2.1)), (o12, .inr (6, [.ref o13, .ref o18, .ref o32, .ref o34, .int u.2.2.2.1, .int v37, .int u.2.2.2.2.1, .int v39, .int v40])), (o34, .inl (cI, 12, .inl u.2.2.2.2.2))]) (wn := fun u => [(o1, .inr (11, [.ref o2, .ref o7, .ref o12, .ref o41, .ref o51, .ref o64, .ref o77, .ref o84, .ref o91, .ref o99, .ref o111, .ref o123, .int v125])), (o2, .inr (4, [.ref o3, .int u.1, .int u.2.1])), (o3, .inl (cI, 12, .inl u.2.2.1)), (o12, .inr (6, [.ref o13, .ref o18, .ref o32, .ref o34, .int u.2.2.2.1, .int v37, .int u.2.2.2.2.1, .int v39, .int v40])), (o34, .inl (cI, 12, .inl u.2.2.2.2.2))]) (fun hPc hDc => va_runV (As := [.int a1]) (rest := []) ⟨hx, hb, hml, hown, hts⟩ (kxX11_startGraph_2 l dC dI cI c2 cZ o1 o2 o7 o12 o41 o51 o64 o77 o84 o91 o99 o111 o123 o3 o13 o18 o32 o34 fw4 v5 v6 fw35 v36 v37 v38 v39 v40 v125 a1 s.heap.size fw4_b v5_h fw35_b v36_h v37_h v38_h j5) (cwV 1 hts gX11_nodes_X11_startGraph rfl rfl rfl (by decide +kernel) ⟨Nat.le_of_ble_eq_true rfl, Nat.le_of_ble_eq_true rfl⟩) (pre_V hPc hK hDc hN (ci := 11) (q0 := 0) rfl rfl) rfl rfl hl.1 rfl (lv_room (Nat.le_of_ble_eq_true rfl)) dX11_nodes_14 ⟨Nat.le_of_ble_eq_true rfl, Nat.le_of_ble_eq_true rfl⟩) hP hD hS hA [0, 1, 2, 3, 4] [] [0, 1, 2, 3, 4] rfl rfl (by decide +kernel) (by decide +kernel) (by decide +kernel) (by decide +kernel) (fun _ => rfl) (fun u H locs hq hP hD hS => ?_)
      obtain ⟨y6, y7, f8, y9, y10, f11⟩ := u
      obtain ⟨y6_h, f8_b, y9_h, y10_h, f11_b, e12⟩ := hq
      have hP : va_P (dC, dI) vwCl ([(o1, .inr (11, [.ref o2, .ref o7, .ref o12, .ref o41, .ref o51, .ref o64, .ref o77, .ref o84, .ref o91, .ref o99, .ref o111, .ref o123, .int v125])), (o2, .inr (4, [.ref o3, .int y6, .int y7])), (o3, .inl (cI, 12, .inl f8)), (o12, .inr (6, [.ref o13, .ref o18, .ref o32, .ref o34, .int y9, .int v37, .int y10, .int v39, .int v40])), (o34, .inl (cI, 12, .inl f11))]) H := hP
      have hD : va_D A ([(o1, .inr (11, [.ref o2, .ref o7, .ref o12, .ref o41, .ref o51, .ref o64, .ref o77, .ref o84, .ref o91, .ref o99, .ref o111, .ref o123, .int v125])), (o2, .inr (4, [.ref o3, .int y6, .int y7])), (o3, .inl (cI, 12, .inl f8)), (o12, .inr (6, [.ref o13, .ref o18, .ref o32, .ref o34, .int y9, .int v37, .int y10, .int v39, .int v40])), (o34, .inl (cI, 12, .inl f11))]) := hD
      refine lv_iload_n hx hb dX11_nodes_17 rfl (lv_at hl 1 rfl) ?_
      rw [hQ]
      exact W.iret (v := a1) hx hb hr (fun t ht hW => ⟨⟨a1, (y6, y7, f8, y9, y10, f11), rfl, ⟨(iv_w j5 (by decide)), y6_h, f8_b, y9_h, y10_h, f11_b, (nodeF_ok j5)⟩, by rw [ht]; exact hP, va_K.moved hW.alike hK, hD⟩, hS.F ht⟩) hS.2.2 dX11_nodes_18
    ·
      have qh4 := nle_i h4
      have j13 : Iv 13 2147483647 a1 := r_ltr qh4 ik_12 j3 (by decide)
      refine lv_iconst (v := (-1)) hx hb dX11_nodes_10 (by decide) ?_
      rw [hQ]
      exact W.iret (v := (-1)) hx hb hr (fun t ht hW => ⟨⟨(-1), (v5, v6, fw4, v36, v38, fw35), rfl, ⟨(iv_w ikm_1 (by decide)), v5_h, fw4_b, v36_h, v38_h, fw35_b, (nodeF_hi qh4)⟩, by rw [ht]; exact hP, va_K.moved hW.alike hK, hD⟩, hS.F ht⟩) hS.2.2 dX11_nodes_11
set_option maxHeartbeats 4000000 in
set_option maxRecDepth 100000 in
theorem kxX10_hasPlace_2 (l : Launch) (dC : Nat → ClassId) (dI : Nat → Nat → Nat) (cI c2 cZ : ClassId) (o1 : Nat) (o2 : Nat) (v4 : Int32) (v5 : Int32) (a1 : Int32) (sz : Nat) (v4_h : Iv 0 8 v4) : Met l yX10_hasPlace wsX10_hasPlace ({ frames := 0, cells := 0, slots := 0, locals := 0 }) (va_Pc [.ref o1, .int a1] (wPre (dC, dI) [(cI, .int), (c2, .array .int), (cZ, .boolean)] ([(o1, .inr (10, [.ref o2, .int v4, .int v5]))]) sz)) (va_Qi (fun (r : Int32) (_ : Unit) => Iv 0 1 r ∧ (¬ r = 0 → Iv 0 11 a1) ∧ (r : Int32) = if Int32.toInt 0 ≤ Int32.toInt a1 ∧ Int32.toInt a1 ≤ Int32.toInt 11 then 1 else 0) (fun _ t => wPost (dC, dI) [(cI, .int), (c2, .array .int), (cZ, .boolean)] (va_A ([(o1, .inr (10, [.ref o2, .int v4, .int v5]))]) sz) ([(o1, .inr (10, [.ref o2, .int v4, .int v5]))]) t) (va_A ([(o1, .inr (10, [.ref o2, .int v4, .int v5]))]) sz)) 0 0 (va_A ([(o1, .inr (10, [.ref o2, .int v4, .int v5]))]) sz) := by
  refine Met.ofW (cc := cX10_hasPlace) (maxL := 2) (ret := (some .boolean)) (by decide) rfl ?_
  intro p e s m args below meth c s₁ B hml hv
  obtain ⟨rfl, hsz, hP, hK, hD0, hN⟩ := hv
  have hx := B.exec
  have hb := B.bytes
  have hr := B.returns
  have hts := atoms_spec (ws := wsX10_hasPlace) B.pre
  have hown : s.vm.findClass RX10 = some m.cls := findClass_of_methodNamed B.named
  have hlocks := B.notSynchronized
  subst hsz
  have hD := hD0.self (sz := s.heap.size)
  generalize hAe : va_A ([(o1, .inr (10, [.ref o2, .int v4, .int v5]))]) s.heap.size = A at hD ⊢
  have hA : ∀ q : Nat, s.heap.size ≤ q → A q := fun q h => by rw [← hAe]; exact Or.inr h
  have hS : va_S A s.heap s.heap [] := va_S.rf
  have hP : va_P (dC, dI) vwCl ([(o1, .inr (10, [.ref o2, .int v4, .int v5]))]) s.heap := hP
  have hl := lv_entry ([.ref o1, .int a1]) (n := 2) (Nat.le_of_ble_eq_true rfl)
  rw [lg_entry_eq]
  generalize (lg_sl ([.ref o1, .int a1]) ++ List.replicate (2 - (lg_sl ([.ref o1, .int a1])).length) Slot.unset).toArray = ls at hl ⊢
  have hl : lv_has ls 2 [(0, .ref o1), (1, .int a1)] := hl
  refine gen_Q (fun Q hQ => ?_)
  refine lv_iload_n hx hb dX10_hasPlace_0 rfl (lv_at hl 1 rfl) ?_
  refine lv_if_lt (tgt := 14) hx hb dX10_hasPlace_1 (by decide) (fun h1 => ?_) (fun h1 => ?_)
  ·
    have qh1 := lt_i h1
    have j2 : Iv (-2147483648) (-1) a1 := r_ltl qh1 (iv_full a1) ik_0 (by decide)
    refine lv_iconst (v := 0) hx hb dX10_hasPlace_14 (by decide) ?_
    rw [hQ]
    exact W.zret (v := 0) (ty := .boolean) hx hb hr rfl (fun t ht hW => ⟨⟨0, (), rfl, ⟨(iv_w ik_0 (by decide)), (fun h8 => absurd rfl h8), (hpl_l qh1)⟩, by rw [ht]; exact hP, va_K.moved hW.alike hK, hD⟩, hS.F ht⟩) hS.2.2 dX10_hasPlace_15
  ·
    have qh1 := nlt_i h1
    have j3 : Iv 0 2147483647 a1 := r_ler qh1 ik_0 (iv_full a1) (by decide)
    refine lv_iload_n hx hb dX10_hasPlace_4 rfl (lv_at hl 1 rfl) ?_
    refine lv_bipush (v := 12) hx hb dX10_hasPlace_5 (by decide) ?_
    refine lv_icmp_ge (tgt := 14) hx hb dX10_hasPlace_7 (by decide) (fun h4 => ?_) (fun h4 => ?_)
    ·
      have qh4 := le_i h4
      have j5 : Iv 12 2147483647 a1 := r_ler qh4 ik_12 j3 (by decide)
      refine lv_iconst (v := 0) hx hb dX10_hasPlace_14 (by decide) ?_
      rw [hQ]
      exact W.zret (v := 0) (ty := .boolean) hx hb hr rfl (fun t ht hW => ⟨⟨0, (), rfl, ⟨(iv_w ik_0 (by decide)), (fun h8 => absurd rfl h8), (hpl_h qh4)⟩, by rw [ht]; exact hP, va_K.moved hW.alike hK, hD⟩, hS.F ht⟩) hS.2.2 dX10_hasPlace_15
    ·
      have qh4 := nle_i h4
      have j6 : Iv 0 11 a1 := r_ltl qh4 j3 ik_12 (by decide)
      refine lv_iconst (v := 1) hx hb dX10_hasPlace_10 (by decide) ?_
      refine lv_goto (tgt := 15) hx hb dX10_hasPlace_11 (by decide) ?_
      rw [hQ]
      exact W.zret (v := 1) (ty := .boolean) hx hb hr rfl (fun t ht hW => ⟨⟨1, (), rfl, ⟨(iv_w ik_1 (by decide)), (fun _ => j6), (hpl_t j6)⟩, by rw [ht]; exact hP, va_K.moved hW.alike hK, hD⟩, hS.F ht⟩) hS.2.2 dX10_hasPlace_15
set_option maxHeartbeats 4000000 in
set_option maxRecDepth 100000 in
theorem kxX10_put_2 (l : Launch) (dC : Nat → ClassId) (dI : Nat → Nat → Nat) (cI c2 cZ : ClassId) (o1 : Nat) (o2 : Nat) (fw3 : Nat → Int32) (v4 : Int32) (v5 : Int32) (a1 : Int32) (a2 : Int32) (sz : Nat) (fw3_b : Bd 12 (-1) 255 fw3) (v4_h : Iv 0 8 v4) (a1_h : Iv 0 11 a1) (a2_h : Iv (-1) 255 a2) : Met l yX10_put wsX10_put ({ frames := 0, cells := 0, slots := 0, locals := 0 }) (va_Pc [.ref o1, .int a1, .int a2] (wPre (dC, dI) [(cI, .int), (c2, .array .int), (cZ, .boolean)] ([(o1, .inr (10, [.ref o2, .int v4, .int v5])), (o2, .inl (cI, 12, .inl fw3))]) sz)) (va_Qv (fun (u : Int32 × (Nat → Int32)) => Bd 12 (-1) 255 u.2 ∧ u.2 = upd fw3 (Int32.toNatClampNeg a1) a2) (fun u t => wPost (dC, dI) [(cI, .int), (c2, .array .int), (cZ, .boolean)] (va_A ([(o1, .inr (10, [.ref o2, .int v4, .int v5])), (o2, .inl (cI, 12, .inl fw3))]) sz) ([(o1, .inr (10, [.ref o2, .int v4, .int u.1])), (o2, .inl (cI, 12, .inl u.2))]) t) (va_A ([(o1, .inr (10, [.ref o2, .int v4, .int v5])), (o2, .inl (cI, 12, .inl fw3))]) sz)) 0 0 (va_A ([(o1, .inr (10, [.ref o2, .int v4, .int v5])), (o2, .inl (cI, 12, .inl fw3))]) sz) := by
  refine Met.ofW (cc := cX10_put) (maxL := 3) (ret := none) (by decide) rfl ?_
  intro p e s m args below meth c s₁ B hml hv
  obtain ⟨rfl, hsz, hP, hK, hD0, hN⟩ := hv
  have hx := B.exec
  have hb := B.bytes
  have hr := B.returns
  have hts := atoms_spec (ws := wsX10_put) B.pre
  have hown : s.vm.findClass RX10 = some m.cls := findClass_of_methodNamed B.named
  have hlocks := B.notSynchronized
  subst hsz
  have hD := hD0.self (sz := s.heap.size)
  generalize hAe : va_A ([(o1, .inr (10, [.ref o2, .int v4, .int v5])), (o2, .inl (cI, 12, .inl fw3))]) s.heap.size = A at hD ⊢
  have hA : ∀ q : Nat, s.heap.size ≤ q → A q := fun q h => by rw [← hAe]; exact Or.inr h
  have hS : va_S A s.heap s.heap [] := va_S.rf
  have hP : va_P (dC, dI) vwCl ([(o1, .inr (10, [.ref o2, .int v4, .int v5])), (o2, .inl (cI, 12, .inl fw3))]) s.heap := hP
  have hl := lv_entry ([.ref o1, .int a1, .int a2]) (n := 3) (Nat.le_of_ble_eq_true rfl)
  rw [lg_entry_eq]
  generalize (lg_sl ([.ref o1, .int a1, .int a2]) ++ List.replicate (3 - (lg_sl ([.ref o1, .int a1, .int a2])).length) Slot.unset).toArray = ls at hl ⊢
  have hl : lv_has ls 3 [(0, .ref o1), (1, .int a1), (2, .int a2)] := hl
  refine gen_Q (fun Q hQ => ?_)
  refine lv_aload_n hx hb dX10_put_0 rfl (lv_at hl 0 rfl) ?_
  refine va_get (D := (dC, dI)) (ci := 10) (v := .ref o2) (C := RX10) (T := TX10) (N := 3) hx hb hts iw_X10_put_X10 hown hK hP 0 rfl rfl 0 (by decide) (hts (.fieldLink RX10 9 "HolelessHouse$Table" "rows" "[I") hm_X10_put_1) (fun _ h9 => h9) rfl dX10_put_1 ?_
  refine lv_iload_n hx hb dX10_put_4 rfl (lv_at hl 1 rfl) ?_
  refine lv_iload_n hx hb dX10_put_5 rfl (lv_at hl 2 rfl) ?_
  refine k_iast hx hb hK hP hD hS 1 0 rfl rfl (vin_iv a1_h (by decide)) dX10_put_6 (fun f1 H locs f1_e hP hD hS => ?_)
  have f1_b : Bd 12 (-1) 255 f1 := bd_upd f1_e fw3_b a2_h (by decide)
  have hP : va_P (dC, dI) vwCl ([(o1, .inr (10, [.ref o2, .int v4, .int v5])), (o2, .inl (cI, 12, .inl f1))]) H := hP
  have hD : va_D A ([(o1, .inr (10, [.ref o2, .int v4, .int v5])), (o2, .inl (cI, 12, .inl f1))]) := hD
  refine lv_aload_n hx hb dX10_put_7 rfl (lv_at hl 0 rfl) ?_
  refine lv_dup hx hb dX10_put_8 rfl ?_
  refine va_get (D := (dC, dI)) (ci := 10) (v := .int v5) (C := RX10) (T := TX10) (N := 3) hx hb hts iw_X10_put_X10 hown hK hP 0 rfl rfl 2 (by decide) (hts (.fieldLink RX10 19 "HolelessHouse$Table" "version" "I") hm_X10_put_2) (fun _ h9 => h9) rfl dX10_put_9 ?_
  refine lv_iconst (v := 1) hx hb dX10_put_12 (by decide) ?_
  refine lv_iadd hx hb dX10_put_13 (lv_topi (fun x2 x2_e => ?_))
  refine va_put (D := (dC, dI)) (ci := 10) (v := .int x2) (ty := .int) (C := RX10) (T := TX10) (N := 3) hx hb hts iw_X10_put_X10 tyX10 tyX10_ok nmX10 hown hK hP hD hS 0 rfl rfl 2 (by decide) (hts (.fieldLink RX10 19 "HolelessHouse$Table" "version" "I") hm_X10_put_2) (fun _ h9 => h9) rfl (by decide +kernel) rfl rfl (Nat.le_of_ble_eq_true rfl) dX10_put_14 (fun H locs hP hD hS => ?_)
  have hP : va_P (dC, dI) vwCl ([(o1, .inr (10, [.ref o2, .int v4, .int x2])), (o2, .inl (cI, 12, .inl f1))]) H := hP
  have hD : va_D A ([(o1, .inr (10, [.ref o2, .int v4, .int x2])), (o2, .inl (cI, 12, .inl f1))]) := hD
  rw [hQ]
  exact W.vret hx hb hr (fun t ht hW => ⟨⟨(x2, f1), rfl, ⟨f1_b, f1_e⟩, by rw [ht]; exact hP, va_K.moved hW.alike hK, hD⟩, hS.F ht⟩) hS.2.2 dX10_put_17
set_option maxHeartbeats 4000000 in
set_option maxRecDepth 100000 in
theorem kxX11_row_2 (l : Launch) (dC : Nat → ClassId) (dI : Nat → Nat → Nat) (cI c2 cZ : ClassId) (o1 : Nat) (o2 : Nat) (o7 : Nat) (o12 : Nat) (o41 : Nat) (o51 : Nat) (o64 : Nat) (o77 : Nat) (o84 : Nat) (o91 : Nat) (o99 : Nat) (o111 : Nat) (o123 : Nat) (o8 : Nat) (fw9 : Nat → Int32) (v10 : Int32) (v11 : Int32) (fw124 : Nat → Int32) (v125 : Int32) (a1 : Int32) (a2 : Int32) (sz : Nat) (fw9_b : Bd 12 (-1) 255 fw9) (v10_h : Iv 0 8 v10) : Met l yX11_row wsX11_row ({ frames := 1, cells := 0, slots := 0, locals := 22 }) (va_Pc [.ref o1, .int a1, .int a2] (wPre (dC, dI) [(cI, .int), (c2, .array .int), (cZ, .boolean)] ([(o1, .inr (11, [.ref o2, .ref o7, .ref o12, .ref o41, .ref o51, .ref o64, .ref o77, .ref o84, .ref o91, .ref o99, .ref o111, .ref o123, .int v125])), (o7, .inr (10, [.ref o8, .int v10, .int v11])), (o8, .inl (cI, 12, .inl fw9)), (o123, .inl (cI, 5, .inl fw124))]) sz)) (va_Qi (fun (r : Int32) (u : Int32 × Int32 × (Nat → Int32) × (Nat → Int32)) => Iv (-3) 1 r ∧ Bd 12 (-1) 255 u.2.2.1 ∧ rowP a1 a2 v10 fw9 u.2.2.1 r) (fun u t => wPost (dC, dI) [(cI, .int), (c2, .array .int), (cZ, .boolean)] (va_A ([(o1, .inr (11, [.ref o2, .ref o7, .ref o12, .ref o41, .ref o51, .ref o64, .ref o77, .ref o84, .ref o91, .ref o99, .ref o111, .ref o123, .int v125])), (o7, .inr (10, [.ref o8, .int v10, .int v11])), (o8, .inl (cI, 12, .inl fw9)), (o123, .inl (cI, 5, .inl fw124))]) sz) ([(o1, .inr (11, [.ref o2, .ref o7, .ref o12, .ref o41, .ref o51, .ref o64, .ref o77, .ref o84, .ref o91, .ref o99, .ref o111, .ref o123, .int u.1])), (o7, .inr (10, [.ref o8, .int v10, .int u.2.1])), (o8, .inl (cI, 12, .inl u.2.2.1)), (o123, .inl (cI, 5, .inl u.2.2.2))]) t) (va_A ([(o1, .inr (11, [.ref o2, .ref o7, .ref o12, .ref o41, .ref o51, .ref o64, .ref o77, .ref o84, .ref o91, .ref o99, .ref o111, .ref o123, .int v125])), (o7, .inr (10, [.ref o8, .int v10, .int v11])), (o8, .inl (cI, 12, .inl fw9)), (o123, .inl (cI, 5, .inl fw124))]) sz)) 0 0 (va_A ([(o1, .inr (11, [.ref o2, .ref o7, .ref o12, .ref o41, .ref o51, .ref o64, .ref o77, .ref o84, .ref o91, .ref o99, .ref o111, .ref o123, .int v125])), (o7, .inr (10, [.ref o8, .int v10, .int v11])), (o8, .inl (cI, 12, .inl fw9)), (o123, .inl (cI, 5, .inl fw124))]) sz) := by
  refine Met.ofW (cc := cX11_row) (maxL := 3) (ret := (some .int)) (by decide) rfl ?_
  intro p e s m args below meth c s₁ B hml hv
  obtain ⟨rfl, hsz, hP, hK, hD0, hN⟩ := hv
  have hx := B.exec
  have hb := B.bytes
  have hr := B.returns
  have hts := atoms_spec (ws := wsX11_row) B.pre
  have hown : s.vm.findClass RX11 = some m.cls := findClass_of_methodNamed B.named
  have hlocks := B.notSynchronized
  subst hsz
  have hD := hD0.self (sz := s.heap.size)
  generalize hAe : va_A ([(o1, .inr (11, [.ref o2, .ref o7, .ref o12, .ref o41, .ref o51, .ref o64, .ref o77, .ref o84, .ref o91, .ref o99, .ref o111, .ref o123, .int v125])), (o7, .inr (10, [.ref o8, .int v10, .int v11])), (o8, .inl (cI, 12, .inl fw9)), (o123, .inl (cI, 5, .inl fw124))]) s.heap.size = A at hD ⊢
  have hA : ∀ q : Nat, s.heap.size ≤ q → A q := fun q h => by rw [← hAe]; exact Or.inr h
  have hS : va_S A s.heap s.heap [] := va_S.rf
  have hP : va_P (dC, dI) vwCl ([(o1, .inr (11, [.ref o2, .ref o7, .ref o12, .ref o41, .ref o51, .ref o64, .ref o77, .ref o84, .ref o91, .ref o99, .ref o111, .ref o123, .int v125])), (o7, .inr (10, [.ref o8, .int v10, .int v11])), (o8, .inl (cI, 12, .inl fw9)), (o123, .inl (cI, 5, .inl fw124))]) s.heap := hP
  have hl := lv_entry ([.ref o1, .int a1, .int a2]) (n := 3) (Nat.le_of_ble_eq_true rfl)
  rw [lg_entry_eq]
  generalize (lg_sl ([.ref o1, .int a1, .int a2]) ++ List.replicate (3 - (lg_sl ([.ref o1, .int a1, .int a2])).length) Slot.unset).toArray = ls at hl ⊢
  have hl : lv_has ls 3 [(0, .ref o1), (1, .int a1), (2, .int a2)] := hl
  refine gen_Q (fun Q hQ => ?_)
  refine lv_iload_n hx hb dX11_row_0 rfl (lv_at hl 2 rfl) ?_
  refine lv_if_lt (tgt := 17) hx hb dX11_row_1 (by decide) (fun h1 => ?_) (fun h1 => ?_)
  ·
    have qh1 := lt_i h1
    have j2 : Iv (-2147483648) (-1) a2 := r_ltl qh1 (iv_full a2) ik_0 (by decide)
    refine lv_iconst (v := (-1)) hx hb dX11_row_17 (by decide) ?_
    rw [hQ]
    exact W.iret (v := (-1)) hx hb hr (fun t ht hW => ⟨⟨(-1), (v125, v11, fw9, fw124), rfl, ⟨(iv_w ikm_1 (by decide)), fw9_b, (rowP_1 (bit_lo qh1))⟩, by rw [ht]; exact hP, va_K.moved hW.alike hK, hD⟩, hS.F ht⟩) hS.2.2 dX11_row_18
  ·
    have qh1 := nlt_i h1
    have j3 : Iv 0 2147483647 a2 := r_ler qh1 ik_0 (iv_full a2) (by decide)
    refine lv_iload_n hx hb dX11_row_4 rfl (lv_at hl 2 rfl) ?_
    refine lv_iconst (v := 1) hx hb dX11_row_5 (by decide) ?_
    refine lv_aload_n hx hb dX11_row_6 rfl (lv_at hl 0 rfl) ?_
    refine va_get (D := (dC, dI)) (ci := 11) (v := .ref o7) (C := RX11) (T := TX11) (N := 13) hx hb hts iw_X11_row_X11 hown hK hP 0 rfl rfl 1 (by decide) (hts (.fieldLink RX11 19 "HolelessHouse" "table" "LHolelessHouse$Table;") hm_X11_row_1) (fun _ h9 => h9) rfl dX11_row_7 ?_
    refine va_getN (D := (dC, dI)) (ci := 10) (v := .int v10) (C := RX10) (T := TX10) (N := 3) hx hb hts iw_X11_row_X10 hown hK hP 1 rfl rfl 1 (by decide) (hN.use ns_22) (fun _ h9 => h9) rfl dX11_row_10 ?_
    refine lv_ishl hx hb dX11_row_13 (lv_topi (fun x4 x4_e => ?_))
    have x4_h : Iv 1 256 x4 := iv_e x4_e (iv_shl1 v10_h (by decide))
    refine lv_icmp_lt (tgt := 19) hx hb dX11_row_14 (by decide) (fun h5 => ?_) (fun h5 => ?_)
    ·
      have qh5 := lt_i h5
      have j6 : Iv 0 255 a2 := r_ltl qh5 j3 x4_h (by decide)
      refine lv_aload_n hx hb dX11_row_19 rfl (lv_at hl 0 rfl) ?_
      refine va_get (D := (dC, dI)) (ci := 11) (v := .ref o7) (C := RX11) (T := TX11) (N := 13) hx hb hts iw_X11_row_X11 hown hK hP 0 rfl rfl 1 (by decide) (hts (.fieldLink RX11 19 "HolelessHouse" "table" "LHolelessHouse$Table;") hm_X11_row_1) (fun _ h9 => h9) rfl dX11_row_20 ?_
      refine lv_iload_n hx hb dX11_row_23 rfl (lv_at hl 1 rfl) ?_
      refine kc_i (D := (dC, dI)) (S := Unit) (wc := [(o7, .inr (10, [.ref o8, .int v10, .int v11]))]) (wr := [(o1, .inr (11, [.ref o2, .ref o7, .ref o12, .ref o41, .ref o51, .ref o64, .ref o77, .ref o84, .ref o91, .ref o99, .ref o111, .ref o123, .int v125])), (o8, .inl (cI, 12, .inl fw9)), (o123, .inl (cI, 5, .inl fw124))]) (w1 := fun _ => [(o7, .inr (10, [.ref o8, .int v10, .int v11]))]) (wn := fun _ => [(o1, .inr (11, [.ref o2, .ref o7, .ref o12, .ref o41, .ref o51, .ref o64, .ref o77, .ref o84, .ref o91, .ref o99, .ref o111, .ref o123, .int v125])), (o7, .inr (10, [.ref o8, .int v10, .int v11])), (o8, .inl (cI, 12, .inl fw9)), (o123, .inl (cI, 5, .inl fw124))]) (fun hPc hDc => va_runVN (As := [.int a1]) (rest := []) ⟨hx, hb, hml, hown, hts⟩ (kxX10_hasPlace_2 l dC dI cI c2 cZ o7 o8 v10 v11 a1 s.heap.size v10_h) ⟨va_cnB 1 hts gX11_row_X10_hasPlace_n252 rfl rfl rfl (hN.1 _ ns_133) (hts (.initialized RX10) hm_X11_row_3) (by decide +kernel) ⟨Nat.le_of_ble_eq_true rfl, Nat.le_of_ble_eq_true rfl⟩, (hts (.instanceMethod yX10_hasPlace) hm_X11_row_2), (hts (.selects RX10 yX10_hasPlace yX10_hasPlace) hm_X11_row_4)⟩ (pre_V hPc hK hDc hN (ci := 10) (q0 := 0) rfl rfl) rfl rfl hl.1 rfl (lv_room (Nat.le_of_ble_eq_true rfl)) dX11_row_24 ⟨Nat.le_of_ble_eq_true rfl, Nat.le_of_ble_eq_true rfl⟩) hP hD hS hA [1] [0, 2, 3] [0, 3, 1, 2] rfl rfl (by decide +kernel) (by decide +kernel) (by decide +kernel) (by decide +kernel) (fun _ => rfl) (fun x7 _ H locs hq hP hD hS => ?_)
      obtain ⟨x7_h, i8, e9⟩ := hq
      have hP : va_P (dC, dI) vwCl ([(o1, .inr (11, [.ref o2, .ref o7, .ref o12, .ref o41, .ref o51, .ref o64, .ref o77, .ref o84, .ref o91, .ref o99, .ref o111, .ref o123, .int v125])), (o7, .inr (10, [.ref o8, .int v10, .int v11])), (o8, .inl (cI, 12, .inl fw9)), (o123, .inl (cI, 5, .inl fw124))]) H := hP
      have hD : va_D A ([(o1, .inr (11, [.ref o2, .ref o7, .ref o12, .ref o41, .ref o51, .ref o64, .ref o77, .ref o84, .ref o91, .ref o99, .ref o111, .ref o123, .int v125])), (o7, .inr (10, [.ref o8, .int v10, .int v11])), (o8, .inl (cI, 12, .inl fw9)), (o123, .inl (cI, 5, .inl fw124))]) := hD
      refine lv_if_ne (tgt := 36) hx hb dX11_row_27 (by decide) (fun h10 => ?_) (fun h10 => ?_)
      ·
        have j11 : Iv 1 1 x7 := r_nelo h10 x7_h ik_0 (by decide)
        have j12 : Iv 0 11 a1 := i8 h10
        refine lv_aload_n hx hb dX11_row_36 rfl (lv_at hl 0 rfl) ?_
        refine va_get (D := (dC, dI)) (ci := 11) (v := .ref o7) (C := RX11) (T := TX11) (N := 13) hx hb hts iw_X11_row_X11 hown hK hP 0 rfl rfl 1 (by decide) (hts (.fieldLink RX11 19 "HolelessHouse" "table" "LHolelessHouse$Table;") hm_X11_row_1) (fun _ h9 => h9) rfl dX11_row_37 ?_
        refine lv_iload_n hx hb dX11_row_40 rfl (lv_at hl 1 rfl) ?_
        refine lv_iload_n hx hb dX11_row_41 rfl (lv_at hl 2 rfl) ?_
        refine kc_v (D := (dC, dI)) (S := Int32 × (Nat → Int32)) (wc := [(o7, .inr (10, [.ref o8, .int v10, .int v11])), (o8, .inl (cI, 12, .inl fw9))]) (wr := [(o1, .inr (11, [.ref o2, .ref o7, .ref o12, .ref o41, .ref o51, .ref o64, .ref o77, .ref o84, .ref o91, .ref o99, .ref o111, .ref o123, .int v125])), (o123, .inl (cI, 5, .inl fw124))]) (w1 := fun u => [(o7, .inr (10, [.ref o8, .int v10, .int u.1])), (o8, .inl (cI, 12, .inl u.2))]) (wn := fun u => [(o1, .inr (11, [.ref o2, .ref o7, .ref o12, .ref o41, .ref o51, .ref o64, .ref o77, .ref o84, .ref o91, .ref o99, .ref o111, .ref o123, .int v125])), (o7, .inr (10, [.ref o8, .int v10, .int u.1])), (o8, .inl (cI, 12, .inl u.2)), (o123, .inl (cI, 5, .inl fw124))]) (fun hPc hDc => va_runVN (As := [.int a1, .int a2]) (rest := []) ⟨hx, hb, hml, hown, hts⟩ (kxX10_put_2 l dC dI cI c2 cZ o7 o8 fw9 v10 v11 a1 a2 H.size fw9_b v10_h j12 (iv_w j6 (by decide))) ⟨va_cnB 2 hts gX11_row_X10_put_n255 rfl rfl rfl (hN.1 _ ns_134) (hts (.initialized RX10) hm_X11_row_3) (by decide +kernel) ⟨Nat.le_of_ble_eq_true rfl, Nat.le_of_ble_eq_true rfl⟩, (hts (.instanceMethod yX10_put) hm_X11_row_13), (hts (.selects RX10 yX10_put yX10_put) hm_X11_row_14)⟩ (pre_V hPc hK hDc hN (ci := 10) (q0 := 0) rfl rfl) rfl rfl hl.1 rfl (lv_room (Nat.le_of_ble_eq_true rfl)) dX11_row_42 ⟨Nat.le_of_ble_eq_true rfl, Nat.le_of_ble_eq_true rfl⟩) hP hD hS hA [1, 2] [0, 3] [0, 2, 3, 1] rfl rfl (by decide +kernel) (by decide +kernel) (by decide +kernel) (by decide +kernel) (fun _ => rfl) (fun u H locs hq hP hD hS => ?_)
        obtain ⟨y13, f14⟩ := u
        obtain ⟨f14_b, e15⟩ := hq
        have hP : va_P (dC, dI) vwCl ([(o1, .inr (11, [.ref o2, .ref o7, .ref o12, .ref o41, .ref o51, .ref o64, .ref o77, .ref o84, .ref o91, .ref o99, .ref o111, .ref o123, .int v125])), (o7, .inr (10, [.ref o8, .int v10, .int y13])), (o8, .inl (cI, 12, .inl f14)), (o123, .inl (cI, 5, .inl fw124))]) H := hP
        have hD : va_D A ([(o1, .inr (11, [.ref o2, .ref o7, .ref o12, .ref o41, .ref o51, .ref o64, .ref o77, .ref o84, .ref o91, .ref o99, .ref o111, .ref o123, .int v125])), (o7, .inr (10, [.ref o8, .int v10, .int y13])), (o8, .inl (cI, 12, .inl f14)), (o123, .inl (cI, 5, .inl fw124))]) := hD
        refine lv_iconst (v := 1) hx hb dX11_row_45 (by decide) ?_
        rw [hQ]
        exact W.iret (v := 1) hx hb hr (fun t ht hW => ⟨⟨1, (v125, y13, f14, fw124), rfl, ⟨(iv_w ik_1 (by decide)), f14_b, (rowP_3 (bit_ok j6 x4_e qh5) (inx_ne e9 h10) e15)⟩, by rw [ht]; exact hP, va_K.moved hW.alike hK, hD⟩, hS.F ht⟩) hS.2.2 dX11_row_46
      ·
        have j16 : Iv 0 0 x7 := r_eq h10 ik_0
        refine lv_aload_n hx hb dX11_row_30 rfl (lv_at hl 0 rfl) ?_
        refine lv_iconst (v := 2) hx hb dX11_row_31 (by decide) ?_
        refine kc_i (D := (dC, dI)) (S := Int32 × (Nat → Int32)) (wc := [(o1, .inr (11, [.ref o2, .ref o7, .ref o12, .ref o41, .ref o51, .ref o64, .ref o77, .ref o84, .ref o91, .ref o99, .ref o111, .ref o123, .int v125])), (o123, .inl (cI, 5, .inl fw124))]) (wr := [(o7, .inr (10, [.ref o8, .int v10, .int v11])), (o8, .inl (cI, 12, .inl fw9))]) (w1 := fun u => [(o1, .inr (11, [.ref o2, .ref o7, .ref o12, .ref o41, .ref o51, .ref o64, .ref o77, .ref o84, .ref o91, .ref o99, .ref o111, .ref o123, .int u.1])), (o123, .inl (cI, 5, .inl u.2))]) (wn := fun u => [(o1, .inr (11, [.ref o2, .ref o7, .ref o12, .ref o41, .ref o51, .ref o64, .ref o77, .ref o84, .ref o91, .ref o99, .ref o111, .ref o123, .int u.1])), (o7, .inr (10, [.ref o8, .int v10, .int v11])), (o8, .inl (cI, 12, .inl fw9)), (o123, .inl (cI, 5, .inl u.2))]) (fun hPc hDc => va_runV (As := [.int 2]) (rest := []) ⟨hx, hb, hml, hown, hts⟩ (kX11_found_3 l dC dI cI c2 cZ o1 o2 o7 o12 o41 o51 o64 o77 o84 o91 o99 o111 o123 fw124 v125 2 H.size ik_2) (cwV 1 hts gX11_row_X11_found rfl rfl rfl (by decide +kernel) ⟨Nat.le_of_ble_eq_true rfl, Nat.le_of_ble_eq_true rfl⟩) (pre_V hPc hK hDc hN (ci := 11) (q0 := 0) rfl rfl) rfl rfl hl.1 rfl (lv_room (Nat.le_of_ble_eq_true rfl)) dX11_row_32 ⟨Nat.le_of_ble_eq_true rfl, Nat.le_of_ble_eq_true rfl⟩) hP hD hS hA [0, 3] [1, 2] [2, 0, 1, 3] rfl rfl (by decide +kernel) (by decide +kernel) (by decide +kernel) (by decide +kernel) (fun _ => rfl) (fun x19 u H locs hq hP hD hS => ?_)
        obtain ⟨y17, f18⟩ := u
        have x19_h := hq
        have hP : va_P (dC, dI) vwCl ([(o1, .inr (11, [.ref o2, .ref o7, .ref o12, .ref o41, .ref o51, .ref o64, .ref o77, .ref o84, .ref o91, .ref o99, .ref o111, .ref o123, .int y17])), (o7, .inr (10, [.ref o8, .int v10, .int v11])), (o8, .inl (cI, 12, .inl fw9)), (o123, .inl (cI, 5, .inl f18))]) H := hP
        have hD : va_D A ([(o1, .inr (11, [.ref o2, .ref o7, .ref o12, .ref o41, .ref o51, .ref o64, .ref o77, .ref o84, .ref o91, .ref o99, .ref o111, .ref o123, .int y17])), (o7, .inr (10, [.ref o8, .int v10, .int v11])), (o8, .inl (cI, 12, .inl fw9)), (o123, .inl (cI, 5, .inl f18))]) := hD
        rw [hQ]
        exact W.iret (v := x19) hx hb hr (fun t ht hW => ⟨⟨x19, (y17, v11, fw9, f18), rfl, ⟨(iv_w x19_h (by decide)), fw9_b, (rowP_2 (bit_ok j6 x4_e qh5) (inx_eq e9 h10) (d_eq x19_h ikm_3))⟩, by rw [ht]; exact hP, va_K.moved hW.alike hK, hD⟩, hS.F ht⟩) hS.2.2 dX11_row_35
    ·
      have qh5 := nlt_i h5
      have j20 : Iv 1 2147483647 a2 := r_ler qh5 x4_h j3 (by decide)
      refine lv_iconst (v := (-1)) hx hb dX11_row_17 (by decide) ?_
      rw [hQ]
      exact W.iret (v := (-1)) hx hb hr (fun t ht hW => ⟨⟨(-1), (v125, v11, fw9, fw124), rfl, ⟨(iv_w ikm_1 (by decide)), fw9_b, (rowP_1 (bit_hi x4_e qh5))⟩, by rw [ht]; exact hP, va_K.moved hW.alike hK, hD⟩, hS.F ht⟩) hS.2.2 dX11_row_18
set_option maxHeartbeats 4000000 in
set_option maxRecDepth 100000 in
theorem kxX11_tear_2 (l : Launch) (dC : Nat → ClassId) (dI : Nat → Nat → Nat) (cI c2 cZ : ClassId) (o1 : Nat) (o2 : Nat) (o7 : Nat) (o12 : Nat) (o41 : Nat) (o51 : Nat) (o64 : Nat) (o77 : Nat) (o84 : Nat) (o91 : Nat) (o99 : Nat) (o111 : Nat) (o123 : Nat) (o8 : Nat) (fw9 : Nat → Int32) (v10 : Int32) (v11 : Int32) (fw124 : Nat → Int32) (v125 : Int32) (a1 : Int32) (sz : Nat) (fw9_b : Bd 12 (-1) 255 fw9) (v10_h : Iv 0 8 v10) : Met l yX11_tear wsX11_tear ({ frames := 1, cells := 0, slots := 0, locals := 22 }) (va_Pc [.ref o1, .int a1] (wPre (dC, dI) [(cI, .int), (c2, .array .int), (cZ, .boolean)] ([(o1, .inr (11, [.ref o2, .ref o7, .ref o12, .ref o41, .ref o51, .ref o64, .ref o77, .ref o84, .ref o91, .ref o99, .ref o111, .ref o123, .int v125])), (o7, .inr (10, [.ref o8, .int v10, .int v11])), (o8, .inl (cI, 12, .inl fw9)), (o123, .inl (cI, 5, .inl fw124))]) sz)) (va_Qi (fun (r : Int32) (u : Int32 × Int32 × (Nat → Int32) × (Nat → Int32)) => Iv (-3) 1 r ∧ Bd 12 (-1) 255 u.2.2.1 ∧ teaP (-1) a1 fw9 u.2.2.1 r) (fun u t => wPost (dC, dI) [(cI, .int), (c2, .array .int), (cZ, .boolean)] (va_A ([(o1, .inr (11, [.ref o2, .ref o7, .ref o12, .ref o41, .ref o51, .ref o64, .ref o77, .ref o84, .ref o91, .ref o99, .ref o111, .ref o123, .int v125])), (o7, .inr (10, [.ref o8, .int v10, .int v11])), (o8, .inl (cI, 12, .inl fw9)), (o123, .inl (cI, 5, .inl fw124))]) sz) ([(o1, .inr (11, [.ref o2, .ref o7, .ref o12, .ref o41, .ref o51, .ref o64, .ref o77, .ref o84, .ref o91, .ref o99, .ref o111, .ref o123, .int u.1])), (o7, .inr (10, [.ref o8, .int v10, .int u.2.1])), (o8, .inl (cI, 12, .inl u.2.2.1)), (o123, .inl (cI, 5, .inl u.2.2.2))]) t) (va_A ([(o1, .inr (11, [.ref o2, .ref o7, .ref o12, .ref o41, .ref o51, .ref o64, .ref o77, .ref o84, .ref o91, .ref o99, .ref o111, .ref o123, .int v125])), (o7, .inr (10, [.ref o8, .int v10, .int v11])), (o8, .inl (cI, 12, .inl fw9)), (o123, .inl (cI, 5, .inl fw124))]) sz)) 0 0 (va_A ([(o1, .inr (11, [.ref o2, .ref o7, .ref o12, .ref o41, .ref o51, .ref o64, .ref o77, .ref o84, .ref o91, .ref o99, .ref o111, .ref o123, .int v125])), (o7, .inr (10, [.ref o8, .int v10, .int v11])), (o8, .inl (cI, 12, .inl fw9)), (o123, .inl (cI, 5, .inl fw124))]) sz) := by
  refine Met.ofW (cc := cX11_tear) (maxL := 2) (ret := (some .int)) (by decide) rfl ?_
  intro p e s m args below meth c s₁ B hml hv
  obtain ⟨rfl, hsz, hP, hK, hD0, hN⟩ := hv
  have hx := B.exec
  have hb := B.bytes
  have hr := B.returns
  have hts := atoms_spec (ws := wsX11_tear) B.pre
  have hown : s.vm.findClass RX11 = some m.cls := findClass_of_methodNamed B.named
  have hlocks := B.notSynchronized
  subst hsz
  have hD := hD0.self (sz := s.heap.size)
  generalize hAe : va_A ([(o1, .inr (11, [.ref o2, .ref o7, .ref o12, .ref o41, .ref o51, .ref o64, .ref o77, .ref o84, .ref o91, .ref o99, .ref o111, .ref o123, .int v125])), (o7, .inr (10, [.ref o8, .int v10, .int v11])), (o8, .inl (cI, 12, .inl fw9)), (o123, .inl (cI, 5, .inl fw124))]) s.heap.size = A at hD ⊢
  have hA : ∀ q : Nat, s.heap.size ≤ q → A q := fun q h => by rw [← hAe]; exact Or.inr h
  have hS : va_S A s.heap s.heap [] := va_S.rf
  have hP : va_P (dC, dI) vwCl ([(o1, .inr (11, [.ref o2, .ref o7, .ref o12, .ref o41, .ref o51, .ref o64, .ref o77, .ref o84, .ref o91, .ref o99, .ref o111, .ref o123, .int v125])), (o7, .inr (10, [.ref o8, .int v10, .int v11])), (o8, .inl (cI, 12, .inl fw9)), (o123, .inl (cI, 5, .inl fw124))]) s.heap := hP
  have hl := lv_entry ([.ref o1, .int a1]) (n := 2) (Nat.le_of_ble_eq_true rfl)
  rw [lg_entry_eq]
  generalize (lg_sl ([.ref o1, .int a1]) ++ List.replicate (2 - (lg_sl ([.ref o1, .int a1])).length) Slot.unset).toArray = ls at hl ⊢
  have hl : lv_has ls 2 [(0, .ref o1), (1, .int a1)] := hl
  refine gen_Q (fun Q hQ => ?_)
  refine lv_aload_n hx hb dX11_tear_0 rfl (lv_at hl 0 rfl) ?_
  refine va_get (D := (dC, dI)) (ci := 11) (v := .ref o7) (C := RX11) (T := TX11) (N := 13) hx hb hts iw_X11_tear_X11 hown hK hP 0 rfl rfl 1 (by decide) (hts (.fieldLink RX11 19 "HolelessHouse" "table" "LHolelessHouse$Table;") hm_X11_tear_1) (fun _ h9 => h9) rfl dX11_tear_1 ?_
  refine lv_iload_n hx hb dX11_tear_4 rfl (lv_at hl 1 rfl) ?_
  refine kc_i (D := (dC, dI)) (S := Unit) (wc := [(o7, .inr (10, [.ref o8, .int v10, .int v11]))]) (wr := [(o1, .inr (11, [.ref o2, .ref o7, .ref o12, .ref o41, .ref o51, .ref o64, .ref o77, .ref o84, .ref o91, .ref o99, .ref o111, .ref o123, .int v125])), (o8, .inl (cI, 12, .inl fw9)), (o123, .inl (cI, 5, .inl fw124))]) (w1 := fun _ => [(o7, .inr (10, [.ref o8, .int v10, .int v11]))]) (wn := fun _ => [(o1, .inr (11, [.ref o2, .ref o7, .ref o12, .ref o41, .ref o51, .ref o64, .ref o77, .ref o84, .ref o91, .ref o99, .ref o111, .ref o123, .int v125])), (o7, .inr (10, [.ref o8, .int v10, .int v11])), (o8, .inl (cI, 12, .inl fw9)), (o123, .inl (cI, 5, .inl fw124))]) (fun hPc hDc => va_runVN (As := [.int a1]) (rest := []) ⟨hx, hb, hml, hown, hts⟩ (kxX10_hasPlace_2 l dC dI cI c2 cZ o7 o8 v10 v11 a1 s.heap.size v10_h) ⟨va_cnB 1 hts gX11_tear_X10_hasPlace_n252 rfl rfl rfl (hN.1 _ ns_133) (hts (.initialized RX10) hm_X11_tear_3) (by decide +kernel) ⟨Nat.le_of_ble_eq_true rfl, Nat.le_of_ble_eq_true rfl⟩, (hts (.instanceMethod yX10_hasPlace) hm_X11_tear_2), (hts (.selects RX10 yX10_hasPlace yX10_hasPlace) hm_X11_tear_4)⟩ (pre_V hPc hK hDc hN (ci := 10) (q0 := 0) rfl rfl) rfl rfl hl.1 rfl (lv_room (Nat.le_of_ble_eq_true rfl)) dX11_tear_5 ⟨Nat.le_of_ble_eq_true rfl, Nat.le_of_ble_eq_true rfl⟩) hP hD hS hA [1] [0, 2, 3] [0, 3, 1, 2] rfl rfl (by decide +kernel) (by decide +kernel) (by decide +kernel) (by decide +kernel) (fun _ => rfl) (fun x1 _ H locs hq hP hD hS => ?_)
  obtain ⟨x1_h, i2, e3⟩ := hq
  have hP : va_P (dC, dI) vwCl ([(o1, .inr (11, [.ref o2, .ref o7, .ref o12, .ref o41, .ref o51, .ref o64, .ref o77, .ref o84, .ref o91, .ref o99, .ref o111, .ref o123, .int v125])), (o7, .inr (10, [.ref o8, .int v10, .int v11])), (o8, .inl (cI, 12, .inl fw9)), (o123, .inl (cI, 5, .inl fw124))]) H := hP
  have hD : va_D A ([(o1, .inr (11, [.ref o2, .ref o7, .ref o12, .ref o41, .ref o51, .ref o64, .ref o77, .ref o84, .ref o91, .ref o99, .ref o111, .ref o123, .int v125])), (o7, .inr (10, [.ref o8, .int v10, .int v11])), (o8, .inl (cI, 12, .inl fw9)), (o123, .inl (cI, 5, .inl fw124))]) := hD
  refine lv_if_ne (tgt := 17) hx hb dX11_tear_8 (by decide) (fun h4 => ?_) (fun h4 => ?_)
  ·
    have j5 : Iv 1 1 x1 := r_nelo h4 x1_h ik_0 (by decide)
    have j6 : Iv 0 11 a1 := i2 h4
    refine lv_aload_n hx hb dX11_tear_17 rfl (lv_at hl 0 rfl) ?_
    refine va_get (D := (dC, dI)) (ci := 11) (v := .ref o7) (C := RX11) (T := TX11) (N := 13) hx hb hts iw_X11_tear_X11 hown hK hP 0 rfl rfl 1 (by decide) (hts (.fieldLink RX11 19 "HolelessHouse" "table" "LHolelessHouse$Table;") hm_X11_tear_1) (fun _ h9 => h9) rfl dX11_tear_18 ?_
    refine va_getN (D := (dC, dI)) (ci := 10) (v := .ref o8) (C := RX10) (T := TX10) (N := 3) hx hb hts iw_X11_tear_X10 hown hK hP 1 rfl rfl 0 (by decide) (hN.use ns_21) (fun _ h9 => h9) rfl dX11_tear_21 ?_
    refine lv_iload_n hx hb dX11_tear_24 rfl (lv_at hl 1 rfl) ?_
    refine va_iald hx hb hK hP 2 0 rfl rfl (vin_iv j6 (by decide)) dX11_tear_25 (lv_topi (fun x7 x7_e => ?_))
    have x7_h : Iv (-1) 255 x7 := iv_e x7_e (bd_at fw9_b (vin_iv j6 (by decide)))
    refine lv_iconst (v := (-1)) hx hb dX11_tear_26 (by decide) ?_
    refine lv_icmp_ne (tgt := 36) hx hb dX11_tear_27 (by decide) (fun h8 => ?_) (fun h8 => ?_)
    ·
      have j9 : Iv 0 255 x7 := r_nelo h8 x7_h ikm_1 (by decide)
      refine lv_aload_n hx hb dX11_tear_36 rfl (lv_at hl 0 rfl) ?_
      refine va_get (D := (dC, dI)) (ci := 11) (v := .ref o7) (C := RX11) (T := TX11) (N := 13) hx hb hts iw_X11_tear_X11 hown hK hP 0 rfl rfl 1 (by decide) (hts (.fieldLink RX11 19 "HolelessHouse" "table" "LHolelessHouse$Table;") hm_X11_tear_1) (fun _ h9 => h9) rfl dX11_tear_37 ?_
      refine lv_iload_n hx hb dX11_tear_40 rfl (lv_at hl 1 rfl) ?_
      refine lv_iconst (v := (-1)) hx hb dX11_tear_41 (by decide) ?_
      refine kc_v (D := (dC, dI)) (S := Int32 × (Nat → Int32)) (wc := [(o7, .inr (10, [.ref o8, .int v10, .int v11])), (o8, .inl (cI, 12, .inl fw9))]) (wr := [(o1, .inr (11, [.ref o2, .ref o7, .ref o12, .ref o41, .ref o51, .ref o64, .ref o77, .ref o84, .ref o91, .ref o99, .ref o111, .ref o123, .int v125])), (o123, .inl (cI, 5, .inl fw124))]) (w1 := fun u => [(o7, .inr (10, [.ref o8, .int v10, .int u.1])), (o8, .inl (cI, 12, .inl u.2))]) (wn := fun u => [(o1, .inr (11, [.ref o2, .ref o7, .ref o12, .ref o41, .ref o51, .ref o64, .ref o77, .ref o84, .ref o91, .ref o99, .ref o111, .ref o123, .int v125])), (o7, .inr (10, [.ref o8, .int v10, .int u.1])), (o8, .inl (cI, 12, .inl u.2)), (o123, .inl (cI, 5, .inl fw124))]) (fun hPc hDc => va_runVN (As := [.int a1, .int (-1)]) (rest := []) ⟨hx, hb, hml, hown, hts⟩ (kxX10_put_2 l dC dI cI c2 cZ o7 o8 fw9 v10 v11 a1 (-1) H.size fw9_b v10_h j6 (iv_w ikm_1 (by decide))) ⟨va_cnB 2 hts gX11_tear_X10_put_n255 rfl rfl rfl (hN.1 _ ns_134) (hts (.initialized RX10) hm_X11_tear_3) (by decide +kernel) ⟨Nat.le_of_ble_eq_true rfl, Nat.le_of_ble_eq_true rfl⟩, (hts (.instanceMethod yX10_put) hm_X11_tear_13), (hts (.selects RX10 yX10_put yX10_put) hm_X11_tear_14)⟩ (pre_V hPc hK hDc hN (ci := 10) (q0 := 0) rfl rfl) rfl rfl hl.1 rfl (lv_room (Nat.le_of_ble_eq_true rfl)) dX11_tear_42 ⟨Nat.le_of_ble_eq_true rfl, Nat.le_of_ble_eq_true rfl⟩) hP hD hS hA [1, 2] [0, 3] [0, 2, 3, 1] rfl rfl (by decide +kernel) (by decide +kernel) (by decide +kernel) (by decide +kernel) (fun _ => rfl) (fun u H locs hq hP hD hS => ?_)
      obtain ⟨y10, f11⟩ := u
      obtain ⟨f11_b, e12⟩ := hq
      have hP : va_P (dC, dI) vwCl ([(o1, .inr (11, [.ref o2, .ref o7, .ref o12, .ref o41, .ref o51, .ref o64, .ref o77, .ref o84, .ref o91, .ref o99, .ref o111, .ref o123, .int v125])), (o7, .inr (10, [.ref o8, .int v10, .int y10])), (o8, .inl (cI, 12, .inl f11)), (o123, .inl (cI, 5, .inl fw124))]) H := hP
      have hD : va_D A ([(o1, .inr (11, [.ref o2, .ref o7, .ref o12, .ref o41, .ref o51, .ref o64, .ref o77, .ref o84, .ref o91, .ref o99, .ref o111, .ref o123, .int v125])), (o7, .inr (10, [.ref o8, .int v10, .int y10])), (o8, .inl (cI, 12, .inl f11)), (o123, .inl (cI, 5, .inl fw124))]) := hD
      refine lv_iconst (v := 1) hx hb dX11_tear_45 (by decide) ?_
      rw [hQ]
      exact W.iret (v := 1) hx hb hr (fun t ht hW => ⟨⟨1, (v125, y10, f11, fw124), rfl, ⟨(iv_w ik_1 (by decide)), f11_b, (teaP_2 (has_y (inx_ne e3 h4) x7_e j9) e12)⟩, by rw [ht]; exact hP, va_K.moved hW.alike hK, hD⟩, hS.F ht⟩) hS.2.2 dX11_tear_46
    ·
      have j13 : Iv (-1) (-1) x7 := r_eq h8 ikm_1
      refine lv_aload_n hx hb dX11_tear_30 rfl (lv_at hl 0 rfl) ?_
      refine lv_iconst (v := 1) hx hb dX11_tear_31 (by decide) ?_
      refine kc_i (D := (dC, dI)) (S := Int32 × (Nat → Int32)) (wc := [(o1, .inr (11, [.ref o2, .ref o7, .ref o12, .ref o41, .ref o51, .ref o64, .ref o77, .ref o84, .ref o91, .ref o99, .ref o111, .ref o123, .int v125])), (o123, .inl (cI, 5, .inl fw124))]) (wr := [(o7, .inr (10, [.ref o8, .int v10, .int v11])), (o8, .inl (cI, 12, .inl fw9))]) (w1 := fun u => [(o1, .inr (11, [.ref o2, .ref o7, .ref o12, .ref o41, .ref o51, .ref o64, .ref o77, .ref o84, .ref o91, .ref o99, .ref o111, .ref o123, .int u.1])), (o123, .inl (cI, 5, .inl u.2))]) (wn := fun u => [(o1, .inr (11, [.ref o2, .ref o7, .ref o12, .ref o41, .ref o51, .ref o64, .ref o77, .ref o84, .ref o91, .ref o99, .ref o111, .ref o123, .int u.1])), (o7, .inr (10, [.ref o8, .int v10, .int v11])), (o8, .inl (cI, 12, .inl fw9)), (o123, .inl (cI, 5, .inl u.2))]) (fun hPc hDc => va_runV (As := [.int 1]) (rest := []) ⟨hx, hb, hml, hown, hts⟩ (kX11_found_4 l dC dI cI c2 cZ o1 o2 o7 o12 o41 o51 o64 o77 o84 o91 o99 o111 o123 fw124 v125 1 H.size ik_1) (cwV 1 hts gX11_tear_X11_found rfl rfl rfl (by decide +kernel) ⟨Nat.le_of_ble_eq_true rfl, Nat.le_of_ble_eq_true rfl⟩) (pre_V hPc hK hDc hN (ci := 11) (q0 := 0) rfl rfl) rfl rfl hl.1 rfl (lv_room (Nat.le_of_ble_eq_true rfl)) dX11_tear_32 ⟨Nat.le_of_ble_eq_true rfl, Nat.le_of_ble_eq_true rfl⟩) hP hD hS hA [0, 3] [1, 2] [2, 0, 1, 3] rfl rfl (by decide +kernel) (by decide +kernel) (by decide +kernel) (by decide +kernel) (fun _ => rfl) (fun x16 u H locs hq hP hD hS => ?_)
      obtain ⟨y14, f15⟩ := u
      have x16_h := hq
      have hP : va_P (dC, dI) vwCl ([(o1, .inr (11, [.ref o2, .ref o7, .ref o12, .ref o41, .ref o51, .ref o64, .ref o77, .ref o84, .ref o91, .ref o99, .ref o111, .ref o123, .int y14])), (o7, .inr (10, [.ref o8, .int v10, .int v11])), (o8, .inl (cI, 12, .inl fw9)), (o123, .inl (cI, 5, .inl f15))]) H := hP
      have hD : va_D A ([(o1, .inr (11, [.ref o2, .ref o7, .ref o12, .ref o41, .ref o51, .ref o64, .ref o77, .ref o84, .ref o91, .ref o99, .ref o111, .ref o123, .int y14])), (o7, .inr (10, [.ref o8, .int v10, .int v11])), (o8, .inl (cI, 12, .inl fw9)), (o123, .inl (cI, 5, .inl f15))]) := hD
      rw [hQ]
      exact W.iret (v := x16) hx hb hr (fun t ht hW => ⟨⟨x16, (y14, v11, fw9, f15), rfl, ⟨(iv_w x16_h (by decide)), fw9_b, (teaP_1 (has_m x7_e j13) (d_eq x16_h ikm_3))⟩, by rw [ht]; exact hP, va_K.moved hW.alike hK, hD⟩, hS.F ht⟩) hS.2.2 dX11_tear_35
  ·
    have j17 : Iv 0 0 x1 := r_eq h4 ik_0
    refine lv_aload_n hx hb dX11_tear_11 rfl (lv_at hl 0 rfl) ?_
    refine lv_iconst (v := 2) hx hb dX11_tear_12 (by decide) ?_
    refine kc_i (D := (dC, dI)) (S := Int32 × (Nat → Int32)) (wc := [(o1, .inr (11, [.ref o2, .ref o7, .ref o12, .ref o41, .ref o51, .ref o64, .ref o77, .ref o84, .ref o91, .ref o99, .ref o111, .ref o123, .int v125])), (o123, .inl (cI, 5, .inl fw124))]) (wr := [(o7, .inr (10, [.ref o8, .int v10, .int v11])), (o8, .inl (cI, 12, .inl fw9))]) (w1 := fun u => [(o1, .inr (11, [.ref o2, .ref o7, .ref o12, .ref o41, .ref o51, .ref o64, .ref o77, .ref o84, .ref o91, .ref o99, .ref o111, .ref o123, .int u.1])), (o123, .inl (cI, 5, .inl u.2))]) (wn := fun u => [(o1, .inr (11, [.ref o2, .ref o7, .ref o12, .ref o41, .ref o51, .ref o64, .ref o77, .ref o84, .ref o91, .ref o99, .ref o111, .ref o123, .int u.1])), (o7, .inr (10, [.ref o8, .int v10, .int v11])), (o8, .inl (cI, 12, .inl fw9)), (o123, .inl (cI, 5, .inl u.2))]) (fun hPc hDc => va_runV (As := [.int 2]) (rest := []) ⟨hx, hb, hml, hown, hts⟩ (kX11_found_3 l dC dI cI c2 cZ o1 o2 o7 o12 o41 o51 o64 o77 o84 o91 o99 o111 o123 fw124 v125 2 H.size ik_2) (cwV 1 hts gX11_tear_X11_found rfl rfl rfl (by decide +kernel) ⟨Nat.le_of_ble_eq_true rfl, Nat.le_of_ble_eq_true rfl⟩) (pre_V hPc hK hDc hN (ci := 11) (q0 := 0) rfl rfl) rfl rfl hl.1 rfl (lv_room (Nat.le_of_ble_eq_true rfl)) dX11_tear_13 ⟨Nat.le_of_ble_eq_true rfl, Nat.le_of_ble_eq_true rfl⟩) hP hD hS hA [0, 3] [1, 2] [2, 0, 1, 3] rfl rfl (by decide +kernel) (by decide +kernel) (by decide +kernel) (by decide +kernel) (fun _ => rfl) (fun x20 u H locs hq hP hD hS => ?_)
    obtain ⟨y18, f19⟩ := u
    have x20_h := hq
    have hP : va_P (dC, dI) vwCl ([(o1, .inr (11, [.ref o2, .ref o7, .ref o12, .ref o41, .ref o51, .ref o64, .ref o77, .ref o84, .ref o91, .ref o99, .ref o111, .ref o123, .int y18])), (o7, .inr (10, [.ref o8, .int v10, .int v11])), (o8, .inl (cI, 12, .inl fw9)), (o123, .inl (cI, 5, .inl f19))]) H := hP
    have hD : va_D A ([(o1, .inr (11, [.ref o2, .ref o7, .ref o12, .ref o41, .ref o51, .ref o64, .ref o77, .ref o84, .ref o91, .ref o99, .ref o111, .ref o123, .int y18])), (o7, .inr (10, [.ref o8, .int v10, .int v11])), (o8, .inl (cI, 12, .inl fw9)), (o123, .inl (cI, 5, .inl f19))]) := hD
    rw [hQ]
    exact W.iret (v := x20) hx hb hr (fun t ht hW => ⟨⟨x20, (y18, v11, fw9, f19), rfl, ⟨(iv_w x20_h (by decide)), fw9_b, (teaP_1 (has_no (inx_eq e3 h4)) (d_eq x20_h ikm_3))⟩, by rw [ht]; exact hP, va_K.moved hW.alike hK, hD⟩, hS.F ht⟩) hS.2.2 dX11_tear_16
set_option maxHeartbeats 4000000 in
set_option maxRecDepth 100000 in
theorem kxX12_columns_2 (l : Launch) (dC : Nat → ClassId) (dI : Nat → Nat → Nat) (cI c2 cZ : ClassId) (o1 : Nat) (o3 : Nat) (o6 : Nat) (o9 : Nat) (o11 : Nat) (o14 : Nat) (o17 : Nat) (o22 : Nat) (o24 : Nat) (o26 : Nat) (o28 : Nat) (o30 : Nat) (o33 : Nat) (o35 : Nat) (o37 : Nat) (o40 : Nat) (o42 : Nat) (o44 : Nat) (o47 : Nat) (v2 : Int32) (fw4 : Nat → Int32) (v5 : Int32) (v8 : Int32) (fw10 : Nat → Int32) (v13 : Int32) (v16 : Int32) (v19 : Int32) (v20 : Int32) (v21 : Int32) (v32 : Int32) (v39 : Int32) (v46 : Int32) (a1 : Int32) (sz : Nat) (v5_h : Iv 0 12 v5) (v8_h : Iv 0 8 v8) (fw10_b : Bd 12 (-9) 255 fw10) (v13_h : Iv 0 12 v13) (v16_h : Iv 0 12 v16) (v19_h : Iv (-9) 12 v19) (v32_h : Iv 0 99 v32) (v39_h : Iv 0 12 v39) (v46_h : Iv 0 12 v46) : Met l yX12_columns wsX12_columns ({ frames := 1, cells := 0, slots := 0, locals := 21 }) (va_Pc [.ref o1, .int a1] (wPre (dC, dI) [(cI, .int), (c2, .array .int), (cZ, .boolean)] ([(o1, .inr (12, [.int v2, .ref o3, .int v5, .ref o6, .int v8, .ref o9, .ref o11, .int v13, .ref o14, .int v16, .ref o17, .int v19, .int v20, .int v21, .ref o22, .ref o24, .ref o26, .ref o28, .ref o30, .int v32, .ref o33, .ref o35, .ref o37, .int v39, .ref o40, .ref o42, .ref o44, .int v46, .ref o47])), (o9, .inl (cI, 12, .inl fw10)), (o3, .inl (cI, 5, .inl fw4))]) sz)) (va_Qi (fun (r : Int32) (u : Int32 × Int32 × (Nat → Int32) × (Nat → Int32)) => Iv (-3) 8 r ∧ Iv 0 8 u.2.1 ∧ Bd 12 (-9) 255 u.2.2.1 ∧ r = colF a1 ∧ colP (-9) a1 v8 fw10 u.2.1 u.2.2.1) (fun u t => wPost (dC, dI) [(cI, .int), (c2, .array .int), (cZ, .boolean)] (va_A ([(o1, .inr (12, [.int v2, .ref o3, .int v5, .ref o6, .int v8, .ref o9, .ref o11, .int v13, .ref o14, .int v16, .ref o17, .int v19, .int v20, .int v21, .ref o22, .ref o24, .ref o26, .ref o28, .ref o30, .int v32, .ref o33, .ref o35, .ref o37, .int v39, .ref o40, .ref o42, .ref o44, .int v46, .ref o47])), (o9, .inl (cI, 12, .inl fw10)), (o3, .inl (cI, 5, .inl fw4))]) sz) ([(o1, .inr (12, [.int u.1, .ref o3, .int v5, .ref o6, .int u.2.1, .ref o9, .ref o11, .int v13, .ref o14, .int v16, .ref o17, .int v19, .int v20, .int v21, .ref o22, .ref o24, .ref o26, .ref o28, .ref o30, .int v32, .ref o33, .ref o35, .ref o37, .int v39, .ref o40, .ref o42, .ref o44, .int v46, .ref o47])), (o9, .inl (cI, 12, .inl u.2.2.1)), (o3, .inl (cI, 5, .inl u.2.2.2))]) t) (va_A ([(o1, .inr (12, [.int v2, .ref o3, .int v5, .ref o6, .int v8, .ref o9, .ref o11, .int v13, .ref o14, .int v16, .ref o17, .int v19, .int v20, .int v21, .ref o22, .ref o24, .ref o26, .ref o28, .ref o30, .int v32, .ref o33, .ref o35, .ref o37, .int v39, .ref o40, .ref o42, .ref o44, .int v46, .ref o47])), (o9, .inl (cI, 12, .inl fw10)), (o3, .inl (cI, 5, .inl fw4))]) sz)) 0 0 (va_A ([(o1, .inr (12, [.int v2, .ref o3, .int v5, .ref o6, .int v8, .ref o9, .ref o11, .int v13, .ref o14, .int v16, .ref o17, .int v19, .int v20, .int v21, .ref o22, .ref o24, .ref o26, .ref o28, .ref o30, .int v32, .ref o33, .ref o35, .ref o37, .int v39, .ref o40, .ref o42, .ref o44, .int v46, .ref o47])), (o9, .inl (cI, 12, .inl fw10)), (o3, .inl (cI, 5, .inl fw4))]) sz) := by
  refine Met.ofW (cc := cX12_columns) (maxL := 3) (ret := (some .int)) (by decide) rfl ?_
  intro p e s m args below meth c s₁ B hml hv
  obtain ⟨rfl, hsz, hP, hK, hD0, hN⟩ := hv
  have hx := B.exec
  have hb := B.bytes
  have hr := B.returns
  have hts := atoms_spec (ws := wsX12_columns) B.pre
  have hown : s.vm.findClass RX12 = some m.cls := findClass_of_methodNamed B.named
  have hlocks := B.notSynchronized
  subst hsz
  have hD := hD0.self (sz := s.heap.size)
  generalize hAe : va_A ([(o1, .inr (12, [.int v2, .ref o3, .int v5, .ref o6, .int v8, .ref o9, .ref o11, .int v13, .ref o14, .int v16, .ref o17, .int v19, .int v20, .int v21, .ref o22, .ref o24, .ref o26, .ref o28, .ref o30, .int v32, .ref o33, .ref o35, .ref o37, .int v39, .ref o40, .ref o42, .ref o44, .int v46, .ref o47])), (o9, .inl (cI, 12, .inl fw10)), (o3, .inl (cI, 5, .inl fw4))]) s.heap.size = A at hD ⊢
  have hA : ∀ q : Nat, s.heap.size ≤ q → A q := fun q h => by rw [← hAe]; exact Or.inr h
  have hS : va_S A s.heap s.heap [] := va_S.rf
  have hP : va_P (dC, dI) vwCl ([(o1, .inr (12, [.int v2, .ref o3, .int v5, .ref o6, .int v8, .ref o9, .ref o11, .int v13, .ref o14, .int v16, .ref o17, .int v19, .int v20, .int v21, .ref o22, .ref o24, .ref o26, .ref o28, .ref o30, .int v32, .ref o33, .ref o35, .ref o37, .int v39, .ref o40, .ref o42, .ref o44, .int v46, .ref o47])), (o9, .inl (cI, 12, .inl fw10)), (o3, .inl (cI, 5, .inl fw4))]) s.heap := hP
  have hl := lv_entry ([.ref o1, .int a1]) (n := 3) (Nat.le_of_ble_eq_true rfl)
  rw [lg_entry_eq]
  generalize (lg_sl ([.ref o1, .int a1]) ++ List.replicate (3 - (lg_sl ([.ref o1, .int a1])).length) Slot.unset).toArray = ls at hl ⊢
  have hl : lv_has ls 3 [(0, .ref o1), (1, .int a1)] := hl
  refine gen_Q (fun Q hQ => ?_)
  refine lv_iload_n hx hb dX12_columns_0 rfl (lv_at hl 1 rfl) ?_
  refine lv_bipush (v := 8) hx hb dX12_columns_1 (by decide) ?_
  refine lv_icmp_le (tgt := 8) hx hb dX12_columns_3 (by decide) (fun h1 => ?_) (fun h1 => ?_)
  ·
    have qh1 := le_i h1
    have j2 : Iv (-2147483648) 8 a1 := r_lel qh1 (iv_full a1) ik_8 (by decide)
    refine lv_iload_n hx hb dX12_columns_8 rfl (lv_at hl 1 rfl) ?_
    refine lv_if_ge (tgt := 18) hx hb dX12_columns_9 (by decide) (fun h3 => ?_) (fun h3 => ?_)
    ·
      have qh3 := le_i h3
      have j4 : Iv 0 8 a1 := r_ler qh3 ik_0 j2 (by decide)
      refine lv_aload_n hx hb dX12_columns_18 rfl (lv_at hl 0 rfl) ?_
      refine lv_iload_n hx hb dX12_columns_19 rfl (lv_at hl 1 rfl) ?_
      refine va_put (D := (dC, dI)) (ci := 12) (v := .int a1) (ty := .int) (C := RX12) (T := TX12) (N := 29) hx hb hts iw_X12_columns_X12 tyX12 tyX12_ok nmX12 hown hK hP hD hS 0 rfl rfl 4 (by decide) (hts (.fieldLink RX12 128 "HolelessHouseModel" "columns" "I") hm_X12_columns_1) (fun _ h9 => h9) rfl (by decide +kernel) rfl rfl (Nat.le_of_ble_eq_true rfl) dX12_columns_20 (fun H locs hP hD hS => ?_)
      have hP : va_P (dC, dI) vwCl ([(o1, .inr (12, [.int v2, .ref o3, .int v5, .ref o6, .int a1, .ref o9, .ref o11, .int v13, .ref o14, .int v16, .ref o17, .int v19, .int v20, .int v21, .ref o22, .ref o24, .ref o26, .ref o28, .ref o30, .int v32, .ref o33, .ref o35, .ref o37, .int v39, .ref o40, .ref o42, .ref o44, .int v46, .ref o47])), (o9, .inl (cI, 12, .inl fw10)), (o3, .inl (cI, 5, .inl fw4))]) H := hP
      have hD : va_D A ([(o1, .inr (12, [.int v2, .ref o3, .int v5, .ref o6, .int a1, .ref o9, .ref o11, .int v13, .ref o14, .int v16, .ref o17, .int v19, .int v20, .int v21, .ref o22, .ref o24, .ref o26, .ref o28, .ref o30, .int v32, .ref o33, .ref o35, .ref o37, .int v39, .ref o40, .ref o42, .ref o44, .int v46, .ref o47])), (o9, .inl (cI, 12, .inl fw10)), (o3, .inl (cI, 5, .inl fw4))]) := hD
      refine lv_iconst (v := 0) hx hb dX12_columns_23 (by decide) ?_
      refine lv_istore_n (lv' := [(2, .int 0), (0, .ref o1), (1, .int a1)]) hx hb dX12_columns_24 rfl hl (by decide) rfl (fun ls hl => ?_)
      have L1 : ∀ (N : Nat) (x37 : Int32) (f38 : Nat → Int32) (H : Heap) (locs : List Loc) (ls : Array Slot), (12 - x37.toInt).toNat < N → Iv 0 12 x37 → Bd 12 (-9) 255 f38 → (∀ i : Nat, i < (Int32.toNatClampNeg x37) → f38 i = (-9)) → va_P (dC, dI) vwCl ([(o1, .inr (12, [.int v2, .ref o3, .int v5, .ref o6, .int a1, .ref o9, .ref o11, .int v13, .ref o14, .int v16, .ref o17, .int v19, .int v20, .int v21, .ref o22, .ref o24, .ref o26, .ref o28, .ref o30, .int v32, .ref o33, .ref o35, .ref o37, .int v39, .ref o40, .ref o42, .ref o44, .int v46, .ref o47])), (o9, .inl (cI, 12, .inl f38)), (o3, .inl (cI, 5, .inl fw4))]) H → va_D A ([(o1, .inr (12, [.int v2, .ref o3, .int v5, .ref o6, .int a1, .ref o9, .ref o11, .int v13, .ref o14, .int v16, .ref o17, .int v19, .int v20, .int v21, .ref o22, .ref o24, .ref o26, .ref o28, .ref o30, .int v32, .ref o33, .ref o35, .ref o37, .int v39, .ref o40, .ref o42, .ref o44, .int v46, .ref o47])), (o9, .inl (cI, 12, .inl f38)), (o3, .inl (cI, 5, .inl fw4))]) → va_S A s.heap H locs → lv_has ls 3 [(2, .int x37), (0, .ref o1), (1, .int a1)] → W p l e ({ frames := 1, cells := 0, slots := 0, locals := 21 }) s m ([.ref o1, .int a1] : List Value).toArray below meth c H locs 0 0 Q (F0 m 25 ls []) := by
        intro N
        induction N with
        | zero =>
          intro x37 f38 H locs ls hM
          exact absurd hM (Nat.not_lt_zero _)
        | succ N ih1 =>
          intro x37 f38 H locs ls hM1 x37_h f38_b iv1_0 hP hD hS hl
          refine lv_iload_n hx hb dX12_columns_25 rfl (lv_at hl 0 rfl) ?_
          refine lv_bipush (v := 12) hx hb dX12_columns_26 (by decide) ?_
          refine lv_icmp_ge (tgt := 45) hx hb dX12_columns_28 (by decide) (fun h39 => ?_) (fun h39 => ?_)
          ·
            have qh39 := le_i h39
            have j40 : Iv 12 12 x37 := r_ler qh39 ik_12 x37_h (by decide)
            refine lv_iload_n hx hb dX12_columns_45 rfl (lv_at hl 2 rfl) ?_
            rw [hQ]
            exact W.iret (v := a1) hx hb hr (fun t ht hW => ⟨⟨a1, (v2, a1, f38, fw4), rfl, ⟨(iv_w j4 (by decide)), j4, f38_b, (colF_ok j4), (colP_ok j4 rfl (fil_e iv1_0 qh39))⟩, by rw [ht]; exact hP, va_K.moved hW.alike hK, hD⟩, hS.F ht⟩) hS.2.2 dX12_columns_46
          ·
            have qh39 := nle_i h39
            have j41 : Iv 0 11 x37 := r_ltl qh39 x37_h ik_12 (by decide)
            refine lv_aload_n hx hb dX12_columns_31 rfl (lv_at hl 1 rfl) ?_
            refine va_get (D := (dC, dI)) (ci := 12) (v := .ref o9) (C := RX12) (T := TX12) (N := 29) hx hb hts iw_X12_columns_X12 hown hK hP 0 rfl rfl 5 (by decide) (hts (.fieldLink RX12 16 "HolelessHouseModel" "rows" "[I") hm_X12_columns_2) (fun _ h9 => h9) rfl dX12_columns_32 ?_
            refine lv_iload_n hx hb dX12_columns_35 rfl (lv_at hl 0 rfl) ?_
            refine lv_bipush (v := (-9)) hx hb dX12_columns_36 (by decide) ?_
            refine k_iast hx hb hK hP hD hS 1 0 rfl rfl (vin_iv j41 (by decide)) dX12_columns_38 (fun f42 H locs f42_e hP hD hS => ?_)
            have f42_b : Bd 12 (-9) 255 f42 := bd_upd f42_e f38_b ikm_9 (by decide)
            have hP : va_P (dC, dI) vwCl ([(o1, .inr (12, [.int v2, .ref o3, .int v5, .ref o6, .int a1, .ref o9, .ref o11, .int v13, .ref o14, .int v16, .ref o17, .int v19, .int v20, .int v21, .ref o22, .ref o24, .ref o26, .ref o28, .ref o30, .int v32, .ref o33, .ref o35, .ref o37, .int v39, .ref o40, .ref o42, .ref o44, .int v46, .ref o47])), (o9, .inl (cI, 12, .inl f42)), (o3, .inl (cI, 5, .inl fw4))]) H := hP
            have hD : va_D A ([(o1, .inr (12, [.int v2, .ref o3, .int v5, .ref o6, .int a1, .ref o9, .ref o11, .int v13, .ref o14, .int v16, .ref o17, .int v19, .int v20, .int v21, .ref o22, .ref o24, .ref o26, .ref o28, .ref o30, .int v32, .ref o33, .ref o35, .ref o37, .int v39, .ref o40, .ref o42, .ref o44, .int v46, .ref o47])), (o9, .inl (cI, 12, .inl f42)), (o3, .inl (cI, 5, .inl fw4))]) := hD
            obtain ⟨x43, x43_e⟩ : ∃ z : Int32, z = x37 + 1 := ⟨_, rfl⟩
            have x43_h : Iv 1 12 x43 := iv_e x43_e (iv_add j41 ik_1 (by decide))
            refine lv_iinc (v := x43) (lv' := [(2, .int x43), (0, .ref o1), (1, .int a1)]) hx hb dX12_columns_39 hl (k := 0) rfl (incN (by decide +kernel) x43_e) (by decide) rfl (fun ls hl => ?_)
            refine lv_goto (tgt := 25) hx hb dX12_columns_42 (by decide) ?_
            exact ih1 x43 f42 _ _ _ (ms_up x43_e j41 (by decide) hM1) (iv_w x43_h (by decide)) f42_b (fil_s iv1_0 (iv_w (c := 0) (d := 4095) j41 (by decide)) x43_e f42_e) hP hD hS hl
      exact L1 _ 0 fw10 _ _ _ (Nat.lt_succ_self _) (iv_w ik_0 (by decide)) fw10_b fil_0 hP hD hS hl
    ·
      have qh3 := nle_i h3
      have j44 : Iv (-2147483648) (-1) a1 := r_ltl qh3 j2 ik_0 (by decide)
      refine lv_aload_n hx hb dX12_columns_12 rfl (lv_at hl 0 rfl) ?_
      refine lv_iconst (v := 4) hx hb dX12_columns_13 (by decide) ?_
      refine kc_i (D := (dC, dI)) (S := Int32 × (Nat → Int32)) (wc := [(o1, .inr (12, [.int v2, .ref o3, .int v5, .ref o6, .int v8, .ref o9, .ref o11, .int v13, .ref o14, .int v16, .ref o17, .int v19, .int v20, .int v21, .ref o22, .ref o24, .ref o26, .ref o28, .ref o30, .int v32, .ref o33, .ref o35, .ref o37, .int v39, .ref o40, .ref o42, .ref o44, .int v46, .ref o47])), (o3, .inl (cI, 5, .inl fw4))]) (wr := [(o9, .inl (cI, 12, .inl fw10))]) (w1 := fun u => [(o1, .inr (12, [.int u.1, .ref o3, .int v5, .ref o6, .int v8, .ref o9, .ref o11, .int v13, .ref o14, .int v16, .ref o17, .int v19, .int v20, .int v21, .ref o22, .ref o24, .ref o26, .ref o28, .ref o30, .int v32, .ref o33, .ref o35, .ref o37, .int v39, .ref o40, .ref o42, .ref o44, .int v46, .ref o47])), (o3, .inl (cI, 5, .inl u.2))]) (wn := fun u => [(o1, .inr (12, [.int u.1, .ref o3, .int v5, .ref o6, .int v8, .ref o9, .ref o11, .int v13, .ref o14, .int v16, .ref o17, .int v19, .int v20, .int v21, .ref o22, .ref o24, .ref o26, .ref o28, .ref o30, .int v32, .ref o33, .ref o35, .ref o37, .int v39, .ref o40, .ref o42, .ref o44, .int v46, .ref o47])), (o9, .inl (cI, 12, .inl fw10)), (o3, .inl (cI, 5, .inl u.2))]) (fun hPc hDc => va_runV (As := [.int 4]) (rest := []) ⟨hx, hb, hml, hown, hts⟩ (kX12_meets_2 l dC dI cI c2 cZ o1 o3 o6 o9 o11 o14 o17 o22 o24 o26 o28 o30 o33 o35 o37 o40 o42 o44 o47 v2 fw4 v5 v8 v13 v16 v19 v20 v21 v32 v39 v46 4 s.heap.size v5_h v8_h v13_h v16_h v19_h v32_h v39_h v46_h ik_4) (cwV 1 hts gX12_columns_X12_meets rfl rfl rfl (by decide +kernel) ⟨Nat.le_of_ble_eq_true rfl, Nat.le_of_ble_eq_true rfl⟩) (pre_V hPc hK hDc hN (ci := 12) (q0 := 0) rfl rfl) rfl rfl hl.1 rfl (lv_room (Nat.le_of_ble_eq_true rfl)) dX12_columns_14 ⟨Nat.le_of_ble_eq_true rfl, Nat.le_of_ble_eq_true rfl⟩) hP hD hS hA [0, 2] [1] [1, 0, 2] rfl rfl (by decide +kernel) (by decide +kernel) (by decide +kernel) (by decide +kernel) (fun _ => rfl) (fun x47 u H locs hq hP hD hS => ?_)
      obtain ⟨y45, f46⟩ := u
      have x47_h := hq
      have x47_h : Iv (-3) (-3) x47 := x47_h
      have hP : va_P (dC, dI) vwCl ([(o1, .inr (12, [.int y45, .ref o3, .int v5, .ref o6, .int v8, .ref o9, .ref o11, .int v13, .ref o14, .int v16, .ref o17, .int v19, .int v20, .int v21, .ref o22, .ref o24, .ref o26, .ref o28, .ref o30, .int v32, .ref o33, .ref o35, .ref o37, .int v39, .ref o40, .ref o42, .ref o44, .int v46, .ref o47])), (o9, .inl (cI, 12, .inl fw10)), (o3, .inl (cI, 5, .inl f46))]) H := hP
      have hD : va_D A ([(o1, .inr (12, [.int y45, .ref o3, .int v5, .ref o6, .int v8, .ref o9, .ref o11, .int v13, .ref o14, .int v16, .ref o17, .int v19, .int v20, .int v21, .ref o22, .ref o24, .ref o26, .ref o28, .ref o30, .int v32, .ref o33, .ref o35, .ref o37, .int v39, .ref o40, .ref o42, .ref o44, .int v46, .ref o47])), (o9, .inl (cI, 12, .inl fw10)), (o3, .inl (cI, 5, .inl f46))]) := hD
      rw [hQ]
      exact W.iret (v := x47) hx hb hr (fun t ht hW => ⟨⟨x47, (y45, v8, fw10, f46), rfl, ⟨(iv_w x47_h (by decide)), v8_h, fw10_b, (colF_lo qh3 (d_eq x47_h ikm_3)), (colP_lo qh3)⟩, by rw [ht]; exact hP, va_K.moved hW.alike hK, hD⟩, hS.F ht⟩) hS.2.2 dX12_columns_17
  ·
    have qh1 := nle_i h1
    have j48 : Iv 9 2147483647 a1 := r_ltr qh1 ik_8 (iv_full a1) (by decide)
    refine lv_iconst (v := (-1)) hx hb dX12_columns_6 (by decide) ?_
    rw [hQ]
    exact W.iret (v := (-1)) hx hb hr (fun t ht hW => ⟨⟨(-1), (v2, v8, fw10, fw4), rfl, ⟨(iv_w ikm_1 (by decide)), v8_h, fw10_b, (colF_hi qh1), (colP_hi qh1)⟩, by rw [ht]; exact hP, va_K.moved hW.alike hK, hD⟩, hS.F ht⟩) hS.2.2 dX12_columns_7
set_option maxHeartbeats 4000000 in
set_option maxRecDepth 100000 in
theorem kxX12_copy_2 (l : Launch) (dC : Nat → ClassId) (dI : Nat → Nat → Nat) (cI c2 cZ : ClassId) (o1 : Nat) (o3 : Nat) (o6 : Nat) (o9 : Nat) (o11 : Nat) (o14 : Nat) (o17 : Nat) (o22 : Nat) (o24 : Nat) (o26 : Nat) (o28 : Nat) (o30 : Nat) (o33 : Nat) (o35 : Nat) (o37 : Nat) (o40 : Nat) (o42 : Nat) (o44 : Nat) (o47 : Nat) (v2 : Int32) (fw4 : Nat → Int32) (v5 : Int32) (v8 : Int32) (fw10 : Nat → Int32) (v13 : Int32) (v16 : Int32) (v19 : Int32) (v20 : Int32) (v21 : Int32) (v32 : Int32) (v39 : Int32) (v46 : Int32) (fw48 : Nat → Int32) (a1 : Int32) (a2 : Int32) (a3 : Int32) (sz : Nat) (v5_h : Iv 0 12 v5) (v8_h : Iv 0 8 v8) (fw10_b : Bd 12 (-9) 255 fw10) (v13_h : Iv 0 12 v13) (v16_h : Iv 0 12 v16) (v19_h : Iv (-9) 12 v19) (v32_h : Iv 0 99 v32) (v39_h : Iv 0 12 v39) (v46_h : Iv 0 12 v46) (fw48_b : Bd 12 (-9) 255 fw48) : Met l yX12_copy wsX12_copy ({ frames := 1, cells := 0, slots := 0, locals := 21 }) (va_Pc [.ref o1, .int a1, .int a2, .int a3] (wPre (dC, dI) [(cI, .int), (c2, .array .int), (cZ, .boolean)] ([(o1, .inr (12, [.int v2, .ref o3, .int v5, .ref o6, .int v8, .ref o9, .ref o11, .int v13, .ref o14, .int v16, .ref o17, .int v19, .int v20, .int v21, .ref o22, .ref o24, .ref o26, .ref o28, .ref o30, .int v32, .ref o33, .ref o35, .ref o37, .int v39, .ref o40, .ref o42, .ref o44, .int v46, .ref o47])), (o3, .inl (cI, 5, .inl fw4)), (o9, .inl (cI, 12, .inl fw10)), (o47, .inl (cI, 12, .inl fw48))]) sz)) (va_Qi (fun (r : Int32) (u : Int32 × (Nat → Int32) × (Nat → Int32) × (Nat → Int32)) => Iv (-3) 1 r ∧ Bd 12 (-9) 255 u.2.2.1 ∧ Bd 12 (-9) 255 u.2.2.2 ∧ r = copyF a1 a2 a3 ∧ cpyP a1 a2 a3 fw10 u.2.2.1) (fun u t => wPost (dC, dI) [(cI, .int), (c2, .array .int), (cZ, .boolean)] (va_A ([(o1, .inr (12, [.int v2, .ref o3, .int v5, .ref o6, .int v8, .ref o9, .ref o11, .int v13, .ref o14, .int v16, .ref o17, .int v19, .int v20, .int v21, .ref o22, .ref o24, .ref o26, .ref o28, .ref o30, .int v32, .ref o33, .ref o35, .ref o37, .int v39, .ref o40, .ref o42, .ref o44, .int v46, .ref o47])), (o3, .inl (cI, 5, .inl fw4)), (o9, .inl (cI, 12, .inl fw10)), (o47, .inl (cI, 12, .inl fw48))]) sz) ([(o1, .inr (12, [.int u.1, .ref o3, .int v5, .ref o6, .int v8, .ref o9, .ref o11, .int v13, .ref o14, .int v16, .ref o17, .int v19, .int v20, .int v21, .ref o22, .ref o24, .ref o26, .ref o28, .ref o30, .int v32, .ref o33, .ref o35, .ref o37, .int v39, .ref o40, .ref o42, .ref o44, .int v46, .ref o47])), (o3, .inl (cI, 5, .inl u.2.1)), (o9, .inl (cI, 12, .inl u.2.2.1)), (o47, .inl (cI, 12, .inl u.2.2.2))]) t) (va_A ([(o1, .inr (12, [.int v2, .ref o3, .int v5, .ref o6, .int v8, .ref o9, .ref o11, .int v13, .ref o14, .int v16, .ref o17, .int v19, .int v20, .int v21, .ref o22, .ref o24, .ref o26, .ref o28, .ref o30, .int v32, .ref o33, .ref o35, .ref o37, .int v39, .ref o40, .ref o42, .ref o44, .int v46, .ref o47])), (o3, .inl (cI, 5, .inl fw4)), (o9, .inl (cI, 12, .inl fw10)), (o47, .inl (cI, 12, .inl fw48))]) sz)) 0 0 (va_A ([(o1, .inr (12, [.int v2, .ref o3, .int v5, .ref o6, .int v8, .ref o9, .ref o11, .int v13, .ref o14, .int v16, .ref o17, .int v19, .int v20, .int v21, .ref o22, .ref o24, .ref o26, .ref o28, .ref o30, .int v32, .ref o33, .ref o35, .ref o37, .int v39, .ref o40, .ref o42, .ref o44, .int v46, .ref o47])), (o3, .inl (cI, 5, .inl fw4)), (o9, .inl (cI, 12, .inl fw10)), (o47, .inl (cI, 12, .inl fw48))]) sz) := by
  refine Met.ofW (cc := cX12_copy) (maxL := 5) (ret := (some .int)) (by decide) rfl ?_
  intro p e s m args below meth c s₁ B hml hv
  obtain ⟨rfl, hsz, hP, hK, hD0, hN⟩ := hv
  have hx := B.exec
  have hb := B.bytes
  have hr := B.returns
  have hts := atoms_spec (ws := wsX12_copy) B.pre
  have hown : s.vm.findClass RX12 = some m.cls := findClass_of_methodNamed B.named
  have hlocks := B.notSynchronized
  subst hsz
  have hD := hD0.self (sz := s.heap.size)
  generalize hAe : va_A ([(o1, .inr (12, [.int v2, .ref o3, .int v5, .ref o6, .int v8, .ref o9, .ref o11, .int v13, .ref o14, .int v16, .ref o17, .int v19, .int v20, .int v21, .ref o22, .ref o24, .ref o26, .ref o28, .ref o30, .int v32, .ref o33, .ref o35, .ref o37, .int v39, .ref o40, .ref o42, .ref o44, .int v46, .ref o47])), (o3, .inl (cI, 5, .inl fw4)), (o9, .inl (cI, 12, .inl fw10)), (o47, .inl (cI, 12, .inl fw48))]) s.heap.size = A at hD ⊢
  have hA : ∀ q : Nat, s.heap.size ≤ q → A q := fun q h => by rw [← hAe]; exact Or.inr h
  have hS : va_S A s.heap s.heap [] := va_S.rf
  have hP : va_P (dC, dI) vwCl ([(o1, .inr (12, [.int v2, .ref o3, .int v5, .ref o6, .int v8, .ref o9, .ref o11, .int v13, .ref o14, .int v16, .ref o17, .int v19, .int v20, .int v21, .ref o22, .ref o24, .ref o26, .ref o28, .ref o30, .int v32, .ref o33, .ref o35, .ref o37, .int v39, .ref o40, .ref o42, .ref o44, .int v46, .ref o47])), (o3, .inl (cI, 5, .inl fw4)), (o9, .inl (cI, 12, .inl fw10)), (o47, .inl (cI, 12, .inl fw48))]) s.heap := hP
  have hl := lv_entry ([.ref o1, .int a1, .int a2, .int a3]) (n := 5) (Nat.le_of_ble_eq_true rfl)
  rw [lg_entry_eq]
  generalize (lg_sl ([.ref o1, .int a1, .int a2, .int a3]) ++ List.replicate (5 - (lg_sl ([.ref o1, .int a1, .int a2, .int a3])).length) Slot.unset).toArray = ls at hl ⊢
  have hl : lv_has ls 5 [(0, .ref o1), (1, .int a1), (2, .int a2), (3, .int a3)] := hl
  refine gen_Q (fun Q hQ => ?_)
  refine lv_iload_n hx hb dX12_copy_0 rfl (lv_at hl 1 rfl) ?_
  refine lv_if_lt (tgt := 36) hx hb dX12_copy_1 (by decide) (fun h1 => ?_) (fun h1 => ?_)
  ·
    have qh1 := lt_i h1
    have j2 : Iv (-2147483648) (-1) a1 := r_ltl qh1 (iv_full a1) ik_0 (by decide)
    refine lv_aload_n hx hb dX12_copy_36 rfl (lv_at hl 0 rfl) ?_
    refine lv_iconst (v := 2) hx hb dX12_copy_37 (by decide) ?_
    refine kc_i (D := (dC, dI)) (S := Int32 × (Nat → Int32)) (wc := [(o1, .inr (12, [.int v2, .ref o3, .int v5, .ref o6, .int v8, .ref o9, .ref o11, .int v13, .ref o14, .int v16, .ref o17, .int v19, .int v20, .int v21, .ref o22, .ref o24, .ref o26, .ref o28, .ref o30, .int v32, .ref o33, .ref o35, .ref o37, .int v39, .ref o40, .ref o42, .ref o44, .int v46, .ref o47])), (o3, .inl (cI, 5, .inl fw4))]) (wr := [(o9, .inl (cI, 12, .inl fw10)), (o47, .inl (cI, 12, .inl fw48))]) (w1 := fun u => [(o1, .inr (12, [.int u.1, .ref o3, .int v5, .ref o6, .int v8, .ref o9, .ref o11, .int v13, .ref o14, .int v16, .ref o17, .int v19, .int v20, .int v21, .ref o22, .ref o24, .ref o26, .ref o28, .ref o30, .int v32, .ref o33, .ref o35, .ref o37, .int v39, .ref o40, .ref o42, .ref o44, .int v46, .ref o47])), (o3, .inl (cI, 5, .inl u.2))]) (wn := fun u => [(o1, .inr (12, [.int u.1, .ref o3, .int v5, .ref o6, .int v8, .ref o9, .ref o11, .int v13, .ref o14, .int v16, .ref o17, .int v19, .int v20, .int v21, .ref o22, .ref o24, .ref o26, .ref o28, .ref o30, .int v32, .ref o33, .ref o35, .ref o37, .int v39, .ref o40, .ref o42, .ref o44, .int v46, .ref o47])), (o3, .inl (cI, 5, .inl u.2)), (o9, .inl (cI, 12, .inl fw10)), (o47, .inl (cI, 12, .inl fw48))]) (fun hPc hDc => va_runV (As := [.int 2]) (rest := []) ⟨hx, hb, hml, hown, hts⟩ (kX12_meets_3 l dC dI cI c2 cZ o1 o3 o6 o9 o11 o14 o17 o22 o24 o26 o28 o30 o33 o35 o37 o40 o42 o44 o47 v2 fw4 v5 v8 v13 v16 v19 v20 v21 v32 v39 v46 2 s.heap.size v5_h v8_h v13_h v16_h v19_h v32_h v39_h v46_h ik_2) (cwV 1 hts gX12_copy_X12_meets rfl rfl rfl (by decide +kernel) ⟨Nat.le_of_ble_eq_true rfl, Nat.le_of_ble_eq_true rfl⟩) (pre_V hPc hK hDc hN (ci := 12) (q0 := 0) rfl rfl) rfl rfl hl.1 rfl (lv_room (Nat.le_of_ble_eq_true rfl)) dX12_copy_38 ⟨Nat.le_of_ble_eq_true rfl, Nat.le_of_ble_eq_true rfl⟩) hP hD hS hA [0, 1] [2, 3] [2, 3, 0, 1] rfl rfl (by decide +kernel) (by decide +kernel) (by decide +kernel) (by decide +kernel) (fun _ => rfl) (fun x5 u H locs hq hP hD hS => ?_)
    obtain ⟨y3, f4⟩ := u
    have x5_h := hq
    have x5_h : Iv (-3) (-3) x5 := x5_h
    have hP : va_P (dC, dI) vwCl ([(o1, .inr (12, [.int y3, .ref o3, .int v5, .ref o6, .int v8, .ref o9, .ref o11, .int v13, .ref o14, .int v16, .ref o17, .int v19, .int v20, .int v21, .ref o22, .ref o24, .ref o26, .ref o28, .ref o30, .int v32, .ref o33, .ref o35, .ref o37, .int v39, .ref o40, .ref o42, .ref o44, .int v46, .ref o47])), (o3, .inl (cI, 5, .inl f4)), (o9, .inl (cI, 12, .inl fw10)), (o47, .inl (cI, 12, .inl fw48))]) H := hP
    have hD : va_D A ([(o1, .inr (12, [.int y3, .ref o3, .int v5, .ref o6, .int v8, .ref o9, .ref o11, .int v13, .ref o14, .int v16, .ref o17, .int v19, .int v20, .int v21, .ref o22, .ref o24, .ref o26, .ref o28, .ref o30, .int v32, .ref o33, .ref o35, .ref o37, .int v39, .ref o40, .ref o42, .ref o44, .int v46, .ref o47])), (o3, .inl (cI, 5, .inl f4)), (o9, .inl (cI, 12, .inl fw10)), (o47, .inl (cI, 12, .inl fw48))]) := hD
    rw [hQ]
    exact W.iret (v := x5) hx hb hr (fun t ht hW => ⟨⟨x5, (y3, f4, fw10, fw48), rfl, ⟨(iv_w x5_h (by decide)), fw10_b, fw48_b, (copyF_1 (run_r qh1) (d_eq x5_h ikm_3)), (cpyP_1 (run_r qh1))⟩, by rw [ht]; exact hP, va_K.moved hW.alike hK, hD⟩, hS.F ht⟩) hS.2.2 dX12_copy_41
  ·
    have qh1 := nlt_i h1
    have j6 : Iv 0 2147483647 a1 := r_ler qh1 ik_0 (iv_full a1) (by decide)
    refine lv_iload_n hx hb dX12_copy_4 rfl (lv_at hl 2 rfl) ?_
    refine lv_if_lt (tgt := 36) hx hb dX12_copy_5 (by decide) (fun h7 => ?_) (fun h7 => ?_)
    ·
      have qh7 := lt_i h7
      have j8 : Iv (-2147483648) (-1) a2 := r_ltl qh7 (iv_full a2) ik_0 (by decide)
      refine lv_aload_n hx hb dX12_copy_36 rfl (lv_at hl 0 rfl) ?_
      refine lv_iconst (v := 2) hx hb dX12_copy_37 (by decide) ?_
      refine kc_i (D := (dC, dI)) (S := Int32 × (Nat → Int32)) (wc := [(o1, .inr (12, [.int v2, .ref o3, .int v5, .ref o6, .int v8, .ref o9, .ref o11, .int v13, .ref o14, .int v16, .ref o17, .int v19, .int v20, .int v21, .ref o22, .ref o24, .ref o26, .ref o28, .ref o30, .int v32, .ref o33, .ref o35, .ref o37, .int v39, .ref o40, .ref o42, .ref o44, .int v46, .ref o47])), (o3, .inl (cI, 5, .inl fw4))]) (wr := [(o9, .inl (cI, 12, .inl fw10)), (o47, .inl (cI, 12, .inl fw48))]) (w1 := fun u => [(o1, .inr (12, [.int u.1, .ref o3, .int v5, .ref o6, .int v8, .ref o9, .ref o11, .int v13, .ref o14, .int v16, .ref o17, .int v19, .int v20, .int v21, .ref o22, .ref o24, .ref o26, .ref o28, .ref o30, .int v32, .ref o33, .ref o35, .ref o37, .int v39, .ref o40, .ref o42, .ref o44, .int v46, .ref o47])), (o3, .inl (cI, 5, .inl u.2))]) (wn := fun u => [(o1, .inr (12, [.int u.1, .ref o3, .int v5, .ref o6, .int v8, .ref o9, .ref o11, .int v13, .ref o14, .int v16, .ref o17, .int v19, .int v20, .int v21, .ref o22, .ref o24, .ref o26, .ref o28, .ref o30, .int v32, .ref o33, .ref o35, .ref o37, .int v39, .ref o40, .ref o42, .ref o44, .int v46, .ref o47])), (o3, .inl (cI, 5, .inl u.2)), (o9, .inl (cI, 12, .inl fw10)), (o47, .inl (cI, 12, .inl fw48))]) (fun hPc hDc => va_runV (As := [.int 2]) (rest := []) ⟨hx, hb, hml, hown, hts⟩ (kX12_meets_3 l dC dI cI c2 cZ o1 o3 o6 o9 o11 o14 o17 o22 o24 o26 o28 o30 o33 o35 o37 o40 o42 o44 o47 v2 fw4 v5 v8 v13 v16 v19 v20 v21 v32 v39 v46 2 s.heap.size v5_h v8_h v13_h v16_h v19_h v32_h v39_h v46_h ik_2) (cwV 1 hts gX12_copy_X12_meets rfl rfl rfl (by decide +kernel) ⟨Nat.le_of_ble_eq_true rfl, Nat.le_of_ble_eq_true rfl⟩) (pre_V hPc hK hDc hN (ci := 12) (q0 := 0) rfl rfl) rfl rfl hl.1 rfl (lv_room (Nat.le_of_ble_eq_true rfl)) dX12_copy_38 ⟨Nat.le_of_ble_eq_true rfl, Nat.le_of_ble_eq_true rfl⟩) hP hD hS hA [0, 1] [2, 3] [2, 3, 0, 1] rfl rfl (by decide +kernel) (by decide +kernel) (by decide +kernel) (by decide +kernel) (fun _ => rfl) (fun x11 u H locs hq hP hD hS => ?_)
      obtain ⟨y9, f10⟩ := u
      have x11_h := hq
      have x11_h : Iv (-3) (-3) x11 := x11_h
      have hP : va_P (dC, dI) vwCl ([(o1, .inr (12, [.int y9, .ref o3, .int v5, .ref o6, .int v8, .ref o9, .ref o11, .int v13, .ref o14, .int v16, .ref o17, .int v19, .int v20, .int v21, .ref o22, .ref o24, .ref o26, .ref o28, .ref o30, .int v32, .ref o33, .ref o35, .ref o37, .int v39, .ref o40, .ref o42, .ref o44, .int v46, .ref o47])), (o3, .inl (cI, 5, .inl f10)), (o9, .inl (cI, 12, .inl fw10)), (o47, .inl (cI, 12, .inl fw48))]) H := hP
      have hD : va_D A ([(o1, .inr (12, [.int y9, .ref o3, .int v5, .ref o6, .int v8, .ref o9, .ref o11, .int v13, .ref o14, .int v16, .ref o17, .int v19, .int v20, .int v21, .ref o22, .ref o24, .ref o26, .ref o28, .ref o30, .int v32, .ref o33, .ref o35, .ref o37, .int v39, .ref o40, .ref o42, .ref o44, .int v46, .ref o47])), (o3, .inl (cI, 5, .inl f10)), (o9, .inl (cI, 12, .inl fw10)), (o47, .inl (cI, 12, .inl fw48))]) := hD
      rw [hQ]
      exact W.iret (v := x11) hx hb hr (fun t ht hW => ⟨⟨x11, (y9, f10, fw10, fw48), rfl, ⟨(iv_w x11_h (by decide)), fw10_b, fw48_b, (copyF_2 (run_r qh7) (d_eq x11_h ikm_3)), (cpyP_2 (run_r qh7))⟩, by rw [ht]; exact hP, va_K.moved hW.alike hK, hD⟩, hS.F ht⟩) hS.2.2 dX12_copy_41
    ·
      have qh7 := nlt_i h7
      have j12 : Iv 0 2147483647 a2 := r_ler qh7 ik_0 (iv_full a2) (by decide)
      refine lv_iload_n hx hb dX12_copy_8 rfl (lv_at hl 3 rfl) ?_
      refine lv_if_lt (tgt := 36) hx hb dX12_copy_9 (by decide) (fun h13 => ?_) (fun h13 => ?_)
      ·
        have qh13 := lt_i h13
        have j14 : Iv (-2147483648) (-1) a3 := r_ltl qh13 (iv_full a3) ik_0 (by decide)
        refine lv_aload_n hx hb dX12_copy_36 rfl (lv_at hl 0 rfl) ?_
        refine lv_iconst (v := 2) hx hb dX12_copy_37 (by decide) ?_
        refine kc_i (D := (dC, dI)) (S := Int32 × (Nat → Int32)) (wc := [(o1, .inr (12, [.int v2, .ref o3, .int v5, .ref o6, .int v8, .ref o9, .ref o11, .int v13, .ref o14, .int v16, .ref o17, .int v19, .int v20, .int v21, .ref o22, .ref o24, .ref o26, .ref o28, .ref o30, .int v32, .ref o33, .ref o35, .ref o37, .int v39, .ref o40, .ref o42, .ref o44, .int v46, .ref o47])), (o3, .inl (cI, 5, .inl fw4))]) (wr := [(o9, .inl (cI, 12, .inl fw10)), (o47, .inl (cI, 12, .inl fw48))]) (w1 := fun u => [(o1, .inr (12, [.int u.1, .ref o3, .int v5, .ref o6, .int v8, .ref o9, .ref o11, .int v13, .ref o14, .int v16, .ref o17, .int v19, .int v20, .int v21, .ref o22, .ref o24, .ref o26, .ref o28, .ref o30, .int v32, .ref o33, .ref o35, .ref o37, .int v39, .ref o40, .ref o42, .ref o44, .int v46, .ref o47])), (o3, .inl (cI, 5, .inl u.2))]) (wn := fun u => [(o1, .inr (12, [.int u.1, .ref o3, .int v5, .ref o6, .int v8, .ref o9, .ref o11, .int v13, .ref o14, .int v16, .ref o17, .int v19, .int v20, .int v21, .ref o22, .ref o24, .ref o26, .ref o28, .ref o30, .int v32, .ref o33, .ref o35, .ref o37, .int v39, .ref o40, .ref o42, .ref o44, .int v46, .ref o47])), (o3, .inl (cI, 5, .inl u.2)), (o9, .inl (cI, 12, .inl fw10)), (o47, .inl (cI, 12, .inl fw48))]) (fun hPc hDc => va_runV (As := [.int 2]) (rest := []) ⟨hx, hb, hml, hown, hts⟩ (kX12_meets_3 l dC dI cI c2 cZ o1 o3 o6 o9 o11 o14 o17 o22 o24 o26 o28 o30 o33 o35 o37 o40 o42 o44 o47 v2 fw4 v5 v8 v13 v16 v19 v20 v21 v32 v39 v46 2 s.heap.size v5_h v8_h v13_h v16_h v19_h v32_h v39_h v46_h ik_2) (cwV 1 hts gX12_copy_X12_meets rfl rfl rfl (by decide +kernel) ⟨Nat.le_of_ble_eq_true rfl, Nat.le_of_ble_eq_true rfl⟩) (pre_V hPc hK hDc hN (ci := 12) (q0 := 0) rfl rfl) rfl rfl hl.1 rfl (lv_room (Nat.le_of_ble_eq_true rfl)) dX12_copy_38 ⟨Nat.le_of_ble_eq_true rfl, Nat.le_of_ble_eq_true rfl⟩) hP hD hS hA [0, 1] [2, 3] [2, 3, 0, 1] rfl rfl (by decide +kernel) (by decide +kernel) (by decide +kernel) (by decide +kernel) (fun _ => rfl) (fun x17 u H locs hq hP hD hS => ?_)
        obtain ⟨y15, f16⟩ := u
        have x17_h := hq
        have x17_h : Iv (-3) (-3) x17 := x17_h
        have hP : va_P (dC, dI) vwCl ([(o1, .inr (12, [.int y15, .ref o3, .int v5, .ref o6, .int v8, .ref o9, .ref o11, .int v13, .ref o14, .int v16, .ref o17, .int v19, .int v20, .int v21, .ref o22, .ref o24, .ref o26, .ref o28, .ref o30, .int v32, .ref o33, .ref o35, .ref o37, .int v39, .ref o40, .ref o42, .ref o44, .int v46, .ref o47])), (o3, .inl (cI, 5, .inl f16)), (o9, .inl (cI, 12, .inl fw10)), (o47, .inl (cI, 12, .inl fw48))]) H := hP
        have hD : va_D A ([(o1, .inr (12, [.int y15, .ref o3, .int v5, .ref o6, .int v8, .ref o9, .ref o11, .int v13, .ref o14, .int v16, .ref o17, .int v19, .int v20, .int v21, .ref o22, .ref o24, .ref o26, .ref o28, .ref o30, .int v32, .ref o33, .ref o35, .ref o37, .int v39, .ref o40, .ref o42, .ref o44, .int v46, .ref o47])), (o3, .inl (cI, 5, .inl f16)), (o9, .inl (cI, 12, .inl fw10)), (o47, .inl (cI, 12, .inl fw48))]) := hD
        rw [hQ]
        exact W.iret (v := x17) hx hb hr (fun t ht hW => ⟨⟨x17, (y15, f16, fw10, fw48), rfl, ⟨(iv_w x17_h (by decide)), fw10_b, fw48_b, (copyF_1 (run_n qh13) (d_eq x17_h ikm_3)), (cpyP_1 (run_n qh13))⟩, by rw [ht]; exact hP, va_K.moved hW.alike hK, hD⟩, hS.F ht⟩) hS.2.2 dX12_copy_41
      ·
        have qh13 := nlt_i h13
        have j18 : Iv 0 2147483647 a3 := r_ler qh13 ik_0 (iv_full a3) (by decide)
        refine lv_iload_n hx hb dX12_copy_12 rfl (lv_at hl 1 rfl) ?_
        refine lv_i2l (v := Int32.toInt64 a1) hx hb dX12_copy_13 rfl (lv_topl (fun l19 l19_e => ?_))
        refine lv_iload_n hx hb dX12_copy_14 rfl (lv_at hl 3 rfl) ?_
        refine lv_i2l (v := Int32.toInt64 a3) hx hb dX12_copy_15 rfl (lv_topl (fun l20 l20_e => ?_))
        refine lv_ladd hx hb dX12_copy_16 (lv_topl (fun l21 l21_e => ?_))
        refine lv_ldc2 (v := 12) hx hb hown (hts (.constantLong RX12 209 (12)) hm_X12_copy_1) dX12_copy_17 ?_
        refine W.lcmp hx hb dX12_copy_20 (lv_topi (fun x22 x22_e => ?_))
        refine lv_if_gt (tgt := 36) hx hb dX12_copy_21 (by decide) (fun h23 => ?_) (fun h23 => ?_)
        ·
          have qh23 := lt_i h23
          have j24 : Iv 1 2147483647 x22 := r_ltr qh23 ik_0 (iv_full x22) (by decide)
          refine lv_aload_n hx hb dX12_copy_36 rfl (lv_at hl 0 rfl) ?_
          refine lv_iconst (v := 2) hx hb dX12_copy_37 (by decide) ?_
          refine kc_i (D := (dC, dI)) (S := Int32 × (Nat → Int32)) (wc := [(o1, .inr (12, [.int v2, .ref o3, .int v5, .ref o6, .int v8, .ref o9, .ref o11, .int v13, .ref o14, .int v16, .ref o17, .int v19, .int v20, .int v21, .ref o22, .ref o24, .ref o26, .ref o28, .ref o30, .int v32, .ref o33, .ref o35, .ref o37, .int v39, .ref o40, .ref o42, .ref o44, .int v46, .ref o47])), (o3, .inl (cI, 5, .inl fw4))]) (wr := [(o9, .inl (cI, 12, .inl fw10)), (o47, .inl (cI, 12, .inl fw48))]) (w1 := fun u => [(o1, .inr (12, [.int u.1, .ref o3, .int v5, .ref o6, .int v8, .ref o9, .ref o11, .int v13, .ref o14, .int v16, .ref o17, .int v19, .int v20, .int v21, .ref o22, .ref o24, .ref o26, .ref o28, .ref o30, .int v32, .ref o33, .ref o35, .ref o37, .int v39, .ref o40, .ref o42, .ref o44, .int v46, .ref o47])), (o3, .inl (cI, 5, .inl u.2))]) (wn := fun u => [(o1, .inr (12, [.int u.1, .ref o3, .int v5, .ref o6, .int v8, .ref o9, .ref o11, .int v13, .ref o14, .int v16, .ref o17, .int v19, .int v20, .int v21, .ref o22, .ref o24, .ref o26, .ref o28, .ref o30, .int v32, .ref o33, .ref o35, .ref o37, .int v39, .ref o40, .ref o42, .ref o44, .int v46, .ref o47])), (o3, .inl (cI, 5, .inl u.2)), (o9, .inl (cI, 12, .inl fw10)), (o47, .inl (cI, 12, .inl fw48))]) (fun hPc hDc => va_runV (As := [.int 2]) (rest := []) ⟨hx, hb, hml, hown, hts⟩ (kX12_meets_3 l dC dI cI c2 cZ o1 o3 o6 o9 o11 o14 o17 o22 o24 o26 o28 o30 o33 o35 o37 o40 o42 o44 o47 v2 fw4 v5 v8 v13 v16 v19 v20 v21 v32 v39 v46 2 s.heap.size v5_h v8_h v13_h v16_h v19_h v32_h v39_h v46_h ik_2) (cwV 1 hts gX12_copy_X12_meets rfl rfl rfl (by decide +kernel) ⟨Nat.le_of_ble_eq_true rfl, Nat.le_of_ble_eq_true rfl⟩) (pre_V hPc hK hDc hN (ci := 12) (q0 := 0) rfl rfl) rfl rfl hl.1 rfl (lv_room (Nat.le_of_ble_eq_true rfl)) dX12_copy_38 ⟨Nat.le_of_ble_eq_true rfl, Nat.le_of_ble_eq_true rfl⟩) hP hD hS hA [0, 1] [2, 3] [2, 3, 0, 1] rfl rfl (by decide +kernel) (by decide +kernel) (by decide +kernel) (by decide +kernel) (fun _ => rfl) (fun x27 u H locs hq hP hD hS => ?_)
          obtain ⟨y25, f26⟩ := u
          have x27_h := hq
          have x27_h : Iv (-3) (-3) x27 := x27_h
          have hP : va_P (dC, dI) vwCl ([(o1, .inr (12, [.int y25, .ref o3, .int v5, .ref o6, .int v8, .ref o9, .ref o11, .int v13, .ref o14, .int v16, .ref o17, .int v19, .int v20, .int v21, .ref o22, .ref o24, .ref o26, .ref o28, .ref o30, .int v32, .ref o33, .ref o35, .ref o37, .int v39, .ref o40, .ref o42, .ref o44, .int v46, .ref o47])), (o3, .inl (cI, 5, .inl f26)), (o9, .inl (cI, 12, .inl fw10)), (o47, .inl (cI, 12, .inl fw48))]) H := hP
          have hD : va_D A ([(o1, .inr (12, [.int y25, .ref o3, .int v5, .ref o6, .int v8, .ref o9, .ref o11, .int v13, .ref o14, .int v16, .ref o17, .int v19, .int v20, .int v21, .ref o22, .ref o24, .ref o26, .ref o28, .ref o30, .int v32, .ref o33, .ref o35, .ref o37, .int v39, .ref o40, .ref o42, .ref o44, .int v46, .ref o47])), (o3, .inl (cI, 5, .inl f26)), (o9, .inl (cI, 12, .inl fw10)), (o47, .inl (cI, 12, .inl fw48))]) := hD
          rw [hQ]
          exact W.iret (v := x27) hx hb hr (fun t ht hW => ⟨⟨x27, (y25, f26, fw10, fw48), rfl, ⟨(iv_w x27_h (by decide)), fw10_b, fw48_b, (copyF_1 (run_g l19_e l20_e l21_e x22_e qh23) (d_eq x27_h ikm_3)), (cpyP_1 (run_g l19_e l20_e l21_e x22_e qh23))⟩, by rw [ht]; exact hP, va_K.moved hW.alike hK, hD⟩, hS.F ht⟩) hS.2.2 dX12_copy_41
        ·
          have qh23 := nlt_i h23
          have j28 : Iv (-2147483648) 0 x22 := r_lel qh23 (iv_full x22) ik_0 (by decide)
          refine lv_iload_n hx hb dX12_copy_24 rfl (lv_at hl 2 rfl) ?_
          refine lv_i2l (v := Int32.toInt64 a2) hx hb dX12_copy_25 rfl (lv_topl (fun l29 l29_e => ?_))
          refine lv_iload_n hx hb dX12_copy_26 rfl (lv_at hl 3 rfl) ?_
          refine lv_i2l (v := Int32.toInt64 a3) hx hb dX12_copy_27 rfl (lv_topl (fun l30 l30_e => ?_))
          refine lv_ladd hx hb dX12_copy_28 (lv_topl (fun l31 l31_e => ?_))
          refine lv_ldc2 (v := 12) hx hb hown (hts (.constantLong RX12 209 (12)) hm_X12_copy_1) dX12_copy_29 ?_
          refine W.lcmp hx hb dX12_copy_32 (lv_topi (fun x32 x32_e => ?_))
          refine lv_if_le (tgt := 42) hx hb dX12_copy_33 (by decide) (fun h33 => ?_) (fun h33 => ?_)
          ·
            have qh33 := le_i h33
            have j34 : Iv (-2147483648) 0 x32 := r_lel qh33 (iv_full x32) ik_0 (by decide)
            have e35 := cpl l19_e l20_e l21_e x22_e qh23
            have e36 := cp_r e35 j6 j18 (by decide)
            have j37 : Iv 0 12 a1 := e36.1
            have j38 : Iv 0 12 a3 := e36.2
            have e39 := cpl l29_e l30_e l31_e x32_e qh33
            have e40 := cp_r e39 j12 j38 (by decide)
            have j41 : Iv 0 12 a2 := e40.1
            have j42 : Iv 0 12 a3 := e40.2
            refine lv_iconst (v := 0) hx hb dX12_copy_42 (by decide) ?_
            refine lv_istore (lv' := [(4, .int 0), (0, .ref o1), (1, .int a1), (2, .int a2), (3, .int a3)]) hx hb dX12_copy_43 hl (by decide) rfl (fun ls hl => ?_)
            have L1 : ∀ (N : Nat) (x121 : Int32) (f122 : Nat → Int32) (H : Heap) (locs : List Loc) (ls : Array Slot), (12 - x121.toInt).toNat < N → Iv 0 12 x121 → Bd 12 (-9) 255 f122 → (∀ j : Nat, j < (Int32.toNatClampNeg x121) → f122 j = fw10 ((Int32.toNatClampNeg a1) + j)) → va_P (dC, dI) vwCl ([(o1, .inr (12, [.int v2, .ref o3, .int v5, .ref o6, .int v8, .ref o9, .ref o11, .int v13, .ref o14, .int v16, .ref o17, .int v19, .int v20, .int v21, .ref o22, .ref o24, .ref o26, .ref o28, .ref o30, .int v32, .ref o33, .ref o35, .ref o37, .int v39, .ref o40, .ref o42, .ref o44, .int v46, .ref o47])), (o3, .inl (cI, 5, .inl fw4)), (o9, .inl (cI, 12, .inl fw10)), (o47, .inl (cI, 12, .inl f122))]) H → va_D A ([(o1, .inr (12, [.int v2, .ref o3, .int v5, .ref o6, .int v8, .ref o9, .ref o11, .int v13, .ref o14, .int v16, .ref o17, .int v19, .int v20, .int v21, .ref o22, .ref o24, .ref o26, .ref o28, .ref o30, .int v32, .ref o33, .ref o35, .ref o37, .int v39, .ref o40, .ref o42, .ref o44, .int v46, .ref o47])), (o3, .inl (cI, 5, .inl fw4)), (o9, .inl (cI, 12, .inl fw10)), (o47, .inl (cI, 12, .inl f122))]) → va_S A s.heap H locs → lv_has ls 5 [(4, .int x121), (0, .ref o1), (1, .int a1), (2, .int a2), (3, .int a3)] → W p l e ({ frames := 1, cells := 0, slots := 0, locals := 21 }) s m ([.ref o1, .int a1, .int a2, .int a3] : List Value).toArray below meth c H locs 0 0 Q (F0 m 45 ls []) := by
              intro N
              induction N with
              | zero =>
                intro x121 f122 H locs ls hM
                exact absurd hM (Nat.not_lt_zero _)
              | succ N ih1 =>
                intro x121 f122 H locs ls hM1 x121_h f122_b iv1_0 hP hD hS hl
                refine lv_iload hx hb dX12_copy_45 (lv_at hl 0 rfl) ?_
                refine lv_iload_n hx hb dX12_copy_47 rfl (lv_at hl 4 rfl) ?_
                refine lv_icmp_ge (tgt := 73) hx hb dX12_copy_48 (by decide) (fun h123 => ?_) (fun h123 => ?_)
                ·
                  have qh123 := le_i h123
                  refine lv_iconst (v := 0) hx hb dX12_copy_73 (by decide) ?_
                  refine lv_istore (lv' := [(4, .int 0), (0, .ref o1), (1, .int a1), (2, .int a2), (3, .int a3)]) hx hb dX12_copy_74 hl (by decide) rfl (fun ls hl => ?_)
                  have L2 : ∀ (N : Nat) (x202 : Int32) (f203 : Nat → Int32) (H : Heap) (locs : List Loc) (ls : Array Slot), (12 - x202.toInt).toNat < N → Iv 0 12 x202 → Bd 12 (-9) 255 f203 → (∀ j : Nat, f203 j = va_cpy f122 fw10 0 (Int32.toNatClampNeg a2) (Int32.toNatClampNeg x202) j) → (Int32.toInt x202 ≤ Int32.toInt a3) → va_P (dC, dI) vwCl ([(o1, .inr (12, [.int v2, .ref o3, .int v5, .ref o6, .int v8, .ref o9, .ref o11, .int v13, .ref o14, .int v16, .ref o17, .int v19, .int v20, .int v21, .ref o22, .ref o24, .ref o26, .ref o28, .ref o30, .int v32, .ref o33, .ref o35, .ref o37, .int v39, .ref o40, .ref o42, .ref o44, .int v46, .ref o47])), (o3, .inl (cI, 5, .inl fw4)), (o9, .inl (cI, 12, .inl f203)), (o47, .inl (cI, 12, .inl f122))]) H → va_D A ([(o1, .inr (12, [.int v2, .ref o3, .int v5, .ref o6, .int v8, .ref o9, .ref o11, .int v13, .ref o14, .int v16, .ref o17, .int v19, .int v20, .int v21, .ref o22, .ref o24, .ref o26, .ref o28, .ref o30, .int v32, .ref o33, .ref o35, .ref o37, .int v39, .ref o40, .ref o42, .ref o44, .int v46, .ref o47])), (o3, .inl (cI, 5, .inl fw4)), (o9, .inl (cI, 12, .inl f203)), (o47, .inl (cI, 12, .inl f122))]) → va_S A s.heap H locs → lv_has ls 5 [(4, .int x202), (0, .ref o1), (1, .int a1), (2, .int a2), (3, .int a3)] → W p l e ({ frames := 1, cells := 0, slots := 0, locals := 21 }) s m ([.ref o1, .int a1, .int a2, .int a3] : List Value).toArray below meth c H locs 0 0 Q (F0 m 76 ls []) := by
                    intro N
                    induction N with
                    | zero =>
                      intro x202 f203 H locs ls hM
                      exact absurd hM (Nat.not_lt_zero _)
                    | succ N ih2 =>
                      intro x202 f203 H locs ls hM2 x202_h f203_b iv2_0 iv2_1 hP hD hS hl
                      refine lv_iload hx hb dX12_copy_76 (lv_at hl 0 rfl) ?_
                      refine lv_iload_n hx hb dX12_copy_78 rfl (lv_at hl 4 rfl) ?_
                      refine lv_icmp_ge (tgt := 104) hx hb dX12_copy_79 (by decide) (fun h204 => ?_) (fun h204 => ?_)
                      ·
                        have qh204 := le_i h204
                        refine lv_iconst (v := 1) hx hb dX12_copy_104 (by decide) ?_
                        rw [hQ]
                        exact W.iret (v := 1) hx hb hr (fun t ht hW => ⟨⟨1, (v2, fw4, f203, f122), rfl, ⟨(iv_w ik_1 (by decide)), f203_b, f122_b, (copyF_t (run_s (a := 0) (c := 0) e35 j37 j42) (run_s (a := 0) (c := 0) e39 j41 j42)), (cpyP_r (run_s (a := 0) (c := 0) e35 j37 j42) (run_s (a := 0) (c := 0) e39 j41 j42) iv1_0 qh123 iv2_0 qh204 iv2_1)⟩, by rw [ht]; exact hP, va_K.moved hW.alike hK, hD⟩, hS.F ht⟩) hS.2.2 dX12_copy_105
                      ·
                        have qh204 := nle_i h204
                        have j205 : Iv 0 11 x202 := r_ltl qh204 x202_h j42 (by decide)
                        have j206 : Iv 1 12 a3 := r_ltr qh204 x202_h j42 (by decide)
                        refine lv_aload_n hx hb dX12_copy_82 rfl (lv_at hl 1 rfl) ?_
                        refine va_get (D := (dC, dI)) (ci := 12) (v := .ref o9) (C := RX12) (T := TX12) (N := 29) hx hb hts iw_X12_copy_X12 hown hK hP 0 rfl rfl 5 (by decide) (hts (.fieldLink RX12 16 "HolelessHouseModel" "rows" "[I") hm_X12_copy_3) (fun _ h9 => h9) rfl dX12_copy_83 ?_
                        refine lv_iload_n hx hb dX12_copy_86 rfl (lv_at hl 3 rfl) ?_
                        refine lv_iload hx hb dX12_copy_87 (lv_at hl 0 rfl) ?_
                        refine lv_iadd hx hb dX12_copy_89 (lv_topi (fun x207 x207_e => ?_))
                        have x207_h : Iv 0 23 x207 := iv_e x207_e (iv_add j41 j205 (by decide))
                        have j208 : Iv 0 11 x207 := cp_x e39 j41 (iv_w (c := 0) (d := 12) j205 (by decide)) x207_e qh204
                        refine lv_aload_n hx hb dX12_copy_90 rfl (lv_at hl 1 rfl) ?_
                        refine va_get (D := (dC, dI)) (ci := 12) (v := .ref o47) (C := RX12) (T := TX12) (N := 29) hx hb hts iw_X12_copy_X12 hown hK hP 0 rfl rfl 28 (by decide) (hts (.fieldLink RX12 67 "HolelessHouseModel" "moving" "[I") hm_X12_copy_2) (fun _ h9 => h9) rfl dX12_copy_91 ?_
                        refine lv_iload hx hb dX12_copy_94 (lv_at hl 0 rfl) ?_
                        refine va_iald hx hb hK hP 3 0 rfl rfl (vin_iv j205 (by decide)) dX12_copy_96 (lv_topi (fun x209 x209_e => ?_))
                        have x209_h : Iv (-9) 255 x209 := iv_e x209_e (bd_at f122_b (vin_iv j205 (by decide)))
                        refine k_iast hx hb hK hP hD hS 2 0 rfl rfl (vin_iv j208 (by decide)) dX12_copy_97 (fun f210 H locs f210_e hP hD hS => ?_)
                        have f210_b : Bd 12 (-9) 255 f210 := bd_upd f210_e f203_b x209_h (by decide)
                        have hP : va_P (dC, dI) vwCl ([(o1, .inr (12, [.int v2, .ref o3, .int v5, .ref o6, .int v8, .ref o9, .ref o11, .int v13, .ref o14, .int v16, .ref o17, .int v19, .int v20, .int v21, .ref o22, .ref o24, .ref o26, .ref o28, .ref o30, .int v32, .ref o33, .ref o35, .ref o37, .int v39, .ref o40, .ref o42, .ref o44, .int v46, .ref o47])), (o3, .inl (cI, 5, .inl fw4)), (o9, .inl (cI, 12, .inl f210)), (o47, .inl (cI, 12, .inl f122))]) H := hP
                        have hD : va_D A ([(o1, .inr (12, [.int v2, .ref o3, .int v5, .ref o6, .int v8, .ref o9, .ref o11, .int v13, .ref o14, .int v16, .ref o17, .int v19, .int v20, .int v21, .ref o22, .ref o24, .ref o26, .ref o28, .ref o30, .int v32, .ref o33, .ref o35, .ref o37, .int v39, .ref o40, .ref o42, .ref o44, .int v46, .ref o47])), (o3, .inl (cI, 5, .inl fw4)), (o9, .inl (cI, 12, .inl f210)), (o47, .inl (cI, 12, .inl f122))]) := hD
                        obtain ⟨x211, x211_e⟩ : ∃ z : Int32, z = x202 + 1 := ⟨_, rfl⟩
                        have x211_h : Iv 1 12 x211 := iv_e x211_e (iv_add j205 ik_1 (by decide))
                        refine lv_iinc (v := x211) (lv' := [(4, .int x211), (0, .ref o1), (1, .int a1), (2, .int a2), (3, .int a3)]) hx hb dX12_copy_98 hl (k := 0) rfl (incN (by decide +kernel) x211_e) (by decide) rfl (fun ls hl => ?_)
                        refine lv_goto (tgt := 76) hx hb dX12_copy_101 (by decide) ?_
                        exact ih2 x211 f210 _ _ _ (ms_up x211_e j205 (by decide) hM2) (iv_w x211_h (by decide)) f210_b (cw_s iv2_0 j41 (iv_w (c := 0) (d := 12) j205 (by decide)) x207_e x209_e f210_e x211_e) (kn_s (iv_w (c := 0) (d := 4095) j205 (by decide)) x211_e qh204) hP hD hS hl
                  exact L2 _ 0 fw10 _ _ _ (Nat.lt_succ_self _) (iv_w ik_0 (by decide)) fw10_b cw_0 (kn_0 (iv_w (c := 0) (d := 4095) j42 (by decide))) hP hD hS hl
                ·
                  have qh123 := nle_i h123
                  have j212 : Iv 0 11 x121 := r_ltl qh123 x121_h j42 (by decide)
                  have j213 : Iv 1 12 a3 := r_ltr qh123 x121_h j42 (by decide)
                  refine lv_aload_n hx hb dX12_copy_51 rfl (lv_at hl 1 rfl) ?_
                  refine va_get (D := (dC, dI)) (ci := 12) (v := .ref o47) (C := RX12) (T := TX12) (N := 29) hx hb hts iw_X12_copy_X12 hown hK hP 0 rfl rfl 28 (by decide) (hts (.fieldLink RX12 67 "HolelessHouseModel" "moving" "[I") hm_X12_copy_2) (fun _ h9 => h9) rfl dX12_copy_52 ?_
                  refine lv_iload hx hb dX12_copy_55 (lv_at hl 0 rfl) ?_
                  refine lv_aload_n hx hb dX12_copy_57 rfl (lv_at hl 1 rfl) ?_
                  refine va_get (D := (dC, dI)) (ci := 12) (v := .ref o9) (C := RX12) (T := TX12) (N := 29) hx hb hts iw_X12_copy_X12 hown hK hP 0 rfl rfl 5 (by decide) (hts (.fieldLink RX12 16 "HolelessHouseModel" "rows" "[I") hm_X12_copy_3) (fun _ h9 => h9) rfl dX12_copy_58 ?_
                  refine lv_iload_n hx hb dX12_copy_61 rfl (lv_at hl 2 rfl) ?_
                  refine lv_iload hx hb dX12_copy_62 (lv_at hl 0 rfl) ?_
                  refine lv_iadd hx hb dX12_copy_64 (lv_topi (fun x214 x214_e => ?_))
                  have x214_h : Iv 0 23 x214 := iv_e x214_e (iv_add j37 j212 (by decide))
                  have j215 : Iv 0 11 x214 := cp_x e35 j37 (iv_w (c := 0) (d := 12) j212 (by decide)) x214_e qh123
                  refine va_iald hx hb hK hP 2 0 rfl rfl (vin_iv j215 (by decide)) dX12_copy_65 (lv_topi (fun x216 x216_e => ?_))
                  have x216_h : Iv (-9) 255 x216 := iv_e x216_e (bd_at fw10_b (vin_iv j215 (by decide)))
                  refine k_iast hx hb hK hP hD hS 3 0 rfl rfl (vin_iv j212 (by decide)) dX12_copy_66 (fun f217 H locs f217_e hP hD hS => ?_)
                  have f217_b : Bd 12 (-9) 255 f217 := bd_upd f217_e f122_b x216_h (by decide)
                  have hP : va_P (dC, dI) vwCl ([(o1, .inr (12, [.int v2, .ref o3, .int v5, .ref o6, .int v8, .ref o9, .ref o11, .int v13, .ref o14, .int v16, .ref o17, .int v19, .int v20, .int v21, .ref o22, .ref o24, .ref o26, .ref o28, .ref o30, .int v32, .ref o33, .ref o35, .ref o37, .int v39, .ref o40, .ref o42, .ref o44, .int v46, .ref o47])), (o3, .inl (cI, 5, .inl fw4)), (o9, .inl (cI, 12, .inl fw10)), (o47, .inl (cI, 12, .inl f217))]) H := hP
                  have hD : va_D A ([(o1, .inr (12, [.int v2, .ref o3, .int v5, .ref o6, .int v8, .ref o9, .ref o11, .int v13, .ref o14, .int v16, .ref o17, .int v19, .int v20, .int v21, .ref o22, .ref o24, .ref o26, .ref o28, .ref o30, .int v32, .ref o33, .ref o35, .ref o37, .int v39, .ref o40, .ref o42, .ref o44, .int v46, .ref o47])), (o3, .inl (cI, 5, .inl fw4)), (o9, .inl (cI, 12, .inl fw10)), (o47, .inl (cI, 12, .inl f217))]) := hD
                  obtain ⟨x218, x218_e⟩ : ∃ z : Int32, z = x121 + 1 := ⟨_, rfl⟩
                  have x218_h : Iv 1 12 x218 := iv_e x218_e (iv_add j212 ik_1 (by decide))
                  refine lv_iinc (v := x218) (lv' := [(4, .int x218), (0, .ref o1), (1, .int a1), (2, .int a2), (3, .int a3)]) hx hb dX12_copy_67 hl (k := 0) rfl (incN (by decide +kernel) x218_e) (by decide) rfl (fun ls hl => ?_)
                  refine lv_goto (tgt := 45) hx hb dX12_copy_70 (by decide) ?_
                  exact ih1 x218 f217 _ _ _ (ms_up x218_e j212 (by decide) hM1) (iv_w x218_h (by decide)) f217_b (mv_s iv1_0 j37 (iv_w (c := 0) (d := 12) j212 (by decide)) x214_e x216_e f217_e x218_e) hP hD hS hl
            exact L1 _ 0 fw48 _ _ _ (Nat.lt_succ_self _) (iv_w ik_0 (by decide)) fw48_b mv_0 hP hD hS hl
          ·
            have qh33 := nle_i h33
            have j219 : Iv 1 2147483647 x32 := r_ltr qh33 ik_0 (iv_full x32) (by decide)
            refine lv_aload_n hx hb dX12_copy_36 rfl (lv_at hl 0 rfl) ?_
            refine lv_iconst (v := 2) hx hb dX12_copy_37 (by decide) ?_
            refine kc_i (D := (dC, dI)) (S := Int32 × (Nat → Int32)) (wc := [(o1, .inr (12, [.int v2, .ref o3, .int v5, .ref o6, .int v8, .ref o9, .ref o11, .int v13, .ref o14, .int v16, .ref o17, .int v19, .int v20, .int v21, .ref o22, .ref o24, .ref o26, .ref o28, .ref o30, .int v32, .ref o33, .ref o35, .ref o37, .int v39, .ref o40, .ref o42, .ref o44, .int v46, .ref o47])), (o3, .inl (cI, 5, .inl fw4))]) (wr := [(o9, .inl (cI, 12, .inl fw10)), (o47, .inl (cI, 12, .inl fw48))]) (w1 := fun u => [(o1, .inr (12, [.int u.1, .ref o3, .int v5, .ref o6, .int v8, .ref o9, .ref o11, .int v13, .ref o14, .int v16, .ref o17, .int v19, .int v20, .int v21, .ref o22, .ref o24, .ref o26, .ref o28, .ref o30, .int v32, .ref o33, .ref o35, .ref o37, .int v39, .ref o40, .ref o42, .ref o44, .int v46, .ref o47])), (o3, .inl (cI, 5, .inl u.2))]) (wn := fun u => [(o1, .inr (12, [.int u.1, .ref o3, .int v5, .ref o6, .int v8, .ref o9, .ref o11, .int v13, .ref o14, .int v16, .ref o17, .int v19, .int v20, .int v21, .ref o22, .ref o24, .ref o26, .ref o28, .ref o30, .int v32, .ref o33, .ref o35, .ref o37, .int v39, .ref o40, .ref o42, .ref o44, .int v46, .ref o47])), (o3, .inl (cI, 5, .inl u.2)), (o9, .inl (cI, 12, .inl fw10)), (o47, .inl (cI, 12, .inl fw48))]) (fun hPc hDc => va_runV (As := [.int 2]) (rest := []) ⟨hx, hb, hml, hown, hts⟩ (kX12_meets_3 l dC dI cI c2 cZ o1 o3 o6 o9 o11 o14 o17 o22 o24 o26 o28 o30 o33 o35 o37 o40 o42 o44 o47 v2 fw4 v5 v8 v13 v16 v19 v20 v21 v32 v39 v46 2 s.heap.size v5_h v8_h v13_h v16_h v19_h v32_h v39_h v46_h ik_2) (cwV 1 hts gX12_copy_X12_meets rfl rfl rfl (by decide +kernel) ⟨Nat.le_of_ble_eq_true rfl, Nat.le_of_ble_eq_true rfl⟩) (pre_V hPc hK hDc hN (ci := 12) (q0 := 0) rfl rfl) rfl rfl hl.1 rfl (lv_room (Nat.le_of_ble_eq_true rfl)) dX12_copy_38 ⟨Nat.le_of_ble_eq_true rfl, Nat.le_of_ble_eq_true rfl⟩) hP hD hS hA [0, 1] [2, 3] [2, 3, 0, 1] rfl rfl (by decide +kernel) (by decide +kernel) (by decide +kernel) (by decide +kernel) (fun _ => rfl) (fun x222 u H locs hq hP hD hS => ?_)
            obtain ⟨y220, f221⟩ := u
            have x222_h := hq
            have x222_h : Iv (-3) (-3) x222 := x222_h
            have hP : va_P (dC, dI) vwCl ([(o1, .inr (12, [.int y220, .ref o3, .int v5, .ref o6, .int v8, .ref o9, .ref o11, .int v13, .ref o14, .int v16, .ref o17, .int v19, .int v20, .int v21, .ref o22, .ref o24, .ref o26, .ref o28, .ref o30, .int v32, .ref o33, .ref o35, .ref o37, .int v39, .ref o40, .ref o42, .ref o44, .int v46, .ref o47])), (o3, .inl (cI, 5, .inl f221)), (o9, .inl (cI, 12, .inl fw10)), (o47, .inl (cI, 12, .inl fw48))]) H := hP
            have hD : va_D A ([(o1, .inr (12, [.int y220, .ref o3, .int v5, .ref o6, .int v8, .ref o9, .ref o11, .int v13, .ref o14, .int v16, .ref o17, .int v19, .int v20, .int v21, .ref o22, .ref o24, .ref o26, .ref o28, .ref o30, .int v32, .ref o33, .ref o35, .ref o37, .int v39, .ref o40, .ref o42, .ref o44, .int v46, .ref o47])), (o3, .inl (cI, 5, .inl f221)), (o9, .inl (cI, 12, .inl fw10)), (o47, .inl (cI, 12, .inl fw48))]) := hD
            rw [hQ]
            exact W.iret (v := x222) hx hb hr (fun t ht hW => ⟨⟨x222, (y220, f221, fw10, fw48), rfl, ⟨(iv_w x222_h (by decide)), fw10_b, fw48_b, (copyF_2 (run_g l29_e l30_e l31_e x32_e qh33) (d_eq x222_h ikm_3)), (cpyP_2 (run_g l29_e l30_e l31_e x32_e qh33))⟩, by rw [ht]; exact hP, va_K.moved hW.alike hK, hD⟩, hS.F ht⟩) hS.2.2 dX12_copy_41
set_option maxHeartbeats 4000000 in
set_option maxRecDepth 100000 in
theorem kxX12_init_2 (l : Launch) (dC : Nat → ClassId) (dI : Nat → Nat → Nat) (cI c2 cZ : ClassId) (o1 : Nat) (sz : Nat) : Met l yX12_init wsX12_init ({ frames := 1, cells := 18, slots := 151889, locals := 12 }) (va_Pc [.ref o1] (wPre (dC, dI) [(cI, .int), (c2, .array .int), (cZ, .boolean)] ([(o1, .inr (12, [.int 0, .null, .int 0, .null, .int 0, .null, .null, .int 0, .null, .int 0, .null, .int 0, .int 0, .int 0, .null, .null, .null, .null, .null, .int 0, .null, .null, .null, .int 0, .null, .null, .null, .int 0, .null]))]) sz)) (va_Qv (fun (u : Int32 × Nat × Nat × Nat × Nat × Nat × Nat × Nat × Nat × Nat × Nat × Nat × Nat × Nat × Nat × Nat × Nat × Nat × Nat × (Nat → Int32) × (Nat → Int32) × (Nat → Int32) × (Nat → Int32) × (Nat → Int32) × (Nat → Int32) × (Nat → Int32) × (Nat → Int32) × (Nat → Int32) × (Nat → Int32) × (Nat → Int32) × (Nat → Int32) × (Nat → Int32) × (Nat → Int32) × (Nat → Int32) × (Nat → Int32) × (Nat → Int32) × (Nat → Int32)) => Iv (-9) (-9) u.1 ∧ Bd 12 0 4095 u.2.2.2.2.2.2.2.2.2.2.2.2.2.2.2.2.2.2.2.2.1 ∧ Bd 12 (-9) 255 u.2.2.2.2.2.2.2.2.2.2.2.2.2.2.2.2.2.2.2.2.2.1 ∧ Bd 12 0 11 u.2.2.2.2.2.2.2.2.2.2.2.2.2.2.2.2.2.2.2.2.2.2.1 ∧ Bd 12 0 11 u.2.2.2.2.2.2.2.2.2.2.2.2.2.2.2.2.2.2.2.2.2.2.2.1 ∧ Bd 12 0 11 u.2.2.2.2.2.2.2.2.2.2.2.2.2.2.2.2.2.2.2.2.2.2.2.2.1 ∧ Bd 12 0 4095 u.2.2.2.2.2.2.2.2.2.2.2.2.2.2.2.2.2.2.2.2.2.2.2.2.2.1 ∧ Bd 12 0 4095 u.2.2.2.2.2.2.2.2.2.2.2.2.2.2.2.2.2.2.2.2.2.2.2.2.2.2.1 ∧ Bd 49152 0 4095 u.2.2.2.2.2.2.2.2.2.2.2.2.2.2.2.2.2.2.2.2.2.2.2.2.2.2.2.1 ∧ Bd 100 0 4095 u.2.2.2.2.2.2.2.2.2.2.2.2.2.2.2.2.2.2.2.2.2.2.2.2.2.2.2.2.2.1 ∧ Bd 12 0 11 u.2.2.2.2.2.2.2.2.2.2.2.2.2.2.2.2.2.2.2.2.2.2.2.2.2.2.2.2.2.2.1 ∧ Bd 100 (-9) 99 u.2.2.2.2.2.2.2.2.2.2.2.2.2.2.2.2.2.2.2.2.2.2.2.2.2.2.2.2.2.2.2.1 ∧ Bd 12 0 11 u.2.2.2.2.2.2.2.2.2.2.2.2.2.2.2.2.2.2.2.2.2.2.2.2.2.2.2.2.2.2.2.2.2.2.2.1 ∧ Bd 12 (-9) 255 u.2.2.2.2.2.2.2.2.2.2.2.2.2.2.2.2.2.2.2.2.2.2.2.2.2.2.2.2.2.2.2.2.2.2.2.2 ∧ (∀ i : Nat, i < 12 → u.2.2.2.2.2.2.2.2.2.2.2.2.2.2.2.2.2.2.2.2.2.1 i = (-9))) (fun u t => wPost (dC, dI) [(cI, .int), (c2, .array .int), (cZ, .boolean)] (va_A ([(o1, .inr (12, [.int 0, .null, .int 0, .null, .int 0, .null, .null, .int 0, .null, .int 0, .null, .int 0, .int 0, .int 0, .null, .null, .null, .null, .null, .int 0, .null, .null, .null, .int 0, .null, .null, .null, .int 0, .null]))]) sz) ([(o1, .inr (12, [.int 0, .ref u.2.1, .int 0, .ref u.2.2.1, .int 0, .ref u.2.2.2.1, .ref u.2.2.2.2.1, .int 0, .ref u.2.2.2.2.2.1, .int 0, .ref u.2.2.2.2.2.2.1, .int u.1, .int 0, .int 0, .ref u.2.2.2.2.2.2.2.1, .ref u.2.2.2.2.2.2.2.2.1, .ref u.2.2.2.2.2.2.2.2.2.1, .ref u.2.2.2.2.2.2.2.2.2.2.1, .ref u.2.2.2.2.2.2.2.2.2.2.2.1, .int 0, .ref u.2.2.2.2.2.2.2.2.2.2.2.2.1, .ref u.2.2.2.2.2.2.2.2.2.2.2.2.2.1, .ref u.2.2.2.2.2.2.2.2.2.2.2.2.2.2.1, .int 0, .ref u.2.2.2.2.2.2.2.2.2.2.2.2.2.2.2.1, .ref u.2.2.2.2.2.2.2.2.2.2.2.2.2.2.2.2.1, .ref u.2.2.2.2.2.2.2.2.2.2.2.2.2.2.2.2.2.1, .int 0, .ref u.2.2.2.2.2.2.2.2.2.2.2.2.2.2.2.2.2.2.1])), (u.2.1, .inl (cI, 5, .inl u.2.2.2.2.2.2.2.2.2.2.2.2.2.2.2.2.2.2.2.1)), (u.2.2.1, .inl (cI, 12, .inl u.2.2.2.2.2.2.2.2.2.2.2.2.2.2.2.2.2.2.2.2.1)), (u.2.2.2.1, .inl (cI, 12, .inl u.2.2.2.2.2.2.2.2.2.2.2.2.2.2.2.2.2.2.2.2.2.1)), (u.2.2.2.2.1, .inl (cI, 12, .inl u.2.2.2.2.2.2.2.2.2.2.2.2.2.2.2.2.2.2.2.2.2.2.1)), (u.2.2.2.2.2.1, .inl (cI, 12, .inl u.2.2.2.2.2.2.2.2.2.2.2.2.2.2.2.2.2.2.2.2.2.2.2.1)), (u.2.2.2.2.2.2.1, .inl (cI, 12, .inl u.2.2.2.2.2.2.2.2.2.2.2.2.2.2.2.2.2.2.2.2.2.2.2.2.1)), (u.2.2.2.2.2.2.2.1, .inl (cI, 12, .inl u.2.2.2.2.2.2.2.2.2.2.2.2.2.2.2.2.2.2.2.2.2.2.2.2.2.1)), (u.2.2.2.2.2.2.2.2.1, .inl (cI, 12, .inl u.2.2.2.2.2.2.2.2.2.2.2.2.2.2.2.2.2.2.2.2.2.2.2.2.2.2.1)), (u.2.2.2.2.2.2.2.2.2.1, .inl (cI, 49152, .inl u.2.2.2.2.2.2.2.2.2.2.2.2.2.2.2.2.2.2.2.2.2.2.2.2.2.2.2.1)), (u.2.2.2.2.2.2.2.2.2.2.1, .inl (cI, 4096, .inl u.2.2.2.2.2.2.2.2.2.2.2.2.2.2.2.2.2.2.2.2.2.2.2.2.2.2.2.2.1)), (u.2.2.2.2.2.2.2.2.2.2.2.1, .inl (cI, 100, .inl u.2.2.2.2.2.2.2.2.2.2.2.2.2.2.2.2.2.2.2.2.2.2.2.2.2.2.2.2.2.1)), (u.2.2.2.2.2.2.2.2.2.2.2.2.1, .inl (cI, 12, .inl u.2.2.2.2.2.2.2.2.2.2.2.2.2.2.2.2.2.2.2.2.2.2.2.2.2.2.2.2.2.2.1)), (u.2.2.2.2.2.2.2.2.2.2.2.2.2.1, .inl (cI, 100, .inl u.2.2.2.2.2.2.2.2.2.2.2.2.2.2.2.2.2.2.2.2.2.2.2.2.2.2.2.2.2.2.2.1)), (u.2.2.2.2.2.2.2.2.2.2.2.2.2.2.1, .inl (cI, 12, .inl u.2.2.2.2.2.2.2.2.2.2.2.2.2.2.2.2.2.2.2.2.2.2.2.2.2.2.2.2.2.2.2.2.1)), (u.2.2.2.2.2.2.2.2.2.2.2.2.2.2.2.1, .inl (cZ, 49152, .inl u.2.2.2.2.2.2.2.2.2.2.2.2.2.2.2.2.2.2.2.2.2.2.2.2.2.2.2.2.2.2.2.2.2.1)), (u.2.2.2.2.2.2.2.2.2.2.2.2.2.2.2.2.1, .inl (cI, 49152, .inl u.2.2.2.2.2.2.2.2.2.2.2.2.2.2.2.2.2.2.2.2.2.2.2.2.2.2.2.2.2.2.2.2.2.2.1)), (u.2.2.2.2.2.2.2.2.2.2.2.2.2.2.2.2.2.1, .inl (cI, 12, .inl u.2.2.2.2.2.2.2.2.2.2.2.2.2.2.2.2.2.2.2.2.2.2.2.2.2.2.2.2.2.2.2.2.2.2.2.1)), (u.2.2.2.2.2.2.2.2.2.2.2.2.2.2.2.2.2.2.1, .inl (cI, 12, .inl u.2.2.2.2.2.2.2.2.2.2.2.2.2.2.2.2.2.2.2.2.2.2.2.2.2.2.2.2.2.2.2.2.2.2.2.2))]) t) (va_A ([(o1, .inr (12, [.int 0, .null, .int 0, .null, .int 0, .null, .null, .int 0, .null, .int 0, .null, .int 0, .int 0, .int 0, .null, .null, .null, .null, .null, .int 0, .null, .null, .null, .int 0, .null, .null, .null, .int 0, .null]))]) sz)) 18 151889 (va_A ([(o1, .inr (12, [.int 0, .null, .int 0, .null, .int 0, .null, .null, .int 0, .null, .int 0, .null, .int 0, .int 0, .int 0, .null, .null, .null, .null, .null, .int 0, .null, .null, .null, .int 0, .null, .null, .null, .int 0, .null]))]) sz) := by
  refine Met.ofW (cc := cX12_init) (maxL := 2) (ret := none) (by decide) rfl ?_
  intro p e s m args below meth c s₁ B hml hv
  obtain ⟨rfl, hsz, hP, hK, hD0, hN⟩ := hv
  have hx := B.exec
  have hb := B.bytes
  have hr := B.returns
  have hts := atoms_spec (ws := wsX12_init) B.pre
  have hown : s.vm.findClass RX12 = some m.cls := findClass_of_methodNamed B.named
  have hlocks := B.notSynchronized
  have hin : meth.name = "<init>" := (name_of_methodNamed B.named B.method).1
  subst hsz
  have hD := hD0.self (sz := s.heap.size)
  generalize hAe : va_A ([(o1, .inr (12, [.int 0, .null, .int 0, .null, .int 0, .null, .null, .int 0, .null, .int 0, .null, .int 0, .int 0, .int 0, .null, .null, .null, .null, .null, .int 0, .null, .null, .null, .int 0, .null, .null, .null, .int 0, .null]))]) s.heap.size = A at hD ⊢
  have hA : ∀ q : Nat, s.heap.size ≤ q → A q := fun q h => by rw [← hAe]; exact Or.inr h
  have hS : va_S A s.heap s.heap [] := va_S.rf
  have hP : va_P (dC, dI) vwCl ([(o1, .inr (12, [.int 0, .null, .int 0, .null, .int 0, .null, .null, .int 0, .null, .int 0, .null, .int 0, .int 0, .int 0, .null, .null, .null, .null, .null, .int 0, .null, .null, .null, .int 0, .null, .null, .null, .int 0, .null]))]) s.heap := hP
  have hl := lv_entry ([.ref o1]) (n := 2) (Nat.le_of_ble_eq_true rfl)
  rw [lg_entry_eq]
  generalize (lg_sl ([.ref o1]) ++ List.replicate (2 - (lg_sl ([.ref o1])).length) Slot.unset).toArray = ls at hl ⊢
  have hl : lv_has ls 2 [(0, .ref o1)] := hl
  refine gen_Q (fun Q hQ => ?_)
  refine lv_aload_n hx hb dX12_init_0 rfl (lv_at hl 0 rfl) ?_
  refine W.objInit hx hb hown (hts (.methodLink RX12 1 objectInit) hm_X12_init_1) (hts (.instanceMethod objectInit) hm_X12_init_2) (hts (.code objectInit ⟨#[0xb1]⟩ 1 none) hm_X12_init_3) rfl (by rw [hml]; exact hl.1) rfl dX12_init_1 (Nat.le_of_ble_eq_true rfl) (Nat.le_of_ble_eq_true rfl) ?_
  refine W.eq (g2 := F0 m 4 ls []) rfl ?_
  refine lv_aload_n hx hb dX12_init_4 rfl (lv_at hl 0 rfl) ?_
  refine lv_iconst (v := 5) hx hb dX12_init_5 (by decide) ?_
  refine va_newa (atype := .int) (ty := .int) (N' := 5) (a0 := (5, .inl (fun _ => 0))) hx hb (hts (.arrayClass .int) hm_X12_init_4) rfl hK hP hD hS hA (fun _ => rfl) (by decide +kernel) (by decide +kernel) (by decide +kernel) (Nat.le_of_ble_eq_true rfl) (Nat.le_of_ble_eq_true rfl) dX12_init_6 (fun q1 cA H hK1 hP hD hS => ?_)
  refine W.widen (k := 1) (n := 5) (by decide) (by decide) ?_
  have e9 : cI = cA := K3_int hK1
  subst e9
  obtain ⟨f2, f2_e⟩ : ∃ g : Nat → Int32, g = fun _ => 0 := ⟨_, rfl⟩
  rw [← f2_e] at hP hD
  have hP : va_P (dC, dI) vwCl ([(o1, .inr (12, [.int 0, .null, .int 0, .null, .int 0, .null, .null, .int 0, .null, .int 0, .null, .int 0, .int 0, .int 0, .null, .null, .null, .null, .null, .int 0, .null, .null, .null, .int 0, .null, .null, .null, .int 0, .null])), (q1, .inl (cI, 5, .inl f2))]) H := hP
  have hD : va_D A ([(o1, .inr (12, [.int 0, .null, .int 0, .null, .int 0, .null, .null, .int 0, .null, .int 0, .null, .int 0, .int 0, .int 0, .null, .null, .null, .null, .null, .int 0, .null, .null, .null, .int 0, .null, .null, .null, .int 0, .null])), (q1, .inl (cI, 5, .inl f2))]) := hD
  refine va_putF (D := (dC, dI)) (ci := 12) (v := .ref q1) (ty := .array .int) (C := RX12) (T := TX12) (N := 29) hx hb hts iw_X12_init_X12 tyX12 tyX12_ok nmX12 hown hK hP hD hS 0 rfl rfl 1 (by decide) (hts (.fieldLink RX12 7 "HolelessHouseModel" "findings" "[I") hm_X12_init_5) (fun _ h9 => h9) rfl hin rfl (by decide +kernel) rfl rfl (Nat.le_of_ble_eq_true rfl) dX12_init_8 (fun H locs hP hD hS => ?_)
  have hP : va_P (dC, dI) vwCl ([(o1, .inr (12, [.int 0, .ref q1, .int 0, .null, .int 0, .null, .null, .int 0, .null, .int 0, .null, .int 0, .int 0, .int 0, .null, .null, .null, .null, .null, .int 0, .null, .null, .null, .int 0, .null, .null, .null, .int 0, .null])), (q1, .inl (cI, 5, .inl f2))]) H := hP
  have hD : va_D A ([(o1, .inr (12, [.int 0, .ref q1, .int 0, .null, .int 0, .null, .null, .int 0, .null, .int 0, .null, .int 0, .int 0, .int 0, .null, .null, .null, .null, .null, .int 0, .null, .null, .null, .int 0, .null, .null, .null, .int 0, .null])), (q1, .inl (cI, 5, .inl f2))]) := hD
  refine lv_aload_n hx hb dX12_init_11 rfl (lv_at hl 0 rfl) ?_
  refine lv_bipush (v := 12) hx hb dX12_init_12 (by decide) ?_
  refine va_newa (atype := .int) (ty := .int) (N' := 12) (a0 := (12, .inl (fun _ => 0))) hx hb (hts (.arrayClass .int) hm_X12_init_4) rfl hK hP hD hS hA (fun _ => rfl) (by decide +kernel) (by decide +kernel) (by decide +kernel) (Nat.le_of_ble_eq_true rfl) (Nat.le_of_ble_eq_true rfl) dX12_init_14 (fun q3 cA H hK1 hP hD hS => ?_)
  refine W.widen (k := 2) (n := 17) (by decide) (by decide) ?_
  have e9 : cI = cA := K3_int hK1
  subst e9
  obtain ⟨f4, f4_e⟩ : ∃ g : Nat → Int32, g = fun _ => 0 := ⟨_, rfl⟩
  rw [← f4_e] at hP hD
  have f4_b : Bd 12 0 4095 f4 := by rw [f4_e]; exact bd_c ik_0 (by decide)
  have hP : va_P (dC, dI) vwCl ([(o1, .inr (12, [.int 0, .ref q1, .int 0, .null, .int 0, .null, .null, .int 0, .null, .int 0, .null, .int 0, .int 0, .int 0, .null, .null, .null, .null, .null, .int 0, .null, .null, .null, .int 0, .null, .null, .null, .int 0, .null])), (q1, .inl (cI, 5, .inl f2)), (q3, .inl (cI, 12, .inl f4))]) H := hP
  have hD : va_D A ([(o1, .inr (12, [.int 0, .ref q1, .int 0, .null, .int 0, .null, .null, .int 0, .null, .int 0, .null, .int 0, .int 0, .int 0, .null, .null, .null, .null, .null, .int 0, .null, .null, .null, .int 0, .null, .null, .null, .int 0, .null])), (q1, .inl (cI, 5, .inl f2)), (q3, .inl (cI, 12, .inl f4))]) := hD
  refine va_putF (D := (dC, dI)) (ci := 12) (v := .ref q3) (ty := .array .int) (C := RX12) (T := TX12) (N := 29) hx hb hts iw_X12_init_X12 tyX12 tyX12_ok nmX12 hown hK hP hD hS 0 rfl rfl 3 (by decide) (hts (.fieldLink RX12 13 "HolelessHouseModel" "near" "[I") hm_X12_init_6) (fun _ h9 => h9) rfl hin rfl (by decide +kernel) rfl rfl (Nat.le_of_ble_eq_true rfl) dX12_init_16 (fun H locs hP hD hS => ?_)
  have hP : va_P (dC, dI) vwCl ([(o1, .inr (12, [.int 0, .ref q1, .int 0, .ref q3, .int 0, .null, .null, .int 0, .null, .int 0, .null, .int 0, .int 0, .int 0, .null, .null, .null, .null, .null, .int 0, .null, .null, .null, .int 0, .null, .null, .null, .int 0, .null])), (q1, .inl (cI, 5, .inl f2)), (q3, .inl (cI, 12, .inl f4))]) H := hP
  have hD : va_D A ([(o1, .inr (12, [.int 0, .ref q1, .int 0, .ref q3, .int 0, .null, .null, .int 0, .null, .int 0, .null, .int 0, .int 0, .int 0, .null, .null, .null, .null, .null, .int 0, .null, .null, .null, .int 0, .null, .null, .null, .int 0, .null])), (q1, .inl (cI, 5, .inl f2)), (q3, .inl (cI, 12, .inl f4))]) := hD
  refine lv_aload_n hx hb dX12_init_19 rfl (lv_at hl 0 rfl) ?_
  refine lv_bipush (v := 12) hx hb dX12_init_20 (by decide) ?_
  refine va_newa (atype := .int) (ty := .int) (N' := 12) (a0 := (12, .inl (fun _ => 0))) hx hb (hts (.arrayClass .int) hm_X12_init_4) rfl hK hP hD hS hA (fun _ => rfl) (by decide +kernel) (by decide +kernel) (by decide +kernel) (Nat.le_of_ble_eq_true rfl) (Nat.le_of_ble_eq_true rfl) dX12_init_22 (fun q5 cA H hK1 hP hD hS => ?_)
  refine W.widen (k := 3) (n := 29) (by decide) (by decide) ?_
  have e9 : cI = cA := K3_int hK1
  subst e9
  obtain ⟨f6, f6_e⟩ : ∃ g : Nat → Int32, g = fun _ => 0 := ⟨_, rfl⟩
  rw [← f6_e] at hP hD
  have f6_b : Bd 12 (-9) 255 f6 := by rw [f6_e]; exact bd_c ik_0 (by decide)
  have hP : va_P (dC, dI) vwCl ([(o1, .inr (12, [.int 0, .ref q1, .int 0, .ref q3, .int 0, .null, .null, .int 0, .null, .int 0, .null, .int 0, .int 0, .int 0, .null, .null, .null, .null, .null, .int 0, .null, .null, .null, .int 0, .null, .null, .null, .int 0, .null])), (q1, .inl (cI, 5, .inl f2)), (q3, .inl (cI, 12, .inl f4)), (q5, .inl (cI, 12, .inl f6))]) H := hP
  have hD : va_D A ([(o1, .inr (12, [.int 0, .ref q1, .int 0, .ref q3, .int 0, .null, .null, .int 0, .null, .int 0, .null, .int 0, .int 0, .int 0, .null, .null, .null, .null, .null, .int 0, .null, .null, .null, .int 0, .null, .null, .null, .int 0, .null])), (q1, .inl (cI, 5, .inl f2)), (q3, .inl (cI, 12, .inl f4)), (q5, .inl (cI, 12, .inl f6))]) := hD
  refine va_putF (D := (dC, dI)) (ci := 12) (v := .ref q5) (ty := .array .int) (C := RX12) (T := TX12) (N := 29) hx hb hts iw_X12_init_X12 tyX12 tyX12_ok nmX12 hown hK hP hD hS 0 rfl rfl 5 (by decide) (hts (.fieldLink RX12 16 "HolelessHouseModel" "rows" "[I") hm_X12_init_7) (fun _ h9 => h9) rfl hin rfl (by decide +kernel) rfl rfl (Nat.le_of_ble_eq_true rfl) dX12_init_24 (fun H locs hP hD hS => ?_)
  have hP : va_P (dC, dI) vwCl ([(o1, .inr (12, [.int 0, .ref q1, .int 0, .ref q3, .int 0, .ref q5, .null, .int 0, .null, .int 0, .null, .int 0, .int 0, .int 0, .null, .null, .null, .null, .null, .int 0, .null, .null, .null, .int 0, .null, .null, .null, .int 0, .null])), (q1, .inl (cI, 5, .inl f2)), (q3, .inl (cI, 12, .inl f4)), (q5, .inl (cI, 12, .inl f6))]) H := hP
  have hD : va_D A ([(o1, .inr (12, [.int 0, .ref q1, .int 0, .ref q3, .int 0, .ref q5, .null, .int 0, .null, .int 0, .null, .int 0, .int 0, .int 0, .null, .null, .null, .null, .null, .int 0, .null, .null, .null, .int 0, .null, .null, .null, .int 0, .null])), (q1, .inl (cI, 5, .inl f2)), (q3, .inl (cI, 12, .inl f4)), (q5, .inl (cI, 12, .inl f6))]) := hD
  refine lv_aload_n hx hb dX12_init_27 rfl (lv_at hl 0 rfl) ?_
  refine lv_bipush (v := 12) hx hb dX12_init_28 (by decide) ?_
  refine va_newa (atype := .int) (ty := .int) (N' := 12) (a0 := (12, .inl (fun _ => 0))) hx hb (hts (.arrayClass .int) hm_X12_init_4) rfl hK hP hD hS hA (fun _ => rfl) (by decide +kernel) (by decide +kernel) (by decide +kernel) (Nat.le_of_ble_eq_true rfl) (Nat.le_of_ble_eq_true rfl) dX12_init_30 (fun q7 cA H hK1 hP hD hS => ?_)
  refine W.widen (k := 4) (n := 41) (by decide) (by decide) ?_
  have e9 : cI = cA := K3_int hK1
  subst e9
  obtain ⟨f8, f8_e⟩ : ∃ g : Nat → Int32, g = fun _ => 0 := ⟨_, rfl⟩
  rw [← f8_e] at hP hD
  have f8_b : Bd 12 0 11 f8 := by rw [f8_e]; exact bd_c ik_0 (by decide)
  have hP : va_P (dC, dI) vwCl ([(o1, .inr (12, [.int 0, .ref q1, .int 0, .ref q3, .int 0, .ref q5, .null, .int 0, .null, .int 0, .null, .int 0, .int 0, .int 0, .null, .null, .null, .null, .null, .int 0, .null, .null, .null, .int 0, .null, .null, .null, .int 0, .null])), (q1, .inl (cI, 5, .inl f2)), (q3, .inl (cI, 12, .inl f4)), (q5, .inl (cI, 12, .inl f6)), (q7, .inl (cI, 12, .inl f8))]) H := hP
  have hD : va_D A ([(o1, .inr (12, [.int 0, .ref q1, .int 0, .ref q3, .int 0, .ref q5, .null, .int 0, .null, .int 0, .null, .int 0, .int 0, .int 0, .null, .null, .null, .null, .null, .int 0, .null, .null, .null, .int 0, .null, .null, .null, .int 0, .null])), (q1, .inl (cI, 5, .inl f2)), (q3, .inl (cI, 12, .inl f4)), (q5, .inl (cI, 12, .inl f6)), (q7, .inl (cI, 12, .inl f8))]) := hD
  refine va_putF (D := (dC, dI)) (ci := 12) (v := .ref q7) (ty := .array .int) (C := RX12) (T := TX12) (N := 29) hx hb hts iw_X12_init_X12 tyX12 tyX12_ok nmX12 hown hK hP hD hS 0 rfl rfl 6 (by decide) (hts (.fieldLink RX12 19 "HolelessHouseModel" "ring" "[I") hm_X12_init_8) (fun _ h9 => h9) rfl hin rfl (by decide +kernel) rfl rfl (Nat.le_of_ble_eq_true rfl) dX12_init_32 (fun H locs hP hD hS => ?_)
  have hP : va_P (dC, dI) vwCl ([(o1, .inr (12, [.int 0, .ref q1, .int 0, .ref q3, .int 0, .ref q5, .ref q7, .int 0, .null, .int 0, .null, .int 0, .int 0, .int 0, .null, .null, .null, .null, .null, .int 0, .null, .null, .null, .int 0, .null, .null, .null, .int 0, .null])), (q1, .inl (cI, 5, .inl f2)), (q3, .inl (cI, 12, .inl f4)), (q5, .inl (cI, 12, .inl f6)), (q7, .inl (cI, 12, .inl f8))]) H := hP
  have hD : va_D A ([(o1, .inr (12, [.int 0, .ref q1, .int 0, .ref q3, .int 0, .ref q5, .ref q7, .int 0, .null, .int 0, .null, .int 0, .int 0, .int 0, .null, .null, .null, .null, .null, .int 0, .null, .null, .null, .int 0, .null, .null, .null, .int 0, .null])), (q1, .inl (cI, 5, .inl f2)), (q3, .inl (cI, 12, .inl f4)), (q5, .inl (cI, 12, .inl f6)), (q7, .inl (cI, 12, .inl f8))]) := hD
  refine lv_aload_n hx hb dX12_init_35 rfl (lv_at hl 0 rfl) ?_
  refine lv_bipush (v := 12) hx hb dX12_init_36 (by decide) ?_
  refine va_newa (atype := .int) (ty := .int) (N' := 12) (a0 := (12, .inl (fun _ => 0))) hx hb (hts (.arrayClass .int) hm_X12_init_4) rfl hK hP hD hS hA (fun _ => rfl) (by decide +kernel) (by decide +kernel) (by decide +kernel) (Nat.le_of_ble_eq_true rfl) (Nat.le_of_ble_eq_true rfl) dX12_init_38 (fun q9 cA H hK1 hP hD hS => ?_)
  refine W.widen (k := 5) (n := 53) (by decide) (by decide) ?_
  have e9 : cI = cA := K3_int hK1
  subst e9
  obtain ⟨f10, f10_e⟩ : ∃ g : Nat → Int32, g = fun _ => 0 := ⟨_, rfl⟩
  rw [← f10_e] at hP hD
  have f10_b : Bd 12 0 11 f10 := by rw [f10_e]; exact bd_c ik_0 (by decide)
  have hP : va_P (dC, dI) vwCl ([(o1, .inr (12, [.int 0, .ref q1, .int 0, .ref q3, .int 0, .ref q5, .ref q7, .int 0, .null, .int 0, .null, .int 0, .int 0, .int 0, .null, .null, .null, .null, .null, .int 0, .null, .null, .null, .int 0, .null, .null, .null, .int 0, .null])), (q1, .inl (cI, 5, .inl f2)), (q3, .inl (cI, 12, .inl f4)), (q5, .inl (cI, 12, .inl f6)), (q7, .inl (cI, 12, .inl f8)), (q9, .inl (cI, 12, .inl f10))]) H := hP
  have hD : va_D A ([(o1, .inr (12, [.int 0, .ref q1, .int 0, .ref q3, .int 0, .ref q5, .ref q7, .int 0, .null, .int 0, .null, .int 0, .int 0, .int 0, .null, .null, .null, .null, .null, .int 0, .null, .null, .null, .int 0, .null, .null, .null, .int 0, .null])), (q1, .inl (cI, 5, .inl f2)), (q3, .inl (cI, 12, .inl f4)), (q5, .inl (cI, 12, .inl f6)), (q7, .inl (cI, 12, .inl f8)), (q9, .inl (cI, 12, .inl f10))]) := hD
  refine va_putF (D := (dC, dI)) (ci := 12) (v := .ref q9) (ty := .array .int) (C := RX12) (T := TX12) (N := 29) hx hb hts iw_X12_init_X12 tyX12 tyX12_ok nmX12 hown hK hP hD hS 0 rfl rfl 8 (by decide) (hts (.fieldLink RX12 22 "HolelessHouseModel" "draft" "[I") hm_X12_init_9) (fun _ h9 => h9) rfl hin rfl (by decide +kernel) rfl rfl (Nat.le_of_ble_eq_true rfl) dX12_init_40 (fun H locs hP hD hS => ?_)
  have hP : va_P (dC, dI) vwCl ([(o1, .inr (12, [.int 0, .ref q1, .int 0, .ref q3, .int 0, .ref q5, .ref q7, .int 0, .ref q9, .int 0, .null, .int 0, .int 0, .int 0, .null, .null, .null, .null, .null, .int 0, .null, .null, .null, .int 0, .null, .null, .null, .int 0, .null])), (q1, .inl (cI, 5, .inl f2)), (q3, .inl (cI, 12, .inl f4)), (q5, .inl (cI, 12, .inl f6)), (q7, .inl (cI, 12, .inl f8)), (q9, .inl (cI, 12, .inl f10))]) H := hP
  have hD : va_D A ([(o1, .inr (12, [.int 0, .ref q1, .int 0, .ref q3, .int 0, .ref q5, .ref q7, .int 0, .ref q9, .int 0, .null, .int 0, .int 0, .int 0, .null, .null, .null, .null, .null, .int 0, .null, .null, .null, .int 0, .null, .null, .null, .int 0, .null])), (q1, .inl (cI, 5, .inl f2)), (q3, .inl (cI, 12, .inl f4)), (q5, .inl (cI, 12, .inl f6)), (q7, .inl (cI, 12, .inl f8)), (q9, .inl (cI, 12, .inl f10))]) := hD
  refine lv_aload_n hx hb dX12_init_43 rfl (lv_at hl 0 rfl) ?_
  refine lv_bipush (v := 12) hx hb dX12_init_44 (by decide) ?_
  refine va_newa (atype := .int) (ty := .int) (N' := 12) (a0 := (12, .inl (fun _ => 0))) hx hb (hts (.arrayClass .int) hm_X12_init_4) rfl hK hP hD hS hA (fun _ => rfl) (by decide +kernel) (by decide +kernel) (by decide +kernel) (Nat.le_of_ble_eq_true rfl) (Nat.le_of_ble_eq_true rfl) dX12_init_46 (fun q11 cA H hK1 hP hD hS => ?_)
  refine W.widen (k := 6) (n := 65) (by decide) (by decide) ?_
  have e9 : cI = cA := K3_int hK1
  subst e9
  obtain ⟨f12, f12_e⟩ : ∃ g : Nat → Int32, g = fun _ => 0 := ⟨_, rfl⟩
  rw [← f12_e] at hP hD
  have f12_b : Bd 12 0 11 f12 := by rw [f12_e]; exact bd_c ik_0 (by decide)
  have hP : va_P (dC, dI) vwCl ([(o1, .inr (12, [.int 0, .ref q1, .int 0, .ref q3, .int 0, .ref q5, .ref q7, .int 0, .ref q9, .int 0, .null, .int 0, .int 0, .int 0, .null, .null, .null, .null, .null, .int 0, .null, .null, .null, .int 0, .null, .null, .null, .int 0, .null])), (q1, .inl (cI, 5, .inl f2)), (q3, .inl (cI, 12, .inl f4)), (q5, .inl (cI, 12, .inl f6)), (q7, .inl (cI, 12, .inl f8)), (q9, .inl (cI, 12, .inl f10)), (q11, .inl (cI, 12, .inl f12))]) H := hP
  have hD : va_D A ([(o1, .inr (12, [.int 0, .ref q1, .int 0, .ref q3, .int 0, .ref q5, .ref q7, .int 0, .ref q9, .int 0, .null, .int 0, .int 0, .int 0, .null, .null, .null, .null, .null, .int 0, .null, .null, .null, .int 0, .null, .null, .null, .int 0, .null])), (q1, .inl (cI, 5, .inl f2)), (q3, .inl (cI, 12, .inl f4)), (q5, .inl (cI, 12, .inl f6)), (q7, .inl (cI, 12, .inl f8)), (q9, .inl (cI, 12, .inl f10)), (q11, .inl (cI, 12, .inl f12))]) := hD
  refine va_putF (D := (dC, dI)) (ci := 12) (v := .ref q11) (ty := .array .int) (C := RX12) (T := TX12) (N := 29) hx hb hts iw_X12_init_X12 tyX12 tyX12_ok nmX12 hown hK hP hD hS 0 rfl rfl 10 (by decide) (hts (.fieldLink RX12 25 "HolelessHouseModel" "order" "[I") hm_X12_init_10) (fun _ h9 => h9) rfl hin rfl (by decide +kernel) rfl rfl (Nat.le_of_ble_eq_true rfl) dX12_init_48 (fun H locs hP hD hS => ?_)
  have hP : va_P (dC, dI) vwCl ([(o1, .inr (12, [.int 0, .ref q1, .int 0, .ref q3, .int 0, .ref q5, .ref q7, .int 0, .ref q9, .int 0, .ref q11, .int 0, .int 0, .int 0, .null, .null, .null, .null, .null, .int 0, .null, .null, .null, .int 0, .null, .null, .null, .int 0, .null])), (q1, .inl (cI, 5, .inl f2)), (q3, .inl (cI, 12, .inl f4)), (q5, .inl (cI, 12, .inl f6)), (q7, .inl (cI, 12, .inl f8)), (q9, .inl (cI, 12, .inl f10)), (q11, .inl (cI, 12, .inl f12))]) H := hP
  have hD : va_D A ([(o1, .inr (12, [.int 0, .ref q1, .int 0, .ref q3, .int 0, .ref q5, .ref q7, .int 0, .ref q9, .int 0, .ref q11, .int 0, .int 0, .int 0, .null, .null, .null, .null, .null, .int 0, .null, .null, .null, .int 0, .null, .null, .null, .int 0, .null])), (q1, .inl (cI, 5, .inl f2)), (q3, .inl (cI, 12, .inl f4)), (q5, .inl (cI, 12, .inl f6)), (q7, .inl (cI, 12, .inl f8)), (q9, .inl (cI, 12, .inl f10)), (q11, .inl (cI, 12, .inl f12))]) := hD
  refine lv_aload_n hx hb dX12_init_51 rfl (lv_at hl 0 rfl) ?_
  refine lv_bipush (v := (-9)) hx hb dX12_init_52 (by decide) ?_
  refine va_put (D := (dC, dI)) (ci := 12) (v := .int (-9)) (ty := .int) (C := RX12) (T := TX12) (N := 29) hx hb hts iw_X12_init_X12 tyX12 tyX12_ok nmX12 hown hK hP hD hS 0 rfl rfl 11 (by decide) (hts (.fieldLink RX12 28 "HolelessHouseModel" "ordered" "I") hm_X12_init_11) (fun _ h9 => h9) rfl (by decide +kernel) rfl rfl (Nat.le_of_ble_eq_true rfl) dX12_init_54 (fun H locs hP hD hS => ?_)
  have hP : va_P (dC, dI) vwCl ([(o1, .inr (12, [.int 0, .ref q1, .int 0, .ref q3, .int 0, .ref q5, .ref q7, .int 0, .ref q9, .int 0, .ref q11, .int (-9), .int 0, .int 0, .null, .null, .null, .null, .null, .int 0, .null, .null, .null, .int 0, .null, .null, .null, .int 0, .null])), (q1, .inl (cI, 5, .inl f2)), (q3, .inl (cI, 12, .inl f4)), (q5, .inl (cI, 12, .inl f6)), (q7, .inl (cI, 12, .inl f8)), (q9, .inl (cI, 12, .inl f10)), (q11, .inl (cI, 12, .inl f12))]) H := hP
  have hD : va_D A ([(o1, .inr (12, [.int 0, .ref q1, .int 0, .ref q3, .int 0, .ref q5, .ref q7, .int 0, .ref q9, .int 0, .ref q11, .int (-9), .int 0, .int 0, .null, .null, .null, .null, .null, .int 0, .null, .null, .null, .int 0, .null, .null, .null, .int 0, .null])), (q1, .inl (cI, 5, .inl f2)), (q3, .inl (cI, 12, .inl f4)), (q5, .inl (cI, 12, .inl f6)), (q7, .inl (cI, 12, .inl f8)), (q9, .inl (cI, 12, .inl f10)), (q11, .inl (cI, 12, .inl f12))]) := hD
  refine lv_aload_n hx hb dX12_init_57 rfl (lv_at hl 0 rfl) ?_
  refine lv_bipush (v := 12) hx hb dX12_init_58 (by decide) ?_
  refine va_newa (atype := .int) (ty := .int) (N' := 12) (a0 := (12, .inl (fun _ => 0))) hx hb (hts (.arrayClass .int) hm_X12_init_4) rfl hK hP hD hS hA (fun _ => rfl) (by decide +kernel) (by decide +kernel) (by decide +kernel) (Nat.le_of_ble_eq_true rfl) (Nat.le_of_ble_eq_true rfl) dX12_init_60 (fun q13 cA H hK1 hP hD hS => ?_)
  refine W.widen (k := 7) (n := 77) (by decide) (by decide) ?_
  have e9 : cI = cA := K3_int hK1
  subst e9
  obtain ⟨f14, f14_e⟩ : ∃ g : Nat → Int32, g = fun _ => 0 := ⟨_, rfl⟩
  rw [← f14_e] at hP hD
  have f14_b : Bd 12 0 4095 f14 := by rw [f14_e]; exact bd_c ik_0 (by decide)
  have hP : va_P (dC, dI) vwCl ([(o1, .inr (12, [.int 0, .ref q1, .int 0, .ref q3, .int 0, .ref q5, .ref q7, .int 0, .ref q9, .int 0, .ref q11, .int (-9), .int 0, .int 0, .null, .null, .null, .null, .null, .int 0, .null, .null, .null, .int 0, .null, .null, .null, .int 0, .null])), (q1, .inl (cI, 5, .inl f2)), (q3, .inl (cI, 12, .inl f4)), (q5, .inl (cI, 12, .inl f6)), (q7, .inl (cI, 12, .inl f8)), (q9, .inl (cI, 12, .inl f10)), (q11, .inl (cI, 12, .inl f12)), (q13, .inl (cI, 12, .inl f14))]) H := hP
  have hD : va_D A ([(o1, .inr (12, [.int 0, .ref q1, .int 0, .ref q3, .int 0, .ref q5, .ref q7, .int 0, .ref q9, .int 0, .ref q11, .int (-9), .int 0, .int 0, .null, .null, .null, .null, .null, .int 0, .null, .null, .null, .int 0, .null, .null, .null, .int 0, .null])), (q1, .inl (cI, 5, .inl f2)), (q3, .inl (cI, 12, .inl f4)), (q5, .inl (cI, 12, .inl f6)), (q7, .inl (cI, 12, .inl f8)), (q9, .inl (cI, 12, .inl f10)), (q11, .inl (cI, 12, .inl f12)), (q13, .inl (cI, 12, .inl f14))]) := hD
  refine va_putF (D := (dC, dI)) (ci := 12) (v := .ref q13) (ty := .array .int) (C := RX12) (T := TX12) (N := 29) hx hb hts iw_X12_init_X12 tyX12 tyX12_ok nmX12 hown hK hP hD hS 0 rfl rfl 14 (by decide) (hts (.fieldLink RX12 32 "HolelessHouseModel" "left" "[I") hm_X12_init_12) (fun _ h9 => h9) rfl hin rfl (by decide +kernel) rfl rfl (Nat.le_of_ble_eq_true rfl) dX12_init_62 (fun H locs hP hD hS => ?_)
  have hP : va_P (dC, dI) vwCl ([(o1, .inr (12, [.int 0, .ref q1, .int 0, .ref q3, .int 0, .ref q5, .ref q7, .int 0, .ref q9, .int 0, .ref q11, .int (-9), .int 0, .int 0, .ref q13, .null, .null, .null, .null, .int 0, .null, .null, .null, .int 0, .null, .null, .null, .int 0, .null])), (q1, .inl (cI, 5, .inl f2)), (q3, .inl (cI, 12, .inl f4)), (q5, .inl (cI, 12, .inl f6)), (q7, .inl (cI, 12, .inl f8)), (q9, .inl (cI, 12, .inl f10)), (q11, .inl (cI, 12, .inl f12)), (q13, .inl (cI, 12, .inl f14))]) H := hP
  have hD : va_D A ([(o1, .inr (12, [.int 0, .ref q1, .int 0, .ref q3, .int 0, .ref q5, .ref q7, .int 0, .ref q9, .int 0, .ref q11, .int (-9), .int 0, .int 0, .ref q13, .null, .null, .null, .null, .int 0, .null, .null, .null, .int 0, .null, .null, .null, .int 0, .null])), (q1, .inl (cI, 5, .inl f2)), (q3, .inl (cI, 12, .inl f4)), (q5, .inl (cI, 12, .inl f6)), (q7, .inl (cI, 12, .inl f8)), (q9, .inl (cI, 12, .inl f10)), (q11, .inl (cI, 12, .inl f12)), (q13, .inl (cI, 12, .inl f14))]) := hD
  refine lv_aload_n hx hb dX12_init_65 rfl (lv_at hl 0 rfl) ?_
  refine lv_bipush (v := 12) hx hb dX12_init_66 (by decide) ?_
  refine va_newa (atype := .int) (ty := .int) (N' := 12) (a0 := (12, .inl (fun _ => 0))) hx hb (hts (.arrayClass .int) hm_X12_init_4) rfl hK hP hD hS hA (fun _ => rfl) (by decide +kernel) (by decide +kernel) (by decide +kernel) (Nat.le_of_ble_eq_true rfl) (Nat.le_of_ble_eq_true rfl) dX12_init_68 (fun q15 cA H hK1 hP hD hS => ?_)
  refine W.widen (k := 8) (n := 89) (by decide) (by decide) ?_
  have e9 : cI = cA := K3_int hK1
  subst e9
  obtain ⟨f16, f16_e⟩ : ∃ g : Nat → Int32, g = fun _ => 0 := ⟨_, rfl⟩
  rw [← f16_e] at hP hD
  have f16_b : Bd 12 0 4095 f16 := by rw [f16_e]; exact bd_c ik_0 (by decide)
  have hP : va_P (dC, dI) vwCl ([(o1, .inr (12, [.int 0, .ref q1, .int 0, .ref q3, .int 0, .ref q5, .ref q7, .int 0, .ref q9, .int 0, .ref q11, .int (-9), .int 0, .int 0, .ref q13, .null, .null, .null, .null, .int 0, .null, .null, .null, .int 0, .null, .null, .null, .int 0, .null])), (q1, .inl (cI, 5, .inl f2)), (q3, .inl (cI, 12, .inl f4)), (q5, .inl (cI, 12, .inl f6)), (q7, .inl (cI, 12, .inl f8)), (q9, .inl (cI, 12, .inl f10)), (q11, .inl (cI, 12, .inl f12)), (q13, .inl (cI, 12, .inl f14)), (q15, .inl (cI, 12, .inl f16))]) H := hP
  have hD : va_D A ([(o1, .inr (12, [.int 0, .ref q1, .int 0, .ref q3, .int 0, .ref q5, .ref q7, .int 0, .ref q9, .int 0, .ref q11, .int (-9), .int 0, .int 0, .ref q13, .null, .null, .null, .null, .int 0, .null, .null, .null, .int 0, .null, .null, .null, .int 0, .null])), (q1, .inl (cI, 5, .inl f2)), (q3, .inl (cI, 12, .inl f4)), (q5, .inl (cI, 12, .inl f6)), (q7, .inl (cI, 12, .inl f8)), (q9, .inl (cI, 12, .inl f10)), (q11, .inl (cI, 12, .inl f12)), (q13, .inl (cI, 12, .inl f14)), (q15, .inl (cI, 12, .inl f16))]) := hD
  refine va_putF (D := (dC, dI)) (ci := 12) (v := .ref q15) (ty := .array .int) (C := RX12) (T := TX12) (N := 29) hx hb hts iw_X12_init_X12 tyX12 tyX12_ok nmX12 hown hK hP hD hS 0 rfl rfl 15 (by decide) (hts (.fieldLink RX12 35 "HolelessHouseModel" "joins" "[I") hm_X12_init_13) (fun _ h9 => h9) rfl hin rfl (by decide +kernel) rfl rfl (Nat.le_of_ble_eq_true rfl) dX12_init_70 (fun H locs hP hD hS => ?_)
  have hP : va_P (dC, dI) vwCl ([(o1, .inr (12, [.int 0, .ref q1, .int 0, .ref q3, .int 0, .ref q5, .ref q7, .int 0, .ref q9, .int 0, .ref q11, .int (-9), .int 0, .int 0, .ref q13, .ref q15, .null, .null, .null, .int 0, .null, .null, .null, .int 0, .null, .null, .null, .int 0, .null])), (q1, .inl (cI, 5, .inl f2)), (q3, .inl (cI, 12, .inl f4)), (q5, .inl (cI, 12, .inl f6)), (q7, .inl (cI, 12, .inl f8)), (q9, .inl (cI, 12, .inl f10)), (q11, .inl (cI, 12, .inl f12)), (q13, .inl (cI, 12, .inl f14)), (q15, .inl (cI, 12, .inl f16))]) H := hP
  have hD : va_D A ([(o1, .inr (12, [.int 0, .ref q1, .int 0, .ref q3, .int 0, .ref q5, .ref q7, .int 0, .ref q9, .int 0, .ref q11, .int (-9), .int 0, .int 0, .ref q13, .ref q15, .null, .null, .null, .int 0, .null, .null, .null, .int 0, .null, .null, .null, .int 0, .null])), (q1, .inl (cI, 5, .inl f2)), (q3, .inl (cI, 12, .inl f4)), (q5, .inl (cI, 12, .inl f6)), (q7, .inl (cI, 12, .inl f8)), (q9, .inl (cI, 12, .inl f10)), (q11, .inl (cI, 12, .inl f12)), (q13, .inl (cI, 12, .inl f14)), (q15, .inl (cI, 12, .inl f16))]) := hD
  refine lv_aload_n hx hb dX12_init_73 rfl (lv_at hl 0 rfl) ?_
  refine lv_ldc (v := 49152) hx hb hown (hts (.constant RX12 38 (49152)) hm_X12_init_14) dX12_init_74 ?_
  refine va_newa (atype := .int) (ty := .int) (N' := 49152) (a0 := (49152, .inl (fun _ => 0))) hx hb (hts (.arrayClass .int) hm_X12_init_4) rfl hK hP hD hS hA (fun _ => rfl) (by decide +kernel) (by decide +kernel) (by decide +kernel) (Nat.le_of_ble_eq_true rfl) (Nat.le_of_ble_eq_true rfl) dX12_init_76 (fun q17 cA H hK1 hP hD hS => ?_)
  refine W.widen (k := 9) (n := 49241) (by decide) (by decide) ?_
  have e9 : cI = cA := K3_int hK1
  subst e9
  obtain ⟨f18, f18_e⟩ : ∃ g : Nat → Int32, g = fun _ => 0 := ⟨_, rfl⟩
  rw [← f18_e] at hP hD
  have f18_b : Bd 49152 0 4095 f18 := by rw [f18_e]; exact bd_c ik_0 (by decide)
  have hP : va_P (dC, dI) vwCl ([(o1, .inr (12, [.int 0, .ref q1, .int 0, .ref q3, .int 0, .ref q5, .ref q7, .int 0, .ref q9, .int 0, .ref q11, .int (-9), .int 0, .int 0, .ref q13, .ref q15, .null, .null, .null, .int 0, .null, .null, .null, .int 0, .null, .null, .null, .int 0, .null])), (q1, .inl (cI, 5, .inl f2)), (q3, .inl (cI, 12, .inl f4)), (q5, .inl (cI, 12, .inl f6)), (q7, .inl (cI, 12, .inl f8)), (q9, .inl (cI, 12, .inl f10)), (q11, .inl (cI, 12, .inl f12)), (q13, .inl (cI, 12, .inl f14)), (q15, .inl (cI, 12, .inl f16)), (q17, .inl (cI, 49152, .inl f18))]) H := hP
  have hD : va_D A ([(o1, .inr (12, [.int 0, .ref q1, .int 0, .ref q3, .int 0, .ref q5, .ref q7, .int 0, .ref q9, .int 0, .ref q11, .int (-9), .int 0, .int 0, .ref q13, .ref q15, .null, .null, .null, .int 0, .null, .null, .null, .int 0, .null, .null, .null, .int 0, .null])), (q1, .inl (cI, 5, .inl f2)), (q3, .inl (cI, 12, .inl f4)), (q5, .inl (cI, 12, .inl f6)), (q7, .inl (cI, 12, .inl f8)), (q9, .inl (cI, 12, .inl f10)), (q11, .inl (cI, 12, .inl f12)), (q13, .inl (cI, 12, .inl f14)), (q15, .inl (cI, 12, .inl f16)), (q17, .inl (cI, 49152, .inl f18))]) := hD
  refine va_putF (D := (dC, dI)) (ci := 12) (v := .ref q17) (ty := .array .int) (C := RX12) (T := TX12) (N := 29) hx hb hts iw_X12_init_X12 tyX12 tyX12_ok nmX12 hown hK hP hD hS 0 rfl rfl 16 (by decide) (hts (.fieldLink RX12 39 "HolelessHouseModel" "nearThen" "[I") hm_X12_init_15) (fun _ h9 => h9) rfl hin rfl (by decide +kernel) rfl rfl (Nat.le_of_ble_eq_true rfl) dX12_init_78 (fun H locs hP hD hS => ?_)
  have hP : va_P (dC, dI) vwCl ([(o1, .inr (12, [.int 0, .ref q1, .int 0, .ref q3, .int 0, .ref q5, .ref q7, .int 0, .ref q9, .int 0, .ref q11, .int (-9), .int 0, .int 0, .ref q13, .ref q15, .ref q17, .null, .null, .int 0, .null, .null, .null, .int 0, .null, .null, .null, .int 0, .null])), (q1, .inl (cI, 5, .inl f2)), (q3, .inl (cI, 12, .inl f4)), (q5, .inl (cI, 12, .inl f6)), (q7, .inl (cI, 12, .inl f8)), (q9, .inl (cI, 12, .inl f10)), (q11, .inl (cI, 12, .inl f12)), (q13, .inl (cI, 12, .inl f14)), (q15, .inl (cI, 12, .inl f16)), (q17, .inl (cI, 49152, .inl f18))]) H := hP
  have hD : va_D A ([(o1, .inr (12, [.int 0, .ref q1, .int 0, .ref q3, .int 0, .ref q5, .ref q7, .int 0, .ref q9, .int 0, .ref q11, .int (-9), .int 0, .int 0, .ref q13, .ref q15, .ref q17, .null, .null, .int 0, .null, .null, .null, .int 0, .null, .null, .null, .int 0, .null])), (q1, .inl (cI, 5, .inl f2)), (q3, .inl (cI, 12, .inl f4)), (q5, .inl (cI, 12, .inl f6)), (q7, .inl (cI, 12, .inl f8)), (q9, .inl (cI, 12, .inl f10)), (q11, .inl (cI, 12, .inl f12)), (q13, .inl (cI, 12, .inl f14)), (q15, .inl (cI, 12, .inl f16)), (q17, .inl (cI, 49152, .inl f18))]) := hD
  refine lv_aload_n hx hb dX12_init_81 rfl (lv_at hl 0 rfl) ?_
  refine lv_sipush (v := 4096) hx hb dX12_init_82 (by decide) ?_
  refine va_newa (atype := .int) (ty := .int) (N' := 4096) (a0 := (4096, .inl (fun _ => 0))) hx hb (hts (.arrayClass .int) hm_X12_init_4) rfl hK hP hD hS hA (fun _ => rfl) (by decide +kernel) (by decide +kernel) (by decide +kernel) (Nat.le_of_ble_eq_true rfl) (Nat.le_of_ble_eq_true rfl) dX12_init_85 (fun q19 cA H hK1 hP hD hS => ?_)
  refine W.widen (k := 10) (n := 53337) (by decide) (by decide) ?_
  have e9 : cI = cA := K3_int hK1
  subst e9
  obtain ⟨f20, f20_e⟩ : ∃ g : Nat → Int32, g = fun _ => 0 := ⟨_, rfl⟩
  rw [← f20_e] at hP hD
  have hP : va_P (dC, dI) vwCl ([(o1, .inr (12, [.int 0, .ref q1, .int 0, .ref q3, .int 0, .ref q5, .ref q7, .int 0, .ref q9, .int 0, .ref q11, .int (-9), .int 0, .int 0, .ref q13, .ref q15, .ref q17, .null, .null, .int 0, .null, .null, .null, .int 0, .null, .null, .null, .int 0, .null])), (q1, .inl (cI, 5, .inl f2)), (q3, .inl (cI, 12, .inl f4)), (q5, .inl (cI, 12, .inl f6)), (q7, .inl (cI, 12, .inl f8)), (q9, .inl (cI, 12, .inl f10)), (q11, .inl (cI, 12, .inl f12)), (q13, .inl (cI, 12, .inl f14)), (q15, .inl (cI, 12, .inl f16)), (q17, .inl (cI, 49152, .inl f18)), (q19, .inl (cI, 4096, .inl f20))]) H := hP
  have hD : va_D A ([(o1, .inr (12, [.int 0, .ref q1, .int 0, .ref q3, .int 0, .ref q5, .ref q7, .int 0, .ref q9, .int 0, .ref q11, .int (-9), .int 0, .int 0, .ref q13, .ref q15, .ref q17, .null, .null, .int 0, .null, .null, .null, .int 0, .null, .null, .null, .int 0, .null])), (q1, .inl (cI, 5, .inl f2)), (q3, .inl (cI, 12, .inl f4)), (q5, .inl (cI, 12, .inl f6)), (q7, .inl (cI, 12, .inl f8)), (q9, .inl (cI, 12, .inl f10)), (q11, .inl (cI, 12, .inl f12)), (q13, .inl (cI, 12, .inl f14)), (q15, .inl (cI, 12, .inl f16)), (q17, .inl (cI, 49152, .inl f18)), (q19, .inl (cI, 4096, .inl f20))]) := hD
  refine va_putF (D := (dC, dI)) (ci := 12) (v := .ref q19) (ty := .array .int) (C := RX12) (T := TX12) (N := 29) hx hb hts iw_X12_init_X12 tyX12 tyX12_ok nmX12 hown hK hP hD hS 0 rfl rfl 17 (by decide) (hts (.fieldLink RX12 42 "HolelessHouseModel" "least" "[I") hm_X12_init_16) (fun _ h9 => h9) rfl hin rfl (by decide +kernel) rfl rfl (Nat.le_of_ble_eq_true rfl) dX12_init_87 (fun H locs hP hD hS => ?_)
  have hP : va_P (dC, dI) vwCl ([(o1, .inr (12, [.int 0, .ref q1, .int 0, .ref q3, .int 0, .ref q5, .ref q7, .int 0, .ref q9, .int 0, .ref q11, .int (-9), .int 0, .int 0, .ref q13, .ref q15, .ref q17, .ref q19, .null, .int 0, .null, .null, .null, .int 0, .null, .null, .null, .int 0, .null])), (q1, .inl (cI, 5, .inl f2)), (q3, .inl (cI, 12, .inl f4)), (q5, .inl (cI, 12, .inl f6)), (q7, .inl (cI, 12, .inl f8)), (q9, .inl (cI, 12, .inl f10)), (q11, .inl (cI, 12, .inl f12)), (q13, .inl (cI, 12, .inl f14)), (q15, .inl (cI, 12, .inl f16)), (q17, .inl (cI, 49152, .inl f18)), (q19, .inl (cI, 4096, .inl f20))]) H := hP
  have hD : va_D A ([(o1, .inr (12, [.int 0, .ref q1, .int 0, .ref q3, .int 0, .ref q5, .ref q7, .int 0, .ref q9, .int 0, .ref q11, .int (-9), .int 0, .int 0, .ref q13, .ref q15, .ref q17, .ref q19, .null, .int 0, .null, .null, .null, .int 0, .null, .null, .null, .int 0, .null])), (q1, .inl (cI, 5, .inl f2)), (q3, .inl (cI, 12, .inl f4)), (q5, .inl (cI, 12, .inl f6)), (q7, .inl (cI, 12, .inl f8)), (q9, .inl (cI, 12, .inl f10)), (q11, .inl (cI, 12, .inl f12)), (q13, .inl (cI, 12, .inl f14)), (q15, .inl (cI, 12, .inl f16)), (q17, .inl (cI, 49152, .inl f18)), (q19, .inl (cI, 4096, .inl f20))]) := hD
  refine lv_aload_n hx hb dX12_init_90 rfl (lv_at hl 0 rfl) ?_
  refine lv_bipush (v := 100) hx hb dX12_init_91 (by decide) ?_
  refine va_newa (atype := .int) (ty := .int) (N' := 100) (a0 := (100, .inl (fun _ => 0))) hx hb (hts (.arrayClass .int) hm_X12_init_4) rfl hK hP hD hS hA (fun _ => rfl) (by decide +kernel) (by decide +kernel) (by decide +kernel) (Nat.le_of_ble_eq_true rfl) (Nat.le_of_ble_eq_true rfl) dX12_init_93 (fun q21 cA H hK1 hP hD hS => ?_)
  refine W.widen (k := 11) (n := 53437) (by decide) (by decide) ?_
  have e9 : cI = cA := K3_int hK1
  subst e9
  obtain ⟨f22, f22_e⟩ : ∃ g : Nat → Int32, g = fun _ => 0 := ⟨_, rfl⟩
  rw [← f22_e] at hP hD
  have f22_b : Bd 100 0 4095 f22 := by rw [f22_e]; exact bd_c ik_0 (by decide)
  have hP : va_P (dC, dI) vwCl ([(o1, .inr (12, [.int 0, .ref q1, .int 0, .ref q3, .int 0, .ref q5, .ref q7, .int 0, .ref q9, .int 0, .ref q11, .int (-9), .int 0, .int 0, .ref q13, .ref q15, .ref q17, .ref q19, .null, .int 0, .null, .null, .null, .int 0, .null, .null, .null, .int 0, .null])), (q1, .inl (cI, 5, .inl f2)), (q3, .inl (cI, 12, .inl f4)), (q5, .inl (cI, 12, .inl f6)), (q7, .inl (cI, 12, .inl f8)), (q9, .inl (cI, 12, .inl f10)), (q11, .inl (cI, 12, .inl f12)), (q13, .inl (cI, 12, .inl f14)), (q15, .inl (cI, 12, .inl f16)), (q17, .inl (cI, 49152, .inl f18)), (q19, .inl (cI, 4096, .inl f20)), (q21, .inl (cI, 100, .inl f22))]) H := hP
  have hD : va_D A ([(o1, .inr (12, [.int 0, .ref q1, .int 0, .ref q3, .int 0, .ref q5, .ref q7, .int 0, .ref q9, .int 0, .ref q11, .int (-9), .int 0, .int 0, .ref q13, .ref q15, .ref q17, .ref q19, .null, .int 0, .null, .null, .null, .int 0, .null, .null, .null, .int 0, .null])), (q1, .inl (cI, 5, .inl f2)), (q3, .inl (cI, 12, .inl f4)), (q5, .inl (cI, 12, .inl f6)), (q7, .inl (cI, 12, .inl f8)), (q9, .inl (cI, 12, .inl f10)), (q11, .inl (cI, 12, .inl f12)), (q13, .inl (cI, 12, .inl f14)), (q15, .inl (cI, 12, .inl f16)), (q17, .inl (cI, 49152, .inl f18)), (q19, .inl (cI, 4096, .inl f20)), (q21, .inl (cI, 100, .inl f22))]) := hD
  refine va_putF (D := (dC, dI)) (ci := 12) (v := .ref q21) (ty := .array .int) (C := RX12) (T := TX12) (N := 29) hx hb hts iw_X12_init_X12 tyX12 tyX12_ok nmX12 hown hK hP hD hS 0 rfl rfl 18 (by decide) (hts (.fieldLink RX12 45 "HolelessHouseModel" "cliques" "[I") hm_X12_init_17) (fun _ h9 => h9) rfl hin rfl (by decide +kernel) rfl rfl (Nat.le_of_ble_eq_true rfl) dX12_init_95 (fun H locs hP hD hS => ?_)
  have hP : va_P (dC, dI) vwCl ([(o1, .inr (12, [.int 0, .ref q1, .int 0, .ref q3, .int 0, .ref q5, .ref q7, .int 0, .ref q9, .int 0, .ref q11, .int (-9), .int 0, .int 0, .ref q13, .ref q15, .ref q17, .ref q19, .ref q21, .int 0, .null, .null, .null, .int 0, .null, .null, .null, .int 0, .null])), (q1, .inl (cI, 5, .inl f2)), (q3, .inl (cI, 12, .inl f4)), (q5, .inl (cI, 12, .inl f6)), (q7, .inl (cI, 12, .inl f8)), (q9, .inl (cI, 12, .inl f10)), (q11, .inl (cI, 12, .inl f12)), (q13, .inl (cI, 12, .inl f14)), (q15, .inl (cI, 12, .inl f16)), (q17, .inl (cI, 49152, .inl f18)), (q19, .inl (cI, 4096, .inl f20)), (q21, .inl (cI, 100, .inl f22))]) H := hP
  have hD : va_D A ([(o1, .inr (12, [.int 0, .ref q1, .int 0, .ref q3, .int 0, .ref q5, .ref q7, .int 0, .ref q9, .int 0, .ref q11, .int (-9), .int 0, .int 0, .ref q13, .ref q15, .ref q17, .ref q19, .ref q21, .int 0, .null, .null, .null, .int 0, .null, .null, .null, .int 0, .null])), (q1, .inl (cI, 5, .inl f2)), (q3, .inl (cI, 12, .inl f4)), (q5, .inl (cI, 12, .inl f6)), (q7, .inl (cI, 12, .inl f8)), (q9, .inl (cI, 12, .inl f10)), (q11, .inl (cI, 12, .inl f12)), (q13, .inl (cI, 12, .inl f14)), (q15, .inl (cI, 12, .inl f16)), (q17, .inl (cI, 49152, .inl f18)), (q19, .inl (cI, 4096, .inl f20)), (q21, .inl (cI, 100, .inl f22))]) := hD
  refine lv_aload_n hx hb dX12_init_98 rfl (lv_at hl 0 rfl) ?_
  refine lv_bipush (v := 12) hx hb dX12_init_99 (by decide) ?_
  refine va_newa (atype := .int) (ty := .int) (N' := 12) (a0 := (12, .inl (fun _ => 0))) hx hb (hts (.arrayClass .int) hm_X12_init_4) rfl hK hP hD hS hA (fun _ => rfl) (by decide +kernel) (by decide +kernel) (by decide +kernel) (Nat.le_of_ble_eq_true rfl) (Nat.le_of_ble_eq_true rfl) dX12_init_101 (fun q23 cA H hK1 hP hD hS => ?_)
  refine W.widen (k := 12) (n := 53449) (by decide) (by decide) ?_
  have e9 : cI = cA := K3_int hK1
  subst e9
  obtain ⟨f24, f24_e⟩ : ∃ g : Nat → Int32, g = fun _ => 0 := ⟨_, rfl⟩
  rw [← f24_e] at hP hD
  have f24_b : Bd 12 0 11 f24 := by rw [f24_e]; exact bd_c ik_0 (by decide)
  have hP : va_P (dC, dI) vwCl ([(o1, .inr (12, [.int 0, .ref q1, .int 0, .ref q3, .int 0, .ref q5, .ref q7, .int 0, .ref q9, .int 0, .ref q11, .int (-9), .int 0, .int 0, .ref q13, .ref q15, .ref q17, .ref q19, .ref q21, .int 0, .null, .null, .null, .int 0, .null, .null, .null, .int 0, .null])), (q1, .inl (cI, 5, .inl f2)), (q3, .inl (cI, 12, .inl f4)), (q5, .inl (cI, 12, .inl f6)), (q7, .inl (cI, 12, .inl f8)), (q9, .inl (cI, 12, .inl f10)), (q11, .inl (cI, 12, .inl f12)), (q13, .inl (cI, 12, .inl f14)), (q15, .inl (cI, 12, .inl f16)), (q17, .inl (cI, 49152, .inl f18)), (q19, .inl (cI, 4096, .inl f20)), (q21, .inl (cI, 100, .inl f22)), (q23, .inl (cI, 12, .inl f24))]) H := hP
  have hD : va_D A ([(o1, .inr (12, [.int 0, .ref q1, .int 0, .ref q3, .int 0, .ref q5, .ref q7, .int 0, .ref q9, .int 0, .ref q11, .int (-9), .int 0, .int 0, .ref q13, .ref q15, .ref q17, .ref q19, .ref q21, .int 0, .null, .null, .null, .int 0, .null, .null, .null, .int 0, .null])), (q1, .inl (cI, 5, .inl f2)), (q3, .inl (cI, 12, .inl f4)), (q5, .inl (cI, 12, .inl f6)), (q7, .inl (cI, 12, .inl f8)), (q9, .inl (cI, 12, .inl f10)), (q11, .inl (cI, 12, .inl f12)), (q13, .inl (cI, 12, .inl f14)), (q15, .inl (cI, 12, .inl f16)), (q17, .inl (cI, 49152, .inl f18)), (q19, .inl (cI, 4096, .inl f20)), (q21, .inl (cI, 100, .inl f22)), (q23, .inl (cI, 12, .inl f24))]) := hD
  refine va_putF (D := (dC, dI)) (ci := 12) (v := .ref q23) (ty := .array .int) (C := RX12) (T := TX12) (N := 29) hx hb hts iw_X12_init_X12 tyX12 tyX12_ok nmX12 hown hK hP hD hS 0 rfl rfl 20 (by decide) (hts (.fieldLink RX12 48 "HolelessHouseModel" "colours" "[I") hm_X12_init_18) (fun _ h9 => h9) rfl hin rfl (by decide +kernel) rfl rfl (Nat.le_of_ble_eq_true rfl) dX12_init_103 (fun H locs hP hD hS => ?_)
  have hP : va_P (dC, dI) vwCl ([(o1, .inr (12, [.int 0, .ref q1, .int 0, .ref q3, .int 0, .ref q5, .ref q7, .int 0, .ref q9, .int 0, .ref q11, .int (-9), .int 0, .int 0, .ref q13, .ref q15, .ref q17, .ref q19, .ref q21, .int 0, .ref q23, .null, .null, .int 0, .null, .null, .null, .int 0, .null])), (q1, .inl (cI, 5, .inl f2)), (q3, .inl (cI, 12, .inl f4)), (q5, .inl (cI, 12, .inl f6)), (q7, .inl (cI, 12, .inl f8)), (q9, .inl (cI, 12, .inl f10)), (q11, .inl (cI, 12, .inl f12)), (q13, .inl (cI, 12, .inl f14)), (q15, .inl (cI, 12, .inl f16)), (q17, .inl (cI, 49152, .inl f18)), (q19, .inl (cI, 4096, .inl f20)), (q21, .inl (cI, 100, .inl f22)), (q23, .inl (cI, 12, .inl f24))]) H := hP
  have hD : va_D A ([(o1, .inr (12, [.int 0, .ref q1, .int 0, .ref q3, .int 0, .ref q5, .ref q7, .int 0, .ref q9, .int 0, .ref q11, .int (-9), .int 0, .int 0, .ref q13, .ref q15, .ref q17, .ref q19, .ref q21, .int 0, .ref q23, .null, .null, .int 0, .null, .null, .null, .int 0, .null])), (q1, .inl (cI, 5, .inl f2)), (q3, .inl (cI, 12, .inl f4)), (q5, .inl (cI, 12, .inl f6)), (q7, .inl (cI, 12, .inl f8)), (q9, .inl (cI, 12, .inl f10)), (q11, .inl (cI, 12, .inl f12)), (q13, .inl (cI, 12, .inl f14)), (q15, .inl (cI, 12, .inl f16)), (q17, .inl (cI, 49152, .inl f18)), (q19, .inl (cI, 4096, .inl f20)), (q21, .inl (cI, 100, .inl f22)), (q23, .inl (cI, 12, .inl f24))]) := hD
  refine lv_aload_n hx hb dX12_init_106 rfl (lv_at hl 0 rfl) ?_
  refine lv_bipush (v := 100) hx hb dX12_init_107 (by decide) ?_
  refine va_newa (atype := .int) (ty := .int) (N' := 100) (a0 := (100, .inl (fun _ => 0))) hx hb (hts (.arrayClass .int) hm_X12_init_4) rfl hK hP hD hS hA (fun _ => rfl) (by decide +kernel) (by decide +kernel) (by decide +kernel) (Nat.le_of_ble_eq_true rfl) (Nat.le_of_ble_eq_true rfl) dX12_init_109 (fun q25 cA H hK1 hP hD hS => ?_)
  refine W.widen (k := 13) (n := 53549) (by decide) (by decide) ?_
  have e9 : cI = cA := K3_int hK1
  subst e9
  obtain ⟨f26, f26_e⟩ : ∃ g : Nat → Int32, g = fun _ => 0 := ⟨_, rfl⟩
  rw [← f26_e] at hP hD
  have f26_b : Bd 100 (-9) 99 f26 := by rw [f26_e]; exact bd_c ik_0 (by decide)
  have hP : va_P (dC, dI) vwCl ([(o1, .inr (12, [.int 0, .ref q1, .int 0, .ref q3, .int 0, .ref q5, .ref q7, .int 0, .ref q9, .int 0, .ref q11, .int (-9), .int 0, .int 0, .ref q13, .ref q15, .ref q17, .ref q19, .ref q21, .int 0, .ref q23, .null, .null, .int 0, .null, .null, .null, .int 0, .null])), (q1, .inl (cI, 5, .inl f2)), (q3, .inl (cI, 12, .inl f4)), (q5, .inl (cI, 12, .inl f6)), (q7, .inl (cI, 12, .inl f8)), (q9, .inl (cI, 12, .inl f10)), (q11, .inl (cI, 12, .inl f12)), (q13, .inl (cI, 12, .inl f14)), (q15, .inl (cI, 12, .inl f16)), (q17, .inl (cI, 49152, .inl f18)), (q19, .inl (cI, 4096, .inl f20)), (q21, .inl (cI, 100, .inl f22)), (q23, .inl (cI, 12, .inl f24)), (q25, .inl (cI, 100, .inl f26))]) H := hP
  have hD : va_D A ([(o1, .inr (12, [.int 0, .ref q1, .int 0, .ref q3, .int 0, .ref q5, .ref q7, .int 0, .ref q9, .int 0, .ref q11, .int (-9), .int 0, .int 0, .ref q13, .ref q15, .ref q17, .ref q19, .ref q21, .int 0, .ref q23, .null, .null, .int 0, .null, .null, .null, .int 0, .null])), (q1, .inl (cI, 5, .inl f2)), (q3, .inl (cI, 12, .inl f4)), (q5, .inl (cI, 12, .inl f6)), (q7, .inl (cI, 12, .inl f8)), (q9, .inl (cI, 12, .inl f10)), (q11, .inl (cI, 12, .inl f12)), (q13, .inl (cI, 12, .inl f14)), (q15, .inl (cI, 12, .inl f16)), (q17, .inl (cI, 49152, .inl f18)), (q19, .inl (cI, 4096, .inl f20)), (q21, .inl (cI, 100, .inl f22)), (q23, .inl (cI, 12, .inl f24)), (q25, .inl (cI, 100, .inl f26))]) := hD
  refine va_putF (D := (dC, dI)) (ci := 12) (v := .ref q25) (ty := .array .int) (C := RX12) (T := TX12) (N := 29) hx hb hts iw_X12_init_X12 tyX12 tyX12_ok nmX12 hown hK hP hD hS 0 rfl rfl 21 (by decide) (hts (.fieldLink RX12 51 "HolelessHouseModel" "parents" "[I") hm_X12_init_19) (fun _ h9 => h9) rfl hin rfl (by decide +kernel) rfl rfl (Nat.le_of_ble_eq_true rfl) dX12_init_111 (fun H locs hP hD hS => ?_)
  have hP : va_P (dC, dI) vwCl ([(o1, .inr (12, [.int 0, .ref q1, .int 0, .ref q3, .int 0, .ref q5, .ref q7, .int 0, .ref q9, .int 0, .ref q11, .int (-9), .int 0, .int 0, .ref q13, .ref q15, .ref q17, .ref q19, .ref q21, .int 0, .ref q23, .ref q25, .null, .int 0, .null, .null, .null, .int 0, .null])), (q1, .inl (cI, 5, .inl f2)), (q3, .inl (cI, 12, .inl f4)), (q5, .inl (cI, 12, .inl f6)), (q7, .inl (cI, 12, .inl f8)), (q9, .inl (cI, 12, .inl f10)), (q11, .inl (cI, 12, .inl f12)), (q13, .inl (cI, 12, .inl f14)), (q15, .inl (cI, 12, .inl f16)), (q17, .inl (cI, 49152, .inl f18)), (q19, .inl (cI, 4096, .inl f20)), (q21, .inl (cI, 100, .inl f22)), (q23, .inl (cI, 12, .inl f24)), (q25, .inl (cI, 100, .inl f26))]) H := hP
  have hD : va_D A ([(o1, .inr (12, [.int 0, .ref q1, .int 0, .ref q3, .int 0, .ref q5, .ref q7, .int 0, .ref q9, .int 0, .ref q11, .int (-9), .int 0, .int 0, .ref q13, .ref q15, .ref q17, .ref q19, .ref q21, .int 0, .ref q23, .ref q25, .null, .int 0, .null, .null, .null, .int 0, .null])), (q1, .inl (cI, 5, .inl f2)), (q3, .inl (cI, 12, .inl f4)), (q5, .inl (cI, 12, .inl f6)), (q7, .inl (cI, 12, .inl f8)), (q9, .inl (cI, 12, .inl f10)), (q11, .inl (cI, 12, .inl f12)), (q13, .inl (cI, 12, .inl f14)), (q15, .inl (cI, 12, .inl f16)), (q17, .inl (cI, 49152, .inl f18)), (q19, .inl (cI, 4096, .inl f20)), (q21, .inl (cI, 100, .inl f22)), (q23, .inl (cI, 12, .inl f24)), (q25, .inl (cI, 100, .inl f26))]) := hD
  refine lv_aload_n hx hb dX12_init_114 rfl (lv_at hl 0 rfl) ?_
  refine lv_bipush (v := 12) hx hb dX12_init_115 (by decide) ?_
  refine va_newa (atype := .int) (ty := .int) (N' := 12) (a0 := (12, .inl (fun _ => 0))) hx hb (hts (.arrayClass .int) hm_X12_init_4) rfl hK hP hD hS hA (fun _ => rfl) (by decide +kernel) (by decide +kernel) (by decide +kernel) (Nat.le_of_ble_eq_true rfl) (Nat.le_of_ble_eq_true rfl) dX12_init_117 (fun q27 cA H hK1 hP hD hS => ?_)
  refine W.widen (k := 14) (n := 53561) (by decide) (by decide) ?_
  have e9 : cI = cA := K3_int hK1
  subst e9
  obtain ⟨f28, f28_e⟩ : ∃ g : Nat → Int32, g = fun _ => 0 := ⟨_, rfl⟩
  rw [← f28_e] at hP hD
  have hP : va_P (dC, dI) vwCl ([(o1, .inr (12, [.int 0, .ref q1, .int 0, .ref q3, .int 0, .ref q5, .ref q7, .int 0, .ref q9, .int 0, .ref q11, .int (-9), .int 0, .int 0, .ref q13, .ref q15, .ref q17, .ref q19, .ref q21, .int 0, .ref q23, .ref q25, .null, .int 0, .null, .null, .null, .int 0, .null])), (q1, .inl (cI, 5, .inl f2)), (q3, .inl (cI, 12, .inl f4)), (q5, .inl (cI, 12, .inl f6)), (q7, .inl (cI, 12, .inl f8)), (q9, .inl (cI, 12, .inl f10)), (q11, .inl (cI, 12, .inl f12)), (q13, .inl (cI, 12, .inl f14)), (q15, .inl (cI, 12, .inl f16)), (q17, .inl (cI, 49152, .inl f18)), (q19, .inl (cI, 4096, .inl f20)), (q21, .inl (cI, 100, .inl f22)), (q23, .inl (cI, 12, .inl f24)), (q25, .inl (cI, 100, .inl f26)), (q27, .inl (cI, 12, .inl f28))]) H := hP
  have hD : va_D A ([(o1, .inr (12, [.int 0, .ref q1, .int 0, .ref q3, .int 0, .ref q5, .ref q7, .int 0, .ref q9, .int 0, .ref q11, .int (-9), .int 0, .int 0, .ref q13, .ref q15, .ref q17, .ref q19, .ref q21, .int 0, .ref q23, .ref q25, .null, .int 0, .null, .null, .null, .int 0, .null])), (q1, .inl (cI, 5, .inl f2)), (q3, .inl (cI, 12, .inl f4)), (q5, .inl (cI, 12, .inl f6)), (q7, .inl (cI, 12, .inl f8)), (q9, .inl (cI, 12, .inl f10)), (q11, .inl (cI, 12, .inl f12)), (q13, .inl (cI, 12, .inl f14)), (q15, .inl (cI, 12, .inl f16)), (q17, .inl (cI, 49152, .inl f18)), (q19, .inl (cI, 4096, .inl f20)), (q21, .inl (cI, 100, .inl f22)), (q23, .inl (cI, 12, .inl f24)), (q25, .inl (cI, 100, .inl f26)), (q27, .inl (cI, 12, .inl f28))]) := hD
  refine va_putF (D := (dC, dI)) (ci := 12) (v := .ref q27) (ty := .array .int) (C := RX12) (T := TX12) (N := 29) hx hb hts iw_X12_init_X12 tyX12 tyX12_ok nmX12 hown hK hP hD hS 0 rfl rfl 22 (by decide) (hts (.fieldLink RX12 54 "HolelessHouseModel" "things" "[I") hm_X12_init_20) (fun _ h9 => h9) rfl hin rfl (by decide +kernel) rfl rfl (Nat.le_of_ble_eq_true rfl) dX12_init_119 (fun H locs hP hD hS => ?_)
  have hP : va_P (dC, dI) vwCl ([(o1, .inr (12, [.int 0, .ref q1, .int 0, .ref q3, .int 0, .ref q5, .ref q7, .int 0, .ref q9, .int 0, .ref q11, .int (-9), .int 0, .int 0, .ref q13, .ref q15, .ref q17, .ref q19, .ref q21, .int 0, .ref q23, .ref q25, .ref q27, .int 0, .null, .null, .null, .int 0, .null])), (q1, .inl (cI, 5, .inl f2)), (q3, .inl (cI, 12, .inl f4)), (q5, .inl (cI, 12, .inl f6)), (q7, .inl (cI, 12, .inl f8)), (q9, .inl (cI, 12, .inl f10)), (q11, .inl (cI, 12, .inl f12)), (q13, .inl (cI, 12, .inl f14)), (q15, .inl (cI, 12, .inl f16)), (q17, .inl (cI, 49152, .inl f18)), (q19, .inl (cI, 4096, .inl f20)), (q21, .inl (cI, 100, .inl f22)), (q23, .inl (cI, 12, .inl f24)), (q25, .inl (cI, 100, .inl f26)), (q27, .inl (cI, 12, .inl f28))]) H := hP
  have hD : va_D A ([(o1, .inr (12, [.int 0, .ref q1, .int 0, .ref q3, .int 0, .ref q5, .ref q7, .int 0, .ref q9, .int 0, .ref q11, .int (-9), .int 0, .int 0, .ref q13, .ref q15, .ref q17, .ref q19, .ref q21, .int 0, .ref q23, .ref q25, .ref q27, .int 0, .null, .null, .null, .int 0, .null])), (q1, .inl (cI, 5, .inl f2)), (q3, .inl (cI, 12, .inl f4)), (q5, .inl (cI, 12, .inl f6)), (q7, .inl (cI, 12, .inl f8)), (q9, .inl (cI, 12, .inl f10)), (q11, .inl (cI, 12, .inl f12)), (q13, .inl (cI, 12, .inl f14)), (q15, .inl (cI, 12, .inl f16)), (q17, .inl (cI, 49152, .inl f18)), (q19, .inl (cI, 4096, .inl f20)), (q21, .inl (cI, 100, .inl f22)), (q23, .inl (cI, 12, .inl f24)), (q25, .inl (cI, 100, .inl f26)), (q27, .inl (cI, 12, .inl f28))]) := hD
  refine lv_aload_n hx hb dX12_init_122 rfl (lv_at hl 0 rfl) ?_
  refine lv_ldc (v := 49152) hx hb hown (hts (.constant RX12 38 (49152)) hm_X12_init_14) dX12_init_123 ?_
  refine va_newa (atype := .boolean) (ty := .boolean) (N' := 49152) (a0 := (49152, .inl (fun _ => 0))) hx hb (hts (.arrayClass .boolean) hm_X12_init_21) rfl hK hP hD hS hA (fun _ => rfl) (by decide +kernel) (by decide +kernel) (by decide +kernel) (Nat.le_of_ble_eq_true rfl) (Nat.le_of_ble_eq_true rfl) dX12_init_125 (fun q29 cA H hK1 hP hD hS => ?_)
  refine W.widen (k := 15) (n := 102713) (by decide) (by decide) ?_
  have e9 : cZ = cA := K3_z hK1
  subst e9
  obtain ⟨f30, f30_e⟩ : ∃ g : Nat → Int32, g = fun _ => 0 := ⟨_, rfl⟩
  rw [← f30_e] at hP hD
  have hP : va_P (dC, dI) vwCl ([(o1, .inr (12, [.int 0, .ref q1, .int 0, .ref q3, .int 0, .ref q5, .ref q7, .int 0, .ref q9, .int 0, .ref q11, .int (-9), .int 0, .int 0, .ref q13, .ref q15, .ref q17, .ref q19, .ref q21, .int 0, .ref q23, .ref q25, .ref q27, .int 0, .null, .null, .null, .int 0, .null])), (q1, .inl (cI, 5, .inl f2)), (q3, .inl (cI, 12, .inl f4)), (q5, .inl (cI, 12, .inl f6)), (q7, .inl (cI, 12, .inl f8)), (q9, .inl (cI, 12, .inl f10)), (q11, .inl (cI, 12, .inl f12)), (q13, .inl (cI, 12, .inl f14)), (q15, .inl (cI, 12, .inl f16)), (q17, .inl (cI, 49152, .inl f18)), (q19, .inl (cI, 4096, .inl f20)), (q21, .inl (cI, 100, .inl f22)), (q23, .inl (cI, 12, .inl f24)), (q25, .inl (cI, 100, .inl f26)), (q27, .inl (cI, 12, .inl f28)), (q29, .inl (cZ, 49152, .inl f30))]) H := hP
  have hD : va_D A ([(o1, .inr (12, [.int 0, .ref q1, .int 0, .ref q3, .int 0, .ref q5, .ref q7, .int 0, .ref q9, .int 0, .ref q11, .int (-9), .int 0, .int 0, .ref q13, .ref q15, .ref q17, .ref q19, .ref q21, .int 0, .ref q23, .ref q25, .ref q27, .int 0, .null, .null, .null, .int 0, .null])), (q1, .inl (cI, 5, .inl f2)), (q3, .inl (cI, 12, .inl f4)), (q5, .inl (cI, 12, .inl f6)), (q7, .inl (cI, 12, .inl f8)), (q9, .inl (cI, 12, .inl f10)), (q11, .inl (cI, 12, .inl f12)), (q13, .inl (cI, 12, .inl f14)), (q15, .inl (cI, 12, .inl f16)), (q17, .inl (cI, 49152, .inl f18)), (q19, .inl (cI, 4096, .inl f20)), (q21, .inl (cI, 100, .inl f22)), (q23, .inl (cI, 12, .inl f24)), (q25, .inl (cI, 100, .inl f26)), (q27, .inl (cI, 12, .inl f28)), (q29, .inl (cZ, 49152, .inl f30))]) := hD
  refine va_putF (D := (dC, dI)) (ci := 12) (v := .ref q29) (ty := .array .boolean) (C := RX12) (T := TX12) (N := 29) hx hb hts iw_X12_init_X12 tyX12 tyX12_ok nmX12 hown hK hP hD hS 0 rfl rfl 24 (by decide) (hts (.fieldLink RX12 57 "HolelessHouseModel" "can" "[Z") hm_X12_init_22) (fun _ h9 => h9) rfl hin rfl (by decide +kernel) rfl rfl (Nat.le_of_ble_eq_true rfl) dX12_init_127 (fun H locs hP hD hS => ?_)
  have hP : va_P (dC, dI) vwCl ([(o1, .inr (12, [.int 0, .ref q1, .int 0, .ref q3, .int 0, .ref q5, .ref q7, .int 0, .ref q9, .int 0, .ref q11, .int (-9), .int 0, .int 0, .ref q13, .ref q15, .ref q17, .ref q19, .ref q21, .int 0, .ref q23, .ref q25, .ref q27, .int 0, .ref q29, .null, .null, .int 0, .null])), (q1, .inl (cI, 5, .inl f2)), (q3, .inl (cI, 12, .inl f4)), (q5, .inl (cI, 12, .inl f6)), (q7, .inl (cI, 12, .inl f8)), (q9, .inl (cI, 12, .inl f10)), (q11, .inl (cI, 12, .inl f12)), (q13, .inl (cI, 12, .inl f14)), (q15, .inl (cI, 12, .inl f16)), (q17, .inl (cI, 49152, .inl f18)), (q19, .inl (cI, 4096, .inl f20)), (q21, .inl (cI, 100, .inl f22)), (q23, .inl (cI, 12, .inl f24)), (q25, .inl (cI, 100, .inl f26)), (q27, .inl (cI, 12, .inl f28)), (q29, .inl (cZ, 49152, .inl f30))]) H := hP
  have hD : va_D A ([(o1, .inr (12, [.int 0, .ref q1, .int 0, .ref q3, .int 0, .ref q5, .ref q7, .int 0, .ref q9, .int 0, .ref q11, .int (-9), .int 0, .int 0, .ref q13, .ref q15, .ref q17, .ref q19, .ref q21, .int 0, .ref q23, .ref q25, .ref q27, .int 0, .ref q29, .null, .null, .int 0, .null])), (q1, .inl (cI, 5, .inl f2)), (q3, .inl (cI, 12, .inl f4)), (q5, .inl (cI, 12, .inl f6)), (q7, .inl (cI, 12, .inl f8)), (q9, .inl (cI, 12, .inl f10)), (q11, .inl (cI, 12, .inl f12)), (q13, .inl (cI, 12, .inl f14)), (q15, .inl (cI, 12, .inl f16)), (q17, .inl (cI, 49152, .inl f18)), (q19, .inl (cI, 4096, .inl f20)), (q21, .inl (cI, 100, .inl f22)), (q23, .inl (cI, 12, .inl f24)), (q25, .inl (cI, 100, .inl f26)), (q27, .inl (cI, 12, .inl f28)), (q29, .inl (cZ, 49152, .inl f30))]) := hD
  refine lv_aload_n hx hb dX12_init_130 rfl (lv_at hl 0 rfl) ?_
  refine lv_ldc (v := 49152) hx hb hown (hts (.constant RX12 38 (49152)) hm_X12_init_14) dX12_init_131 ?_
  refine va_newa (atype := .int) (ty := .int) (N' := 49152) (a0 := (49152, .inl (fun _ => 0))) hx hb (hts (.arrayClass .int) hm_X12_init_4) rfl hK hP hD hS hA (fun _ => rfl) (by decide +kernel) (by decide +kernel) (by decide +kernel) (Nat.le_of_ble_eq_true rfl) (Nat.le_of_ble_eq_true rfl) dX12_init_133 (fun q31 cA H hK1 hP hD hS => ?_)
  refine W.widen (k := 16) (n := 151865) (by decide) (by decide) ?_
  have e9 : cI = cA := K3_int hK1
  subst e9
  obtain ⟨f32, f32_e⟩ : ∃ g : Nat → Int32, g = fun _ => 0 := ⟨_, rfl⟩
  rw [← f32_e] at hP hD
  have hP : va_P (dC, dI) vwCl ([(o1, .inr (12, [.int 0, .ref q1, .int 0, .ref q3, .int 0, .ref q5, .ref q7, .int 0, .ref q9, .int 0, .ref q11, .int (-9), .int 0, .int 0, .ref q13, .ref q15, .ref q17, .ref q19, .ref q21, .int 0, .ref q23, .ref q25, .ref q27, .int 0, .ref q29, .null, .null, .int 0, .null])), (q1, .inl (cI, 5, .inl f2)), (q3, .inl (cI, 12, .inl f4)), (q5, .inl (cI, 12, .inl f6)), (q7, .inl (cI, 12, .inl f8)), (q9, .inl (cI, 12, .inl f10)), (q11, .inl (cI, 12, .inl f12)), (q13, .inl (cI, 12, .inl f14)), (q15, .inl (cI, 12, .inl f16)), (q17, .inl (cI, 49152, .inl f18)), (q19, .inl (cI, 4096, .inl f20)), (q21, .inl (cI, 100, .inl f22)), (q23, .inl (cI, 12, .inl f24)), (q25, .inl (cI, 100, .inl f26)), (q27, .inl (cI, 12, .inl f28)), (q29, .inl (cZ, 49152, .inl f30)), (q31, .inl (cI, 49152, .inl f32))]) H := hP
  have hD : va_D A ([(o1, .inr (12, [.int 0, .ref q1, .int 0, .ref q3, .int 0, .ref q5, .ref q7, .int 0, .ref q9, .int 0, .ref q11, .int (-9), .int 0, .int 0, .ref q13, .ref q15, .ref q17, .ref q19, .ref q21, .int 0, .ref q23, .ref q25, .ref q27, .int 0, .ref q29, .null, .null, .int 0, .null])), (q1, .inl (cI, 5, .inl f2)), (q3, .inl (cI, 12, .inl f4)), (q5, .inl (cI, 12, .inl f6)), (q7, .inl (cI, 12, .inl f8)), (q9, .inl (cI, 12, .inl f10)), (q11, .inl (cI, 12, .inl f12)), (q13, .inl (cI, 12, .inl f14)), (q15, .inl (cI, 12, .inl f16)), (q17, .inl (cI, 49152, .inl f18)), (q19, .inl (cI, 4096, .inl f20)), (q21, .inl (cI, 100, .inl f22)), (q23, .inl (cI, 12, .inl f24)), (q25, .inl (cI, 100, .inl f26)), (q27, .inl (cI, 12, .inl f28)), (q29, .inl (cZ, 49152, .inl f30)), (q31, .inl (cI, 49152, .inl f32))]) := hD
  refine va_putF (D := (dC, dI)) (ci := 12) (v := .ref q31) (ty := .array .int) (C := RX12) (T := TX12) (N := 29) hx hb hts iw_X12_init_X12 tyX12 tyX12_ok nmX12 hown hK hP hD hS 0 rfl rfl 25 (by decide) (hts (.fieldLink RX12 61 "HolelessHouseModel" "counts" "[I") hm_X12_init_23) (fun _ h9 => h9) rfl hin rfl (by decide +kernel) rfl rfl (Nat.le_of_ble_eq_true rfl) dX12_init_135 (fun H locs hP hD hS => ?_)
  have hP : va_P (dC, dI) vwCl ([(o1, .inr (12, [.int 0, .ref q1, .int 0, .ref q3, .int 0, .ref q5, .ref q7, .int 0, .ref q9, .int 0, .ref q11, .int (-9), .int 0, .int 0, .ref q13, .ref q15, .ref q17, .ref q19, .ref q21, .int 0, .ref q23, .ref q25, .ref q27, .int 0, .ref q29, .ref q31, .null, .int 0, .null])), (q1, .inl (cI, 5, .inl f2)), (q3, .inl (cI, 12, .inl f4)), (q5, .inl (cI, 12, .inl f6)), (q7, .inl (cI, 12, .inl f8)), (q9, .inl (cI, 12, .inl f10)), (q11, .inl (cI, 12, .inl f12)), (q13, .inl (cI, 12, .inl f14)), (q15, .inl (cI, 12, .inl f16)), (q17, .inl (cI, 49152, .inl f18)), (q19, .inl (cI, 4096, .inl f20)), (q21, .inl (cI, 100, .inl f22)), (q23, .inl (cI, 12, .inl f24)), (q25, .inl (cI, 100, .inl f26)), (q27, .inl (cI, 12, .inl f28)), (q29, .inl (cZ, 49152, .inl f30)), (q31, .inl (cI, 49152, .inl f32))]) H := hP
  have hD : va_D A ([(o1, .inr (12, [.int 0, .ref q1, .int 0, .ref q3, .int 0, .ref q5, .ref q7, .int 0, .ref q9, .int 0, .ref q11, .int (-9), .int 0, .int 0, .ref q13, .ref q15, .ref q17, .ref q19, .ref q21, .int 0, .ref q23, .ref q25, .ref q27, .int 0, .ref q29, .ref q31, .null, .int 0, .null])), (q1, .inl (cI, 5, .inl f2)), (q3, .inl (cI, 12, .inl f4)), (q5, .inl (cI, 12, .inl f6)), (q7, .inl (cI, 12, .inl f8)), (q9, .inl (cI, 12, .inl f10)), (q11, .inl (cI, 12, .inl f12)), (q13, .inl (cI, 12, .inl f14)), (q15, .inl (cI, 12, .inl f16)), (q17, .inl (cI, 49152, .inl f18)), (q19, .inl (cI, 4096, .inl f20)), (q21, .inl (cI, 100, .inl f22)), (q23, .inl (cI, 12, .inl f24)), (q25, .inl (cI, 100, .inl f26)), (q27, .inl (cI, 12, .inl f28)), (q29, .inl (cZ, 49152, .inl f30)), (q31, .inl (cI, 49152, .inl f32))]) := hD
  refine lv_aload_n hx hb dX12_init_138 rfl (lv_at hl 0 rfl) ?_
  refine lv_bipush (v := 12) hx hb dX12_init_139 (by decide) ?_
  refine va_newa (atype := .int) (ty := .int) (N' := 12) (a0 := (12, .inl (fun _ => 0))) hx hb (hts (.arrayClass .int) hm_X12_init_4) rfl hK hP hD hS hA (fun _ => rfl) (by decide +kernel) (by decide +kernel) (by decide +kernel) (Nat.le_of_ble_eq_true rfl) (Nat.le_of_ble_eq_true rfl) dX12_init_141 (fun q33 cA H hK1 hP hD hS => ?_)
  refine W.widen (k := 17) (n := 151877) (by decide) (by decide) ?_
  have e9 : cI = cA := K3_int hK1
  subst e9
  obtain ⟨f34, f34_e⟩ : ∃ g : Nat → Int32, g = fun _ => 0 := ⟨_, rfl⟩
  rw [← f34_e] at hP hD
  have f34_b : Bd 12 0 11 f34 := by rw [f34_e]; exact bd_c ik_0 (by decide)
  have hP : va_P (dC, dI) vwCl ([(o1, .inr (12, [.int 0, .ref q1, .int 0, .ref q3, .int 0, .ref q5, .ref q7, .int 0, .ref q9, .int 0, .ref q11, .int (-9), .int 0, .int 0, .ref q13, .ref q15, .ref q17, .ref q19, .ref q21, .int 0, .ref q23, .ref q25, .ref q27, .int 0, .ref q29, .ref q31, .null, .int 0, .null])), (q1, .inl (cI, 5, .inl f2)), (q3, .inl (cI, 12, .inl f4)), (q5, .inl (cI, 12, .inl f6)), (q7, .inl (cI, 12, .inl f8)), (q9, .inl (cI, 12, .inl f10)), (q11, .inl (cI, 12, .inl f12)), (q13, .inl (cI, 12, .inl f14)), (q15, .inl (cI, 12, .inl f16)), (q17, .inl (cI, 49152, .inl f18)), (q19, .inl (cI, 4096, .inl f20)), (q21, .inl (cI, 100, .inl f22)), (q23, .inl (cI, 12, .inl f24)), (q25, .inl (cI, 100, .inl f26)), (q27, .inl (cI, 12, .inl f28)), (q29, .inl (cZ, 49152, .inl f30)), (q31, .inl (cI, 49152, .inl f32)), (q33, .inl (cI, 12, .inl f34))]) H := hP
  have hD : va_D A ([(o1, .inr (12, [.int 0, .ref q1, .int 0, .ref q3, .int 0, .ref q5, .ref q7, .int 0, .ref q9, .int 0, .ref q11, .int (-9), .int 0, .int 0, .ref q13, .ref q15, .ref q17, .ref q19, .ref q21, .int 0, .ref q23, .ref q25, .ref q27, .int 0, .ref q29, .ref q31, .null, .int 0, .null])), (q1, .inl (cI, 5, .inl f2)), (q3, .inl (cI, 12, .inl f4)), (q5, .inl (cI, 12, .inl f6)), (q7, .inl (cI, 12, .inl f8)), (q9, .inl (cI, 12, .inl f10)), (q11, .inl (cI, 12, .inl f12)), (q13, .inl (cI, 12, .inl f14)), (q15, .inl (cI, 12, .inl f16)), (q17, .inl (cI, 49152, .inl f18)), (q19, .inl (cI, 4096, .inl f20)), (q21, .inl (cI, 100, .inl f22)), (q23, .inl (cI, 12, .inl f24)), (q25, .inl (cI, 100, .inl f26)), (q27, .inl (cI, 12, .inl f28)), (q29, .inl (cZ, 49152, .inl f30)), (q31, .inl (cI, 49152, .inl f32)), (q33, .inl (cI, 12, .inl f34))]) := hD
  refine va_putF (D := (dC, dI)) (ci := 12) (v := .ref q33) (ty := .array .int) (C := RX12) (T := TX12) (N := 29) hx hb hts iw_X12_init_X12 tyX12 tyX12_ok nmX12 hown hK hP hD hS 0 rfl rfl 26 (by decide) (hts (.fieldLink RX12 64 "HolelessHouseModel" "line" "[I") hm_X12_init_24) (fun _ h9 => h9) rfl hin rfl (by decide +kernel) rfl rfl (Nat.le_of_ble_eq_true rfl) dX12_init_143 (fun H locs hP hD hS => ?_)
  have hP : va_P (dC, dI) vwCl ([(o1, .inr (12, [.int 0, .ref q1, .int 0, .ref q3, .int 0, .ref q5, .ref q7, .int 0, .ref q9, .int 0, .ref q11, .int (-9), .int 0, .int 0, .ref q13, .ref q15, .ref q17, .ref q19, .ref q21, .int 0, .ref q23, .ref q25, .ref q27, .int 0, .ref q29, .ref q31, .ref q33, .int 0, .null])), (q1, .inl (cI, 5, .inl f2)), (q3, .inl (cI, 12, .inl f4)), (q5, .inl (cI, 12, .inl f6)), (q7, .inl (cI, 12, .inl f8)), (q9, .inl (cI, 12, .inl f10)), (q11, .inl (cI, 12, .inl f12)), (q13, .inl (cI, 12, .inl f14)), (q15, .inl (cI, 12, .inl f16)), (q17, .inl (cI, 49152, .inl f18)), (q19, .inl (cI, 4096, .inl f20)), (q21, .inl (cI, 100, .inl f22)), (q23, .inl (cI, 12, .inl f24)), (q25, .inl (cI, 100, .inl f26)), (q27, .inl (cI, 12, .inl f28)), (q29, .inl (cZ, 49152, .inl f30)), (q31, .inl (cI, 49152, .inl f32)), (q33, .inl (cI, 12, .inl f34))]) H := hP
  have hD : va_D A ([(o1, .inr (12, [.int 0, .ref q1, .int 0, .ref q3, .int 0, .ref q5, .ref q7, .int 0, .ref q9, .int 0, .ref q11, .int (-9), .int 0, .int 0, .ref q13, .ref q15, .ref q17, .ref q19, .ref q21, .int 0, .ref q23, .ref q25, .ref q27, .int 0, .ref q29, .ref q31, .ref q33, .int 0, .null])), (q1, .inl (cI, 5, .inl f2)), (q3, .inl (cI, 12, .inl f4)), (q5, .inl (cI, 12, .inl f6)), (q7, .inl (cI, 12, .inl f8)), (q9, .inl (cI, 12, .inl f10)), (q11, .inl (cI, 12, .inl f12)), (q13, .inl (cI, 12, .inl f14)), (q15, .inl (cI, 12, .inl f16)), (q17, .inl (cI, 49152, .inl f18)), (q19, .inl (cI, 4096, .inl f20)), (q21, .inl (cI, 100, .inl f22)), (q23, .inl (cI, 12, .inl f24)), (q25, .inl (cI, 100, .inl f26)), (q27, .inl (cI, 12, .inl f28)), (q29, .inl (cZ, 49152, .inl f30)), (q31, .inl (cI, 49152, .inl f32)), (q33, .inl (cI, 12, .inl f34))]) := hD
  refine lv_aload_n hx hb dX12_init_146 rfl (lv_at hl 0 rfl) ?_
  refine lv_bipush (v := 12) hx hb dX12_init_147 (by decide) ?_
  refine va_newa (atype := .int) (ty := .int) (N' := 12) (a0 := (12, .inl (fun _ => 0))) hx hb (hts (.arrayClass .int) hm_X12_init_4) rfl hK hP hD hS hA (fun _ => rfl) (by decide +kernel) (by decide +kernel) (by decide +kernel) (Nat.le_of_ble_eq_true rfl) (Nat.le_of_ble_eq_true rfl) dX12_init_149 (fun q35 cA H hK1 hP hD hS => ?_)
  refine W.widen (k := 18) (n := 151889) (by decide) (by decide) ?_
  have e9 : cI = cA := K3_int hK1
  subst e9
  obtain ⟨f36, f36_e⟩ : ∃ g : Nat → Int32, g = fun _ => 0 := ⟨_, rfl⟩
  rw [← f36_e] at hP hD
  have f36_b : Bd 12 (-9) 255 f36 := by rw [f36_e]; exact bd_c ik_0 (by decide)
  have hP : va_P (dC, dI) vwCl ([(o1, .inr (12, [.int 0, .ref q1, .int 0, .ref q3, .int 0, .ref q5, .ref q7, .int 0, .ref q9, .int 0, .ref q11, .int (-9), .int 0, .int 0, .ref q13, .ref q15, .ref q17, .ref q19, .ref q21, .int 0, .ref q23, .ref q25, .ref q27, .int 0, .ref q29, .ref q31, .ref q33, .int 0, .null])), (q1, .inl (cI, 5, .inl f2)), (q3, .inl (cI, 12, .inl f4)), (q5, .inl (cI, 12, .inl f6)), (q7, .inl (cI, 12, .inl f8)), (q9, .inl (cI, 12, .inl f10)), (q11, .inl (cI, 12, .inl f12)), (q13, .inl (cI, 12, .inl f14)), (q15, .inl (cI, 12, .inl f16)), (q17, .inl (cI, 49152, .inl f18)), (q19, .inl (cI, 4096, .inl f20)), (q21, .inl (cI, 100, .inl f22)), (q23, .inl (cI, 12, .inl f24)), (q25, .inl (cI, 100, .inl f26)), (q27, .inl (cI, 12, .inl f28)), (q29, .inl (cZ, 49152, .inl f30)), (q31, .inl (cI, 49152, .inl f32)), (q33, .inl (cI, 12, .inl f34)), (q35, .inl (cI, 12, .inl f36))]) H := hP
  have hD : va_D A ([(o1, .inr (12, [.int 0, .ref q1, .int 0, .ref q3, .int 0, .ref q5, .ref q7, .int 0, .ref q9, .int 0, .ref q11, .int (-9), .int 0, .int 0, .ref q13, .ref q15, .ref q17, .ref q19, .ref q21, .int 0, .ref q23, .ref q25, .ref q27, .int 0, .ref q29, .ref q31, .ref q33, .int 0, .null])), (q1, .inl (cI, 5, .inl f2)), (q3, .inl (cI, 12, .inl f4)), (q5, .inl (cI, 12, .inl f6)), (q7, .inl (cI, 12, .inl f8)), (q9, .inl (cI, 12, .inl f10)), (q11, .inl (cI, 12, .inl f12)), (q13, .inl (cI, 12, .inl f14)), (q15, .inl (cI, 12, .inl f16)), (q17, .inl (cI, 49152, .inl f18)), (q19, .inl (cI, 4096, .inl f20)), (q21, .inl (cI, 100, .inl f22)), (q23, .inl (cI, 12, .inl f24)), (q25, .inl (cI, 100, .inl f26)), (q27, .inl (cI, 12, .inl f28)), (q29, .inl (cZ, 49152, .inl f30)), (q31, .inl (cI, 49152, .inl f32)), (q33, .inl (cI, 12, .inl f34)), (q35, .inl (cI, 12, .inl f36))]) := hD
  refine va_putF (D := (dC, dI)) (ci := 12) (v := .ref q35) (ty := .array .int) (C := RX12) (T := TX12) (N := 29) hx hb hts iw_X12_init_X12 tyX12 tyX12_ok nmX12 hown hK hP hD hS 0 rfl rfl 28 (by decide) (hts (.fieldLink RX12 67 "HolelessHouseModel" "moving" "[I") hm_X12_init_25) (fun _ h9 => h9) rfl hin rfl (by decide +kernel) rfl rfl (Nat.le_of_ble_eq_true rfl) dX12_init_151 (fun H locs hP hD hS => ?_)
  have hP : va_P (dC, dI) vwCl ([(o1, .inr (12, [.int 0, .ref q1, .int 0, .ref q3, .int 0, .ref q5, .ref q7, .int 0, .ref q9, .int 0, .ref q11, .int (-9), .int 0, .int 0, .ref q13, .ref q15, .ref q17, .ref q19, .ref q21, .int 0, .ref q23, .ref q25, .ref q27, .int 0, .ref q29, .ref q31, .ref q33, .int 0, .ref q35])), (q1, .inl (cI, 5, .inl f2)), (q3, .inl (cI, 12, .inl f4)), (q5, .inl (cI, 12, .inl f6)), (q7, .inl (cI, 12, .inl f8)), (q9, .inl (cI, 12, .inl f10)), (q11, .inl (cI, 12, .inl f12)), (q13, .inl (cI, 12, .inl f14)), (q15, .inl (cI, 12, .inl f16)), (q17, .inl (cI, 49152, .inl f18)), (q19, .inl (cI, 4096, .inl f20)), (q21, .inl (cI, 100, .inl f22)), (q23, .inl (cI, 12, .inl f24)), (q25, .inl (cI, 100, .inl f26)), (q27, .inl (cI, 12, .inl f28)), (q29, .inl (cZ, 49152, .inl f30)), (q31, .inl (cI, 49152, .inl f32)), (q33, .inl (cI, 12, .inl f34)), (q35, .inl (cI, 12, .inl f36))]) H := hP
  have hD : va_D A ([(o1, .inr (12, [.int 0, .ref q1, .int 0, .ref q3, .int 0, .ref q5, .ref q7, .int 0, .ref q9, .int 0, .ref q11, .int (-9), .int 0, .int 0, .ref q13, .ref q15, .ref q17, .ref q19, .ref q21, .int 0, .ref q23, .ref q25, .ref q27, .int 0, .ref q29, .ref q31, .ref q33, .int 0, .ref q35])), (q1, .inl (cI, 5, .inl f2)), (q3, .inl (cI, 12, .inl f4)), (q5, .inl (cI, 12, .inl f6)), (q7, .inl (cI, 12, .inl f8)), (q9, .inl (cI, 12, .inl f10)), (q11, .inl (cI, 12, .inl f12)), (q13, .inl (cI, 12, .inl f14)), (q15, .inl (cI, 12, .inl f16)), (q17, .inl (cI, 49152, .inl f18)), (q19, .inl (cI, 4096, .inl f20)), (q21, .inl (cI, 100, .inl f22)), (q23, .inl (cI, 12, .inl f24)), (q25, .inl (cI, 100, .inl f26)), (q27, .inl (cI, 12, .inl f28)), (q29, .inl (cZ, 49152, .inl f30)), (q31, .inl (cI, 49152, .inl f32)), (q33, .inl (cI, 12, .inl f34)), (q35, .inl (cI, 12, .inl f36))]) := hD
  refine lv_iconst (v := 0) hx hb dX12_init_154 (by decide) ?_
  refine lv_istore_n (lv' := [(1, .int 0), (0, .ref o1)]) hx hb dX12_init_155 rfl hl (by decide) rfl (fun ls hl => ?_)
  have L1 : ∀ (N : Nat) (x69 : Int32) (f70 : Nat → Int32) (H : Heap) (locs : List Loc) (ls : Array Slot), (12 - x69.toInt).toNat < N → Iv 0 12 x69 → Bd 12 (-9) 255 f70 → (∀ i : Nat, i < (Int32.toNatClampNeg x69) → f70 i = (-9)) → va_P (dC, dI) vwCl ([(o1, .inr (12, [.int 0, .ref q1, .int 0, .ref q3, .int 0, .ref q5, .ref q7, .int 0, .ref q9, .int 0, .ref q11, .int (-9), .int 0, .int 0, .ref q13, .ref q15, .ref q17, .ref q19, .ref q21, .int 0, .ref q23, .ref q25, .ref q27, .int 0, .ref q29, .ref q31, .ref q33, .int 0, .ref q35])), (q1, .inl (cI, 5, .inl f2)), (q3, .inl (cI, 12, .inl f4)), (q5, .inl (cI, 12, .inl f70)), (q7, .inl (cI, 12, .inl f8)), (q9, .inl (cI, 12, .inl f10)), (q11, .inl (cI, 12, .inl f12)), (q13, .inl (cI, 12, .inl f14)), (q15, .inl (cI, 12, .inl f16)), (q17, .inl (cI, 49152, .inl f18)), (q19, .inl (cI, 4096, .inl f20)), (q21, .inl (cI, 100, .inl f22)), (q23, .inl (cI, 12, .inl f24)), (q25, .inl (cI, 100, .inl f26)), (q27, .inl (cI, 12, .inl f28)), (q29, .inl (cZ, 49152, .inl f30)), (q31, .inl (cI, 49152, .inl f32)), (q33, .inl (cI, 12, .inl f34)), (q35, .inl (cI, 12, .inl f36))]) H → va_D A ([(o1, .inr (12, [.int 0, .ref q1, .int 0, .ref q3, .int 0, .ref q5, .ref q7, .int 0, .ref q9, .int 0, .ref q11, .int (-9), .int 0, .int 0, .ref q13, .ref q15, .ref q17, .ref q19, .ref q21, .int 0, .ref q23, .ref q25, .ref q27, .int 0, .ref q29, .ref q31, .ref q33, .int 0, .ref q35])), (q1, .inl (cI, 5, .inl f2)), (q3, .inl (cI, 12, .inl f4)), (q5, .inl (cI, 12, .inl f70)), (q7, .inl (cI, 12, .inl f8)), (q9, .inl (cI, 12, .inl f10)), (q11, .inl (cI, 12, .inl f12)), (q13, .inl (cI, 12, .inl f14)), (q15, .inl (cI, 12, .inl f16)), (q17, .inl (cI, 49152, .inl f18)), (q19, .inl (cI, 4096, .inl f20)), (q21, .inl (cI, 100, .inl f22)), (q23, .inl (cI, 12, .inl f24)), (q25, .inl (cI, 100, .inl f26)), (q27, .inl (cI, 12, .inl f28)), (q29, .inl (cZ, 49152, .inl f30)), (q31, .inl (cI, 49152, .inl f32)), (q33, .inl (cI, 12, .inl f34)), (q35, .inl (cI, 12, .inl f36))]) → va_S A s.heap H locs → lv_has ls 2 [(1, .int x69), (0, .ref o1)] → W p l e ({ frames := 1, cells := 18, slots := 151889, locals := 12 }) s m ([.ref o1] : List Value).toArray below meth c H locs 18 151889 Q (F0 m 156 ls []) := by
    intro N
    induction N with
    | zero =>
      intro x69 f70 H locs ls hM
      exact absurd hM (Nat.not_lt_zero _)
    | succ N ih1 =>
      intro x69 f70 H locs ls hM1 x69_h f70_b iv1_0 hP hD hS hl
      refine lv_iload_n hx hb dX12_init_156 rfl (lv_at hl 0 rfl) ?_
      refine lv_bipush (v := 12) hx hb dX12_init_157 (by decide) ?_
      refine lv_icmp_ge (tgt := 176) hx hb dX12_init_159 (by decide) (fun h71 => ?_) (fun h71 => ?_)
      ·
        have qh71 := le_i h71
        have j72 : Iv 12 12 x69 := r_ler qh71 ik_12 x69_h (by decide)
        rw [hQ]
        exact W.vret hx hb hr (fun t ht hW => ⟨⟨((-9), q1, q3, q5, q7, q9, q11, q13, q15, q17, q19, q21, q23, q25, q27, q29, q31, q33, q35, f2, f4, f70, f8, f10, f12, f14, f16, f18, f20, f22, f24, f26, f28, f30, f32, f34, f36), rfl, ⟨ikm_9, f4_b, f70_b, f8_b, f10_b, f12_b, f14_b, f16_b, f18_b, f22_b, f24_b, f26_b, f34_b, f36_b, (fil_e iv1_0 qh71)⟩, by rw [ht]; exact hP, va_K.moved hW.alike hK, hD⟩, hS.F ht⟩) hS.2.2 dX12_init_176
      ·
        have qh71 := nle_i h71
        have j73 : Iv 0 11 x69 := r_ltl qh71 x69_h ik_12 (by decide)
        refine lv_aload_n hx hb dX12_init_162 rfl (lv_at hl 1 rfl) ?_
        refine va_get (D := (dC, dI)) (ci := 12) (v := .ref q5) (C := RX12) (T := TX12) (N := 29) hx hb hts iw_X12_init_X12 hown hK hP 0 rfl rfl 5 (by decide) (hts (.fieldLink RX12 16 "HolelessHouseModel" "rows" "[I") hm_X12_init_7) (fun _ h9 => h9) rfl dX12_init_163 ?_
        refine lv_iload_n hx hb dX12_init_166 rfl (lv_at hl 0 rfl) ?_
        refine lv_bipush (v := (-9)) hx hb dX12_init_167 (by decide) ?_
        refine k_iast hx hb hK hP hD hS 3 0 rfl rfl (vin_iv j73 (by decide)) dX12_init_169 (fun f74 H locs f74_e hP hD hS => ?_)
        have f74_b : Bd 12 (-9) 255 f74 := bd_upd f74_e f70_b ikm_9 (by decide)
        have hP : va_P (dC, dI) vwCl ([(o1, .inr (12, [.int 0, .ref q1, .int 0, .ref q3, .int 0, .ref q5, .ref q7, .int 0, .ref q9, .int 0, .ref q11, .int (-9), .int 0, .int 0, .ref q13, .ref q15, .ref q17, .ref q19, .ref q21, .int 0, .ref q23, .ref q25, .ref q27, .int 0, .ref q29, .ref q31, .ref q33, .int 0, .ref q35])), (q1, .inl (cI, 5, .inl f2)), (q3, .inl (cI, 12, .inl f4)), (q5, .inl (cI, 12, .inl f74)), (q7, .inl (cI, 12, .inl f8)), (q9, .inl (cI, 12, .inl f10)), (q11, .inl (cI, 12, .inl f12)), (q13, .inl (cI, 12, .inl f14)), (q15, .inl (cI, 12, .inl f16)), (q17, .inl (cI, 49152, .inl f18)), (q19, .inl (cI, 4096, .inl f20)), (q21, .inl (cI, 100, .inl f22)), (q23, .inl (cI, 12, .inl f24)), (q25, .inl (cI, 100, .inl f26)), (q27, .inl (cI, 12, .inl f28)), (q29, .inl (cZ, 49152, .inl f30)), (q31, .inl (cI, 49152, .inl f32)), (q33, .inl (cI, 12, .inl f34)), (q35, .inl (cI, 12, .inl f36))]) H := hP
        have hD : va_D A ([(o1, .inr (12, [.int 0, .ref q1, .int 0, .ref q3, .int 0, .ref q5, .ref q7, .int 0, .ref q9, .int 0, .ref q11, .int (-9), .int 0, .int 0, .ref q13, .ref q15, .ref q17, .ref q19, .ref q21, .int 0, .ref q23, .ref q25, .ref q27, .int 0, .ref q29, .ref q31, .ref q33, .int 0, .ref q35])), (q1, .inl (cI, 5, .inl f2)), (q3, .inl (cI, 12, .inl f4)), (q5, .inl (cI, 12, .inl f74)), (q7, .inl (cI, 12, .inl f8)), (q9, .inl (cI, 12, .inl f10)), (q11, .inl (cI, 12, .inl f12)), (q13, .inl (cI, 12, .inl f14)), (q15, .inl (cI, 12, .inl f16)), (q17, .inl (cI, 49152, .inl f18)), (q19, .inl (cI, 4096, .inl f20)), (q21, .inl (cI, 100, .inl f22)), (q23, .inl (cI, 12, .inl f24)), (q25, .inl (cI, 100, .inl f26)), (q27, .inl (cI, 12, .inl f28)), (q29, .inl (cZ, 49152, .inl f30)), (q31, .inl (cI, 49152, .inl f32)), (q33, .inl (cI, 12, .inl f34)), (q35, .inl (cI, 12, .inl f36))]) := hD
        obtain ⟨x75, x75_e⟩ : ∃ z : Int32, z = x69 + 1 := ⟨_, rfl⟩
        have x75_h : Iv 1 12 x75 := iv_e x75_e (iv_add j73 ik_1 (by decide))
        refine lv_iinc (v := x75) (lv' := [(1, .int x75), (0, .ref o1)]) hx hb dX12_init_170 hl (k := 0) rfl (incN (by decide +kernel) x75_e) (by decide) rfl (fun ls hl => ?_)
        refine lv_goto (tgt := 156) hx hb dX12_init_173 (by decide) ?_
        exact ih1 x75 f74 _ _ _ (ms_up x75_e j73 (by decide) hM1) (iv_w x75_h (by decide)) f74_b (fil_s iv1_0 (iv_w (c := 0) (d := 4095) j73 (by decide)) x75_e f74_e) hP hD hS hl
  exact L1 _ 0 f6 _ _ _ (Nat.lt_succ_self _) (iv_w ik_0 (by decide)) f6_b fil_0 hP hD hS hl
