theorem hm_X11_bringSeats_1 : (.fieldLink RX11 79 "HolelessHouse" "seats" "LHolelessHouse$Benches;" : Cond) ∈ wsX11_bringSeats := List.mem_of_getElem? (i := 1) rfl
theorem hm_X11_bringSeats_2 : (.fieldLink RX11 19 "HolelessHouse" "table" "LHolelessHouse$Table;" : Cond) ∈ wsX11_bringSeats := List.mem_of_getElem? (i := 2) rfl
theorem hm_X11_bringSeats_4 : (.initialized RX0 : Cond) ∈ wsX11_bringSeats := List.mem_of_getElem? (i := 4) rfl
theorem hm_X11_bringSeats_3 : (.instanceMethod yX0_restart : Cond) ∈ wsX11_bringSeats := List.mem_of_getElem? (i := 3) rfl
theorem hm_X11_bringSeats_5 : (.selects RX0 yX0_restart yX0_restart : Cond) ∈ wsX11_bringSeats := List.mem_of_getElem? (i := 5) rfl
theorem hm_X11_bringSeats_13 : (.instanceMethod yX0_findFirst : Cond) ∈ wsX11_bringSeats := List.mem_of_getElem? (i := 13) rfl
theorem hm_X11_bringSeats_14 : (.selects RX0 yX0_findFirst yX0_findFirst : Cond) ∈ wsX11_bringSeats := List.mem_of_getElem? (i := 14) rfl
theorem hm_X11_bringSeats_36 : (.instanceMethod yX0_countWays : Cond) ∈ wsX11_bringSeats := List.mem_of_getElem? (i := 36) rfl
theorem hm_X11_bringSeats_37 : (.selects RX0 yX0_countWays yX0_countWays : Cond) ∈ wsX11_bringSeats := List.mem_of_getElem? (i := 37) rfl
theorem hm_X11_bringSeats_9 : (.instanceMethod yX0_addRow : Cond) ∈ wsX11_bringSeats := List.mem_of_getElem? (i := 9) rfl
theorem hm_X11_bringSeats_10 : (.selects RX0 yX0_addRow yX0_addRow : Cond) ∈ wsX11_bringSeats := List.mem_of_getElem? (i := 10) rfl
theorem hm_X11_seatings_1 : (.fieldLink RX11 79 "HolelessHouse" "seats" "LHolelessHouse$Benches;" : Cond) ∈ wsX11_seatings := List.mem_of_getElem? (i := 1) rfl
theorem hm_X11_seat_1 : (.fieldLink RX11 79 "HolelessHouse" "seats" "LHolelessHouse$Benches;" : Cond) ∈ wsX11_seat := List.mem_of_getElem? (i := 1) rfl
theorem hm_X10_present_1 : (.fieldLink RX10 9 "HolelessHouse$Table" "rows" "[I" : Cond) ∈ wsX10_present := List.mem_of_getElem? (i := 1) rfl
theorem hm_X11_count_1 : (.fieldLink RX11 10 "HolelessHouse" "graph" "LHolelessHouse$Graph;" : Cond) ∈ wsX11_count := List.mem_of_getElem? (i := 1) rfl
theorem hm_X11_count_5 : (.initialized RX4 : Cond) ∈ wsX11_count := List.mem_of_getElem? (i := 5) rfl
theorem hm_X11_count_4 : (.instanceMethod yX4_pairs : Cond) ∈ wsX11_count := List.mem_of_getElem? (i := 4) rfl
theorem hm_X11_count_6 : (.selects RX4 yX4_pairs yX4_pairs : Cond) ∈ wsX11_count := List.mem_of_getElem? (i := 6) rfl
theorem hm_X11_count_2 : (.fieldLink RX11 19 "HolelessHouse" "table" "LHolelessHouse$Table;" : Cond) ∈ wsX11_count := List.mem_of_getElem? (i := 2) rfl
theorem hm_X11_count_18 : (.initialized RX10 : Cond) ∈ wsX11_count := List.mem_of_getElem? (i := 18) rfl
theorem hm_X11_count_17 : (.instanceMethod yX10_present : Cond) ∈ wsX11_count := List.mem_of_getElem? (i := 17) rfl
theorem hm_X11_count_19 : (.selects RX10 yX10_present yX10_present : Cond) ∈ wsX11_count := List.mem_of_getElem? (i := 19) rfl
theorem hm_X11_count_3 : (.fieldLink RX11 26 "HolelessHouse" "ordering" "LHolelessHouse$Ordering;" : Cond) ∈ wsX11_count := List.mem_of_getElem? (i := 3) rfl
theorem hm_X11_finding_1 : (.fieldLink RX11 86 "HolelessHouse" "latest" "I" : Cond) ∈ wsX11_finding := List.mem_of_getElem? (i := 1) rfl
theorem hm_X11_findings_1 : (.fieldLink RX11 82 "HolelessHouse" "timesFound" "[I" : Cond) ∈ wsX11_findings := List.mem_of_getElem? (i := 1) rfl
theorem hm_X11_mix_1 : (.constantLong RX11 288 (31) : Cond) ∈ wsX11_mix := List.mem_of_getElem? (i := 1) rfl
theorem hm_X11_digest_1 : (.constantLong RX11 275 (17) : Cond) ∈ wsX11_digest := List.mem_of_getElem? (i := 1) rfl
theorem hm_X11_digest_2 : (.fieldLink RX11 10 "HolelessHouse" "graph" "LHolelessHouse$Graph;" : Cond) ∈ wsX11_digest := List.mem_of_getElem? (i := 2) rfl
theorem hm_X11_digest_3 : (.fieldLink RX11 26 "HolelessHouse" "ordering" "LHolelessHouse$Ordering;" : Cond) ∈ wsX11_digest := List.mem_of_getElem? (i := 3) rfl
theorem hm_X11_digest_14 : (.initialized RX6 : Cond) ∈ wsX11_digest := List.mem_of_getElem? (i := 14) rfl
theorem hm_X11_digest_13 : (.instanceMethod yX6_length : Cond) ∈ wsX11_digest := List.mem_of_getElem? (i := 13) rfl
theorem hm_X11_digest_15 : (.selects RX6 yX6_length yX6_length : Cond) ∈ wsX11_digest := List.mem_of_getElem? (i := 15) rfl
theorem hm_X11_digest_4 : (.fieldLink RX11 19 "HolelessHouse" "table" "LHolelessHouse$Table;" : Cond) ∈ wsX11_digest := List.mem_of_getElem? (i := 4) rfl
theorem iw_X11_bringSeats_X0 : ∀ w ∈ wsX00, w ∈ wsX11_bringSeats := fun _ h => List.mem_cons.mpr (Or.inr (List.mem_append.mpr (Or.inl (List.mem_append.mpr (Or.inr h)))))
theorem iw_X11_bringSeats_X10 : ∀ w ∈ wsX100, w ∈ wsX11_bringSeats := fun _ h => List.mem_cons.mpr (Or.inr (List.mem_append.mpr (Or.inr h)))
theorem iw_X11_bringSeats_X11 : ∀ w ∈ wsX110, w ∈ wsX11_bringSeats := fun _ h => List.mem_cons.mpr (Or.inr (List.mem_append.mpr (Or.inl (List.mem_append.mpr (Or.inl (List.mem_append.mpr (Or.inr h)))))))
set_option maxHeartbeats 4000000 in
set_option maxRecDepth 100000 in
theorem kX11_bringSeats_1 (l : Launch) (dC : Nat → ClassId) (dI : Nat → Nat → Nat) (cI c2 cZ : ClassId) (o1 : Nat) (o2 : Nat) (o7 : Nat) (o12 : Nat) (o41 : Nat) (o51 : Nat) (o64 : Nat) (o77 : Nat) (o84 : Nat) (o91 : Nat) (o99 : Nat) (o111 : Nat) (o123 : Nat) (o112 : Nat) (o114 : Nat) (o116 : Nat) (o8 : Nat) (fw9 : Nat → Int32) (v10 : Int32) (v11 : Int32) (fw113 : Nat → Int32) (fw115 : Nat → Int32) (fw117 : Nat → Int32) (v118 : Int32) (v119 : Int32) (v120 : Int32) (v121 : Int32) (v122 : Int32) (v125 : Int32) (sz : Nat) (fw9_b : Bd 12 (-1) 255 fw9) (v10_h : Iv 0 8 v10) (v118_h : Iv 0 12 v118) (v119_h : Iv 0 8 v119) (v121_h : Iv 0 1 v121) : Met l yX11_bringSeats wsX11_bringSeats ({ frames := 10, cells := 0, slots := 0, locals := 236 }) (va_Pc [.ref o1] (wPre (dC, dI) [(cI, .int), (c2, .array .int), (cZ, .boolean)] ([(o1, .inr (11, [.ref o2, .ref o7, .ref o12, .ref o41, .ref o51, .ref o64, .ref o77, .ref o84, .ref o91, .ref o99, .ref o111, .ref o123, .int v125])), (o111, .inr (0, [.ref o112, .ref o114, .ref o116, .int v118, .int v119, .int v120, .int v121, .int v122])), (o7, .inr (10, [.ref o8, .int v10, .int v11])), (o8, .inl (cI, 12, .inl fw9)), (o114, .inl (cI, 12, .inl fw115)), (o112, .inl (cI, 256, .inl fw113)), (o116, .inl (cI, 8, .inl fw117))]) sz)) (va_Qv (fun (u : Int32 × Int32 × Int32 × Int32 × Int32 × (Nat → Int32) × (Nat → Int32) × (Nat → Int32)) => Iv 0 12 u.1 ∧ Iv 0 8 u.2.1 ∧ Iv 0 1 u.2.2.2.1) (fun u t => wPost (dC, dI) [(cI, .int), (c2, .array .int), (cZ, .boolean)] (va_A ([(o1, .inr (11, [.ref o2, .ref o7, .ref o12, .ref o41, .ref o51, .ref o64, .ref o77, .ref o84, .ref o91, .ref o99, .ref o111, .ref o123, .int v125])), (o111, .inr (0, [.ref o112, .ref o114, .ref o116, .int v118, .int v119, .int v120, .int v121, .int v122])), (o7, .inr (10, [.ref o8, .int v10, .int v11])), (o8, .inl (cI, 12, .inl fw9)), (o114, .inl (cI, 12, .inl fw115)), (o112, .inl (cI, 256, .inl fw113)), (o116, .inl (cI, 8, .inl fw117))]) sz) ([(o1, .inr (11, [.ref o2, .ref o7, .ref o12, .ref o41, .ref o51, .ref o64, .ref o77, .ref o84, .ref o91, .ref o99, .ref o111, .ref o123, .int v125])), (o111, .inr (0, [.ref o112, .ref o114, .ref o116, .int u.1, .int u.2.1, .int u.2.2.1, .int u.2.2.2.1, .int u.2.2.2.2.1])), (o7, .inr (10, [.ref o8, .int v10, .int v11])), (o8, .inl (cI, 12, .inl fw9)), (o114, .inl (cI, 12, .inl u.2.2.2.2.2.1)), (o112, .inl (cI, 256, .inl u.2.2.2.2.2.2.1)), (o116, .inl (cI, 8, .inl u.2.2.2.2.2.2.2))]) t) (va_A ([(o1, .inr (11, [.ref o2, .ref o7, .ref o12, .ref o41, .ref o51, .ref o64, .ref o77, .ref o84, .ref o91, .ref o99, .ref o111, .ref o123, .int v125])), (o111, .inr (0, [.ref o112, .ref o114, .ref o116, .int v118, .int v119, .int v120, .int v121, .int v122])), (o7, .inr (10, [.ref o8, .int v10, .int v11])), (o8, .inl (cI, 12, .inl fw9)), (o114, .inl (cI, 12, .inl fw115)), (o112, .inl (cI, 256, .inl fw113)), (o116, .inl (cI, 8, .inl fw117))]) sz)) 0 0 (va_A ([(o1, .inr (11, [.ref o2, .ref o7, .ref o12, .ref o41, .ref o51, .ref o64, .ref o77, .ref o84, .ref o91, .ref o99, .ref o111, .ref o123, .int v125])), (o111, .inr (0, [.ref o112, .ref o114, .ref o116, .int v118, .int v119, .int v120, .int v121, .int v122])), (o7, .inr (10, [.ref o8, .int v10, .int v11])), (o8, .inl (cI, 12, .inl fw9)), (o114, .inl (cI, 12, .inl fw115)), (o112, .inl (cI, 256, .inl fw113)), (o116, .inl (cI, 8, .inl fw117))]) sz) := by
  refine Met.ofW (cc := cX11_bringSeats) (maxL := 2) (ret := none) (by decide) rfl ?_
  intro p e s m args below meth c s₁ B hml hv
  obtain ⟨rfl, hsz, hP, hK, hD0, hN⟩ := hv
  have hx := B.exec
  have hb := B.bytes
  have hr := B.returns
  have hts := atoms_spec (ws := wsX11_bringSeats) B.pre
  have hown : s.vm.findClass RX11 = some m.cls := findClass_of_methodNamed B.named
  have hlocks := B.notSynchronized
  subst hsz
  have hD := hD0.self (sz := s.heap.size)
  generalize hAe : va_A ([(o1, .inr (11, [.ref o2, .ref o7, .ref o12, .ref o41, .ref o51, .ref o64, .ref o77, .ref o84, .ref o91, .ref o99, .ref o111, .ref o123, .int v125])), (o111, .inr (0, [.ref o112, .ref o114, .ref o116, .int v118, .int v119, .int v120, .int v121, .int v122])), (o7, .inr (10, [.ref o8, .int v10, .int v11])), (o8, .inl (cI, 12, .inl fw9)), (o114, .inl (cI, 12, .inl fw115)), (o112, .inl (cI, 256, .inl fw113)), (o116, .inl (cI, 8, .inl fw117))]) s.heap.size = A at hD ⊢
  have hA : ∀ q : Nat, s.heap.size ≤ q → A q := fun q h => by rw [← hAe]; exact Or.inr h
  have hS : va_S A s.heap s.heap [] := va_S.rf
  have hP : va_P (dC, dI) vwCl ([(o1, .inr (11, [.ref o2, .ref o7, .ref o12, .ref o41, .ref o51, .ref o64, .ref o77, .ref o84, .ref o91, .ref o99, .ref o111, .ref o123, .int v125])), (o111, .inr (0, [.ref o112, .ref o114, .ref o116, .int v118, .int v119, .int v120, .int v121, .int v122])), (o7, .inr (10, [.ref o8, .int v10, .int v11])), (o8, .inl (cI, 12, .inl fw9)), (o114, .inl (cI, 12, .inl fw115)), (o112, .inl (cI, 256, .inl fw113)), (o116, .inl (cI, 8, .inl fw117))]) s.heap := hP
  have hl := lv_entry ([.ref o1]) (n := 2) (Nat.le_of_ble_eq_true rfl)
  rw [lg_entry_eq]
  generalize (lg_sl ([.ref o1]) ++ List.replicate (2 - (lg_sl ([.ref o1])).length) Slot.unset).toArray = ls at hl ⊢
  have hl : lv_has ls 2 [(0, .ref o1)] := hl
  refine gen_Q (fun Q hQ => ?_)
  refine lv_aload_n hx hb dX11_bringSeats_0 rfl (lv_at hl 0 rfl) ?_
  refine va_get (D := (dC, dI)) (ci := 11) (v := .ref o111) (C := RX11) (T := TX11) (N := 13) hx hb hts iw_X11_bringSeats_X11 hown hK hP 0 rfl rfl 10 (by decide) (hts (.fieldLink RX11 79 "HolelessHouse" "seats" "LHolelessHouse$Benches;") hm_X11_bringSeats_1) (fun _ h9 => h9) rfl dX11_bringSeats_1 ?_
  refine va_getN (D := (dC, dI)) (ci := 0) (v := .int v122) (C := RX0) (T := TX0) (N := 8) hx hb hts iw_X11_bringSeats_X0 hown hK hP 1 rfl rfl 7 (by decide) (hN.use ns_47) (fun _ h9 => h9) rfl dX11_bringSeats_4 ?_
  refine lv_aload_n hx hb dX11_bringSeats_7 rfl (lv_at hl 0 rfl) ?_
  refine va_get (D := (dC, dI)) (ci := 11) (v := .ref o7) (C := RX11) (T := TX11) (N := 13) hx hb hts iw_X11_bringSeats_X11 hown hK hP 0 rfl rfl 1 (by decide) (hts (.fieldLink RX11 19 "HolelessHouse" "table" "LHolelessHouse$Table;") hm_X11_bringSeats_2) (fun _ h9 => h9) rfl dX11_bringSeats_8 ?_
  refine va_getN (D := (dC, dI)) (ci := 10) (v := .int v11) (C := RX10) (T := TX10) (N := 3) hx hb hts iw_X11_bringSeats_X10 hown hK hP 2 rfl rfl 2 (by decide) (hN.use ns_23) (fun _ h9 => h9) rfl dX11_bringSeats_11 ?_
  refine lv_icmp_ne (tgt := 18) hx hb dX11_bringSeats_14 (by decide) (fun h1 => ?_) (fun h1 => ?_)
  ·
    refine lv_aload_n hx hb dX11_bringSeats_18 rfl (lv_at hl 0 rfl) ?_
    refine va_get (D := (dC, dI)) (ci := 11) (v := .ref o111) (C := RX11) (T := TX11) (N := 13) hx hb hts iw_X11_bringSeats_X11 hown hK hP 0 rfl rfl 10 (by decide) (hts (.fieldLink RX11 79 "HolelessHouse" "seats" "LHolelessHouse$Benches;") hm_X11_bringSeats_1) (fun _ h9 => h9) rfl dX11_bringSeats_19 ?_
    refine lv_aload_n hx hb dX11_bringSeats_22 rfl (lv_at hl 0 rfl) ?_
    refine va_get (D := (dC, dI)) (ci := 11) (v := .ref o7) (C := RX11) (T := TX11) (N := 13) hx hb hts iw_X11_bringSeats_X11 hown hK hP 0 rfl rfl 1 (by decide) (hts (.fieldLink RX11 19 "HolelessHouse" "table" "LHolelessHouse$Table;") hm_X11_bringSeats_2) (fun _ h9 => h9) rfl dX11_bringSeats_23 ?_
    refine va_getN (D := (dC, dI)) (ci := 10) (v := .int v11) (C := RX10) (T := TX10) (N := 3) hx hb hts iw_X11_bringSeats_X10 hown hK hP 2 rfl rfl 2 (by decide) (hN.use ns_23) (fun _ h9 => h9) rfl dX11_bringSeats_26 ?_
    refine va_putN (D := (dC, dI)) (ci := 0) (v := .int v11) (ty := .int) (C := RX0) (T := TX0) (N := 8) hx hb hts iw_X11_bringSeats_X0 tyX0 tyX0_ok nmX0 hown hK hP hD hS 1 rfl rfl 7 (by decide) (hN.use ns_47) (fun _ h9 => h9) rfl (by decide +kernel) rfl rfl (Nat.le_of_ble_eq_true rfl) dX11_bringSeats_29 (fun H locs hP hD hS => ?_)
    have hP : va_P (dC, dI) vwCl ([(o1, .inr (11, [.ref o2, .ref o7, .ref o12, .ref o41, .ref o51, .ref o64, .ref o77, .ref o84, .ref o91, .ref o99, .ref o111, .ref o123, .int v125])), (o111, .inr (0, [.ref o112, .ref o114, .ref o116, .int v118, .int v119, .int v120, .int v121, .int v11])), (o7, .inr (10, [.ref o8, .int v10, .int v11])), (o8, .inl (cI, 12, .inl fw9)), (o114, .inl (cI, 12, .inl fw115)), (o112, .inl (cI, 256, .inl fw113)), (o116, .inl (cI, 8, .inl fw117))]) H := hP
    have hD : va_D A ([(o1, .inr (11, [.ref o2, .ref o7, .ref o12, .ref o41, .ref o51, .ref o64, .ref o77, .ref o84, .ref o91, .ref o99, .ref o111, .ref o123, .int v125])), (o111, .inr (0, [.ref o112, .ref o114, .ref o116, .int v118, .int v119, .int v120, .int v121, .int v11])), (o7, .inr (10, [.ref o8, .int v10, .int v11])), (o8, .inl (cI, 12, .inl fw9)), (o114, .inl (cI, 12, .inl fw115)), (o112, .inl (cI, 256, .inl fw113)), (o116, .inl (cI, 8, .inl fw117))]) := hD
    refine lv_aload_n hx hb dX11_bringSeats_32 rfl (lv_at hl 0 rfl) ?_
    refine va_get (D := (dC, dI)) (ci := 11) (v := .ref o111) (C := RX11) (T := TX11) (N := 13) hx hb hts iw_X11_bringSeats_X11 hown hK hP 0 rfl rfl 10 (by decide) (hts (.fieldLink RX11 79 "HolelessHouse" "seats" "LHolelessHouse$Benches;") hm_X11_bringSeats_1) (fun _ h9 => h9) rfl dX11_bringSeats_33 ?_
    refine lv_aload_n hx hb dX11_bringSeats_36 rfl (lv_at hl 0 rfl) ?_
    refine va_get (D := (dC, dI)) (ci := 11) (v := .ref o7) (C := RX11) (T := TX11) (N := 13) hx hb hts iw_X11_bringSeats_X11 hown hK hP 0 rfl rfl 1 (by decide) (hts (.fieldLink RX11 19 "HolelessHouse" "table" "LHolelessHouse$Table;") hm_X11_bringSeats_2) (fun _ h9 => h9) rfl dX11_bringSeats_37 ?_
    refine va_getN (D := (dC, dI)) (ci := 10) (v := .int v10) (C := RX10) (T := TX10) (N := 3) hx hb hts iw_X11_bringSeats_X10 hown hK hP 2 rfl rfl 1 (by decide) (hN.use ns_22) (fun _ h9 => h9) rfl dX11_bringSeats_40 ?_
    refine kc_v (D := (dC, dI)) (S := Int32 × Int32) (wc := [(o111, .inr (0, [.ref o112, .ref o114, .ref o116, .int v118, .int v119, .int v120, .int v121, .int v11]))]) (wr := [(o1, .inr (11, [.ref o2, .ref o7, .ref o12, .ref o41, .ref o51, .ref o64, .ref o77, .ref o84, .ref o91, .ref o99, .ref o111, .ref o123, .int v125])), (o7, .inr (10, [.ref o8, .int v10, .int v11])), (o8, .inl (cI, 12, .inl fw9)), (o114, .inl (cI, 12, .inl fw115)), (o112, .inl (cI, 256, .inl fw113)), (o116, .inl (cI, 8, .inl fw117))]) (w1 := fun u => [(o111, .inr (0, [.ref o112, .ref o114, .ref o116, .int u.1, .int u.2, .int v120, .int v121, .int v11]))]) (wn := fun u => [(o1, .inr (11, [.ref o2, .ref o7, .ref o12, .ref o41, .ref o51, .ref o64, .ref o77, .ref o84, .ref o91, .ref o99, .ref o111, .ref o123, .int v125])), (o111, .inr (0, [.ref o112, .ref o114, .ref o116, .int u.1, .int u.2, .int v120, .int v121, .int v11])), (o7, .inr (10, [.ref o8, .int v10, .int v11])), (o8, .inl (cI, 12, .inl fw9)), (o114, .inl (cI, 12, .inl fw115)), (o112, .inl (cI, 256, .inl fw113)), (o116, .inl (cI, 8, .inl fw117))]) (fun hPc hDc => va_runVN (As := [.int v10]) (rest := []) ⟨hx, hb, hml, hown, hts⟩ (kX0_restart_3 l dC dI cI c2 cZ o111 o112 o114 o116 v118 v119 v120 v121 v11 v10 H.size v118_h v119_h v121_h v10_h) ⟨va_cnB 1 hts gX11_bringSeats_X0_restart_n303 rfl rfl rfl (hN.1 _ ns_121) (hts (.initialized RX0) hm_X11_bringSeats_4) (by decide +kernel) ⟨Nat.le_of_ble_eq_true rfl, Nat.le_of_ble_eq_true rfl⟩, (hts (.instanceMethod yX0_restart) hm_X11_bringSeats_3), (hts (.selects RX0 yX0_restart yX0_restart) hm_X11_bringSeats_5)⟩ (pre_V hPc hK hDc hN (ci := 0) (q0 := 0) rfl rfl) rfl rfl hl.1 rfl (lv_room (Nat.le_of_ble_eq_true rfl)) dX11_bringSeats_43 ⟨Nat.le_of_ble_eq_true rfl, Nat.le_of_ble_eq_true rfl⟩) hP hD hS hA [1] [0, 2, 3, 4, 5, 6] [0, 6, 1, 2, 3, 4, 5] rfl rfl (by decide +kernel) (by decide +kernel) (by decide +kernel) (by decide +kernel) (fun _ => rfl) (fun u H locs hq hP hD hS => ?_)
    obtain ⟨y2, y3⟩ := u
    obtain ⟨y2_h, y3_h⟩ := hq
    have hP : va_P (dC, dI) vwCl ([(o1, .inr (11, [.ref o2, .ref o7, .ref o12, .ref o41, .ref o51, .ref o64, .ref o77, .ref o84, .ref o91, .ref o99, .ref o111, .ref o123, .int v125])), (o111, .inr (0, [.ref o112, .ref o114, .ref o116, .int y2, .int y3, .int v120, .int v121, .int v11])), (o7, .inr (10, [.ref o8, .int v10, .int v11])), (o8, .inl (cI, 12, .inl fw9)), (o114, .inl (cI, 12, .inl fw115)), (o112, .inl (cI, 256, .inl fw113)), (o116, .inl (cI, 8, .inl fw117))]) H := hP
    have hD : va_D A ([(o1, .inr (11, [.ref o2, .ref o7, .ref o12, .ref o41, .ref o51, .ref o64, .ref o77, .ref o84, .ref o91, .ref o99, .ref o111, .ref o123, .int v125])), (o111, .inr (0, [.ref o112, .ref o114, .ref o116, .int y2, .int y3, .int v120, .int v121, .int v11])), (o7, .inr (10, [.ref o8, .int v10, .int v11])), (o8, .inl (cI, 12, .inl fw9)), (o114, .inl (cI, 12, .inl fw115)), (o112, .inl (cI, 256, .inl fw113)), (o116, .inl (cI, 8, .inl fw117))]) := hD
    refine lv_iconst (v := 0) hx hb dX11_bringSeats_46 (by decide) ?_
    refine lv_istore_n (lv' := [(1, .int 0), (0, .ref o1)]) hx hb dX11_bringSeats_47 rfl hl (by decide) rfl (fun ls hl => ?_)
    have L1 : ∀ (N : Nat) (x98 : Int32) (f99 : Nat → Int32) (x100 : Int32) (H : Heap) (locs : List Loc) (ls : Array Slot), (12 - x98.toInt).toNat < N → Iv 0 12 x98 → Iv 0 12 x100 → va_P (dC, dI) vwCl ([(o1, .inr (11, [.ref o2, .ref o7, .ref o12, .ref o41, .ref o51, .ref o64, .ref o77, .ref o84, .ref o91, .ref o99, .ref o111, .ref o123, .int v125])), (o111, .inr (0, [.ref o112, .ref o114, .ref o116, .int x100, .int y3, .int v120, .int v121, .int v11])), (o7, .inr (10, [.ref o8, .int v10, .int v11])), (o8, .inl (cI, 12, .inl fw9)), (o114, .inl (cI, 12, .inl f99)), (o112, .inl (cI, 256, .inl fw113)), (o116, .inl (cI, 8, .inl fw117))]) H → va_D A ([(o1, .inr (11, [.ref o2, .ref o7, .ref o12, .ref o41, .ref o51, .ref o64, .ref o77, .ref o84, .ref o91, .ref o99, .ref o111, .ref o123, .int v125])), (o111, .inr (0, [.ref o112, .ref o114, .ref o116, .int x100, .int y3, .int v120, .int v121, .int v11])), (o7, .inr (10, [.ref o8, .int v10, .int v11])), (o8, .inl (cI, 12, .inl fw9)), (o114, .inl (cI, 12, .inl f99)), (o112, .inl (cI, 256, .inl fw113)), (o116, .inl (cI, 8, .inl fw117))]) → va_S A s.heap H locs → lv_has ls 2 [(1, .int x98), (0, .ref o1)] → W p l e ({ frames := 10, cells := 0, slots := 0, locals := 236 }) s m ([.ref o1] : List Value).toArray below meth c H locs 0 0 Q (F0 m 48 ls []) := by
      intro N
      induction N with
      | zero =>
        intro x98 f99 x100 H locs ls hM
        exact absurd hM (Nat.not_lt_zero _)
      | succ N ih1 =>
        intro x98 f99 x100 H locs ls hM1 x98_h x100_h hP hD hS hl
        refine lv_iload_n hx hb dX11_bringSeats_48 rfl (lv_at hl 0 rfl) ?_
        refine lv_bipush (v := 12) hx hb dX11_bringSeats_49 (by decide) ?_
        refine lv_icmp_ge (tgt := 89) hx hb dX11_bringSeats_51 (by decide) (fun h101 => ?_) (fun h101 => ?_)
        ·
          have qh101 := le_i h101
          have j102 : Iv 12 12 x98 := r_ler qh101 ik_12 x98_h (by decide)
          refine lv_aload_n hx hb dX11_bringSeats_89 rfl (lv_at hl 1 rfl) ?_
          refine va_get (D := (dC, dI)) (ci := 11) (v := .ref o111) (C := RX11) (T := TX11) (N := 13) hx hb hts iw_X11_bringSeats_X11 hown hK hP 0 rfl rfl 10 (by decide) (hts (.fieldLink RX11 79 "HolelessHouse" "seats" "LHolelessHouse$Benches;") hm_X11_bringSeats_1) (fun _ h9 => h9) rfl dX11_bringSeats_90 ?_
          refine kc_v (D := (dC, dI)) (S := Int32 × (Nat → Int32) × (Nat → Int32)) (wc := [(o111, .inr (0, [.ref o112, .ref o114, .ref o116, .int x100, .int y3, .int v120, .int v121, .int v11])), (o112, .inl (cI, 256, .inl fw113)), (o114, .inl (cI, 12, .inl f99)), (o116, .inl (cI, 8, .inl fw117))]) (wr := [(o1, .inr (11, [.ref o2, .ref o7, .ref o12, .ref o41, .ref o51, .ref o64, .ref o77, .ref o84, .ref o91, .ref o99, .ref o111, .ref o123, .int v125])), (o7, .inr (10, [.ref o8, .int v10, .int v11])), (o8, .inl (cI, 12, .inl fw9))]) (w1 := fun u => [(o111, .inr (0, [.ref o112, .ref o114, .ref o116, .int x100, .int y3, .int v120, .int u.1, .int v11])), (o112, .inl (cI, 256, .inl u.2.1)), (o114, .inl (cI, 12, .inl f99)), (o116, .inl (cI, 8, .inl u.2.2))]) (wn := fun u => [(o1, .inr (11, [.ref o2, .ref o7, .ref o12, .ref o41, .ref o51, .ref o64, .ref o77, .ref o84, .ref o91, .ref o99, .ref o111, .ref o123, .int v125])), (o111, .inr (0, [.ref o112, .ref o114, .ref o116, .int x100, .int y3, .int v120, .int u.1, .int v11])), (o7, .inr (10, [.ref o8, .int v10, .int v11])), (o8, .inl (cI, 12, .inl fw9)), (o114, .inl (cI, 12, .inl f99)), (o112, .inl (cI, 256, .inl u.2.1)), (o116, .inl (cI, 8, .inl u.2.2))]) (fun hPc hDc => va_runVN (As := []) (rest := []) ⟨hx, hb, hml, hown, hts⟩ (kX0_findFirst_2 l dC dI cI c2 cZ o111 o112 o114 o116 fw113 f99 fw117 x100 y3 v120 v121 v11 H.size x100_h y3_h v121_h) ⟨va_cnB 0 hts gX11_bringSeats_X0_findFirst_n310 rfl rfl rfl (hN.1 _ ns_124) (hts (.initialized RX0) hm_X11_bringSeats_4) (by decide +kernel) ⟨Nat.le_of_ble_eq_true rfl, Nat.le_of_ble_eq_true rfl⟩, (hts (.instanceMethod yX0_findFirst) hm_X11_bringSeats_13), (hts (.selects RX0 yX0_findFirst yX0_findFirst) hm_X11_bringSeats_14)⟩ (pre_V hPc hK hDc hN (ci := 0) (q0 := 0) rfl rfl) rfl rfl hl.1 rfl (lv_room (Nat.le_of_ble_eq_true rfl)) dX11_bringSeats_93 ⟨Nat.le_of_ble_eq_true rfl, Nat.le_of_ble_eq_true rfl⟩) hP hD hS hA [1, 5, 4, 6] [0, 2, 3] [0, 3, 1, 2, 5, 4, 6] rfl rfl (by decide +kernel) (by decide +kernel) (by decide +kernel) (by decide +kernel) (fun _ => rfl) (fun u H locs hq hP hD hS => ?_)
          obtain ⟨y103, f104, f105⟩ := u
          have y103_h := hq
          have hP : va_P (dC, dI) vwCl ([(o1, .inr (11, [.ref o2, .ref o7, .ref o12, .ref o41, .ref o51, .ref o64, .ref o77, .ref o84, .ref o91, .ref o99, .ref o111, .ref o123, .int v125])), (o111, .inr (0, [.ref o112, .ref o114, .ref o116, .int x100, .int y3, .int v120, .int y103, .int v11])), (o7, .inr (10, [.ref o8, .int v10, .int v11])), (o8, .inl (cI, 12, .inl fw9)), (o114, .inl (cI, 12, .inl f99)), (o112, .inl (cI, 256, .inl f104)), (o116, .inl (cI, 8, .inl f105))]) H := hP
          have hD : va_D A ([(o1, .inr (11, [.ref o2, .ref o7, .ref o12, .ref o41, .ref o51, .ref o64, .ref o77, .ref o84, .ref o91, .ref o99, .ref o111, .ref o123, .int v125])), (o111, .inr (0, [.ref o112, .ref o114, .ref o116, .int x100, .int y3, .int v120, .int y103, .int v11])), (o7, .inr (10, [.ref o8, .int v10, .int v11])), (o8, .inl (cI, 12, .inl fw9)), (o114, .inl (cI, 12, .inl f99)), (o112, .inl (cI, 256, .inl f104)), (o116, .inl (cI, 8, .inl f105))]) := hD
          refine lv_aload_n hx hb dX11_bringSeats_96 rfl (lv_at hl 1 rfl) ?_
          refine va_get (D := (dC, dI)) (ci := 11) (v := .ref o111) (C := RX11) (T := TX11) (N := 13) hx hb hts iw_X11_bringSeats_X11 hown hK hP 0 rfl rfl 10 (by decide) (hts (.fieldLink RX11 79 "HolelessHouse" "seats" "LHolelessHouse$Benches;") hm_X11_bringSeats_1) (fun _ h9 => h9) rfl dX11_bringSeats_97 ?_
          refine kc_v (D := (dC, dI)) (S := Int32 × (Nat → Int32)) (wc := [(o111, .inr (0, [.ref o112, .ref o114, .ref o116, .int x100, .int y3, .int v120, .int y103, .int v11])), (o112, .inl (cI, 256, .inl f104)), (o114, .inl (cI, 12, .inl f99))]) (wr := [(o1, .inr (11, [.ref o2, .ref o7, .ref o12, .ref o41, .ref o51, .ref o64, .ref o77, .ref o84, .ref o91, .ref o99, .ref o111, .ref o123, .int v125])), (o7, .inr (10, [.ref o8, .int v10, .int v11])), (o8, .inl (cI, 12, .inl fw9)), (o116, .inl (cI, 8, .inl f105))]) (w1 := fun u => [(o111, .inr (0, [.ref o112, .ref o114, .ref o116, .int x100, .int y3, .int u.1, .int y103, .int v11])), (o112, .inl (cI, 256, .inl u.2)), (o114, .inl (cI, 12, .inl f99))]) (wn := fun u => [(o1, .inr (11, [.ref o2, .ref o7, .ref o12, .ref o41, .ref o51, .ref o64, .ref o77, .ref o84, .ref o91, .ref o99, .ref o111, .ref o123, .int v125])), (o111, .inr (0, [.ref o112, .ref o114, .ref o116, .int x100, .int y3, .int u.1, .int y103, .int v11])), (o7, .inr (10, [.ref o8, .int v10, .int v11])), (o8, .inl (cI, 12, .inl fw9)), (o114, .inl (cI, 12, .inl f99)), (o112, .inl (cI, 256, .inl u.2)), (o116, .inl (cI, 8, .inl f105))]) (fun hPc hDc => va_runVN (As := []) (rest := []) ⟨hx, hb, hml, hown, hts⟩ (kX0_countWays_1 l dC dI cI c2 cZ o111 o112 o114 o116 f104 f99 x100 y3 v120 y103 v11 H.size x100_h y3_h y103_h) ⟨va_cnB 0 hts gX11_bringSeats_X0_countWays_n314 rfl rfl rfl (hN.1 _ ns_137) (hts (.initialized RX0) hm_X11_bringSeats_4) (by decide +kernel) ⟨Nat.le_of_ble_eq_true rfl, Nat.le_of_ble_eq_true rfl⟩, (hts (.instanceMethod yX0_countWays) hm_X11_bringSeats_36), (hts (.selects RX0 yX0_countWays yX0_countWays) hm_X11_bringSeats_37)⟩ (pre_V hPc hK hDc hN (ci := 0) (q0 := 0) rfl rfl) rfl rfl hl.1 rfl (lv_room (Nat.le_of_ble_eq_true rfl)) dX11_bringSeats_100 ⟨Nat.le_of_ble_eq_true rfl, Nat.le_of_ble_eq_true rfl⟩) hP hD hS hA [1, 5, 4] [0, 2, 3, 6] [0, 4, 1, 2, 6, 5, 3] rfl rfl (by decide +kernel) (by decide +kernel) (by decide +kernel) (by decide +kernel) (fun _ => rfl) (fun u H locs hq hP hD hS => ?_)
          obtain ⟨y106, f107⟩ := u
          have hP : va_P (dC, dI) vwCl ([(o1, .inr (11, [.ref o2, .ref o7, .ref o12, .ref o41, .ref o51, .ref o64, .ref o77, .ref o84, .ref o91, .ref o99, .ref o111, .ref o123, .int v125])), (o111, .inr (0, [.ref o112, .ref o114, .ref o116, .int x100, .int y3, .int y106, .int y103, .int v11])), (o7, .inr (10, [.ref o8, .int v10, .int v11])), (o8, .inl (cI, 12, .inl fw9)), (o114, .inl (cI, 12, .inl f99)), (o112, .inl (cI, 256, .inl f107)), (o116, .inl (cI, 8, .inl f105))]) H := hP
          have hD : va_D A ([(o1, .inr (11, [.ref o2, .ref o7, .ref o12, .ref o41, .ref o51, .ref o64, .ref o77, .ref o84, .ref o91, .ref o99, .ref o111, .ref o123, .int v125])), (o111, .inr (0, [.ref o112, .ref o114, .ref o116, .int x100, .int y3, .int y106, .int y103, .int v11])), (o7, .inr (10, [.ref o8, .int v10, .int v11])), (o8, .inl (cI, 12, .inl fw9)), (o114, .inl (cI, 12, .inl f99)), (o112, .inl (cI, 256, .inl f107)), (o116, .inl (cI, 8, .inl f105))]) := hD
          rw [hQ]
          exact W.vret hx hb hr (fun t ht hW => ⟨⟨(x100, y3, y106, y103, v11, f99, f107, f105), rfl, ⟨x100_h, y3_h, y103_h⟩, by rw [ht]; exact hP, va_K.moved hW.alike hK, hD⟩, hS.F ht⟩) hS.2.2 dX11_bringSeats_103
        ·
          have qh101 := nle_i h101
          have j108 : Iv 0 11 x98 := r_ltl qh101 x98_h ik_12 (by decide)
          refine lv_aload_n hx hb dX11_bringSeats_54 rfl (lv_at hl 1 rfl) ?_
          refine va_get (D := (dC, dI)) (ci := 11) (v := .ref o7) (C := RX11) (T := TX11) (N := 13) hx hb hts iw_X11_bringSeats_X11 hown hK hP 0 rfl rfl 1 (by decide) (hts (.fieldLink RX11 19 "HolelessHouse" "table" "LHolelessHouse$Table;") hm_X11_bringSeats_2) (fun _ h9 => h9) rfl dX11_bringSeats_55 ?_
          refine va_getN (D := (dC, dI)) (ci := 10) (v := .ref o8) (C := RX10) (T := TX10) (N := 3) hx hb hts iw_X11_bringSeats_X10 hown hK hP 2 rfl rfl 0 (by decide) (hN.use ns_21) (fun _ h9 => h9) rfl dX11_bringSeats_58 ?_
          refine lv_iload_n hx hb dX11_bringSeats_61 rfl (lv_at hl 0 rfl) ?_
          refine va_iald hx hb hK hP 3 0 rfl rfl (vin_iv j108 (by decide)) dX11_bringSeats_62 (lv_topi (fun x109 x109_e => ?_))
          have x109_h : Iv (-1) 255 x109 := iv_e x109_e (bd_at fw9_b (vin_iv j108 (by decide)))
          refine lv_iconst (v := (-1)) hx hb dX11_bringSeats_63 (by decide) ?_
          refine lv_icmp_eq (tgt := 83) hx hb dX11_bringSeats_64 (by decide) (fun h110 => ?_) (fun h110 => ?_)
          ·
            have j111 : Iv (-1) (-1) x109 := r_eq h110 ikm_1
            obtain ⟨x112, x112_e⟩ : ∃ z : Int32, z = x98 + 1 := ⟨_, rfl⟩
            have x112_h : Iv 1 12 x112 := iv_e x112_e (iv_add j108 ik_1 (by decide))
            refine lv_iinc (v := x112) (lv' := [(1, .int x112), (0, .ref o1)]) hx hb dX11_bringSeats_83 hl (k := 0) rfl (incN (by decide +kernel) x112_e) (by decide) rfl (fun ls hl => ?_)
            refine lv_goto (tgt := 48) hx hb dX11_bringSeats_86 (by decide) ?_
            exact ih1 x112 f99 x100 _ _ _ (ms_up x112_e j108 (by decide) hM1) (iv_w x112_h (by decide)) x100_h hP hD hS hl
          ·
            have j113 : Iv 0 255 x109 := r_nelo h110 x109_h ikm_1 (by decide)
            refine lv_aload_n hx hb dX11_bringSeats_67 rfl (lv_at hl 1 rfl) ?_
            refine va_get (D := (dC, dI)) (ci := 11) (v := .ref o111) (C := RX11) (T := TX11) (N := 13) hx hb hts iw_X11_bringSeats_X11 hown hK hP 0 rfl rfl 10 (by decide) (hts (.fieldLink RX11 79 "HolelessHouse" "seats" "LHolelessHouse$Benches;") hm_X11_bringSeats_1) (fun _ h9 => h9) rfl dX11_bringSeats_68 ?_
            refine lv_aload_n hx hb dX11_bringSeats_71 rfl (lv_at hl 1 rfl) ?_
            refine va_get (D := (dC, dI)) (ci := 11) (v := .ref o7) (C := RX11) (T := TX11) (N := 13) hx hb hts iw_X11_bringSeats_X11 hown hK hP 0 rfl rfl 1 (by decide) (hts (.fieldLink RX11 19 "HolelessHouse" "table" "LHolelessHouse$Table;") hm_X11_bringSeats_2) (fun _ h9 => h9) rfl dX11_bringSeats_72 ?_
            refine va_getN (D := (dC, dI)) (ci := 10) (v := .ref o8) (C := RX10) (T := TX10) (N := 3) hx hb hts iw_X11_bringSeats_X10 hown hK hP 2 rfl rfl 0 (by decide) (hN.use ns_21) (fun _ h9 => h9) rfl dX11_bringSeats_75 ?_
            refine lv_iload_n hx hb dX11_bringSeats_78 rfl (lv_at hl 0 rfl) ?_
            refine va_iald hx hb hK hP 3 0 rfl rfl (vin_iv j108 (by decide)) dX11_bringSeats_79 (lv_topi (fun x114 x114_e => ?_))
            have x114_h : Iv 0 255 x114 := iv_e (x114_e.trans x109_e.symm) j113
            refine kc_v (D := (dC, dI)) (S := Int32 × (Nat → Int32)) (wc := [(o111, .inr (0, [.ref o112, .ref o114, .ref o116, .int x100, .int y3, .int v120, .int v121, .int v11])), (o114, .inl (cI, 12, .inl f99))]) (wr := [(o1, .inr (11, [.ref o2, .ref o7, .ref o12, .ref o41, .ref o51, .ref o64, .ref o77, .ref o84, .ref o91, .ref o99, .ref o111, .ref o123, .int v125])), (o7, .inr (10, [.ref o8, .int v10, .int v11])), (o8, .inl (cI, 12, .inl fw9)), (o112, .inl (cI, 256, .inl fw113)), (o116, .inl (cI, 8, .inl fw117))]) (w1 := fun u => [(o111, .inr (0, [.ref o112, .ref o114, .ref o116, .int u.1, .int y3, .int v120, .int v121, .int v11])), (o114, .inl (cI, 12, .inl u.2))]) (wn := fun u => [(o1, .inr (11, [.ref o2, .ref o7, .ref o12, .ref o41, .ref o51, .ref o64, .ref o77, .ref o84, .ref o91, .ref o99, .ref o111, .ref o123, .int v125])), (o111, .inr (0, [.ref o112, .ref o114, .ref o116, .int u.1, .int y3, .int v120, .int v121, .int v11])), (o7, .inr (10, [.ref o8, .int v10, .int v11])), (o8, .inl (cI, 12, .inl fw9)), (o114, .inl (cI, 12, .inl u.2)), (o112, .inl (cI, 256, .inl fw113)), (o116, .inl (cI, 8, .inl fw117))]) (fun hPc hDc => va_runVN (As := [.int x114]) (rest := []) ⟨hx, hb, hml, hown, hts⟩ (kX0_addRow_2 l dC dI cI c2 cZ o111 o112 o114 o116 f99 x100 y3 v120 v121 v11 x114 H.size x100_h y3_h v121_h) ⟨va_cnB 1 hts gX11_bringSeats_X0_addRow_n307 rfl rfl rfl (hN.1 _ ns_123) (hts (.initialized RX0) hm_X11_bringSeats_4) (by decide +kernel) ⟨Nat.le_of_ble_eq_true rfl, Nat.le_of_ble_eq_true rfl⟩, (hts (.instanceMethod yX0_addRow) hm_X11_bringSeats_9), (hts (.selects RX0 yX0_addRow yX0_addRow) hm_X11_bringSeats_10)⟩ (pre_V hPc hK hDc hN (ci := 0) (q0 := 0) rfl rfl) rfl rfl hl.1 rfl (lv_room (Nat.le_of_ble_eq_true rfl)) dX11_bringSeats_80 ⟨Nat.le_of_ble_eq_true rfl, Nat.le_of_ble_eq_true rfl⟩) hP hD hS hA [1, 4] [0, 2, 3, 5, 6] [0, 5, 1, 2, 6, 3, 4] rfl rfl (by decide +kernel) (by decide +kernel) (by decide +kernel) (by decide +kernel) (fun _ => rfl) (fun u H locs hq hP hD hS => ?_)
            obtain ⟨y115, f116⟩ := u
            have y115_h := hq
            have hP : va_P (dC, dI) vwCl ([(o1, .inr (11, [.ref o2, .ref o7, .ref o12, .ref o41, .ref o51, .ref o64, .ref o77, .ref o84, .ref o91, .ref o99, .ref o111, .ref o123, .int v125])), (o111, .inr (0, [.ref o112, .ref o114, .ref o116, .int y115, .int y3, .int v120, .int v121, .int v11])), (o7, .inr (10, [.ref o8, .int v10, .int v11])), (o8, .inl (cI, 12, .inl fw9)), (o114, .inl (cI, 12, .inl f116)), (o112, .inl (cI, 256, .inl fw113)), (o116, .inl (cI, 8, .inl fw117))]) H := hP
            have hD : va_D A ([(o1, .inr (11, [.ref o2, .ref o7, .ref o12, .ref o41, .ref o51, .ref o64, .ref o77, .ref o84, .ref o91, .ref o99, .ref o111, .ref o123, .int v125])), (o111, .inr (0, [.ref o112, .ref o114, .ref o116, .int y115, .int y3, .int v120, .int v121, .int v11])), (o7, .inr (10, [.ref o8, .int v10, .int v11])), (o8, .inl (cI, 12, .inl fw9)), (o114, .inl (cI, 12, .inl f116)), (o112, .inl (cI, 256, .inl fw113)), (o116, .inl (cI, 8, .inl fw117))]) := hD
            obtain ⟨x117, x117_e⟩ : ∃ z : Int32, z = x98 + 1 := ⟨_, rfl⟩
            have x117_h : Iv 1 12 x117 := iv_e x117_e (iv_add j108 ik_1 (by decide))
            refine lv_iinc (v := x117) (lv' := [(1, .int x117), (0, .ref o1)]) hx hb dX11_bringSeats_83 hl (k := 0) rfl (incN (by decide +kernel) x117_e) (by decide) rfl (fun ls hl => ?_)
            refine lv_goto (tgt := 48) hx hb dX11_bringSeats_86 (by decide) ?_
            exact ih1 x117 f116 y115 _ _ _ (ms_up x117_e j108 (by decide) hM1) (iv_w x117_h (by decide)) y115_h hP hD hS hl
    exact L1 _ 0 fw115 y2 _ _ _ (Nat.lt_succ_self _) (iv_w ik_0 (by decide)) y2_h hP hD hS hl
  ·
    rw [hQ]
    exact W.vret hx hb hr (fun t ht hW => ⟨⟨(v118, v119, v120, v121, v122, fw115, fw113, fw117), rfl, ⟨v118_h, v119_h, v121_h⟩, by rw [ht]; exact hP, va_K.moved hW.alike hK, hD⟩, hS.F ht⟩) hS.2.2 dX11_bringSeats_17
theorem iw_X11_seatings_X0 : ∀ w ∈ wsX00, w ∈ wsX11_seatings := fun _ h => List.mem_cons.mpr (Or.inr (List.mem_append.mpr (Or.inl (List.mem_append.mpr (Or.inr h)))))
theorem iw_X11_seatings_X11 : ∀ w ∈ wsX110, w ∈ wsX11_seatings := fun _ h => List.mem_cons.mpr (Or.inr (List.mem_append.mpr (Or.inl (List.mem_append.mpr (Or.inl (List.mem_append.mpr (Or.inr h)))))))
set_option maxHeartbeats 4000000 in
set_option maxRecDepth 100000 in
theorem kX11_seatings_1 (l : Launch) (dC : Nat → ClassId) (dI : Nat → Nat → Nat) (cI c2 cZ : ClassId) (o1 : Nat) (o2 : Nat) (o7 : Nat) (o12 : Nat) (o41 : Nat) (o51 : Nat) (o64 : Nat) (o77 : Nat) (o84 : Nat) (o91 : Nat) (o99 : Nat) (o111 : Nat) (o123 : Nat) (o112 : Nat) (o114 : Nat) (o116 : Nat) (o8 : Nat) (fw9 : Nat → Int32) (v10 : Int32) (v11 : Int32) (fw113 : Nat → Int32) (fw115 : Nat → Int32) (fw117 : Nat → Int32) (v118 : Int32) (v119 : Int32) (v120 : Int32) (v121 : Int32) (v122 : Int32) (v125 : Int32) (sz : Nat) (fw9_b : Bd 12 (-1) 255 fw9) (v10_h : Iv 0 8 v10) (v118_h : Iv 0 12 v118) (v119_h : Iv 0 8 v119) (v121_h : Iv 0 1 v121) : Met l yX11_seatings wsX11_seatings ({ frames := 11, cells := 0, slots := 0, locals := 257 }) (va_Pc [.ref o1] (wPre (dC, dI) [(cI, .int), (c2, .array .int), (cZ, .boolean)] ([(o1, .inr (11, [.ref o2, .ref o7, .ref o12, .ref o41, .ref o51, .ref o64, .ref o77, .ref o84, .ref o91, .ref o99, .ref o111, .ref o123, .int v125])), (o111, .inr (0, [.ref o112, .ref o114, .ref o116, .int v118, .int v119, .int v120, .int v121, .int v122])), (o7, .inr (10, [.ref o8, .int v10, .int v11])), (o8, .inl (cI, 12, .inl fw9)), (o114, .inl (cI, 12, .inl fw115)), (o112, .inl (cI, 256, .inl fw113)), (o116, .inl (cI, 8, .inl fw117))]) sz)) (va_Qi (fun (r : Int32) (u : Int32 × Int32 × Int32 × Int32 × Int32 × (Nat → Int32) × (Nat → Int32) × (Nat → Int32)) => Iv 0 12 u.1 ∧ Iv 0 8 u.2.1 ∧ Iv 0 1 u.2.2.2.1) (fun u t => wPost (dC, dI) [(cI, .int), (c2, .array .int), (cZ, .boolean)] (va_A ([(o1, .inr (11, [.ref o2, .ref o7, .ref o12, .ref o41, .ref o51, .ref o64, .ref o77, .ref o84, .ref o91, .ref o99, .ref o111, .ref o123, .int v125])), (o111, .inr (0, [.ref o112, .ref o114, .ref o116, .int v118, .int v119, .int v120, .int v121, .int v122])), (o7, .inr (10, [.ref o8, .int v10, .int v11])), (o8, .inl (cI, 12, .inl fw9)), (o114, .inl (cI, 12, .inl fw115)), (o112, .inl (cI, 256, .inl fw113)), (o116, .inl (cI, 8, .inl fw117))]) sz) ([(o1, .inr (11, [.ref o2, .ref o7, .ref o12, .ref o41, .ref o51, .ref o64, .ref o77, .ref o84, .ref o91, .ref o99, .ref o111, .ref o123, .int v125])), (o111, .inr (0, [.ref o112, .ref o114, .ref o116, .int u.1, .int u.2.1, .int u.2.2.1, .int u.2.2.2.1, .int u.2.2.2.2.1])), (o7, .inr (10, [.ref o8, .int v10, .int v11])), (o8, .inl (cI, 12, .inl fw9)), (o114, .inl (cI, 12, .inl u.2.2.2.2.2.1)), (o112, .inl (cI, 256, .inl u.2.2.2.2.2.2.1)), (o116, .inl (cI, 8, .inl u.2.2.2.2.2.2.2))]) t) (va_A ([(o1, .inr (11, [.ref o2, .ref o7, .ref o12, .ref o41, .ref o51, .ref o64, .ref o77, .ref o84, .ref o91, .ref o99, .ref o111, .ref o123, .int v125])), (o111, .inr (0, [.ref o112, .ref o114, .ref o116, .int v118, .int v119, .int v120, .int v121, .int v122])), (o7, .inr (10, [.ref o8, .int v10, .int v11])), (o8, .inl (cI, 12, .inl fw9)), (o114, .inl (cI, 12, .inl fw115)), (o112, .inl (cI, 256, .inl fw113)), (o116, .inl (cI, 8, .inl fw117))]) sz)) 0 0 (va_A ([(o1, .inr (11, [.ref o2, .ref o7, .ref o12, .ref o41, .ref o51, .ref o64, .ref o77, .ref o84, .ref o91, .ref o99, .ref o111, .ref o123, .int v125])), (o111, .inr (0, [.ref o112, .ref o114, .ref o116, .int v118, .int v119, .int v120, .int v121, .int v122])), (o7, .inr (10, [.ref o8, .int v10, .int v11])), (o8, .inl (cI, 12, .inl fw9)), (o114, .inl (cI, 12, .inl fw115)), (o112, .inl (cI, 256, .inl fw113)), (o116, .inl (cI, 8, .inl fw117))]) sz) := by
  refine Met.ofW (cc := cX11_seatings) (maxL := 1) (ret := (some .int)) (by decide) rfl ?_
  intro p e s m args below meth c s₁ B hml hv
  obtain ⟨rfl, hsz, hP, hK, hD0, hN⟩ := hv
  have hx := B.exec
  have hb := B.bytes
  have hr := B.returns
  have hts := atoms_spec (ws := wsX11_seatings) B.pre
  have hown : s.vm.findClass RX11 = some m.cls := findClass_of_methodNamed B.named
  have hlocks := B.notSynchronized
  subst hsz
  have hD := hD0.self (sz := s.heap.size)
  generalize hAe : va_A ([(o1, .inr (11, [.ref o2, .ref o7, .ref o12, .ref o41, .ref o51, .ref o64, .ref o77, .ref o84, .ref o91, .ref o99, .ref o111, .ref o123, .int v125])), (o111, .inr (0, [.ref o112, .ref o114, .ref o116, .int v118, .int v119, .int v120, .int v121, .int v122])), (o7, .inr (10, [.ref o8, .int v10, .int v11])), (o8, .inl (cI, 12, .inl fw9)), (o114, .inl (cI, 12, .inl fw115)), (o112, .inl (cI, 256, .inl fw113)), (o116, .inl (cI, 8, .inl fw117))]) s.heap.size = A at hD ⊢
  have hA : ∀ q : Nat, s.heap.size ≤ q → A q := fun q h => by rw [← hAe]; exact Or.inr h
  have hS : va_S A s.heap s.heap [] := va_S.rf
  have hP : va_P (dC, dI) vwCl ([(o1, .inr (11, [.ref o2, .ref o7, .ref o12, .ref o41, .ref o51, .ref o64, .ref o77, .ref o84, .ref o91, .ref o99, .ref o111, .ref o123, .int v125])), (o111, .inr (0, [.ref o112, .ref o114, .ref o116, .int v118, .int v119, .int v120, .int v121, .int v122])), (o7, .inr (10, [.ref o8, .int v10, .int v11])), (o8, .inl (cI, 12, .inl fw9)), (o114, .inl (cI, 12, .inl fw115)), (o112, .inl (cI, 256, .inl fw113)), (o116, .inl (cI, 8, .inl fw117))]) s.heap := hP
  have hl := lv_entry ([.ref o1]) (n := 1) (Nat.le_of_ble_eq_true rfl)
  rw [lg_entry_eq]
  generalize (lg_sl ([.ref o1]) ++ List.replicate (1 - (lg_sl ([.ref o1])).length) Slot.unset).toArray = ls at hl ⊢
  have hl : lv_has ls 1 [(0, .ref o1)] := hl
  refine gen_Q (fun Q hQ => ?_)
  refine lv_aload_n hx hb dX11_seatings_0 rfl (lv_at hl 0 rfl) ?_
  refine kc_v (D := (dC, dI)) (S := Int32 × Int32 × Int32 × Int32 × Int32 × (Nat → Int32) × (Nat → Int32) × (Nat → Int32)) (wc := [(o1, .inr (11, [.ref o2, .ref o7, .ref o12, .ref o41, .ref o51, .ref o64, .ref o77, .ref o84, .ref o91, .ref o99, .ref o111, .ref o123, .int v125])), (o111, .inr (0, [.ref o112, .ref o114, .ref o116, .int v118, .int v119, .int v120, .int v121, .int v122])), (o7, .inr (10, [.ref o8, .int v10, .int v11])), (o8, .inl (cI, 12, .inl fw9)), (o114, .inl (cI, 12, .inl fw115)), (o112, .inl (cI, 256, .inl fw113)), (o116, .inl (cI, 8, .inl fw117))]) (wr := []) (w1 := fun u => [(o1, .inr (11, [.ref o2, .ref o7, .ref o12, .ref o41, .ref o51, .ref o64, .ref o77, .ref o84, .ref o91, .ref o99, .ref o111, .ref o123, .int v125])), (o111, .inr (0, [.ref o112, .ref o114, .ref o116, .int u.1, .int u.2.1, .int u.2.2.1, .int u.2.2.2.1, .int u.2.2.2.2.1])), (o7, .inr (10, [.ref o8, .int v10, .int v11])), (o8, .inl (cI, 12, .inl fw9)), (o114, .inl (cI, 12, .inl u.2.2.2.2.2.1)), (o112, .inl (cI, 256, .inl u.2.2.2.2.2.2.1)), (o116, .inl (cI, 8, .inl u.2.2.2.2.2.2.2))]) (wn := fun u => [(o1, .inr (11, [.ref o2, .ref o7, .ref o12, .ref o41, .ref o51, .ref o64, .ref o77, .ref o84, .ref o91, .ref o99, .ref o111, .ref o123, .int v125])), (o111, .inr (0, [.ref o112, .ref o114, .ref o116, .int u.1, .int u.2.1, .int u.2.2.1, .int u.2.2.2.1, .int u.2.2.2.2.1])), (o7, .inr (10, [.ref o8, .int v10, .int v11])), (o8, .inl (cI, 12, .inl fw9)), (o114, .inl (cI, 12, .inl u.2.2.2.2.2.1)), (o112, .inl (cI, 256, .inl u.2.2.2.2.2.2.1)), (o116, .inl (cI, 8, .inl u.2.2.2.2.2.2.2))]) (fun hPc hDc => va_runV (As := []) (rest := []) ⟨hx, hb, hml, hown, hts⟩ (kX11_bringSeats_1 l dC dI cI c2 cZ o1 o2 o7 o12 o41 o51 o64 o77 o84 o91 o99 o111 o123 o112 o114 o116 o8 fw9 v10 v11 fw113 fw115 fw117 v118 v119 v120 v121 v122 v125 s.heap.size fw9_b v10_h v118_h v119_h v121_h) (cwV 0 hts gX11_seatings_X11_bringSeats rfl rfl rfl (by decide +kernel) ⟨Nat.le_of_ble_eq_true rfl, Nat.le_of_ble_eq_true rfl⟩) (pre_V hPc hK hDc hN (ci := 11) (q0 := 0) rfl rfl) rfl rfl hl.1 rfl (lv_room (Nat.le_of_ble_eq_true rfl)) dX11_seatings_1 ⟨Nat.le_of_ble_eq_true rfl, Nat.le_of_ble_eq_true rfl⟩) hP hD hS hA [0, 1, 2, 3, 4, 5, 6] [] [0, 1, 2, 3, 4, 5, 6] rfl rfl (by decide +kernel) (by decide +kernel) (by decide +kernel) (by decide +kernel) (fun _ => rfl) (fun u H locs hq hP hD hS => ?_)
  obtain ⟨y1, y2, y3, y4, y5, f6, f7, f8⟩ := u
  obtain ⟨y1_h, y2_h, y4_h⟩ := hq
  have hP : va_P (dC, dI) vwCl ([(o1, .inr (11, [.ref o2, .ref o7, .ref o12, .ref o41, .ref o51, .ref o64, .ref o77, .ref o84, .ref o91, .ref o99, .ref o111, .ref o123, .int v125])), (o111, .inr (0, [.ref o112, .ref o114, .ref o116, .int y1, .int y2, .int y3, .int y4, .int y5])), (o7, .inr (10, [.ref o8, .int v10, .int v11])), (o8, .inl (cI, 12, .inl fw9)), (o114, .inl (cI, 12, .inl f6)), (o112, .inl (cI, 256, .inl f7)), (o116, .inl (cI, 8, .inl f8))]) H := hP
  have hD : va_D A ([(o1, .inr (11, [.ref o2, .ref o7, .ref o12, .ref o41, .ref o51, .ref o64, .ref o77, .ref o84, .ref o91, .ref o99, .ref o111, .ref o123, .int v125])), (o111, .inr (0, [.ref o112, .ref o114, .ref o116, .int y1, .int y2, .int y3, .int y4, .int y5])), (o7, .inr (10, [.ref o8, .int v10, .int v11])), (o8, .inl (cI, 12, .inl fw9)), (o114, .inl (cI, 12, .inl f6)), (o112, .inl (cI, 256, .inl f7)), (o116, .inl (cI, 8, .inl f8))]) := hD
  refine lv_aload_n hx hb dX11_seatings_4 rfl (lv_at hl 0 rfl) ?_
  refine va_get (D := (dC, dI)) (ci := 11) (v := .ref o111) (C := RX11) (T := TX11) (N := 13) hx hb hts iw_X11_seatings_X11 hown hK hP 0 rfl rfl 10 (by decide) (hts (.fieldLink RX11 79 "HolelessHouse" "seats" "LHolelessHouse$Benches;") hm_X11_seatings_1) (fun _ h9 => h9) rfl dX11_seatings_5 ?_
  refine va_getN (D := (dC, dI)) (ci := 0) (v := .int y3) (C := RX0) (T := TX0) (N := 8) hx hb hts iw_X11_seatings_X0 hown hK hP 1 rfl rfl 5 (by decide) (hN.use ns_45) (fun _ h9 => h9) rfl dX11_seatings_8 ?_
  rw [hQ]
  exact W.iret (v := y3) hx hb hr (fun t ht hW => ⟨⟨y3, (y1, y2, y3, y4, y5, f6, f7, f8), rfl, ⟨y1_h, y2_h, y4_h⟩, by rw [ht]; exact hP, va_K.moved hW.alike hK, hD⟩, hS.F ht⟩) hS.2.2 dX11_seatings_11
theorem iw_X11_seat_X0 : ∀ w ∈ wsX00, w ∈ wsX11_seat := fun _ h => List.mem_cons.mpr (Or.inr (List.mem_append.mpr (Or.inl (List.mem_append.mpr (Or.inr h)))))
theorem iw_X11_seat_X11 : ∀ w ∈ wsX110, w ∈ wsX11_seat := fun _ h => List.mem_cons.mpr (Or.inr (List.mem_append.mpr (Or.inl (List.mem_append.mpr (Or.inl (List.mem_append.mpr (Or.inr h)))))))
set_option maxHeartbeats 4000000 in
set_option maxRecDepth 100000 in
theorem kX11_seat_1 (l : Launch) (dC : Nat → ClassId) (dI : Nat → Nat → Nat) (cI c2 cZ : ClassId) (o1 : Nat) (o2 : Nat) (o7 : Nat) (o12 : Nat) (o41 : Nat) (o51 : Nat) (o64 : Nat) (o77 : Nat) (o84 : Nat) (o91 : Nat) (o99 : Nat) (o111 : Nat) (o123 : Nat) (o112 : Nat) (o114 : Nat) (o116 : Nat) (o8 : Nat) (fw9 : Nat → Int32) (v10 : Int32) (v11 : Int32) (fw113 : Nat → Int32) (fw115 : Nat → Int32) (fw117 : Nat → Int32) (v118 : Int32) (v119 : Int32) (v120 : Int32) (v121 : Int32) (v122 : Int32) (v125 : Int32) (a1 : Int32) (sz : Nat) (fw9_b : Bd 12 (-1) 255 fw9) (v10_h : Iv 0 8 v10) (v118_h : Iv 0 12 v118) (v119_h : Iv 0 8 v119) (v121_h : Iv 0 1 v121) : Met l yX11_seat wsX11_seat ({ frames := 11, cells := 0, slots := 0, locals := 257 }) (va_Pc [.ref o1, .int a1] (wPre (dC, dI) [(cI, .int), (c2, .array .int), (cZ, .boolean)] ([(o1, .inr (11, [.ref o2, .ref o7, .ref o12, .ref o41, .ref o51, .ref o64, .ref o77, .ref o84, .ref o91, .ref o99, .ref o111, .ref o123, .int v125])), (o111, .inr (0, [.ref o112, .ref o114, .ref o116, .int v118, .int v119, .int v120, .int v121, .int v122])), (o7, .inr (10, [.ref o8, .int v10, .int v11])), (o8, .inl (cI, 12, .inl fw9)), (o114, .inl (cI, 12, .inl fw115)), (o112, .inl (cI, 256, .inl fw113)), (o116, .inl (cI, 8, .inl fw117))]) sz)) (va_Qi (fun (r : Int32) (u : Int32 × Int32 × Int32 × Int32 × Int32 × (Nat → Int32) × (Nat → Int32) × (Nat → Int32)) => Iv 0 12 u.1 ∧ Iv 0 8 u.2.1 ∧ Iv 0 1 u.2.2.2.1) (fun u t => wPost (dC, dI) [(cI, .int), (c2, .array .int), (cZ, .boolean)] (va_A ([(o1, .inr (11, [.ref o2, .ref o7, .ref o12, .ref o41, .ref o51, .ref o64, .ref o77, .ref o84, .ref o91, .ref o99, .ref o111, .ref o123, .int v125])), (o111, .inr (0, [.ref o112, .ref o114, .ref o116, .int v118, .int v119, .int v120, .int v121, .int v122])), (o7, .inr (10, [.ref o8, .int v10, .int v11])), (o8, .inl (cI, 12, .inl fw9)), (o114, .inl (cI, 12, .inl fw115)), (o112, .inl (cI, 256, .inl fw113)), (o116, .inl (cI, 8, .inl fw117))]) sz) ([(o1, .inr (11, [.ref o2, .ref o7, .ref o12, .ref o41, .ref o51, .ref o64, .ref o77, .ref o84, .ref o91, .ref o99, .ref o111, .ref o123, .int v125])), (o111, .inr (0, [.ref o112, .ref o114, .ref o116, .int u.1, .int u.2.1, .int u.2.2.1, .int u.2.2.2.1, .int u.2.2.2.2.1])), (o7, .inr (10, [.ref o8, .int v10, .int v11])), (o8, .inl (cI, 12, .inl fw9)), (o114, .inl (cI, 12, .inl u.2.2.2.2.2.1)), (o112, .inl (cI, 256, .inl u.2.2.2.2.2.2.1)), (o116, .inl (cI, 8, .inl u.2.2.2.2.2.2.2))]) t) (va_A ([(o1, .inr (11, [.ref o2, .ref o7, .ref o12, .ref o41, .ref o51, .ref o64, .ref o77, .ref o84, .ref o91, .ref o99, .ref o111, .ref o123, .int v125])), (o111, .inr (0, [.ref o112, .ref o114, .ref o116, .int v118, .int v119, .int v120, .int v121, .int v122])), (o7, .inr (10, [.ref o8, .int v10, .int v11])), (o8, .inl (cI, 12, .inl fw9)), (o114, .inl (cI, 12, .inl fw115)), (o112, .inl (cI, 256, .inl fw113)), (o116, .inl (cI, 8, .inl fw117))]) sz)) 0 0 (va_A ([(o1, .inr (11, [.ref o2, .ref o7, .ref o12, .ref o41, .ref o51, .ref o64, .ref o77, .ref o84, .ref o91, .ref o99, .ref o111, .ref o123, .int v125])), (o111, .inr (0, [.ref o112, .ref o114, .ref o116, .int v118, .int v119, .int v120, .int v121, .int v122])), (o7, .inr (10, [.ref o8, .int v10, .int v11])), (o8, .inl (cI, 12, .inl fw9)), (o114, .inl (cI, 12, .inl fw115)), (o112, .inl (cI, 256, .inl fw113)), (o116, .inl (cI, 8, .inl fw117))]) sz) := by
  refine Met.ofW (cc := cX11_seat) (maxL := 2) (ret := (some .int)) (by decide) rfl ?_
  intro p e s m args below meth c s₁ B hml hv
  obtain ⟨rfl, hsz, hP, hK, hD0, hN⟩ := hv
  have hx := B.exec
  have hb := B.bytes
  have hr := B.returns
  have hts := atoms_spec (ws := wsX11_seat) B.pre
  have hown : s.vm.findClass RX11 = some m.cls := findClass_of_methodNamed B.named
  have hlocks := B.notSynchronized
  subst hsz
  have hD := hD0.self (sz := s.heap.size)
  generalize hAe : va_A ([(o1, .inr (11, [.ref o2, .ref o7, .ref o12, .ref o41, .ref o51, .ref o64, .ref o77, .ref o84, .ref o91, .ref o99, .ref o111, .ref o123, .int v125])), (o111, .inr (0, [.ref o112, .ref o114, .ref o116, .int v118, .int v119, .int v120, .int v121, .int v122])), (o7, .inr (10, [.ref o8, .int v10, .int v11])), (o8, .inl (cI, 12, .inl fw9)), (o114, .inl (cI, 12, .inl fw115)), (o112, .inl (cI, 256, .inl fw113)), (o116, .inl (cI, 8, .inl fw117))]) s.heap.size = A at hD ⊢
  have hA : ∀ q : Nat, s.heap.size ≤ q → A q := fun q h => by rw [← hAe]; exact Or.inr h
  have hS : va_S A s.heap s.heap [] := va_S.rf
  have hP : va_P (dC, dI) vwCl ([(o1, .inr (11, [.ref o2, .ref o7, .ref o12, .ref o41, .ref o51, .ref o64, .ref o77, .ref o84, .ref o91, .ref o99, .ref o111, .ref o123, .int v125])), (o111, .inr (0, [.ref o112, .ref o114, .ref o116, .int v118, .int v119, .int v120, .int v121, .int v122])), (o7, .inr (10, [.ref o8, .int v10, .int v11])), (o8, .inl (cI, 12, .inl fw9)), (o114, .inl (cI, 12, .inl fw115)), (o112, .inl (cI, 256, .inl fw113)), (o116, .inl (cI, 8, .inl fw117))]) s.heap := hP
  have hl := lv_entry ([.ref o1, .int a1]) (n := 2) (Nat.le_of_ble_eq_true rfl)
  rw [lg_entry_eq]
  generalize (lg_sl ([.ref o1, .int a1]) ++ List.replicate (2 - (lg_sl ([.ref o1, .int a1])).length) Slot.unset).toArray = ls at hl ⊢
  have hl : lv_has ls 2 [(0, .ref o1), (1, .int a1)] := hl
  refine gen_Q (fun Q hQ => ?_)
  refine lv_aload_n hx hb dX11_seat_0 rfl (lv_at hl 0 rfl) ?_
  refine kc_v (D := (dC, dI)) (S := Int32 × Int32 × Int32 × Int32 × Int32 × (Nat → Int32) × (Nat → Int32) × (Nat → Int32)) (wc := [(o1, .inr (11, [.ref o2, .ref o7, .ref o12, .ref o41, .ref o51, .ref o64, .ref o77, .ref o84, .ref o91, .ref o99, .ref o111, .ref o123, .int v125])), (o111, .inr (0, [.ref o112, .ref o114, .ref o116, .int v118, .int v119, .int v120, .int v121, .int v122])), (o7, .inr (10, [.ref o8, .int v10, .int v11])), (o8, .inl (cI, 12, .inl fw9)), (o114, .inl (cI, 12, .inl fw115)), (o112, .inl (cI, 256, .inl fw113)), (o116, .inl (cI, 8, .inl fw117))]) (wr := []) (w1 := fun u => [(o1, .inr (11, [.ref o2, .ref o7, .ref o12, .ref o41, .ref o51, .ref o64, .ref o77, .ref o84, .ref o91, .ref o99, .ref o111, .ref o123, .int v125])), (o111, .inr (0, [.ref o112, .ref o114, .ref o116, .int u.1, .int u.2.1, .int u.2.2.1, .int u.2.2.2.1, .int u.2.2.2.2.1])), (o7, .inr (10, [.ref o8, .int v10, .int v11])), (o8, .inl (cI, 12, .inl fw9)), (o114, .inl (cI, 12, .inl u.2.2.2.2.2.1)), (o112, .inl (cI, 256, .inl u.2.2.2.2.2.2.1)), (o116, .inl (cI, 8, .inl u.2.2.2.2.2.2.2))]) (wn := fun u => [(o1, .inr (11, [.ref o2, .ref o7, .ref o12, .ref o41, .ref o51, .ref o64, .ref o77, .ref o84, .ref o91, .ref o99, .ref o111, .ref o123, .int v125])), (o111, .inr (0, [.ref o112, .ref o114, .ref o116, .int u.1, .int u.2.1, .int u.2.2.1, .int u.2.2.2.1, .int u.2.2.2.2.1])), (o7, .inr (10, [.ref o8, .int v10, .int v11])), (o8, .inl (cI, 12, .inl fw9)), (o114, .inl (cI, 12, .inl u.2.2.2.2.2.1)), (o112, .inl (cI, 256, .inl u.2.2.2.2.2.2.1)), (o116, .inl (cI, 8, .inl u.2.2.2.2.2.2.2))]) (fun hPc hDc => va_runV (As := []) (rest := []) ⟨hx, hb, hml, hown, hts⟩ (kX11_bringSeats_1 l dC dI cI c2 cZ o1 o2 o7 o12 o41 o51 o64 o77 o84 o91 o99 o111 o123 o112 o114 o116 o8 fw9 v10 v11 fw113 fw115 fw117 v118 v119 v120 v121 v122 v125 s.heap.size fw9_b v10_h v118_h v119_h v121_h) (cwV 0 hts gX11_seat_X11_bringSeats rfl rfl rfl (by decide +kernel) ⟨Nat.le_of_ble_eq_true rfl, Nat.le_of_ble_eq_true rfl⟩) (pre_V hPc hK hDc hN (ci := 11) (q0 := 0) rfl rfl) rfl rfl hl.1 rfl (lv_room (Nat.le_of_ble_eq_true rfl)) dX11_seat_1 ⟨Nat.le_of_ble_eq_true rfl, Nat.le_of_ble_eq_true rfl⟩) hP hD hS hA [0, 1, 2, 3, 4, 5, 6] [] [0, 1, 2, 3, 4, 5, 6] rfl rfl (by decide +kernel) (by decide +kernel) (by decide +kernel) (by decide +kernel) (fun _ => rfl) (fun u H locs hq hP hD hS => ?_)
  obtain ⟨y1, y2, y3, y4, y5, f6, f7, f8⟩ := u
  obtain ⟨y1_h, y2_h, y4_h⟩ := hq
  have hP : va_P (dC, dI) vwCl ([(o1, .inr (11, [.ref o2, .ref o7, .ref o12, .ref o41, .ref o51, .ref o64, .ref o77, .ref o84, .ref o91, .ref o99, .ref o111, .ref o123, .int v125])), (o111, .inr (0, [.ref o112, .ref o114, .ref o116, .int y1, .int y2, .int y3, .int y4, .int y5])), (o7, .inr (10, [.ref o8, .int v10, .int v11])), (o8, .inl (cI, 12, .inl fw9)), (o114, .inl (cI, 12, .inl f6)), (o112, .inl (cI, 256, .inl f7)), (o116, .inl (cI, 8, .inl f8))]) H := hP
  have hD : va_D A ([(o1, .inr (11, [.ref o2, .ref o7, .ref o12, .ref o41, .ref o51, .ref o64, .ref o77, .ref o84, .ref o91, .ref o99, .ref o111, .ref o123, .int v125])), (o111, .inr (0, [.ref o112, .ref o114, .ref o116, .int y1, .int y2, .int y3, .int y4, .int y5])), (o7, .inr (10, [.ref o8, .int v10, .int v11])), (o8, .inl (cI, 12, .inl fw9)), (o114, .inl (cI, 12, .inl f6)), (o112, .inl (cI, 256, .inl f7)), (o116, .inl (cI, 8, .inl f8))]) := hD
  refine lv_aload_n hx hb dX11_seat_4 rfl (lv_at hl 0 rfl) ?_
  refine va_get (D := (dC, dI)) (ci := 11) (v := .ref o111) (C := RX11) (T := TX11) (N := 13) hx hb hts iw_X11_seat_X11 hown hK hP 0 rfl rfl 10 (by decide) (hts (.fieldLink RX11 79 "HolelessHouse" "seats" "LHolelessHouse$Benches;") hm_X11_seat_1) (fun _ h9 => h9) rfl dX11_seat_5 ?_
  refine va_getN (D := (dC, dI)) (ci := 0) (v := .int y4) (C := RX0) (T := TX0) (N := 8) hx hb hts iw_X11_seat_X0 hown hK hP 1 rfl rfl 6 (by decide) (hN.use ns_46) (fun _ h9 => h9) rfl dX11_seat_8 ?_
  refine lv_if_eq (tgt := 41) hx hb dX11_seat_11 (by decide) (fun h9 => ?_) (fun h9 => ?_)
  ·
    have j10 : Iv 0 0 y4 := r_eq h9 ik_0
    refine lv_bipush (v := (-9)) hx hb dX11_seat_41 (by decide) ?_
    rw [hQ]
    exact W.iret (v := (-9)) hx hb hr (fun t ht hW => ⟨⟨(-9), (y1, y2, y3, y4, y5, f6, f7, f8), rfl, ⟨y1_h, y2_h, (iv_w j10 (by decide))⟩, by rw [ht]; exact hP, va_K.moved hW.alike hK, hD⟩, hS.F ht⟩) hS.2.2 dX11_seat_43
  ·
    have j11 : Iv 1 1 y4 := r_nelo h9 y4_h ik_0 (by decide)
    refine lv_iload_n hx hb dX11_seat_14 rfl (lv_at hl 1 rfl) ?_
    refine lv_if_lt (tgt := 41) hx hb dX11_seat_15 (by decide) (fun h12 => ?_) (fun h12 => ?_)
    ·
      have qh12 := lt_i h12
      have j13 : Iv (-2147483648) (-1) a1 := r_ltl qh12 (iv_full a1) ik_0 (by decide)
      refine lv_bipush (v := (-9)) hx hb dX11_seat_41 (by decide) ?_
      rw [hQ]
      exact W.iret (v := (-9)) hx hb hr (fun t ht hW => ⟨⟨(-9), (y1, y2, y3, y4, y5, f6, f7, f8), rfl, ⟨y1_h, y2_h, (iv_w j11 (by decide))⟩, by rw [ht]; exact hP, va_K.moved hW.alike hK, hD⟩, hS.F ht⟩) hS.2.2 dX11_seat_43
    ·
      have qh12 := nlt_i h12
      have j14 : Iv 0 2147483647 a1 := r_ler qh12 ik_0 (iv_full a1) (by decide)
      refine lv_iload_n hx hb dX11_seat_18 rfl (lv_at hl 1 rfl) ?_
      refine lv_aload_n hx hb dX11_seat_19 rfl (lv_at hl 0 rfl) ?_
      refine va_get (D := (dC, dI)) (ci := 11) (v := .ref o111) (C := RX11) (T := TX11) (N := 13) hx hb hts iw_X11_seat_X11 hown hK hP 0 rfl rfl 10 (by decide) (hts (.fieldLink RX11 79 "HolelessHouse" "seats" "LHolelessHouse$Benches;") hm_X11_seat_1) (fun _ h9 => h9) rfl dX11_seat_20 ?_
      refine va_getN (D := (dC, dI)) (ci := 0) (v := .int y2) (C := RX0) (T := TX0) (N := 8) hx hb hts iw_X11_seat_X0 hown hK hP 1 rfl rfl 4 (by decide) (hN.use ns_44) (fun _ h9 => h9) rfl dX11_seat_23 ?_
      refine lv_icmp_ge (tgt := 41) hx hb dX11_seat_26 (by decide) (fun h15 => ?_) (fun h15 => ?_)
      ·
        have qh15 := le_i h15
        refine lv_bipush (v := (-9)) hx hb dX11_seat_41 (by decide) ?_
        rw [hQ]
        exact W.iret (v := (-9)) hx hb hr (fun t ht hW => ⟨⟨(-9), (y1, y2, y3, y4, y5, f6, f7, f8), rfl, ⟨y1_h, y2_h, (iv_w j11 (by decide))⟩, by rw [ht]; exact hP, va_K.moved hW.alike hK, hD⟩, hS.F ht⟩) hS.2.2 dX11_seat_43
      ·
        have qh15 := nle_i h15
        have j16 : Iv 0 7 a1 := r_ltl qh15 j14 y2_h (by decide)
        have j17 : Iv 1 8 y2 := r_ltr qh15 j14 y2_h (by decide)
        refine lv_aload_n hx hb dX11_seat_29 rfl (lv_at hl 0 rfl) ?_
        refine va_get (D := (dC, dI)) (ci := 11) (v := .ref o111) (C := RX11) (T := TX11) (N := 13) hx hb hts iw_X11_seat_X11 hown hK hP 0 rfl rfl 10 (by decide) (hts (.fieldLink RX11 79 "HolelessHouse" "seats" "LHolelessHouse$Benches;") hm_X11_seat_1) (fun _ h9 => h9) rfl dX11_seat_30 ?_
        refine va_getN (D := (dC, dI)) (ci := 0) (v := .ref o116) (C := RX0) (T := TX0) (N := 8) hx hb hts iw_X11_seat_X0 hown hK hP 1 rfl rfl 2 (by decide) (hN.use ns_43) (fun _ h9 => h9) rfl dX11_seat_33 ?_
        refine lv_iload_n hx hb dX11_seat_36 rfl (lv_at hl 1 rfl) ?_
        refine va_iald hx hb hK hP 6 0 rfl rfl (vin_iv j16 (by decide)) dX11_seat_37 (lv_topi (fun x18 x18_e => ?_))
        refine lv_goto (tgt := 43) hx hb dX11_seat_38 (by decide) ?_
        rw [hQ]
        exact W.iret (v := x18) hx hb hr (fun t ht hW => ⟨⟨x18, (y1, y2, y3, y4, y5, f6, f7, f8), rfl, ⟨y1_h, (iv_w j17 (by decide)), (iv_w j11 (by decide))⟩, by rw [ht]; exact hP, va_K.moved hW.alike hK, hD⟩, hS.F ht⟩) hS.2.2 dX11_seat_43
theorem iw_X10_present_X10 : ∀ w ∈ wsX100, w ∈ wsX10_present := fun _ h => List.mem_cons.mpr (Or.inr (List.mem_append.mpr (Or.inr h)))
set_option maxHeartbeats 4000000 in
set_option maxRecDepth 100000 in
theorem kX10_present_1 (l : Launch) (dC : Nat → ClassId) (dI : Nat → Nat → Nat) (cI c2 cZ : ClassId) (o1 : Nat) (o2 : Nat) (fw3 : Nat → Int32) (v4 : Int32) (v5 : Int32) (sz : Nat) (fw3_b : Bd 12 (-1) 255 fw3) (v4_h : Iv 0 8 v4) : Met l yX10_present wsX10_present ({ frames := 0, cells := 0, slots := 0, locals := 0 }) (va_Pc [.ref o1] (wPre (dC, dI) [(cI, .int), (c2, .array .int), (cZ, .boolean)] ([(o1, .inr (10, [.ref o2, .int v4, .int v5])), (o2, .inl (cI, 12, .inl fw3))]) sz)) (va_Qi (fun (r : Int32) (_ : Unit) => True) (fun _ t => wPost (dC, dI) [(cI, .int), (c2, .array .int), (cZ, .boolean)] (va_A ([(o1, .inr (10, [.ref o2, .int v4, .int v5])), (o2, .inl (cI, 12, .inl fw3))]) sz) ([(o1, .inr (10, [.ref o2, .int v4, .int v5])), (o2, .inl (cI, 12, .inl fw3))]) t) (va_A ([(o1, .inr (10, [.ref o2, .int v4, .int v5])), (o2, .inl (cI, 12, .inl fw3))]) sz)) 0 0 (va_A ([(o1, .inr (10, [.ref o2, .int v4, .int v5])), (o2, .inl (cI, 12, .inl fw3))]) sz) := by
  refine Met.ofW (cc := cX10_present) (maxL := 3) (ret := (some .int)) (by decide) rfl ?_
  intro p e s m args below meth c s₁ B hml hv
  obtain ⟨rfl, hsz, hP, hK, hD0, hN⟩ := hv
  have hx := B.exec
  have hb := B.bytes
  have hr := B.returns
  have hts := atoms_spec (ws := wsX10_present) B.pre
  have hown : s.vm.findClass RX10 = some m.cls := findClass_of_methodNamed B.named
  have hlocks := B.notSynchronized
  subst hsz
  have hD := hD0.self (sz := s.heap.size)
  generalize hAe : va_A ([(o1, .inr (10, [.ref o2, .int v4, .int v5])), (o2, .inl (cI, 12, .inl fw3))]) s.heap.size = A at hD ⊢
  have hA : ∀ q : Nat, s.heap.size ≤ q → A q := fun q h => by rw [← hAe]; exact Or.inr h
  have hS : va_S A s.heap s.heap [] := va_S.rf
  have hP : va_P (dC, dI) vwCl ([(o1, .inr (10, [.ref o2, .int v4, .int v5])), (o2, .inl (cI, 12, .inl fw3))]) s.heap := hP
  have hl := lv_entry ([.ref o1]) (n := 3) (Nat.le_of_ble_eq_true rfl)
  rw [lg_entry_eq]
  generalize (lg_sl ([.ref o1]) ++ List.replicate (3 - (lg_sl ([.ref o1])).length) Slot.unset).toArray = ls at hl ⊢
  have hl : lv_has ls 3 [(0, .ref o1)] := hl
  refine gen_Q (fun Q hQ => ?_)
  refine lv_iconst (v := 0) hx hb dX10_present_0 (by decide) ?_
  refine lv_istore_n (lv' := [(1, .int 0), (0, .ref o1)]) hx hb dX10_present_1 rfl hl (by decide) rfl (fun ls hl => ?_)
  refine lv_iconst (v := 0) hx hb dX10_present_2 (by decide) ?_
  refine lv_istore_n (lv' := [(2, .int 0), (1, .int 0), (0, .ref o1)]) hx hb dX10_present_3 rfl hl (by decide) rfl (fun ls hl => ?_)
  have L1 : ∀ (N : Nat) (x275 : Int32) (x276 : Int32) (H : Heap) (locs : List Loc) (ls : Array Slot), (12 - x275.toInt).toNat < N → Iv 0 12 x275 → va_P (dC, dI) vwCl ([(o1, .inr (10, [.ref o2, .int v4, .int v5])), (o2, .inl (cI, 12, .inl fw3))]) H → va_D A ([(o1, .inr (10, [.ref o2, .int v4, .int v5])), (o2, .inl (cI, 12, .inl fw3))]) → va_S A s.heap H locs → lv_has ls 3 [(2, .int x275), (1, .int x276), (0, .ref o1)] → W p l e ({ frames := 0, cells := 0, slots := 0, locals := 0 }) s m ([.ref o1] : List Value).toArray below meth c H locs 0 0 Q (F0 m 4 ls []) := by
    intro N
    induction N with
    | zero =>
      intro x275 x276 H locs ls hM
      exact absurd hM (Nat.not_lt_zero _)
    | succ N ih1 =>
      intro x275 x276 H locs ls hM1 x275_h hP hD hS hl
      refine lv_iload_n hx hb dX10_present_4 rfl (lv_at hl 0 rfl) ?_
      refine lv_bipush (v := 12) hx hb dX10_present_5 (by decide) ?_
      refine lv_icmp_ge (tgt := 29) hx hb dX10_present_7 (by decide) (fun h277 => ?_) (fun h277 => ?_)
      ·
        have qh277 := le_i h277
        have j278 : Iv 12 12 x275 := r_ler qh277 ik_12 x275_h (by decide)
        refine lv_iload_n hx hb dX10_present_29 rfl (lv_at hl 1 rfl) ?_
        rw [hQ]
        exact W.iret (v := x276) hx hb hr (fun t ht hW => ⟨⟨x276, (), rfl, trivial, by rw [ht]; exact hP, va_K.moved hW.alike hK, hD⟩, hS.F ht⟩) hS.2.2 dX10_present_30
      ·
        have qh277 := nle_i h277
        have j279 : Iv 0 11 x275 := r_ltl qh277 x275_h ik_12 (by decide)
        refine lv_aload_n hx hb dX10_present_10 rfl (lv_at hl 2 rfl) ?_
        refine va_get (D := (dC, dI)) (ci := 10) (v := .ref o2) (C := RX10) (T := TX10) (N := 3) hx hb hts iw_X10_present_X10 hown hK hP 0 rfl rfl 0 (by decide) (hts (.fieldLink RX10 9 "HolelessHouse$Table" "rows" "[I") hm_X10_present_1) (fun _ h9 => h9) rfl dX10_present_11 ?_
        refine lv_iload_n hx hb dX10_present_14 rfl (lv_at hl 0 rfl) ?_
        refine va_iald hx hb hK hP 1 0 rfl rfl (vin_iv j279 (by decide)) dX10_present_15 (lv_topi (fun x280 x280_e => ?_))
        have x280_h : Iv (-1) 255 x280 := iv_e x280_e (bd_at fw3_b (vin_iv j279 (by decide)))
        refine lv_iconst (v := (-1)) hx hb dX10_present_16 (by decide) ?_
        refine lv_icmp_eq (tgt := 23) hx hb dX10_present_17 (by decide) (fun h281 => ?_) (fun h281 => ?_)
        ·
          have j282 : Iv (-1) (-1) x280 := r_eq h281 ikm_1
          obtain ⟨x283, x283_e⟩ : ∃ z : Int32, z = x275 + 1 := ⟨_, rfl⟩
          have x283_h : Iv 1 12 x283 := iv_e x283_e (iv_add j279 ik_1 (by decide))
          refine lv_iinc (v := x283) (lv' := [(2, .int x283), (1, .int x276), (0, .ref o1)]) hx hb dX10_present_23 hl (k := 0) rfl (incN (by decide +kernel) x283_e) (by decide) rfl (fun ls hl => ?_)
          refine lv_goto (tgt := 4) hx hb dX10_present_26 (by decide) ?_
          exact ih1 x283 x276 _ _ _ (ms_up x283_e j279 (by decide) hM1) (iv_w x283_h (by decide)) hP hD hS hl
        ·
          have j284 : Iv 0 255 x280 := r_nelo h281 x280_h ikm_1 (by decide)
          obtain ⟨x285, x285_e⟩ : ∃ z : Int32, z = x276 + 1 := ⟨_, rfl⟩
          refine lv_iinc (v := x285) (lv' := [(1, .int x285), (2, .int x275), (0, .ref o1)]) hx hb dX10_present_20 hl (k := 1) rfl (incN (by decide +kernel) x285_e) (by decide) rfl (fun ls hl => ?_)
          obtain ⟨x286, x286_e⟩ : ∃ z : Int32, z = x275 + 1 := ⟨_, rfl⟩
          have x286_h : Iv 1 12 x286 := iv_e x286_e (iv_add j279 ik_1 (by decide))
          refine lv_iinc (v := x286) (lv' := [(2, .int x286), (1, .int x285), (0, .ref o1)]) hx hb dX10_present_23 hl (k := 1) rfl (incN (by decide +kernel) x286_e) (by decide) rfl (fun ls hl => ?_)
          refine lv_goto (tgt := 4) hx hb dX10_present_26 (by decide) ?_
          exact ih1 x286 x285 _ _ _ (ms_up x286_e j279 (by decide) hM1) (iv_w x286_h (by decide)) hP hD hS hl
  exact L1 _ 0 0 _ _ _ (Nat.lt_succ_self _) (iv_w ik_0 (by decide)) hP hD hS hl
theorem iw_X11_count_X10 : ∀ w ∈ wsX100, w ∈ wsX11_count := fun _ h => List.mem_cons.mpr (Or.inr (List.mem_append.mpr (Or.inl (List.mem_append.mpr (Or.inr h)))))
theorem iw_X11_count_X11 : ∀ w ∈ wsX110, w ∈ wsX11_count := fun _ h => List.mem_cons.mpr (Or.inr (List.mem_append.mpr (Or.inl (List.mem_append.mpr (Or.inl (List.mem_append.mpr (Or.inl (List.mem_append.mpr (Or.inr h)))))))))
theorem iw_X11_count_X4 : ∀ w ∈ wsX40, w ∈ wsX11_count := fun _ h => List.mem_cons.mpr (Or.inr (List.mem_append.mpr (Or.inl (List.mem_append.mpr (Or.inl (List.mem_append.mpr (Or.inr h)))))))
theorem iw_X11_count_X6 : ∀ w ∈ wsX60, w ∈ wsX11_count := fun _ h => List.mem_cons.mpr (Or.inr (List.mem_append.mpr (Or.inr h)))
set_option maxHeartbeats 4000000 in
set_option maxRecDepth 100000 in
theorem kX11_count_1 (l : Launch) (dC : Nat → ClassId) (dI : Nat → Nat → Nat) (cI c2 cZ : ClassId) (o1 : Nat) (o2 : Nat) (o7 : Nat) (o12 : Nat) (o41 : Nat) (o51 : Nat) (o64 : Nat) (o77 : Nat) (o84 : Nat) (o91 : Nat) (o99 : Nat) (o111 : Nat) (o123 : Nat) (o3 : Nat) (o8 : Nat) (o13 : Nat) (o18 : Nat) (o32 : Nat) (o34 : Nat) (fw4 : Nat → Int32) (v5 : Int32) (v6 : Int32) (fw9 : Nat → Int32) (v10 : Int32) (v11 : Int32) (v36 : Int32) (v37 : Int32) (v38 : Int32) (v39 : Int32) (v40 : Int32) (v125 : Int32) (a1 : Int32) (sz : Nat) (fw4_b : Bd 12 0 4095 fw4) (v5_h : Iv 0 12 v5) (fw9_b : Bd 12 (-1) 255 fw9) (v10_h : Iv 0 8 v10) (v36_h : Iv 0 12 v36) (v37_h : Iv 0 12 v37) (v38_h : Iv 0 1 v38) : Met l yX11_count wsX11_count ({ frames := 2, cells := 0, slots := 0, locals := 42 }) (va_Pc [.ref o1, .int a1] (wPre (dC, dI) [(cI, .int), (c2, .array .int), (cZ, .boolean)] ([(o1, .inr (11, [.ref o2, .ref o7, .ref o12, .ref o41, .ref o51, .ref o64, .ref o77, .ref o84, .ref o91, .ref o99, .ref o111, .ref o123, .int v125])), (o2, .inr (4, [.ref o3, .int v5, .int v6])), (o3, .inl (cI, 12, .inl fw4)), (o7, .inr (10, [.ref o8, .int v10, .int v11])), (o8, .inl (cI, 12, .inl fw9)), (o12, .inr (6, [.ref o13, .ref o18, .ref o32, .ref o34, .int v36, .int v37, .int v38, .int v39, .int v40]))]) sz)) (va_Qi (fun (r : Int32) (_ : Unit) => True) (fun _ t => wPost (dC, dI) [(cI, .int), (c2, .array .int), (cZ, .boolean)] (va_A ([(o1, .inr (11, [.ref o2, .ref o7, .ref o12, .ref o41, .ref o51, .ref o64, .ref o77, .ref o84, .ref o91, .ref o99, .ref o111, .ref o123, .int v125])), (o2, .inr (4, [.ref o3, .int v5, .int v6])), (o3, .inl (cI, 12, .inl fw4)), (o7, .inr (10, [.ref o8, .int v10, .int v11])), (o8, .inl (cI, 12, .inl fw9)), (o12, .inr (6, [.ref o13, .ref o18, .ref o32, .ref o34, .int v36, .int v37, .int v38, .int v39, .int v40]))]) sz) ([(o1, .inr (11, [.ref o2, .ref o7, .ref o12, .ref o41, .ref o51, .ref o64, .ref o77, .ref o84, .ref o91, .ref o99, .ref o111, .ref o123, .int v125])), (o2, .inr (4, [.ref o3, .int v5, .int v6])), (o3, .inl (cI, 12, .inl fw4)), (o7, .inr (10, [.ref o8, .int v10, .int v11])), (o8, .inl (cI, 12, .inl fw9)), (o12, .inr (6, [.ref o13, .ref o18, .ref o32, .ref o34, .int v36, .int v37, .int v38, .int v39, .int v40]))]) t) (va_A ([(o1, .inr (11, [.ref o2, .ref o7, .ref o12, .ref o41, .ref o51, .ref o64, .ref o77, .ref o84, .ref o91, .ref o99, .ref o111, .ref o123, .int v125])), (o2, .inr (4, [.ref o3, .int v5, .int v6])), (o3, .inl (cI, 12, .inl fw4)), (o7, .inr (10, [.ref o8, .int v10, .int v11])), (o8, .inl (cI, 12, .inl fw9)), (o12, .inr (6, [.ref o13, .ref o18, .ref o32, .ref o34, .int v36, .int v37, .int v38, .int v39, .int v40]))]) sz)) 0 0 (va_A ([(o1, .inr (11, [.ref o2, .ref o7, .ref o12, .ref o41, .ref o51, .ref o64, .ref o77, .ref o84, .ref o91, .ref o99, .ref o111, .ref o123, .int v125])), (o2, .inr (4, [.ref o3, .int v5, .int v6])), (o3, .inl (cI, 12, .inl fw4)), (o7, .inr (10, [.ref o8, .int v10, .int v11])), (o8, .inl (cI, 12, .inl fw9)), (o12, .inr (6, [.ref o13, .ref o18, .ref o32, .ref o34, .int v36, .int v37, .int v38, .int v39, .int v40]))]) sz) := by
  refine Met.ofW (cc := cX11_count) (maxL := 2) (ret := (some .int)) (by decide) rfl ?_
  intro p e s m args below meth c s₁ B hml hv
  obtain ⟨rfl, hsz, hP, hK, hD0, hN⟩ := hv
  have hx := B.exec
  have hb := B.bytes
  have hr := B.returns
  have hts := atoms_spec (ws := wsX11_count) B.pre
  have hown : s.vm.findClass RX11 = some m.cls := findClass_of_methodNamed B.named
  have hlocks := B.notSynchronized
  subst hsz
  have hD := hD0.self (sz := s.heap.size)
  generalize hAe : va_A ([(o1, .inr (11, [.ref o2, .ref o7, .ref o12, .ref o41, .ref o51, .ref o64, .ref o77, .ref o84, .ref o91, .ref o99, .ref o111, .ref o123, .int v125])), (o2, .inr (4, [.ref o3, .int v5, .int v6])), (o3, .inl (cI, 12, .inl fw4)), (o7, .inr (10, [.ref o8, .int v10, .int v11])), (o8, .inl (cI, 12, .inl fw9)), (o12, .inr (6, [.ref o13, .ref o18, .ref o32, .ref o34, .int v36, .int v37, .int v38, .int v39, .int v40]))]) s.heap.size = A at hD ⊢
  have hA : ∀ q : Nat, s.heap.size ≤ q → A q := fun q h => by rw [← hAe]; exact Or.inr h
  have hS : va_S A s.heap s.heap [] := va_S.rf
  have hP : va_P (dC, dI) vwCl ([(o1, .inr (11, [.ref o2, .ref o7, .ref o12, .ref o41, .ref o51, .ref o64, .ref o77, .ref o84, .ref o91, .ref o99, .ref o111, .ref o123, .int v125])), (o2, .inr (4, [.ref o3, .int v5, .int v6])), (o3, .inl (cI, 12, .inl fw4)), (o7, .inr (10, [.ref o8, .int v10, .int v11])), (o8, .inl (cI, 12, .inl fw9)), (o12, .inr (6, [.ref o13, .ref o18, .ref o32, .ref o34, .int v36, .int v37, .int v38, .int v39, .int v40]))]) s.heap := hP
  have hl := lv_entry ([.ref o1, .int a1]) (n := 2) (Nat.le_of_ble_eq_true rfl)
  rw [lg_entry_eq]
  generalize (lg_sl ([.ref o1, .int a1]) ++ List.replicate (2 - (lg_sl ([.ref o1, .int a1])).length) Slot.unset).toArray = ls at hl ⊢
  have hl : lv_has ls 2 [(0, .ref o1), (1, .int a1)] := hl
  refine gen_Q (fun Q hQ => ?_)
  refine lv_iload_n hx hb dX11_count_0 rfl (lv_at hl 1 rfl) ?_
  by_cases h1 : a1 = 0
  ·
    have j2 : Iv 0 0 a1 := r_eq h1 ik_0
    refine tk_i (v := 0) h1 ?_
    refine lv_tableIn (off := 35) (tgt := 36) hx hb dX11_count_1 (by decide +kernel) (by decide +kernel) (by decide +kernel) (by decide) ?_
    refine lv_aload_n hx hb dX11_count_36 rfl (lv_at hl 0 rfl) ?_
    refine va_get (D := (dC, dI)) (ci := 11) (v := .ref o2) (C := RX11) (T := TX11) (N := 13) hx hb hts iw_X11_count_X11 hown hK hP 0 rfl rfl 0 (by decide) (hts (.fieldLink RX11 10 "HolelessHouse" "graph" "LHolelessHouse$Graph;") hm_X11_count_1) (fun _ h9 => h9) rfl dX11_count_37 ?_
    refine va_getN (D := (dC, dI)) (ci := 4) (v := .int v5) (C := RX4) (T := TX4) (N := 3) hx hb hts iw_X11_count_X4 hown hK hP 1 rfl rfl 1 (by decide) (hN.use ns_14) (fun _ h9 => h9) rfl dX11_count_40 ?_
    rw [hQ]
    exact W.iret (v := v5) hx hb hr (fun t ht hW => ⟨⟨v5, (), rfl, trivial, by rw [ht]; exact hP, va_K.moved hW.alike hK, hD⟩, hS.F ht⟩) hS.2.2 dX11_count_43
  by_cases h3 : a1 = 1
  ·
    have j4 : Iv 1 1 a1 := r_eq h3 ik_1
    refine tk_i (v := 1) h3 ?_
    refine lv_tableIn (off := 43) (tgt := 44) hx hb dX11_count_1 (by decide +kernel) (by decide +kernel) (by decide +kernel) (by decide) ?_
    refine lv_aload_n hx hb dX11_count_44 rfl (lv_at hl 0 rfl) ?_
    refine va_get (D := (dC, dI)) (ci := 11) (v := .ref o2) (C := RX11) (T := TX11) (N := 13) hx hb hts iw_X11_count_X11 hown hK hP 0 rfl rfl 0 (by decide) (hts (.fieldLink RX11 10 "HolelessHouse" "graph" "LHolelessHouse$Graph;") hm_X11_count_1) (fun _ h9 => h9) rfl dX11_count_45 ?_
    refine kc_i (D := (dC, dI)) (S := Unit) (wc := [(o2, .inr (4, [.ref o3, .int v5, .int v6])), (o3, .inl (cI, 12, .inl fw4))]) (wr := [(o1, .inr (11, [.ref o2, .ref o7, .ref o12, .ref o41, .ref o51, .ref o64, .ref o77, .ref o84, .ref o91, .ref o99, .ref o111, .ref o123, .int v125])), (o7, .inr (10, [.ref o8, .int v10, .int v11])), (o8, .inl (cI, 12, .inl fw9)), (o12, .inr (6, [.ref o13, .ref o18, .ref o32, .ref o34, .int v36, .int v37, .int v38, .int v39, .int v40]))]) (w1 := fun _ => [(o2, .inr (4, [.ref o3, .int v5, .int v6])), (o3, .inl (cI, 12, .inl fw4))]) (wn := fun _ => [(o1, .inr (11, [.ref o2, .ref o7, .ref o12, .ref o41, .ref o51, .ref o64, .ref o77, .ref o84, .ref o91, .ref o99, .ref o111, .ref o123, .int v125])), (o2, .inr (4, [.ref o3, .int v5, .int v6])), (o3, .inl (cI, 12, .inl fw4)), (o7, .inr (10, [.ref o8, .int v10, .int v11])), (o8, .inl (cI, 12, .inl fw9)), (o12, .inr (6, [.ref o13, .ref o18, .ref o32, .ref o34, .int v36, .int v37, .int v38, .int v39, .int v40]))]) (fun hPc hDc => va_runVN (As := []) (rest := []) ⟨hx, hb, hml, hown, hts⟩ (kX4_pairs_1 l dC dI cI c2 cZ o2 o3 fw4 v5 v6 s.heap.size fw4_b v5_h) ⟨va_cnB 0 hts gX11_count_X4_pairs_n148 rfl rfl rfl (hN.1 _ ns_79) (hts (.initialized RX4) hm_X11_count_5) (by decide +kernel) ⟨Nat.le_of_ble_eq_true rfl, Nat.le_of_ble_eq_true rfl⟩, (hts (.instanceMethod yX4_pairs) hm_X11_count_4), (hts (.selects RX4 yX4_pairs yX4_pairs) hm_X11_count_6)⟩ (pre_V hPc hK hDc hN (ci := 4) (q0 := 0) rfl rfl) rfl rfl hl.1 rfl (lv_room (Nat.le_of_ble_eq_true rfl)) dX11_count_48 ⟨Nat.le_of_ble_eq_true rfl, Nat.le_of_ble_eq_true rfl⟩) hP hD hS hA [1, 2] [0, 3, 4, 5] [0, 4, 5, 1, 2, 3] rfl rfl (by decide +kernel) (by decide +kernel) (by decide +kernel) (by decide +kernel) (fun _ => rfl) (fun x5 _ H locs hq hP hD hS => ?_)
    have hP : va_P (dC, dI) vwCl ([(o1, .inr (11, [.ref o2, .ref o7, .ref o12, .ref o41, .ref o51, .ref o64, .ref o77, .ref o84, .ref o91, .ref o99, .ref o111, .ref o123, .int v125])), (o2, .inr (4, [.ref o3, .int v5, .int v6])), (o3, .inl (cI, 12, .inl fw4)), (o7, .inr (10, [.ref o8, .int v10, .int v11])), (o8, .inl (cI, 12, .inl fw9)), (o12, .inr (6, [.ref o13, .ref o18, .ref o32, .ref o34, .int v36, .int v37, .int v38, .int v39, .int v40]))]) H := hP
    have hD : va_D A ([(o1, .inr (11, [.ref o2, .ref o7, .ref o12, .ref o41, .ref o51, .ref o64, .ref o77, .ref o84, .ref o91, .ref o99, .ref o111, .ref o123, .int v125])), (o2, .inr (4, [.ref o3, .int v5, .int v6])), (o3, .inl (cI, 12, .inl fw4)), (o7, .inr (10, [.ref o8, .int v10, .int v11])), (o8, .inl (cI, 12, .inl fw9)), (o12, .inr (6, [.ref o13, .ref o18, .ref o32, .ref o34, .int v36, .int v37, .int v38, .int v39, .int v40]))]) := hD
    rw [hQ]
    exact W.iret (v := x5) hx hb hr (fun t ht hW => ⟨⟨x5, (), rfl, trivial, by rw [ht]; exact hP, va_K.moved hW.alike hK, hD⟩, hS.F ht⟩) hS.2.2 dX11_count_51
  by_cases h6 : a1 = 2
  ·
    have j7 : Iv 2 2 a1 := r_eq h6 ik_2
    refine tk_i (v := 2) h6 ?_
    refine lv_tableIn (off := 51) (tgt := 52) hx hb dX11_count_1 (by decide +kernel) (by decide +kernel) (by decide +kernel) (by decide) ?_
    refine lv_aload_n hx hb dX11_count_52 rfl (lv_at hl 0 rfl) ?_
    refine va_get (D := (dC, dI)) (ci := 11) (v := .ref o7) (C := RX11) (T := TX11) (N := 13) hx hb hts iw_X11_count_X11 hown hK hP 0 rfl rfl 1 (by decide) (hts (.fieldLink RX11 19 "HolelessHouse" "table" "LHolelessHouse$Table;") hm_X11_count_2) (fun _ h9 => h9) rfl dX11_count_53 ?_
    refine va_getN (D := (dC, dI)) (ci := 10) (v := .int v10) (C := RX10) (T := TX10) (N := 3) hx hb hts iw_X11_count_X10 hown hK hP 3 rfl rfl 1 (by decide) (hN.use ns_22) (fun _ h9 => h9) rfl dX11_count_56 ?_
    rw [hQ]
    exact W.iret (v := v10) hx hb hr (fun t ht hW => ⟨⟨v10, (), rfl, trivial, by rw [ht]; exact hP, va_K.moved hW.alike hK, hD⟩, hS.F ht⟩) hS.2.2 dX11_count_59
  by_cases h8 : a1 = 3
  ·
    have j9 : Iv 3 3 a1 := r_eq h8 ik_3
    refine tk_i (v := 3) h8 ?_
    refine lv_tableIn (off := 59) (tgt := 60) hx hb dX11_count_1 (by decide +kernel) (by decide +kernel) (by decide +kernel) (by decide) ?_
    refine lv_aload_n hx hb dX11_count_60 rfl (lv_at hl 0 rfl) ?_
    refine va_get (D := (dC, dI)) (ci := 11) (v := .ref o7) (C := RX11) (T := TX11) (N := 13) hx hb hts iw_X11_count_X11 hown hK hP 0 rfl rfl 1 (by decide) (hts (.fieldLink RX11 19 "HolelessHouse" "table" "LHolelessHouse$Table;") hm_X11_count_2) (fun _ h9 => h9) rfl dX11_count_61 ?_
    refine kc_i (D := (dC, dI)) (S := Unit) (wc := [(o7, .inr (10, [.ref o8, .int v10, .int v11])), (o8, .inl (cI, 12, .inl fw9))]) (wr := [(o1, .inr (11, [.ref o2, .ref o7, .ref o12, .ref o41, .ref o51, .ref o64, .ref o77, .ref o84, .ref o91, .ref o99, .ref o111, .ref o123, .int v125])), (o2, .inr (4, [.ref o3, .int v5, .int v6])), (o3, .inl (cI, 12, .inl fw4)), (o12, .inr (6, [.ref o13, .ref o18, .ref o32, .ref o34, .int v36, .int v37, .int v38, .int v39, .int v40]))]) (w1 := fun _ => [(o7, .inr (10, [.ref o8, .int v10, .int v11])), (o8, .inl (cI, 12, .inl fw9))]) (wn := fun _ => [(o1, .inr (11, [.ref o2, .ref o7, .ref o12, .ref o41, .ref o51, .ref o64, .ref o77, .ref o84, .ref o91, .ref o99, .ref o111, .ref o123, .int v125])), (o2, .inr (4, [.ref o3, .int v5, .int v6])), (o3, .inl (cI, 12, .inl fw4)), (o7, .inr (10, [.ref o8, .int v10, .int v11])), (o8, .inl (cI, 12, .inl fw9)), (o12, .inr (6, [.ref o13, .ref o18, .ref o32, .ref o34, .int v36, .int v37, .int v38, .int v39, .int v40]))]) (fun hPc hDc => va_runVN (As := []) (rest := []) ⟨hx, hb, hml, hown, hts⟩ (kX10_present_1 l dC dI cI c2 cZ o7 o8 fw9 v10 v11 s.heap.size fw9_b v10_h) ⟨va_cnB 0 hts gX11_count_X10_present_n272 rfl rfl rfl (hN.1 _ ns_138) (hts (.initialized RX10) hm_X11_count_18) (by decide +kernel) ⟨Nat.le_of_ble_eq_true rfl, Nat.le_of_ble_eq_true rfl⟩, (hts (.instanceMethod yX10_present) hm_X11_count_17), (hts (.selects RX10 yX10_present yX10_present) hm_X11_count_19)⟩ (pre_V hPc hK hDc hN (ci := 10) (q0 := 0) rfl rfl) rfl rfl hl.1 rfl (lv_room (Nat.le_of_ble_eq_true rfl)) dX11_count_64 ⟨Nat.le_of_ble_eq_true rfl, Nat.le_of_ble_eq_true rfl⟩) hP hD hS hA [3, 4] [0, 1, 2, 5] [0, 1, 2, 4, 5, 3] rfl rfl (by decide +kernel) (by decide +kernel) (by decide +kernel) (by decide +kernel) (fun _ => rfl) (fun x10 _ H locs hq hP hD hS => ?_)
    have hP : va_P (dC, dI) vwCl ([(o1, .inr (11, [.ref o2, .ref o7, .ref o12, .ref o41, .ref o51, .ref o64, .ref o77, .ref o84, .ref o91, .ref o99, .ref o111, .ref o123, .int v125])), (o2, .inr (4, [.ref o3, .int v5, .int v6])), (o3, .inl (cI, 12, .inl fw4)), (o7, .inr (10, [.ref o8, .int v10, .int v11])), (o8, .inl (cI, 12, .inl fw9)), (o12, .inr (6, [.ref o13, .ref o18, .ref o32, .ref o34, .int v36, .int v37, .int v38, .int v39, .int v40]))]) H := hP
    have hD : va_D A ([(o1, .inr (11, [.ref o2, .ref o7, .ref o12, .ref o41, .ref o51, .ref o64, .ref o77, .ref o84, .ref o91, .ref o99, .ref o111, .ref o123, .int v125])), (o2, .inr (4, [.ref o3, .int v5, .int v6])), (o3, .inl (cI, 12, .inl fw4)), (o7, .inr (10, [.ref o8, .int v10, .int v11])), (o8, .inl (cI, 12, .inl fw9)), (o12, .inr (6, [.ref o13, .ref o18, .ref o32, .ref o34, .int v36, .int v37, .int v38, .int v39, .int v40]))]) := hD
    rw [hQ]
    exact W.iret (v := x10) hx hb hr (fun t ht hW => ⟨⟨x10, (), rfl, trivial, by rw [ht]; exact hP, va_K.moved hW.alike hK, hD⟩, hS.F ht⟩) hS.2.2 dX11_count_67
  by_cases h11 : a1 = 4
  ·
    have j12 : Iv 4 4 a1 := r_eq h11 ik_4
    refine tk_i (v := 4) h11 ?_
    refine lv_tableIn (off := 67) (tgt := 68) hx hb dX11_count_1 (by decide +kernel) (by decide +kernel) (by decide +kernel) (by decide) ?_
    refine lv_aload_n hx hb dX11_count_68 rfl (lv_at hl 0 rfl) ?_
    refine va_get (D := (dC, dI)) (ci := 11) (v := .ref o12) (C := RX11) (T := TX11) (N := 13) hx hb hts iw_X11_count_X11 hown hK hP 0 rfl rfl 2 (by decide) (hts (.fieldLink RX11 26 "HolelessHouse" "ordering" "LHolelessHouse$Ordering;") hm_X11_count_3) (fun _ h9 => h9) rfl dX11_count_69 ?_
    refine va_getN (D := (dC, dI)) (ci := 6) (v := .int v36) (C := RX6) (T := TX6) (N := 9) hx hb hts iw_X11_count_X6 hown hK hP 5 rfl rfl 4 (by decide) (hN.use ns_27) (fun _ h9 => h9) rfl dX11_count_72 ?_
    rw [hQ]
    exact W.iret (v := v36) hx hb hr (fun t ht hW => ⟨⟨v36, (), rfl, trivial, by rw [ht]; exact hP, va_K.moved hW.alike hK, hD⟩, hS.F ht⟩) hS.2.2 dX11_count_75
  have nh1 : Int32.toInt a1 ≠ 0 := fun q => h1 (Int32.toInt_inj.mp (q.trans (by decide +kernel)))
  have nh3 : Int32.toInt a1 ≠ 1 := fun q => h3 (Int32.toInt_inj.mp (q.trans (by decide +kernel)))
  have nh6 : Int32.toInt a1 ≠ 2 := fun q => h6 (Int32.toInt_inj.mp (q.trans (by decide +kernel)))
  have nh8 : Int32.toInt a1 ≠ 3 := fun q => h8 (Int32.toInt_inj.mp (q.trans (by decide +kernel)))
  have nh11 : Int32.toInt a1 ≠ 4 := fun q => h11 (Int32.toInt_inj.mp (q.trans (by decide +kernel)))
  refine lv_tableOut (tgt := 76) hx hb dX11_count_1 (by have h8 := (iv_full a1); unfold Iv at h8; omega) (by decide) ?_
  refine lv_iconst (v := (-1)) hx hb dX11_count_76 (by decide) ?_
  rw [hQ]
  exact W.iret (v := (-1)) hx hb hr (fun t ht hW => ⟨⟨(-1), (), rfl, trivial, by rw [ht]; exact hP, va_K.moved hW.alike hK, hD⟩, hS.F ht⟩) hS.2.2 dX11_count_77
theorem iw_X11_finding_X11 : ∀ w ∈ wsX110, w ∈ wsX11_finding := fun _ h => List.mem_cons.mpr (Or.inr (List.mem_append.mpr (Or.inr h)))
set_option maxHeartbeats 4000000 in
set_option maxRecDepth 100000 in
theorem kX11_finding_1 (l : Launch) (dC : Nat → ClassId) (dI : Nat → Nat → Nat) (cI c2 cZ : ClassId) (o1 : Nat) (o2 : Nat) (o7 : Nat) (o12 : Nat) (o41 : Nat) (o51 : Nat) (o64 : Nat) (o77 : Nat) (o84 : Nat) (o91 : Nat) (o99 : Nat) (o111 : Nat) (o123 : Nat) (v125 : Int32) (sz : Nat) : Met l yX11_finding wsX11_finding ({ frames := 0, cells := 0, slots := 0, locals := 0 }) (va_Pc [.ref o1] (wPre (dC, dI) [(cI, .int), (c2, .array .int), (cZ, .boolean)] ([(o1, .inr (11, [.ref o2, .ref o7, .ref o12, .ref o41, .ref o51, .ref o64, .ref o77, .ref o84, .ref o91, .ref o99, .ref o111, .ref o123, .int v125]))]) sz)) (va_Qi (fun (r : Int32) (_ : Unit) => True) (fun _ t => wPost (dC, dI) [(cI, .int), (c2, .array .int), (cZ, .boolean)] (va_A ([(o1, .inr (11, [.ref o2, .ref o7, .ref o12, .ref o41, .ref o51, .ref o64, .ref o77, .ref o84, .ref o91, .ref o99, .ref o111, .ref o123, .int v125]))]) sz) ([(o1, .inr (11, [.ref o2, .ref o7, .ref o12, .ref o41, .ref o51, .ref o64, .ref o77, .ref o84, .ref o91, .ref o99, .ref o111, .ref o123, .int v125]))]) t) (va_A ([(o1, .inr (11, [.ref o2, .ref o7, .ref o12, .ref o41, .ref o51, .ref o64, .ref o77, .ref o84, .ref o91, .ref o99, .ref o111, .ref o123, .int v125]))]) sz)) 0 0 (va_A ([(o1, .inr (11, [.ref o2, .ref o7, .ref o12, .ref o41, .ref o51, .ref o64, .ref o77, .ref o84, .ref o91, .ref o99, .ref o111, .ref o123, .int v125]))]) sz) := by
  refine Met.ofW (cc := cX11_finding) (maxL := 1) (ret := (some .int)) (by decide) rfl ?_
  intro p e s m args below meth c s₁ B hml hv
  obtain ⟨rfl, hsz, hP, hK, hD0, hN⟩ := hv
  have hx := B.exec
  have hb := B.bytes
  have hr := B.returns
  have hts := atoms_spec (ws := wsX11_finding) B.pre
  have hown : s.vm.findClass RX11 = some m.cls := findClass_of_methodNamed B.named
  have hlocks := B.notSynchronized
  subst hsz
  have hD := hD0.self (sz := s.heap.size)
  generalize hAe : va_A ([(o1, .inr (11, [.ref o2, .ref o7, .ref o12, .ref o41, .ref o51, .ref o64, .ref o77, .ref o84, .ref o91, .ref o99, .ref o111, .ref o123, .int v125]))]) s.heap.size = A at hD ⊢
  have hA : ∀ q : Nat, s.heap.size ≤ q → A q := fun q h => by rw [← hAe]; exact Or.inr h
  have hS : va_S A s.heap s.heap [] := va_S.rf
  have hP : va_P (dC, dI) vwCl ([(o1, .inr (11, [.ref o2, .ref o7, .ref o12, .ref o41, .ref o51, .ref o64, .ref o77, .ref o84, .ref o91, .ref o99, .ref o111, .ref o123, .int v125]))]) s.heap := hP
  have hl := lv_entry ([.ref o1]) (n := 1) (Nat.le_of_ble_eq_true rfl)
  rw [lg_entry_eq]
  generalize (lg_sl ([.ref o1]) ++ List.replicate (1 - (lg_sl ([.ref o1])).length) Slot.unset).toArray = ls at hl ⊢
  have hl : lv_has ls 1 [(0, .ref o1)] := hl
  refine gen_Q (fun Q hQ => ?_)
  refine lv_aload_n hx hb dX11_finding_0 rfl (lv_at hl 0 rfl) ?_
  refine va_get (D := (dC, dI)) (ci := 11) (v := .int v125) (C := RX11) (T := TX11) (N := 13) hx hb hts iw_X11_finding_X11 hown hK hP 0 rfl rfl 12 (by decide) (hts (.fieldLink RX11 86 "HolelessHouse" "latest" "I") hm_X11_finding_1) (fun _ h9 => h9) rfl dX11_finding_1 ?_
  rw [hQ]
  exact W.iret (v := v125) hx hb hr (fun t ht hW => ⟨⟨v125, (), rfl, trivial, by rw [ht]; exact hP, va_K.moved hW.alike hK, hD⟩, hS.F ht⟩) hS.2.2 dX11_finding_4
theorem iw_X11_findings_X11 : ∀ w ∈ wsX110, w ∈ wsX11_findings := fun _ h => List.mem_cons.mpr (Or.inr (List.mem_append.mpr (Or.inr h)))
set_option maxHeartbeats 4000000 in
set_option maxRecDepth 100000 in
theorem kX11_findings_1 (l : Launch) (dC : Nat → ClassId) (dI : Nat → Nat → Nat) (cI c2 cZ : ClassId) (o1 : Nat) (o2 : Nat) (o7 : Nat) (o12 : Nat) (o41 : Nat) (o51 : Nat) (o64 : Nat) (o77 : Nat) (o84 : Nat) (o91 : Nat) (o99 : Nat) (o111 : Nat) (o123 : Nat) (fw124 : Nat → Int32) (v125 : Int32) (a1 : Int32) (sz : Nat) : Met l yX11_findings wsX11_findings ({ frames := 0, cells := 0, slots := 0, locals := 0 }) (va_Pc [.ref o1, .int a1] (wPre (dC, dI) [(cI, .int), (c2, .array .int), (cZ, .boolean)] ([(o1, .inr (11, [.ref o2, .ref o7, .ref o12, .ref o41, .ref o51, .ref o64, .ref o77, .ref o84, .ref o91, .ref o99, .ref o111, .ref o123, .int v125])), (o123, .inl (cI, 5, .inl fw124))]) sz)) (va_Qi (fun (r : Int32) (_ : Unit) => True) (fun _ t => wPost (dC, dI) [(cI, .int), (c2, .array .int), (cZ, .boolean)] (va_A ([(o1, .inr (11, [.ref o2, .ref o7, .ref o12, .ref o41, .ref o51, .ref o64, .ref o77, .ref o84, .ref o91, .ref o99, .ref o111, .ref o123, .int v125])), (o123, .inl (cI, 5, .inl fw124))]) sz) ([(o1, .inr (11, [.ref o2, .ref o7, .ref o12, .ref o41, .ref o51, .ref o64, .ref o77, .ref o84, .ref o91, .ref o99, .ref o111, .ref o123, .int v125])), (o123, .inl (cI, 5, .inl fw124))]) t) (va_A ([(o1, .inr (11, [.ref o2, .ref o7, .ref o12, .ref o41, .ref o51, .ref o64, .ref o77, .ref o84, .ref o91, .ref o99, .ref o111, .ref o123, .int v125])), (o123, .inl (cI, 5, .inl fw124))]) sz)) 0 0 (va_A ([(o1, .inr (11, [.ref o2, .ref o7, .ref o12, .ref o41, .ref o51, .ref o64, .ref o77, .ref o84, .ref o91, .ref o99, .ref o111, .ref o123, .int v125])), (o123, .inl (cI, 5, .inl fw124))]) sz) := by
  refine Met.ofW (cc := cX11_findings) (maxL := 2) (ret := (some .int)) (by decide) rfl ?_
  intro p e s m args below meth c s₁ B hml hv
  obtain ⟨rfl, hsz, hP, hK, hD0, hN⟩ := hv
  have hx := B.exec
  have hb := B.bytes
  have hr := B.returns
  have hts := atoms_spec (ws := wsX11_findings) B.pre
  have hown : s.vm.findClass RX11 = some m.cls := findClass_of_methodNamed B.named
  have hlocks := B.notSynchronized
  subst hsz
  have hD := hD0.self (sz := s.heap.size)
  generalize hAe : va_A ([(o1, .inr (11, [.ref o2, .ref o7, .ref o12, .ref o41, .ref o51, .ref o64, .ref o77, .ref o84, .ref o91, .ref o99, .ref o111, .ref o123, .int v125])), (o123, .inl (cI, 5, .inl fw124))]) s.heap.size = A at hD ⊢
  have hA : ∀ q : Nat, s.heap.size ≤ q → A q := fun q h => by rw [← hAe]; exact Or.inr h
  have hS : va_S A s.heap s.heap [] := va_S.rf
  have hP : va_P (dC, dI) vwCl ([(o1, .inr (11, [.ref o2, .ref o7, .ref o12, .ref o41, .ref o51, .ref o64, .ref o77, .ref o84, .ref o91, .ref o99, .ref o111, .ref o123, .int v125])), (o123, .inl (cI, 5, .inl fw124))]) s.heap := hP
  have hl := lv_entry ([.ref o1, .int a1]) (n := 2) (Nat.le_of_ble_eq_true rfl)
  rw [lg_entry_eq]
  generalize (lg_sl ([.ref o1, .int a1]) ++ List.replicate (2 - (lg_sl ([.ref o1, .int a1])).length) Slot.unset).toArray = ls at hl ⊢
  have hl : lv_has ls 2 [(0, .ref o1), (1, .int a1)] := hl
  refine gen_Q (fun Q hQ => ?_)
  refine lv_iload_n hx hb dX11_findings_0 rfl (lv_at hl 1 rfl) ?_
  refine lv_iconst (v := 1) hx hb dX11_findings_1 (by decide) ?_
  refine lv_icmp_lt (tgt := 19) hx hb dX11_findings_2 (by decide) (fun h1 => ?_) (fun h1 => ?_)
  ·
    have qh1 := lt_i h1
    have j2 : Iv (-2147483648) 0 a1 := r_ltl qh1 (iv_full a1) ik_1 (by decide)
    refine lv_iconst (v := (-1)) hx hb dX11_findings_19 (by decide) ?_
    rw [hQ]
    exact W.iret (v := (-1)) hx hb hr (fun t ht hW => ⟨⟨(-1), (), rfl, trivial, by rw [ht]; exact hP, va_K.moved hW.alike hK, hD⟩, hS.F ht⟩) hS.2.2 dX11_findings_20
  ·
    have qh1 := nlt_i h1
    have j3 : Iv 1 2147483647 a1 := r_ler qh1 ik_1 (iv_full a1) (by decide)
    refine lv_iload_n hx hb dX11_findings_5 rfl (lv_at hl 1 rfl) ?_
    refine lv_iconst (v := 4) hx hb dX11_findings_6 (by decide) ?_
    refine lv_icmp_gt (tgt := 19) hx hb dX11_findings_7 (by decide) (fun h4 => ?_) (fun h4 => ?_)
    ·
      have qh4 := lt_i h4
      have j5 : Iv 5 2147483647 a1 := r_ltr qh4 ik_4 j3 (by decide)
      refine lv_iconst (v := (-1)) hx hb dX11_findings_19 (by decide) ?_
      rw [hQ]
      exact W.iret (v := (-1)) hx hb hr (fun t ht hW => ⟨⟨(-1), (), rfl, trivial, by rw [ht]; exact hP, va_K.moved hW.alike hK, hD⟩, hS.F ht⟩) hS.2.2 dX11_findings_20
    ·
      have qh4 := nlt_i h4
      have j6 : Iv 1 4 a1 := r_lel qh4 j3 ik_4 (by decide)
      refine lv_aload_n hx hb dX11_findings_10 rfl (lv_at hl 0 rfl) ?_
      refine va_get (D := (dC, dI)) (ci := 11) (v := .ref o123) (C := RX11) (T := TX11) (N := 13) hx hb hts iw_X11_findings_X11 hown hK hP 0 rfl rfl 11 (by decide) (hts (.fieldLink RX11 82 "HolelessHouse" "timesFound" "[I") hm_X11_findings_1) (fun _ h9 => h9) rfl dX11_findings_11 ?_
      refine lv_iload_n hx hb dX11_findings_14 rfl (lv_at hl 1 rfl) ?_
      refine va_iald hx hb hK hP 1 0 rfl rfl (vin_iv j6 (by decide)) dX11_findings_15 (lv_topi (fun x7 x7_e => ?_))
      refine lv_goto (tgt := 20) hx hb dX11_findings_16 (by decide) ?_
      rw [hQ]
      exact W.iret (v := x7) hx hb hr (fun t ht hW => ⟨⟨x7, (), rfl, trivial, by rw [ht]; exact hP, va_K.moved hW.alike hK, hD⟩, hS.F ht⟩) hS.2.2 dX11_findings_20
set_option maxHeartbeats 4000000 in
set_option maxRecDepth 100000 in
theorem kX11_mix_1 (l : Launch) (dC : Nat → ClassId) (dI : Nat → Nat → Nat) (cI c2 cZ : ClassId) (a0 : Int64) (a1 : Int32) (sz : Nat) : Met l yX11_mix wsX11_mix ({ frames := 0, cells := 0, slots := 0, locals := 0 }) (va_Pc [.long a0, .int a1] (wPre (dC, dI) [(cI, .int), (c2, .array .int), (cZ, .boolean)] ([]) sz)) (va_Ql (fun (r : Int64) (_ : Unit) => True) (fun _ t => wPost (dC, dI) [(cI, .int), (c2, .array .int), (cZ, .boolean)] (va_A ([]) sz) ([]) t) (va_A ([]) sz)) 0 0 (va_A ([]) sz) := by
  refine Met.ofW (cc := cX11_mix) (maxL := 3) (ret := (some .long)) (by decide) rfl ?_
  intro p e s m args below meth c s₁ B hml hv
  obtain ⟨rfl, hsz, hP, hK, hD0, hN⟩ := hv
  have hx := B.exec
  have hb := B.bytes
  have hr := B.returns
  have hts := atoms_spec (ws := wsX11_mix) B.pre
  have hown : s.vm.findClass RX11 = some m.cls := findClass_of_methodNamed B.named
  have hlocks := B.notSynchronized
  subst hsz
  have hD := hD0.self (sz := s.heap.size)
  generalize hAe : va_A ([]) s.heap.size = A at hD ⊢
  have hA : ∀ q : Nat, s.heap.size ≤ q → A q := fun q h => by rw [← hAe]; exact Or.inr h
  have hS : va_S A s.heap s.heap [] := va_S.rf
  have hP : va_P (dC, dI) vwCl ([]) s.heap := hP
  have hl := lv_entry ([.long a0, .int a1]) (n := 3) (Nat.le_of_ble_eq_true rfl)
  rw [lg_entry_eq]
  generalize (lg_sl ([.long a0, .int a1]) ++ List.replicate (3 - (lg_sl ([.long a0, .int a1])).length) Slot.unset).toArray = ls at hl ⊢
  have hl : lv_has ls 3 [(0, .long a0), (2, .int a1)] := hl
  refine gen_Q (fun Q hQ => ?_)
  refine lv_ldc2 (v := 31) hx hb hown (hts (.constantLong RX11 288 (31)) hm_X11_mix_1) dX11_mix_0 ?_
  refine lv_lload_n hx hb dX11_mix_3 rfl (lv_at hl 0 rfl) ?_
  refine lv_lmul hx hb dX11_mix_4 (lv_topl (fun l1 l1_e => ?_))
  refine lv_iload_n hx hb dX11_mix_5 rfl (lv_at hl 1 rfl) ?_
  refine lv_i2l (v := Int32.toInt64 a1) hx hb dX11_mix_6 rfl (lv_topl (fun l2 l2_e => ?_))
  refine lv_ladd hx hb dX11_mix_7 (lv_topl (fun l3 l3_e => ?_))
  rw [hQ]
  exact W.lret (v := l3) hx hb hr (fun t ht hW => ⟨⟨l3, (), rfl, trivial, by rw [ht]; exact hP, va_K.moved hW.alike hK, hD⟩, hS.F ht⟩) hS.2.2 dX11_mix_8
set_option maxHeartbeats 4000000 in
set_option maxRecDepth 100000 in
theorem kX11_mixAll_1 (l : Launch) (dC : Nat → ClassId) (dI : Nat → Nat → Nat) (cI c2 cZ : ClassId) (o1 : Nat) (a0 : Int64) (fw2 : Nat → Int32) (a2 : Int32) (sz : Nat) (fw2_b : Bd 12 0 4095 fw2) : Met l yX11_mixAll wsX11_mixAll ({ frames := 1, cells := 0, slots := 0, locals := 22 }) (va_Pc [.long a0, .ref o1, .int a2] (wPre (dC, dI) [(cI, .int), (c2, .array .int), (cZ, .boolean)] ([(o1, .inl (cI, 12, .inl fw2))]) sz)) (va_Ql (fun (r : Int64) (_ : Unit) => True) (fun _ t => wPost (dC, dI) [(cI, .int), (c2, .array .int), (cZ, .boolean)] (va_A ([(o1, .inl (cI, 12, .inl fw2))]) sz) ([(o1, .inl (cI, 12, .inl fw2))]) t) (va_A ([(o1, .inl (cI, 12, .inl fw2))]) sz)) 0 0 (va_A ([(o1, .inl (cI, 12, .inl fw2))]) sz) := by
  refine Met.ofW (cc := cX11_mixAll) (maxL := 7) (ret := (some .long)) (by decide) rfl ?_
  intro p e s m args below meth c s₁ B hml hv
  obtain ⟨rfl, hsz, hP, hK, hD0, hN⟩ := hv
  have hx := B.exec
  have hb := B.bytes
  have hr := B.returns
  have hts := atoms_spec (ws := wsX11_mixAll) B.pre
  have hown : s.vm.findClass RX11 = some m.cls := findClass_of_methodNamed B.named
  have hlocks := B.notSynchronized
  subst hsz
  have hD := hD0.self (sz := s.heap.size)
  generalize hAe : va_A ([(o1, .inl (cI, 12, .inl fw2))]) s.heap.size = A at hD ⊢
  have hA : ∀ q : Nat, s.heap.size ≤ q → A q := fun q h => by rw [← hAe]; exact Or.inr h
  have hS : va_S A s.heap s.heap [] := va_S.rf
  have hP : va_P (dC, dI) vwCl ([(o1, .inl (cI, 12, .inl fw2))]) s.heap := hP
  have hl := lv_entry ([.long a0, .ref o1, .int a2]) (n := 7) (Nat.le_of_ble_eq_true rfl)
  rw [lg_entry_eq]
  generalize (lg_sl ([.long a0, .ref o1, .int a2]) ++ List.replicate (7 - (lg_sl ([.long a0, .ref o1, .int a2])).length) Slot.unset).toArray = ls at hl ⊢
  have hl : lv_has ls 7 [(0, .long a0), (2, .ref o1), (3, .int a2)] := hl
  refine gen_Q (fun Q hQ => ?_)
  refine lv_lload_n hx hb dX11_mixAll_0 rfl (lv_at hl 0 rfl) ?_
  refine lv_lstore (lv' := [(4, .long a0), (0, .long a0), (2, .ref o1), (3, .int a2)]) hx hb dX11_mixAll_1 hl (by decide) rfl (fun ls hl => ?_)
  refine lv_iconst (v := 0) hx hb dX11_mixAll_3 (by decide) ?_
  refine lv_istore (lv' := [(6, .int 0), (4, .long a0), (0, .long a0), (2, .ref o1), (3, .int a2)]) hx hb dX11_mixAll_4 hl (by decide) rfl (fun ls hl => ?_)
  have L1 : ∀ (N : Nat) (x65 : Int32) (l66 : Int64) (H : Heap) (locs : List Loc) (ls : Array Slot), (12 - x65.toInt).toNat < N → Iv 0 12 x65 → va_P (dC, dI) vwCl ([(o1, .inl (cI, 12, .inl fw2))]) H → va_D A ([(o1, .inl (cI, 12, .inl fw2))]) → va_S A s.heap H locs → lv_has ls 7 [(6, .int x65), (4, .long l66), (0, .long a0), (2, .ref o1), (3, .int a2)] → W p l e ({ frames := 1, cells := 0, slots := 0, locals := 22 }) s m ([.long a0, .ref o1, .int a2] : List Value).toArray below meth c H locs 0 0 Q (F0 m 6 ls []) := by
    intro N
    induction N with
    | zero =>
      intro x65 l66 H locs ls hM
      exact absurd hM (Nat.not_lt_zero _)
    | succ N ih1 =>
      intro x65 l66 H locs ls hM1 x65_h hP hD hS hl
      refine lv_iload hx hb dX11_mixAll_6 (lv_at hl 0 rfl) ?_
      refine lv_iload_n hx hb dX11_mixAll_8 rfl (lv_at hl 4 rfl) ?_
      refine lv_icmp_ge (tgt := 36) hx hb dX11_mixAll_9 (by decide) (fun h67 => ?_) (fun h67 => ?_)
      ·
        have qh67 := le_i h67
        have j68 : Iv (-2147483648) 12 a2 := r_lel qh67 (iv_full a2) x65_h (by decide)
        refine lv_lload hx hb dX11_mixAll_36 (lv_at hl 1 rfl) ?_
        rw [hQ]
        exact W.lret (v := l66) hx hb hr (fun t ht hW => ⟨⟨l66, (), rfl, trivial, by rw [ht]; exact hP, va_K.moved hW.alike hK, hD⟩, hS.F ht⟩) hS.2.2 dX11_mixAll_38
      ·
        have qh67 := nle_i h67
        have j69 : Iv 1 2147483647 a2 := r_ltr qh67 x65_h (iv_full a2) (by decide)
        refine lv_iload hx hb dX11_mixAll_12 (lv_at hl 0 rfl) ?_
        refine lv_aload_n hx hb dX11_mixAll_14 rfl (lv_at hl 3 rfl) ?_
        refine va_alen (v := 12) hx hb hK hP 0 0 rfl rfl (by show Int32.ofNat 12 = 12; decide +kernel) dX11_mixAll_15 ?_
        refine lv_icmp_ge (tgt := 36) hx hb dX11_mixAll_16 (by decide) (fun h70 => ?_) (fun h70 => ?_)
        ·
          have qh70 := le_i h70
          have j71 : Iv 12 12 x65 := r_ler qh70 ik_12 x65_h (by decide)
          refine lv_lload hx hb dX11_mixAll_36 (lv_at hl 1 rfl) ?_
          rw [hQ]
          exact W.lret (v := l66) hx hb hr (fun t ht hW => ⟨⟨l66, (), rfl, trivial, by rw [ht]; exact hP, va_K.moved hW.alike hK, hD⟩, hS.F ht⟩) hS.2.2 dX11_mixAll_38
        ·
          have qh70 := nle_i h70
          have j72 : Iv 0 11 x65 := r_ltl qh70 x65_h ik_12 (by decide)
          refine lv_lload hx hb dX11_mixAll_19 (lv_at hl 1 rfl) ?_
          refine lv_aload_n hx hb dX11_mixAll_21 rfl (lv_at hl 3 rfl) ?_
          refine lv_iload hx hb dX11_mixAll_22 (lv_at hl 0 rfl) ?_
          refine va_iald hx hb hK hP 0 0 rfl rfl (vin_iv j72 (by decide)) dX11_mixAll_24 (lv_topi (fun x73 x73_e => ?_))
          have x73_h : Iv 0 4095 x73 := iv_e x73_e (bd_at fw2_b (vin_iv j72 (by decide)))
          refine kc_l (D := (dC, dI)) (S := Unit) (wc := []) (wr := [(o1, .inl (cI, 12, .inl fw2))]) (w1 := fun _ => []) (wn := fun _ => [(o1, .inl (cI, 12, .inl fw2))]) (fun hPc hDc => va_runS (As := [.long l66, .int x73]) (rest := []) ⟨hx, hb, hml, hown, hts⟩ (kX11_mix_1 l dC dI cI c2 cZ l66 x73 H.size) (va_cwS 2 hts gX11_mixAll_X11_mix rfl rfl rfl (by decide +kernel) ⟨Nat.le_of_ble_eq_true rfl, Nat.le_of_ble_eq_true rfl⟩) (pre_S hPc hK hDc hN) rfl rfl hl.1 rfl (lv_room (Nat.le_of_ble_eq_true rfl)) dX11_mixAll_25 ⟨Nat.le_of_ble_eq_true rfl, Nat.le_of_ble_eq_true rfl⟩) hP hD hS hA [] [0] [0] rfl rfl (by decide +kernel) (by decide +kernel) (by decide +kernel) (by decide +kernel) (fun _ => rfl) (fun l74 _ H locs hq hP hD hS => ?_)
          have hP : va_P (dC, dI) vwCl ([(o1, .inl (cI, 12, .inl fw2))]) H := hP
          have hD : va_D A ([(o1, .inl (cI, 12, .inl fw2))]) := hD
          refine lv_lstore (lv' := [(4, .long l74), (6, .int x65), (0, .long a0), (2, .ref o1), (3, .int a2)]) hx hb dX11_mixAll_28 hl (by decide) rfl (fun ls hl => ?_)
          obtain ⟨x75, x75_e⟩ : ∃ z : Int32, z = x65 + 1 := ⟨_, rfl⟩
          have x75_h : Iv 1 12 x75 := iv_e x75_e (iv_add j72 ik_1 (by decide))
          refine lv_iinc (v := x75) (lv' := [(6, .int x75), (4, .long l74), (0, .long a0), (2, .ref o1), (3, .int a2)]) hx hb dX11_mixAll_30 hl (k := 1) rfl (incN (by decide +kernel) x75_e) (by decide) rfl (fun ls hl => ?_)
          refine lv_goto (tgt := 6) hx hb dX11_mixAll_33 (by decide) ?_
          exact ih1 x75 l74 _ _ _ (ms_up x75_e j72 (by decide) hM1) (iv_w x75_h (by decide)) hP hD hS hl
  exact L1 _ 0 a0 _ _ _ (Nat.lt_succ_self _) (iv_w ik_0 (by decide)) hP hD hS hl
set_option maxHeartbeats 4000000 in
set_option maxRecDepth 100000 in
theorem kX11_mixAll_2 (l : Launch) (dC : Nat → ClassId) (dI : Nat → Nat → Nat) (cI c2 cZ : ClassId) (o1 : Nat) (a0 : Int64) (fw2 : Nat → Int32) (a2 : Int32) (sz : Nat) (fw2_b : Bd 12 0 11 fw2) : Met l yX11_mixAll wsX11_mixAll ({ frames := 1, cells := 0, slots := 0, locals := 22 }) (va_Pc [.long a0, .ref o1, .int a2] (wPre (dC, dI) [(cI, .int), (c2, .array .int), (cZ, .boolean)] ([(o1, .inl (cI, 12, .inl fw2))]) sz)) (va_Ql (fun (r : Int64) (_ : Unit) => True) (fun _ t => wPost (dC, dI) [(cI, .int), (c2, .array .int), (cZ, .boolean)] (va_A ([(o1, .inl (cI, 12, .inl fw2))]) sz) ([(o1, .inl (cI, 12, .inl fw2))]) t) (va_A ([(o1, .inl (cI, 12, .inl fw2))]) sz)) 0 0 (va_A ([(o1, .inl (cI, 12, .inl fw2))]) sz) := by
  refine Met.ofW (cc := cX11_mixAll) (maxL := 7) (ret := (some .long)) (by decide) rfl ?_
  intro p e s m args below meth c s₁ B hml hv
  obtain ⟨rfl, hsz, hP, hK, hD0, hN⟩ := hv
  have hx := B.exec
  have hb := B.bytes
  have hr := B.returns
  have hts := atoms_spec (ws := wsX11_mixAll) B.pre
  have hown : s.vm.findClass RX11 = some m.cls := findClass_of_methodNamed B.named
  have hlocks := B.notSynchronized
  subst hsz
  have hD := hD0.self (sz := s.heap.size)
  generalize hAe : va_A ([(o1, .inl (cI, 12, .inl fw2))]) s.heap.size = A at hD ⊢
  have hA : ∀ q : Nat, s.heap.size ≤ q → A q := fun q h => by rw [← hAe]; exact Or.inr h
  have hS : va_S A s.heap s.heap [] := va_S.rf
  have hP : va_P (dC, dI) vwCl ([(o1, .inl (cI, 12, .inl fw2))]) s.heap := hP
  have hl := lv_entry ([.long a0, .ref o1, .int a2]) (n := 7) (Nat.le_of_ble_eq_true rfl)
  rw [lg_entry_eq]
  generalize (lg_sl ([.long a0, .ref o1, .int a2]) ++ List.replicate (7 - (lg_sl ([.long a0, .ref o1, .int a2])).length) Slot.unset).toArray = ls at hl ⊢
  have hl : lv_has ls 7 [(0, .long a0), (2, .ref o1), (3, .int a2)] := hl
  refine gen_Q (fun Q hQ => ?_)
  refine lv_lload_n hx hb dX11_mixAll_0 rfl (lv_at hl 0 rfl) ?_
  refine lv_lstore (lv' := [(4, .long a0), (0, .long a0), (2, .ref o1), (3, .int a2)]) hx hb dX11_mixAll_1 hl (by decide) rfl (fun ls hl => ?_)
  refine lv_iconst (v := 0) hx hb dX11_mixAll_3 (by decide) ?_
  refine lv_istore (lv' := [(6, .int 0), (4, .long a0), (0, .long a0), (2, .ref o1), (3, .int a2)]) hx hb dX11_mixAll_4 hl (by decide) rfl (fun ls hl => ?_)
  have L1 : ∀ (N : Nat) (x65 : Int32) (l66 : Int64) (H : Heap) (locs : List Loc) (ls : Array Slot), (12 - x65.toInt).toNat < N → Iv 0 12 x65 → va_P (dC, dI) vwCl ([(o1, .inl (cI, 12, .inl fw2))]) H → va_D A ([(o1, .inl (cI, 12, .inl fw2))]) → va_S A s.heap H locs → lv_has ls 7 [(6, .int x65), (4, .long l66), (0, .long a0), (2, .ref o1), (3, .int a2)] → W p l e ({ frames := 1, cells := 0, slots := 0, locals := 22 }) s m ([.long a0, .ref o1, .int a2] : List Value).toArray below meth c H locs 0 0 Q (F0 m 6 ls []) := by
    intro N
    induction N with
    | zero =>
      intro x65 l66 H locs ls hM
      exact absurd hM (Nat.not_lt_zero _)
    | succ N ih1 =>
      intro x65 l66 H locs ls hM1 x65_h hP hD hS hl
      refine lv_iload hx hb dX11_mixAll_6 (lv_at hl 0 rfl) ?_
      refine lv_iload_n hx hb dX11_mixAll_8 rfl (lv_at hl 4 rfl) ?_
      refine lv_icmp_ge (tgt := 36) hx hb dX11_mixAll_9 (by decide) (fun h67 => ?_) (fun h67 => ?_)
      ·
        have qh67 := le_i h67
        have j68 : Iv (-2147483648) 12 a2 := r_lel qh67 (iv_full a2) x65_h (by decide)
        refine lv_lload hx hb dX11_mixAll_36 (lv_at hl 1 rfl) ?_
        rw [hQ]
        exact W.lret (v := l66) hx hb hr (fun t ht hW => ⟨⟨l66, (), rfl, trivial, by rw [ht]; exact hP, va_K.moved hW.alike hK, hD⟩, hS.F ht⟩) hS.2.2 dX11_mixAll_38
      ·
        have qh67 := nle_i h67
        have j69 : Iv 1 2147483647 a2 := r_ltr qh67 x65_h (iv_full a2) (by decide)
        refine lv_iload hx hb dX11_mixAll_12 (lv_at hl 0 rfl) ?_
        refine lv_aload_n hx hb dX11_mixAll_14 rfl (lv_at hl 3 rfl) ?_
        refine va_alen (v := 12) hx hb hK hP 0 0 rfl rfl (by show Int32.ofNat 12 = 12; decide +kernel) dX11_mixAll_15 ?_
        refine lv_icmp_ge (tgt := 36) hx hb dX11_mixAll_16 (by decide) (fun h70 => ?_) (fun h70 => ?_)
        ·
          have qh70 := le_i h70
          have j71 : Iv 12 12 x65 := r_ler qh70 ik_12 x65_h (by decide)
          refine lv_lload hx hb dX11_mixAll_36 (lv_at hl 1 rfl) ?_
          rw [hQ]
          exact W.lret (v := l66) hx hb hr (fun t ht hW => ⟨⟨l66, (), rfl, trivial, by rw [ht]; exact hP, va_K.moved hW.alike hK, hD⟩, hS.F ht⟩) hS.2.2 dX11_mixAll_38
        ·
          have qh70 := nle_i h70
          have j72 : Iv 0 11 x65 := r_ltl qh70 x65_h ik_12 (by decide)
          refine lv_lload hx hb dX11_mixAll_19 (lv_at hl 1 rfl) ?_
          refine lv_aload_n hx hb dX11_mixAll_21 rfl (lv_at hl 3 rfl) ?_
          refine lv_iload hx hb dX11_mixAll_22 (lv_at hl 0 rfl) ?_
          refine va_iald hx hb hK hP 0 0 rfl rfl (vin_iv j72 (by decide)) dX11_mixAll_24 (lv_topi (fun x73 x73_e => ?_))
          have x73_h : Iv 0 11 x73 := iv_e x73_e (bd_at fw2_b (vin_iv j72 (by decide)))
          refine kc_l (D := (dC, dI)) (S := Unit) (wc := []) (wr := [(o1, .inl (cI, 12, .inl fw2))]) (w1 := fun _ => []) (wn := fun _ => [(o1, .inl (cI, 12, .inl fw2))]) (fun hPc hDc => va_runS (As := [.long l66, .int x73]) (rest := []) ⟨hx, hb, hml, hown, hts⟩ (kX11_mix_1 l dC dI cI c2 cZ l66 x73 H.size) (va_cwS 2 hts gX11_mixAll_X11_mix rfl rfl rfl (by decide +kernel) ⟨Nat.le_of_ble_eq_true rfl, Nat.le_of_ble_eq_true rfl⟩) (pre_S hPc hK hDc hN) rfl rfl hl.1 rfl (lv_room (Nat.le_of_ble_eq_true rfl)) dX11_mixAll_25 ⟨Nat.le_of_ble_eq_true rfl, Nat.le_of_ble_eq_true rfl⟩) hP hD hS hA [] [0] [0] rfl rfl (by decide +kernel) (by decide +kernel) (by decide +kernel) (by decide +kernel) (fun _ => rfl) (fun l74 _ H locs hq hP hD hS => ?_)
          have hP : va_P (dC, dI) vwCl ([(o1, .inl (cI, 12, .inl fw2))]) H := hP
          have hD : va_D A ([(o1, .inl (cI, 12, .inl fw2))]) := hD
          refine lv_lstore (lv' := [(4, .long l74), (6, .int x65), (0, .long a0), (2, .ref o1), (3, .int a2)]) hx hb dX11_mixAll_28 hl (by decide) rfl (fun ls hl => ?_)
          obtain ⟨x75, x75_e⟩ : ∃ z : Int32, z = x65 + 1 := ⟨_, rfl⟩
          have x75_h : Iv 1 12 x75 := iv_e x75_e (iv_add j72 ik_1 (by decide))
          refine lv_iinc (v := x75) (lv' := [(6, .int x75), (4, .long l74), (0, .long a0), (2, .ref o1), (3, .int a2)]) hx hb dX11_mixAll_30 hl (k := 1) rfl (incN (by decide +kernel) x75_e) (by decide) rfl (fun ls hl => ?_)
          refine lv_goto (tgt := 6) hx hb dX11_mixAll_33 (by decide) ?_
          exact ih1 x75 l74 _ _ _ (ms_up x75_e j72 (by decide) hM1) (iv_w x75_h (by decide)) hP hD hS hl
  exact L1 _ 0 a0 _ _ _ (Nat.lt_succ_self _) (iv_w ik_0 (by decide)) hP hD hS hl
set_option maxHeartbeats 4000000 in
set_option maxRecDepth 100000 in
theorem kX11_mixAll_3 (l : Launch) (dC : Nat → ClassId) (dI : Nat → Nat → Nat) (cI c2 cZ : ClassId) (o1 : Nat) (a0 : Int64) (fw2 : Nat → Int32) (a2 : Int32) (sz : Nat) (fw2_b : Bd 12 (-1) 255 fw2) : Met l yX11_mixAll wsX11_mixAll ({ frames := 1, cells := 0, slots := 0, locals := 22 }) (va_Pc [.long a0, .ref o1, .int a2] (wPre (dC, dI) [(cI, .int), (c2, .array .int), (cZ, .boolean)] ([(o1, .inl (cI, 12, .inl fw2))]) sz)) (va_Ql (fun (r : Int64) (_ : Unit) => True) (fun _ t => wPost (dC, dI) [(cI, .int), (c2, .array .int), (cZ, .boolean)] (va_A ([(o1, .inl (cI, 12, .inl fw2))]) sz) ([(o1, .inl (cI, 12, .inl fw2))]) t) (va_A ([(o1, .inl (cI, 12, .inl fw2))]) sz)) 0 0 (va_A ([(o1, .inl (cI, 12, .inl fw2))]) sz) := by
  refine Met.ofW (cc := cX11_mixAll) (maxL := 7) (ret := (some .long)) (by decide) rfl ?_
  intro p e s m args below meth c s₁ B hml hv
  obtain ⟨rfl, hsz, hP, hK, hD0, hN⟩ := hv
  have hx := B.exec
  have hb := B.bytes
  have hr := B.returns
  have hts := atoms_spec (ws := wsX11_mixAll) B.pre
  have hown : s.vm.findClass RX11 = some m.cls := findClass_of_methodNamed B.named
  have hlocks := B.notSynchronized
  subst hsz
  have hD := hD0.self (sz := s.heap.size)
  generalize hAe : va_A ([(o1, .inl (cI, 12, .inl fw2))]) s.heap.size = A at hD ⊢
  have hA : ∀ q : Nat, s.heap.size ≤ q → A q := fun q h => by rw [← hAe]; exact Or.inr h
  have hS : va_S A s.heap s.heap [] := va_S.rf
  have hP : va_P (dC, dI) vwCl ([(o1, .inl (cI, 12, .inl fw2))]) s.heap := hP
  have hl := lv_entry ([.long a0, .ref o1, .int a2]) (n := 7) (Nat.le_of_ble_eq_true rfl)
  rw [lg_entry_eq]
  generalize (lg_sl ([.long a0, .ref o1, .int a2]) ++ List.replicate (7 - (lg_sl ([.long a0, .ref o1, .int a2])).length) Slot.unset).toArray = ls at hl ⊢
  have hl : lv_has ls 7 [(0, .long a0), (2, .ref o1), (3, .int a2)] := hl
  refine gen_Q (fun Q hQ => ?_)
  refine lv_lload_n hx hb dX11_mixAll_0 rfl (lv_at hl 0 rfl) ?_
  refine lv_lstore (lv' := [(4, .long a0), (0, .long a0), (2, .ref o1), (3, .int a2)]) hx hb dX11_mixAll_1 hl (by decide) rfl (fun ls hl => ?_)
  refine lv_iconst (v := 0) hx hb dX11_mixAll_3 (by decide) ?_
  refine lv_istore (lv' := [(6, .int 0), (4, .long a0), (0, .long a0), (2, .ref o1), (3, .int a2)]) hx hb dX11_mixAll_4 hl (by decide) rfl (fun ls hl => ?_)
  have L1 : ∀ (N : Nat) (x65 : Int32) (l66 : Int64) (H : Heap) (locs : List Loc) (ls : Array Slot), (12 - x65.toInt).toNat < N → Iv 0 12 x65 → va_P (dC, dI) vwCl ([(o1, .inl (cI, 12, .inl fw2))]) H → va_D A ([(o1, .inl (cI, 12, .inl fw2))]) → va_S A s.heap H locs → lv_has ls 7 [(6, .int x65), (4, .long l66), (0, .long a0), (2, .ref o1), (3, .int a2)] → W p l e ({ frames := 1, cells := 0, slots := 0, locals := 22 }) s m ([.long a0, .ref o1, .int a2] : List Value).toArray below meth c H locs 0 0 Q (F0 m 6 ls []) := by
    intro N
    induction N with
    | zero =>
      intro x65 l66 H locs ls hM
      exact absurd hM (Nat.not_lt_zero _)
    | succ N ih1 =>
      intro x65 l66 H locs ls hM1 x65_h hP hD hS hl
      refine lv_iload hx hb dX11_mixAll_6 (lv_at hl 0 rfl) ?_
      refine lv_iload_n hx hb dX11_mixAll_8 rfl (lv_at hl 4 rfl) ?_
      refine lv_icmp_ge (tgt := 36) hx hb dX11_mixAll_9 (by decide) (fun h67 => ?_) (fun h67 => ?_)
      ·
        have qh67 := le_i h67
        have j68 : Iv (-2147483648) 12 a2 := r_lel qh67 (iv_full a2) x65_h (by decide)
        refine lv_lload hx hb dX11_mixAll_36 (lv_at hl 1 rfl) ?_
        rw [hQ]
        exact W.lret (v := l66) hx hb hr (fun t ht hW => ⟨⟨l66, (), rfl, trivial, by rw [ht]; exact hP, va_K.moved hW.alike hK, hD⟩, hS.F ht⟩) hS.2.2 dX11_mixAll_38
      ·
        have qh67 := nle_i h67
        have j69 : Iv 1 2147483647 a2 := r_ltr qh67 x65_h (iv_full a2) (by decide)
        refine lv_iload hx hb dX11_mixAll_12 (lv_at hl 0 rfl) ?_
        refine lv_aload_n hx hb dX11_mixAll_14 rfl (lv_at hl 3 rfl) ?_
        refine va_alen (v := 12) hx hb hK hP 0 0 rfl rfl (by show Int32.ofNat 12 = 12; decide +kernel) dX11_mixAll_15 ?_
        refine lv_icmp_ge (tgt := 36) hx hb dX11_mixAll_16 (by decide) (fun h70 => ?_) (fun h70 => ?_)
        ·
          have qh70 := le_i h70
          have j71 : Iv 12 12 x65 := r_ler qh70 ik_12 x65_h (by decide)
          refine lv_lload hx hb dX11_mixAll_36 (lv_at hl 1 rfl) ?_
          rw [hQ]
          exact W.lret (v := l66) hx hb hr (fun t ht hW => ⟨⟨l66, (), rfl, trivial, by rw [ht]; exact hP, va_K.moved hW.alike hK, hD⟩, hS.F ht⟩) hS.2.2 dX11_mixAll_38
        ·
          have qh70 := nle_i h70
          have j72 : Iv 0 11 x65 := r_ltl qh70 x65_h ik_12 (by decide)
          refine lv_lload hx hb dX11_mixAll_19 (lv_at hl 1 rfl) ?_
          refine lv_aload_n hx hb dX11_mixAll_21 rfl (lv_at hl 3 rfl) ?_
          refine lv_iload hx hb dX11_mixAll_22 (lv_at hl 0 rfl) ?_
          refine va_iald hx hb hK hP 0 0 rfl rfl (vin_iv j72 (by decide)) dX11_mixAll_24 (lv_topi (fun x73 x73_e => ?_))
          have x73_h : Iv (-1) 255 x73 := iv_e x73_e (bd_at fw2_b (vin_iv j72 (by decide)))
          refine kc_l (D := (dC, dI)) (S := Unit) (wc := []) (wr := [(o1, .inl (cI, 12, .inl fw2))]) (w1 := fun _ => []) (wn := fun _ => [(o1, .inl (cI, 12, .inl fw2))]) (fun hPc hDc => va_runS (As := [.long l66, .int x73]) (rest := []) ⟨hx, hb, hml, hown, hts⟩ (kX11_mix_1 l dC dI cI c2 cZ l66 x73 H.size) (va_cwS 2 hts gX11_mixAll_X11_mix rfl rfl rfl (by decide +kernel) ⟨Nat.le_of_ble_eq_true rfl, Nat.le_of_ble_eq_true rfl⟩) (pre_S hPc hK hDc hN) rfl rfl hl.1 rfl (lv_room (Nat.le_of_ble_eq_true rfl)) dX11_mixAll_25 ⟨Nat.le_of_ble_eq_true rfl, Nat.le_of_ble_eq_true rfl⟩) hP hD hS hA [] [0] [0] rfl rfl (by decide +kernel) (by decide +kernel) (by decide +kernel) (by decide +kernel) (fun _ => rfl) (fun l74 _ H locs hq hP hD hS => ?_)
          have hP : va_P (dC, dI) vwCl ([(o1, .inl (cI, 12, .inl fw2))]) H := hP
          have hD : va_D A ([(o1, .inl (cI, 12, .inl fw2))]) := hD
          refine lv_lstore (lv' := [(4, .long l74), (6, .int x65), (0, .long a0), (2, .ref o1), (3, .int a2)]) hx hb dX11_mixAll_28 hl (by decide) rfl (fun ls hl => ?_)
          obtain ⟨x75, x75_e⟩ : ∃ z : Int32, z = x65 + 1 := ⟨_, rfl⟩
          have x75_h : Iv 1 12 x75 := iv_e x75_e (iv_add j72 ik_1 (by decide))
          refine lv_iinc (v := x75) (lv' := [(6, .int x75), (4, .long l74), (0, .long a0), (2, .ref o1), (3, .int a2)]) hx hb dX11_mixAll_30 hl (k := 1) rfl (incN (by decide +kernel) x75_e) (by decide) rfl (fun ls hl => ?_)
          refine lv_goto (tgt := 6) hx hb dX11_mixAll_33 (by decide) ?_
          exact ih1 x75 l74 _ _ _ (ms_up x75_e j72 (by decide) hM1) (iv_w x75_h (by decide)) hP hD hS hl
  exact L1 _ 0 a0 _ _ _ (Nat.lt_succ_self _) (iv_w ik_0 (by decide)) hP hD hS hl
theorem iw_X11_digest_X10 : ∀ w ∈ wsX100, w ∈ wsX11_digest := fun _ h => List.mem_cons.mpr (Or.inr (List.mem_append.mpr (Or.inr h)))
theorem iw_X11_digest_X11 : ∀ w ∈ wsX110, w ∈ wsX11_digest := fun _ h => List.mem_cons.mpr (Or.inr (List.mem_append.mpr (Or.inl (List.mem_append.mpr (Or.inl (List.mem_append.mpr (Or.inl (List.mem_append.mpr (Or.inr h)))))))))
theorem iw_X11_digest_X4 : ∀ w ∈ wsX40, w ∈ wsX11_digest := fun _ h => List.mem_cons.mpr (Or.inr (List.mem_append.mpr (Or.inl (List.mem_append.mpr (Or.inl (List.mem_append.mpr (Or.inr h)))))))
theorem iw_X11_digest_X6 : ∀ w ∈ wsX60, w ∈ wsX11_digest := fun _ h => List.mem_cons.mpr (Or.inr (List.mem_append.mpr (Or.inl (List.mem_append.mpr (Or.inr h)))))
set_option maxHeartbeats 4000000 in
set_option maxRecDepth 100000 in
theorem kX11_digest_1 (l : Launch) (dC : Nat → ClassId) (dI : Nat → Nat → Nat) (cI c2 cZ : ClassId) (o1 : Nat) (o2 : Nat) (o7 : Nat) (o12 : Nat) (o41 : Nat) (o51 : Nat) (o64 : Nat) (o77 : Nat) (o84 : Nat) (o91 : Nat) (o99 : Nat) (o111 : Nat) (o123 : Nat) (o3 : Nat) (o13 : Nat) (o18 : Nat) (o32 : Nat) (o34 : Nat) (o8 : Nat) (fw4 : Nat → Int32) (v5 : Int32) (v6 : Int32) (fw9 : Nat → Int32) (v10 : Int32) (v11 : Int32) (fw33 : Nat → Int32) (fw35 : Nat → Int32) (v36 : Int32) (v37 : Int32) (v38 : Int32) (v39 : Int32) (v40 : Int32) (v125 : Int32) (sz : Nat) (fw4_b : Bd 12 0 4095 fw4) (v5_h : Iv 0 12 v5) (fw9_b : Bd 12 (-1) 255 fw9) (v10_h : Iv 0 8 v10) (fw33_b : Bd 12 0 11 fw33) (fw35_b : Bd 12 0 11 fw35) (v36_h : Iv 0 12 v36) (v37_h : Iv 0 12 v37) (v38_h : Iv 0 1 v38) : Met l yX11_digest wsX11_digest ({ frames := 2, cells := 0, slots := 0, locals := 48 }) (va_Pc [.ref o1] (wPre (dC, dI) [(cI, .int), (c2, .array .int), (cZ, .boolean)] ([(o1, .inr (11, [.ref o2, .ref o7, .ref o12, .ref o41, .ref o51, .ref o64, .ref o77, .ref o84, .ref o91, .ref o99, .ref o111, .ref o123, .int v125])), (o2, .inr (4, [.ref o3, .int v5, .int v6])), (o3, .inl (cI, 12, .inl fw4)), (o12, .inr (6, [.ref o13, .ref o18, .ref o32, .ref o34, .int v36, .int v37, .int v38, .int v39, .int v40])), (o32, .inl (cI, 12, .inl fw33)), (o7, .inr (10, [.ref o8, .int v10, .int v11])), (o8, .inl (cI, 12, .inl fw9)), (o34, .inl (cI, 12, .inl fw35))]) sz)) (va_Ql (fun (r : Int64) (_ : Unit) => True) (fun _ t => wPost (dC, dI) [(cI, .int), (c2, .array .int), (cZ, .boolean)] (va_A ([(o1, .inr (11, [.ref o2, .ref o7, .ref o12, .ref o41, .ref o51, .ref o64, .ref o77, .ref o84, .ref o91, .ref o99, .ref o111, .ref o123, .int v125])), (o2, .inr (4, [.ref o3, .int v5, .int v6])), (o3, .inl (cI, 12, .inl fw4)), (o12, .inr (6, [.ref o13, .ref o18, .ref o32, .ref o34, .int v36, .int v37, .int v38, .int v39, .int v40])), (o32, .inl (cI, 12, .inl fw33)), (o7, .inr (10, [.ref o8, .int v10, .int v11])), (o8, .inl (cI, 12, .inl fw9)), (o34, .inl (cI, 12, .inl fw35))]) sz) ([(o1, .inr (11, [.ref o2, .ref o7, .ref o12, .ref o41, .ref o51, .ref o64, .ref o77, .ref o84, .ref o91, .ref o99, .ref o111, .ref o123, .int v125])), (o2, .inr (4, [.ref o3, .int v5, .int v6])), (o3, .inl (cI, 12, .inl fw4)), (o12, .inr (6, [.ref o13, .ref o18, .ref o32, .ref o34, .int v36, .int v37, .int v38, .int v39, .int v40])), (o32, .inl (cI, 12, .inl fw33)), (o7, .inr (10, [.ref o8, .int v10, .int v11])), (o8, .inl (cI, 12, .inl fw9)), (o34, .inl (cI, 12, .inl fw35))]) t) (va_A ([(o1, .inr (11, [.ref o2, .ref o7, .ref o12, .ref o41, .ref o51, .ref o64, .ref o77, .ref o84, .ref o91, .ref o99, .ref o111, .ref o123, .int v125])), (o2, .inr (4, [.ref o3, .int v5, .int v6])), (o3, .inl (cI, 12, .inl fw4)), (o12, .inr (6, [.ref o13, .ref o18, .ref o32, .ref o34, .int v36, .int v37, .int v38, .int v39, .int v40])), (o32, .inl (cI, 12, .inl fw33)), (o7, .inr (10, [.ref o8, .int v10, .int v11])), (o8, .inl (cI, 12, .inl fw9)), (o34, .inl (cI, 12, .inl fw35))]) sz)) 0 0 (va_A ([(o1, .inr (11, [.ref o2, .ref o7, .ref o12, .ref o41, .ref o51, .ref o64, .ref o77, .ref o84, .ref o91, .ref o99, .ref o111, .ref o123, .int v125])), (o2, .inr (4, [.ref o3, .int v5, .int v6])), (o3, .inl (cI, 12, .inl fw4)), (o12, .inr (6, [.ref o13, .ref o18, .ref o32, .ref o34, .int v36, .int v37, .int v38, .int v39, .int v40])), (o32, .inl (cI, 12, .inl fw33)), (o7, .inr (10, [.ref o8, .int v10, .int v11])), (o8, .inl (cI, 12, .inl fw9)), (o34, .inl (cI, 12, .inl fw35))]) sz) := by
  refine Met.ofW (cc := cX11_digest) (maxL := 3) (ret := (some .long)) (by decide) rfl ?_
  intro p e s m args below meth c s₁ B hml hv
  obtain ⟨rfl, hsz, hP, hK, hD0, hN⟩ := hv
  have hx := B.exec
  have hb := B.bytes
  have hr := B.returns
  have hts := atoms_spec (ws := wsX11_digest) B.pre
  have hown : s.vm.findClass RX11 = some m.cls := findClass_of_methodNamed B.named
  have hlocks := B.notSynchronized
  subst hsz
  have hD := hD0.self (sz := s.heap.size)
  generalize hAe : va_A ([(o1, .inr (11, [.ref o2, .ref o7, .ref o12, .ref o41, .ref o51, .ref o64, .ref o77, .ref o84, .ref o91, .ref o99, .ref o111, .ref o123, .int v125])), (o2, .inr (4, [.ref o3, .int v5, .int v6])), (o3, .inl (cI, 12, .inl fw4)), (o12, .inr (6, [.ref o13, .ref o18, .ref o32, .ref o34, .int v36, .int v37, .int v38, .int v39, .int v40])), (o32, .inl (cI, 12, .inl fw33)), (o7, .inr (10, [.ref o8, .int v10, .int v11])), (o8, .inl (cI, 12, .inl fw9)), (o34, .inl (cI, 12, .inl fw35))]) s.heap.size = A at hD ⊢
  have hA : ∀ q : Nat, s.heap.size ≤ q → A q := fun q h => by rw [← hAe]; exact Or.inr h
  have hS : va_S A s.heap s.heap [] := va_S.rf
  have hP : va_P (dC, dI) vwCl ([(o1, .inr (11, [.ref o2, .ref o7, .ref o12, .ref o41, .ref o51, .ref o64, .ref o77, .ref o84, .ref o91, .ref o99, .ref o111, .ref o123, .int v125])), (o2, .inr (4, [.ref o3, .int v5, .int v6])), (o3, .inl (cI, 12, .inl fw4)), (o12, .inr (6, [.ref o13, .ref o18, .ref o32, .ref o34, .int v36, .int v37, .int v38, .int v39, .int v40])), (o32, .inl (cI, 12, .inl fw33)), (o7, .inr (10, [.ref o8, .int v10, .int v11])), (o8, .inl (cI, 12, .inl fw9)), (o34, .inl (cI, 12, .inl fw35))]) s.heap := hP
  have hl := lv_entry ([.ref o1]) (n := 3) (Nat.le_of_ble_eq_true rfl)
  rw [lg_entry_eq]
  generalize (lg_sl ([.ref o1]) ++ List.replicate (3 - (lg_sl ([.ref o1])).length) Slot.unset).toArray = ls at hl ⊢
  have hl : lv_has ls 3 [(0, .ref o1)] := hl
  refine gen_Q (fun Q hQ => ?_)
  refine lv_ldc2 (v := 17) hx hb hown (hts (.constantLong RX11 275 (17)) hm_X11_digest_1) dX11_digest_0 ?_
  refine lv_aload_n hx hb dX11_digest_3 rfl (lv_at hl 0 rfl) ?_
  refine va_get (D := (dC, dI)) (ci := 11) (v := .ref o2) (C := RX11) (T := TX11) (N := 13) hx hb hts iw_X11_digest_X11 hown hK hP 0 rfl rfl 0 (by decide) (hts (.fieldLink RX11 10 "HolelessHouse" "graph" "LHolelessHouse$Graph;") hm_X11_digest_2) (fun _ h9 => h9) rfl dX11_digest_4 ?_
  refine va_getN (D := (dC, dI)) (ci := 4) (v := .int v5) (C := RX4) (T := TX4) (N := 3) hx hb hts iw_X11_digest_X4 hown hK hP 1 rfl rfl 1 (by decide) (hN.use ns_14) (fun _ h9 => h9) rfl dX11_digest_7 ?_
  refine kc_l (D := (dC, dI)) (S := Unit) (wc := []) (wr := [(o1, .inr (11, [.ref o2, .ref o7, .ref o12, .ref o41, .ref o51, .ref o64, .ref o77, .ref o84, .ref o91, .ref o99, .ref o111, .ref o123, .int v125])), (o2, .inr (4, [.ref o3, .int v5, .int v6])), (o3, .inl (cI, 12, .inl fw4)), (o12, .inr (6, [.ref o13, .ref o18, .ref o32, .ref o34, .int v36, .int v37, .int v38, .int v39, .int v40])), (o32, .inl (cI, 12, .inl fw33)), (o7, .inr (10, [.ref o8, .int v10, .int v11])), (o8, .inl (cI, 12, .inl fw9)), (o34, .inl (cI, 12, .inl fw35))]) (w1 := fun _ => []) (wn := fun _ => [(o1, .inr (11, [.ref o2, .ref o7, .ref o12, .ref o41, .ref o51, .ref o64, .ref o77, .ref o84, .ref o91, .ref o99, .ref o111, .ref o123, .int v125])), (o2, .inr (4, [.ref o3, .int v5, .int v6])), (o3, .inl (cI, 12, .inl fw4)), (o12, .inr (6, [.ref o13, .ref o18, .ref o32, .ref o34, .int v36, .int v37, .int v38, .int v39, .int v40])), (o32, .inl (cI, 12, .inl fw33)), (o7, .inr (10, [.ref o8, .int v10, .int v11])), (o8, .inl (cI, 12, .inl fw9)), (o34, .inl (cI, 12, .inl fw35))]) (fun hPc hDc => va_runS (As := [.long 17, .int v5]) (rest := []) ⟨hx, hb, hml, hown, hts⟩ (kX11_mix_1 l dC dI cI c2 cZ 17 v5 s.heap.size) (va_cwS 2 hts gX11_digest_X11_mix rfl rfl rfl (by decide +kernel) ⟨Nat.le_of_ble_eq_true rfl, Nat.le_of_ble_eq_true rfl⟩) (pre_S hPc hK hDc hN) rfl rfl hl.1 rfl (lv_room (Nat.le_of_ble_eq_true rfl)) dX11_digest_10 ⟨Nat.le_of_ble_eq_true rfl, Nat.le_of_ble_eq_true rfl⟩) hP hD hS hA [] [0, 1, 2, 3, 4, 5, 6, 7] [0, 1, 2, 3, 4, 5, 6, 7] rfl rfl (by decide +kernel) (by decide +kernel) (by decide +kernel) (by decide +kernel) (fun _ => rfl) (fun l1 _ H locs hq hP hD hS => ?_)
  have hP : va_P (dC, dI) vwCl ([(o1, .inr (11, [.ref o2, .ref o7, .ref o12, .ref o41, .ref o51, .ref o64, .ref o77, .ref o84, .ref o91, .ref o99, .ref o111, .ref o123, .int v125])), (o2, .inr (4, [.ref o3, .int v5, .int v6])), (o3, .inl (cI, 12, .inl fw4)), (o12, .inr (6, [.ref o13, .ref o18, .ref o32, .ref o34, .int v36, .int v37, .int v38, .int v39, .int v40])), (o32, .inl (cI, 12, .inl fw33)), (o7, .inr (10, [.ref o8, .int v10, .int v11])), (o8, .inl (cI, 12, .inl fw9)), (o34, .inl (cI, 12, .inl fw35))]) H := hP
  have hD : va_D A ([(o1, .inr (11, [.ref o2, .ref o7, .ref o12, .ref o41, .ref o51, .ref o64, .ref o77, .ref o84, .ref o91, .ref o99, .ref o111, .ref o123, .int v125])), (o2, .inr (4, [.ref o3, .int v5, .int v6])), (o3, .inl (cI, 12, .inl fw4)), (o12, .inr (6, [.ref o13, .ref o18, .ref o32, .ref o34, .int v36, .int v37, .int v38, .int v39, .int v40])), (o32, .inl (cI, 12, .inl fw33)), (o7, .inr (10, [.ref o8, .int v10, .int v11])), (o8, .inl (cI, 12, .inl fw9)), (o34, .inl (cI, 12, .inl fw35))]) := hD
  refine lv_lstore_n (lv' := [(1, .long l1), (0, .ref o1)]) hx hb dX11_digest_13 rfl hl (by decide) rfl (fun ls hl => ?_)
  refine lv_lload_n hx hb dX11_digest_14 rfl (lv_at hl 0 rfl) ?_
  refine lv_aload_n hx hb dX11_digest_15 rfl (lv_at hl 1 rfl) ?_
  refine va_get (D := (dC, dI)) (ci := 11) (v := .ref o2) (C := RX11) (T := TX11) (N := 13) hx hb hts iw_X11_digest_X11 hown hK hP 0 rfl rfl 0 (by decide) (hts (.fieldLink RX11 10 "HolelessHouse" "graph" "LHolelessHouse$Graph;") hm_X11_digest_2) (fun _ h9 => h9) rfl dX11_digest_16 ?_
  refine va_getN (D := (dC, dI)) (ci := 4) (v := .ref o3) (C := RX4) (T := TX4) (N := 3) hx hb hts iw_X11_digest_X4 hown hK hP 1 rfl rfl 0 (by decide) (hN.use ns_5) (fun _ h9 => h9) rfl dX11_digest_19 ?_
  refine lv_aload_n hx hb dX11_digest_22 rfl (lv_at hl 1 rfl) ?_
  refine va_get (D := (dC, dI)) (ci := 11) (v := .ref o2) (C := RX11) (T := TX11) (N := 13) hx hb hts iw_X11_digest_X11 hown hK hP 0 rfl rfl 0 (by decide) (hts (.fieldLink RX11 10 "HolelessHouse" "graph" "LHolelessHouse$Graph;") hm_X11_digest_2) (fun _ h9 => h9) rfl dX11_digest_23 ?_
  refine va_getN (D := (dC, dI)) (ci := 4) (v := .int v5) (C := RX4) (T := TX4) (N := 3) hx hb hts iw_X11_digest_X4 hown hK hP 1 rfl rfl 1 (by decide) (hN.use ns_14) (fun _ h9 => h9) rfl dX11_digest_26 ?_
  refine kc_l (D := (dC, dI)) (S := Unit) (wc := [(o3, .inl (cI, 12, .inl fw4))]) (wr := [(o1, .inr (11, [.ref o2, .ref o7, .ref o12, .ref o41, .ref o51, .ref o64, .ref o77, .ref o84, .ref o91, .ref o99, .ref o111, .ref o123, .int v125])), (o2, .inr (4, [.ref o3, .int v5, .int v6])), (o12, .inr (6, [.ref o13, .ref o18, .ref o32, .ref o34, .int v36, .int v37, .int v38, .int v39, .int v40])), (o32, .inl (cI, 12, .inl fw33)), (o7, .inr (10, [.ref o8, .int v10, .int v11])), (o8, .inl (cI, 12, .inl fw9)), (o34, .inl (cI, 12, .inl fw35))]) (w1 := fun _ => [(o3, .inl (cI, 12, .inl fw4))]) (wn := fun _ => [(o1, .inr (11, [.ref o2, .ref o7, .ref o12, .ref o41, .ref o51, .ref o64, .ref o77, .ref o84, .ref o91, .ref o99, .ref o111, .ref o123, .int v125])), (o2, .inr (4, [.ref o3, .int v5, .int v6])), (o3, .inl (cI, 12, .inl fw4)), (o12, .inr (6, [.ref o13, .ref o18, .ref o32, .ref o34, .int v36, .int v37, .int v38, .int v39, .int v40])), (o32, .inl (cI, 12, .inl fw33)), (o7, .inr (10, [.ref o8, .int v10, .int v11])), (o8, .inl (cI, 12, .inl fw9)), (o34, .inl (cI, 12, .inl fw35))]) (fun hPc hDc => va_runS (As := [.long l1, .ref o3, .int v5]) (rest := []) ⟨hx, hb, hml, hown, hts⟩ (kX11_mixAll_1 l dC dI cI c2 cZ o3 l1 fw4 v5 H.size fw4_b) (va_cwS 3 hts gX11_digest_X11_mixAll rfl rfl rfl (by decide +kernel) ⟨Nat.le_of_ble_eq_true rfl, Nat.le_of_ble_eq_true rfl⟩) (pre_S hPc hK hDc hN) rfl rfl hl.1 rfl (lv_room (Nat.le_of_ble_eq_true rfl)) dX11_digest_29 ⟨Nat.le_of_ble_eq_true rfl, Nat.le_of_ble_eq_true rfl⟩) hP hD hS hA [2] [0, 1, 3, 4, 5, 6, 7] [0, 1, 7, 2, 3, 4, 5, 6] rfl rfl (by decide +kernel) (by decide +kernel) (by decide +kernel) (by decide +kernel) (fun _ => rfl) (fun l2 _ H locs hq hP hD hS => ?_)
  have hP : va_P (dC, dI) vwCl ([(o1, .inr (11, [.ref o2, .ref o7, .ref o12, .ref o41, .ref o51, .ref o64, .ref o77, .ref o84, .ref o91, .ref o99, .ref o111, .ref o123, .int v125])), (o2, .inr (4, [.ref o3, .int v5, .int v6])), (o3, .inl (cI, 12, .inl fw4)), (o12, .inr (6, [.ref o13, .ref o18, .ref o32, .ref o34, .int v36, .int v37, .int v38, .int v39, .int v40])), (o32, .inl (cI, 12, .inl fw33)), (o7, .inr (10, [.ref o8, .int v10, .int v11])), (o8, .inl (cI, 12, .inl fw9)), (o34, .inl (cI, 12, .inl fw35))]) H := hP
  have hD : va_D A ([(o1, .inr (11, [.ref o2, .ref o7, .ref o12, .ref o41, .ref o51, .ref o64, .ref o77, .ref o84, .ref o91, .ref o99, .ref o111, .ref o123, .int v125])), (o2, .inr (4, [.ref o3, .int v5, .int v6])), (o3, .inl (cI, 12, .inl fw4)), (o12, .inr (6, [.ref o13, .ref o18, .ref o32, .ref o34, .int v36, .int v37, .int v38, .int v39, .int v40])), (o32, .inl (cI, 12, .inl fw33)), (o7, .inr (10, [.ref o8, .int v10, .int v11])), (o8, .inl (cI, 12, .inl fw9)), (o34, .inl (cI, 12, .inl fw35))]) := hD
  refine lv_lstore_n (lv' := [(1, .long l2), (0, .ref o1)]) hx hb dX11_digest_32 rfl hl (by decide) rfl (fun ls hl => ?_)
  refine lv_lload_n hx hb dX11_digest_33 rfl (lv_at hl 0 rfl) ?_
  refine lv_aload_n hx hb dX11_digest_34 rfl (lv_at hl 1 rfl) ?_
  refine va_get (D := (dC, dI)) (ci := 11) (v := .ref o12) (C := RX11) (T := TX11) (N := 13) hx hb hts iw_X11_digest_X11 hown hK hP 0 rfl rfl 2 (by decide) (hts (.fieldLink RX11 26 "HolelessHouse" "ordering" "LHolelessHouse$Ordering;") hm_X11_digest_3) (fun _ h9 => h9) rfl dX11_digest_35 ?_
  refine va_getN (D := (dC, dI)) (ci := 6) (v := .ref o32) (C := RX6) (T := TX6) (N := 9) hx hb hts iw_X11_digest_X6 hown hK hP 3 rfl rfl 2 (by decide) (hN.use ns_25) (fun _ h9 => h9) rfl dX11_digest_38 ?_
  refine lv_aload_n hx hb dX11_digest_41 rfl (lv_at hl 1 rfl) ?_
  refine va_get (D := (dC, dI)) (ci := 11) (v := .ref o12) (C := RX11) (T := TX11) (N := 13) hx hb hts iw_X11_digest_X11 hown hK hP 0 rfl rfl 2 (by decide) (hts (.fieldLink RX11 26 "HolelessHouse" "ordering" "LHolelessHouse$Ordering;") hm_X11_digest_3) (fun _ h9 => h9) rfl dX11_digest_42 ?_
  refine kc_i (D := (dC, dI)) (S := Unit) (wc := [(o12, .inr (6, [.ref o13, .ref o18, .ref o32, .ref o34, .int v36, .int v37, .int v38, .int v39, .int v40]))]) (wr := [(o1, .inr (11, [.ref o2, .ref o7, .ref o12, .ref o41, .ref o51, .ref o64, .ref o77, .ref o84, .ref o91, .ref o99, .ref o111, .ref o123, .int v125])), (o2, .inr (4, [.ref o3, .int v5, .int v6])), (o3, .inl (cI, 12, .inl fw4)), (o32, .inl (cI, 12, .inl fw33)), (o7, .inr (10, [.ref o8, .int v10, .int v11])), (o8, .inl (cI, 12, .inl fw9)), (o34, .inl (cI, 12, .inl fw35))]) (w1 := fun _ => [(o12, .inr (6, [.ref o13, .ref o18, .ref o32, .ref o34, .int v36, .int v37, .int v38, .int v39, .int v40]))]) (wn := fun _ => [(o1, .inr (11, [.ref o2, .ref o7, .ref o12, .ref o41, .ref o51, .ref o64, .ref o77, .ref o84, .ref o91, .ref o99, .ref o111, .ref o123, .int v125])), (o2, .inr (4, [.ref o3, .int v5, .int v6])), (o3, .inl (cI, 12, .inl fw4)), (o12, .inr (6, [.ref o13, .ref o18, .ref o32, .ref o34, .int v36, .int v37, .int v38, .int v39, .int v40])), (o32, .inl (cI, 12, .inl fw33)), (o7, .inr (10, [.ref o8, .int v10, .int v11])), (o8, .inl (cI, 12, .inl fw9)), (o34, .inl (cI, 12, .inl fw35))]) (fun hPc hDc => va_runVN (As := []) (rest := [.ref o32, .long l2]) ⟨hx, hb, hml, hown, hts⟩ (kX6_length_1 l dC dI cI c2 cZ o12 o13 o18 o32 o34 v36 v37 v38 v39 v40 H.size v36_h v37_h v38_h) ⟨va_cnB 0 hts gX11_digest_X6_length_n181 rfl rfl rfl (hN.1 _ ns_102) (hts (.initialized RX6) hm_X11_digest_14) (by decide +kernel) ⟨Nat.le_of_ble_eq_true rfl, Nat.le_of_ble_eq_true rfl⟩, (hts (.instanceMethod yX6_length) hm_X11_digest_13), (hts (.selects RX6 yX6_length yX6_length) hm_X11_digest_15)⟩ (pre_V hPc hK hDc hN (ci := 6) (q0 := 0) rfl rfl) rfl rfl hl.1 rfl (lv_room (Nat.le_of_ble_eq_true rfl)) dX11_digest_45 ⟨Nat.le_of_ble_eq_true rfl, Nat.le_of_ble_eq_true rfl⟩) hP hD hS hA [3] [0, 1, 2, 4, 5, 6, 7] [0, 1, 2, 7, 3, 4, 5, 6] rfl rfl (by decide +kernel) (by decide +kernel) (by decide +kernel) (by decide +kernel) (fun _ => rfl) (fun x3 _ H locs hq hP hD hS => ?_)
  have x3_h := hq
  have hP : va_P (dC, dI) vwCl ([(o1, .inr (11, [.ref o2, .ref o7, .ref o12, .ref o41, .ref o51, .ref o64, .ref o77, .ref o84, .ref o91, .ref o99, .ref o111, .ref o123, .int v125])), (o2, .inr (4, [.ref o3, .int v5, .int v6])), (o3, .inl (cI, 12, .inl fw4)), (o12, .inr (6, [.ref o13, .ref o18, .ref o32, .ref o34, .int v36, .int v37, .int v38, .int v39, .int v40])), (o32, .inl (cI, 12, .inl fw33)), (o7, .inr (10, [.ref o8, .int v10, .int v11])), (o8, .inl (cI, 12, .inl fw9)), (o34, .inl (cI, 12, .inl fw35))]) H := hP
  have hD : va_D A ([(o1, .inr (11, [.ref o2, .ref o7, .ref o12, .ref o41, .ref o51, .ref o64, .ref o77, .ref o84, .ref o91, .ref o99, .ref o111, .ref o123, .int v125])), (o2, .inr (4, [.ref o3, .int v5, .int v6])), (o3, .inl (cI, 12, .inl fw4)), (o12, .inr (6, [.ref o13, .ref o18, .ref o32, .ref o34, .int v36, .int v37, .int v38, .int v39, .int v40])), (o32, .inl (cI, 12, .inl fw33)), (o7, .inr (10, [.ref o8, .int v10, .int v11])), (o8, .inl (cI, 12, .inl fw9)), (o34, .inl (cI, 12, .inl fw35))]) := hD
  refine kc_l (D := (dC, dI)) (S := Unit) (wc := [(o32, .inl (cI, 12, .inl fw33))]) (wr := [(o1, .inr (11, [.ref o2, .ref o7, .ref o12, .ref o41, .ref o51, .ref o64, .ref o77, .ref o84, .ref o91, .ref o99, .ref o111, .ref o123, .int v125])), (o2, .inr (4, [.ref o3, .int v5, .int v6])), (o3, .inl (cI, 12, .inl fw4)), (o12, .inr (6, [.ref o13, .ref o18, .ref o32, .ref o34, .int v36, .int v37, .int v38, .int v39, .int v40])), (o7, .inr (10, [.ref o8, .int v10, .int v11])), (o8, .inl (cI, 12, .inl fw9)), (o34, .inl (cI, 12, .inl fw35))]) (w1 := fun _ => [(o32, .inl (cI, 12, .inl fw33))]) (wn := fun _ => [(o1, .inr (11, [.ref o2, .ref o7, .ref o12, .ref o41, .ref o51, .ref o64, .ref o77, .ref o84, .ref o91, .ref o99, .ref o111, .ref o123, .int v125])), (o2, .inr (4, [.ref o3, .int v5, .int v6])), (o3, .inl (cI, 12, .inl fw4)), (o12, .inr (6, [.ref o13, .ref o18, .ref o32, .ref o34, .int v36, .int v37, .int v38, .int v39, .int v40])), (o32, .inl (cI, 12, .inl fw33)), (o7, .inr (10, [.ref o8, .int v10, .int v11])), (o8, .inl (cI, 12, .inl fw9)), (o34, .inl (cI, 12, .inl fw35))]) (fun hPc hDc => va_runS (As := [.long l2, .ref o32, .int x3]) (rest := []) ⟨hx, hb, hml, hown, hts⟩ (kX11_mixAll_2 l dC dI cI c2 cZ o32 l2 fw33 x3 H.size fw33_b) (va_cwS 3 hts gX11_digest_X11_mixAll rfl rfl rfl (by decide +kernel) ⟨Nat.le_of_ble_eq_true rfl, Nat.le_of_ble_eq_true rfl⟩) (pre_S hPc hK hDc hN) rfl rfl hl.1 rfl (lv_room (Nat.le_of_ble_eq_true rfl)) dX11_digest_48 ⟨Nat.le_of_ble_eq_true rfl, Nat.le_of_ble_eq_true rfl⟩) hP hD hS hA [4] [0, 1, 2, 3, 5, 6, 7] [0, 1, 2, 3, 7, 4, 5, 6] rfl rfl (by decide +kernel) (by decide +kernel) (by decide +kernel) (by decide +kernel) (fun _ => rfl) (fun l4 _ H locs hq hP hD hS => ?_)
  have hP : va_P (dC, dI) vwCl ([(o1, .inr (11, [.ref o2, .ref o7, .ref o12, .ref o41, .ref o51, .ref o64, .ref o77, .ref o84, .ref o91, .ref o99, .ref o111, .ref o123, .int v125])), (o2, .inr (4, [.ref o3, .int v5, .int v6])), (o3, .inl (cI, 12, .inl fw4)), (o12, .inr (6, [.ref o13, .ref o18, .ref o32, .ref o34, .int v36, .int v37, .int v38, .int v39, .int v40])), (o32, .inl (cI, 12, .inl fw33)), (o7, .inr (10, [.ref o8, .int v10, .int v11])), (o8, .inl (cI, 12, .inl fw9)), (o34, .inl (cI, 12, .inl fw35))]) H := hP
  have hD : va_D A ([(o1, .inr (11, [.ref o2, .ref o7, .ref o12, .ref o41, .ref o51, .ref o64, .ref o77, .ref o84, .ref o91, .ref o99, .ref o111, .ref o123, .int v125])), (o2, .inr (4, [.ref o3, .int v5, .int v6])), (o3, .inl (cI, 12, .inl fw4)), (o12, .inr (6, [.ref o13, .ref o18, .ref o32, .ref o34, .int v36, .int v37, .int v38, .int v39, .int v40])), (o32, .inl (cI, 12, .inl fw33)), (o7, .inr (10, [.ref o8, .int v10, .int v11])), (o8, .inl (cI, 12, .inl fw9)), (o34, .inl (cI, 12, .inl fw35))]) := hD
  refine lv_lstore_n (lv' := [(1, .long l4), (0, .ref o1)]) hx hb dX11_digest_51 rfl hl (by decide) rfl (fun ls hl => ?_)
  refine lv_lload_n hx hb dX11_digest_52 rfl (lv_at hl 0 rfl) ?_
  refine lv_aload_n hx hb dX11_digest_53 rfl (lv_at hl 1 rfl) ?_
  refine va_get (D := (dC, dI)) (ci := 11) (v := .ref o7) (C := RX11) (T := TX11) (N := 13) hx hb hts iw_X11_digest_X11 hown hK hP 0 rfl rfl 1 (by decide) (hts (.fieldLink RX11 19 "HolelessHouse" "table" "LHolelessHouse$Table;") hm_X11_digest_4) (fun _ h9 => h9) rfl dX11_digest_54 ?_
  refine va_getN (D := (dC, dI)) (ci := 10) (v := .int v10) (C := RX10) (T := TX10) (N := 3) hx hb hts iw_X11_digest_X10 hown hK hP 5 rfl rfl 1 (by decide) (hN.use ns_22) (fun _ h9 => h9) rfl dX11_digest_57 ?_
  refine kc_l (D := (dC, dI)) (S := Unit) (wc := []) (wr := [(o1, .inr (11, [.ref o2, .ref o7, .ref o12, .ref o41, .ref o51, .ref o64, .ref o77, .ref o84, .ref o91, .ref o99, .ref o111, .ref o123, .int v125])), (o2, .inr (4, [.ref o3, .int v5, .int v6])), (o3, .inl (cI, 12, .inl fw4)), (o12, .inr (6, [.ref o13, .ref o18, .ref o32, .ref o34, .int v36, .int v37, .int v38, .int v39, .int v40])), (o32, .inl (cI, 12, .inl fw33)), (o7, .inr (10, [.ref o8, .int v10, .int v11])), (o8, .inl (cI, 12, .inl fw9)), (o34, .inl (cI, 12, .inl fw35))]) (w1 := fun _ => []) (wn := fun _ => [(o1, .inr (11, [.ref o2, .ref o7, .ref o12, .ref o41, .ref o51, .ref o64, .ref o77, .ref o84, .ref o91, .ref o99, .ref o111, .ref o123, .int v125])), (o2, .inr (4, [.ref o3, .int v5, .int v6])), (o3, .inl (cI, 12, .inl fw4)), (o12, .inr (6, [.ref o13, .ref o18, .ref o32, .ref o34, .int v36, .int v37, .int v38, .int v39, .int v40])), (o32, .inl (cI, 12, .inl fw33)), (o7, .inr (10, [.ref o8, .int v10, .int v11])), (o8, .inl (cI, 12, .inl fw9)), (o34, .inl (cI, 12, .inl fw35))]) (fun hPc hDc => va_runS (As := [.long l4, .int v10]) (rest := []) ⟨hx, hb, hml, hown, hts⟩ (kX11_mix_1 l dC dI cI c2 cZ l4 v10 H.size) (va_cwS 2 hts gX11_digest_X11_mix rfl rfl rfl (by decide +kernel) ⟨Nat.le_of_ble_eq_true rfl, Nat.le_of_ble_eq_true rfl⟩) (pre_S hPc hK hDc hN) rfl rfl hl.1 rfl (lv_room (Nat.le_of_ble_eq_true rfl)) dX11_digest_60 ⟨Nat.le_of_ble_eq_true rfl, Nat.le_of_ble_eq_true rfl⟩) hP hD hS hA [] [0, 1, 2, 3, 4, 5, 6, 7] [0, 1, 2, 3, 4, 5, 6, 7] rfl rfl (by decide +kernel) (by decide +kernel) (by decide +kernel) (by decide +kernel) (fun _ => rfl) (fun l5 _ H locs hq hP hD hS => ?_)
  have hP : va_P (dC, dI) vwCl ([(o1, .inr (11, [.ref o2, .ref o7, .ref o12, .ref o41, .ref o51, .ref o64, .ref o77, .ref o84, .ref o91, .ref o99, .ref o111, .ref o123, .int v125])), (o2, .inr (4, [.ref o3, .int v5, .int v6])), (o3, .inl (cI, 12, .inl fw4)), (o12, .inr (6, [.ref o13, .ref o18, .ref o32, .ref o34, .int v36, .int v37, .int v38, .int v39, .int v40])), (o32, .inl (cI, 12, .inl fw33)), (o7, .inr (10, [.ref o8, .int v10, .int v11])), (o8, .inl (cI, 12, .inl fw9)), (o34, .inl (cI, 12, .inl fw35))]) H := hP
  have hD : va_D A ([(o1, .inr (11, [.ref o2, .ref o7, .ref o12, .ref o41, .ref o51, .ref o64, .ref o77, .ref o84, .ref o91, .ref o99, .ref o111, .ref o123, .int v125])), (o2, .inr (4, [.ref o3, .int v5, .int v6])), (o3, .inl (cI, 12, .inl fw4)), (o12, .inr (6, [.ref o13, .ref o18, .ref o32, .ref o34, .int v36, .int v37, .int v38, .int v39, .int v40])), (o32, .inl (cI, 12, .inl fw33)), (o7, .inr (10, [.ref o8, .int v10, .int v11])), (o8, .inl (cI, 12, .inl fw9)), (o34, .inl (cI, 12, .inl fw35))]) := hD
  refine lv_lstore_n (lv' := [(1, .long l5), (0, .ref o1)]) hx hb dX11_digest_63 rfl hl (by decide) rfl (fun ls hl => ?_)
  refine lv_lload_n hx hb dX11_digest_64 rfl (lv_at hl 0 rfl) ?_
  refine lv_aload_n hx hb dX11_digest_65 rfl (lv_at hl 1 rfl) ?_
  refine va_get (D := (dC, dI)) (ci := 11) (v := .ref o7) (C := RX11) (T := TX11) (N := 13) hx hb hts iw_X11_digest_X11 hown hK hP 0 rfl rfl 1 (by decide) (hts (.fieldLink RX11 19 "HolelessHouse" "table" "LHolelessHouse$Table;") hm_X11_digest_4) (fun _ h9 => h9) rfl dX11_digest_66 ?_
  refine va_getN (D := (dC, dI)) (ci := 10) (v := .ref o8) (C := RX10) (T := TX10) (N := 3) hx hb hts iw_X11_digest_X10 hown hK hP 5 rfl rfl 0 (by decide) (hN.use ns_21) (fun _ h9 => h9) rfl dX11_digest_69 ?_
  refine lv_bipush (v := 12) hx hb dX11_digest_72 (by decide) ?_
  refine kc_l (D := (dC, dI)) (S := Unit) (wc := [(o8, .inl (cI, 12, .inl fw9))]) (wr := [(o1, .inr (11, [.ref o2, .ref o7, .ref o12, .ref o41, .ref o51, .ref o64, .ref o77, .ref o84, .ref o91, .ref o99, .ref o111, .ref o123, .int v125])), (o2, .inr (4, [.ref o3, .int v5, .int v6])), (o3, .inl (cI, 12, .inl fw4)), (o12, .inr (6, [.ref o13, .ref o18, .ref o32, .ref o34, .int v36, .int v37, .int v38, .int v39, .int v40])), (o32, .inl (cI, 12, .inl fw33)), (o7, .inr (10, [.ref o8, .int v10, .int v11])), (o34, .inl (cI, 12, .inl fw35))]) (w1 := fun _ => [(o8, .inl (cI, 12, .inl fw9))]) (wn := fun _ => [(o1, .inr (11, [.ref o2, .ref o7, .ref o12, .ref o41, .ref o51, .ref o64, .ref o77, .ref o84, .ref o91, .ref o99, .ref o111, .ref o123, .int v125])), (o2, .inr (4, [.ref o3, .int v5, .int v6])), (o3, .inl (cI, 12, .inl fw4)), (o12, .inr (6, [.ref o13, .ref o18, .ref o32, .ref o34, .int v36, .int v37, .int v38, .int v39, .int v40])), (o32, .inl (cI, 12, .inl fw33)), (o7, .inr (10, [.ref o8, .int v10, .int v11])), (o8, .inl (cI, 12, .inl fw9)), (o34, .inl (cI, 12, .inl fw35))]) (fun hPc hDc => va_runS (As := [.long l5, .ref o8, .int 12]) (rest := []) ⟨hx, hb, hml, hown, hts⟩ (kX11_mixAll_3 l dC dI cI c2 cZ o8 l5 fw9 12 H.size fw9_b) (va_cwS 3 hts gX11_digest_X11_mixAll rfl rfl rfl (by decide +kernel) ⟨Nat.le_of_ble_eq_true rfl, Nat.le_of_ble_eq_true rfl⟩) (pre_S hPc hK hDc hN) rfl rfl hl.1 rfl (lv_room (Nat.le_of_ble_eq_true rfl)) dX11_digest_74 ⟨Nat.le_of_ble_eq_true rfl, Nat.le_of_ble_eq_true rfl⟩) hP hD hS hA [6] [0, 1, 2, 3, 4, 5, 7] [0, 1, 2, 3, 4, 5, 7, 6] rfl rfl (by decide +kernel) (by decide +kernel) (by decide +kernel) (by decide +kernel) (fun _ => rfl) (fun l6 _ H locs hq hP hD hS => ?_)
  have hP : va_P (dC, dI) vwCl ([(o1, .inr (11, [.ref o2, .ref o7, .ref o12, .ref o41, .ref o51, .ref o64, .ref o77, .ref o84, .ref o91, .ref o99, .ref o111, .ref o123, .int v125])), (o2, .inr (4, [.ref o3, .int v5, .int v6])), (o3, .inl (cI, 12, .inl fw4)), (o12, .inr (6, [.ref o13, .ref o18, .ref o32, .ref o34, .int v36, .int v37, .int v38, .int v39, .int v40])), (o32, .inl (cI, 12, .inl fw33)), (o7, .inr (10, [.ref o8, .int v10, .int v11])), (o8, .inl (cI, 12, .inl fw9)), (o34, .inl (cI, 12, .inl fw35))]) H := hP
  have hD : va_D A ([(o1, .inr (11, [.ref o2, .ref o7, .ref o12, .ref o41, .ref o51, .ref o64, .ref o77, .ref o84, .ref o91, .ref o99, .ref o111, .ref o123, .int v125])), (o2, .inr (4, [.ref o3, .int v5, .int v6])), (o3, .inl (cI, 12, .inl fw4)), (o12, .inr (6, [.ref o13, .ref o18, .ref o32, .ref o34, .int v36, .int v37, .int v38, .int v39, .int v40])), (o32, .inl (cI, 12, .inl fw33)), (o7, .inr (10, [.ref o8, .int v10, .int v11])), (o8, .inl (cI, 12, .inl fw9)), (o34, .inl (cI, 12, .inl fw35))]) := hD
  refine lv_lstore_n (lv' := [(1, .long l6), (0, .ref o1)]) hx hb dX11_digest_77 rfl hl (by decide) rfl (fun ls hl => ?_)
  refine lv_lload_n hx hb dX11_digest_78 rfl (lv_at hl 0 rfl) ?_
  refine lv_aload_n hx hb dX11_digest_79 rfl (lv_at hl 1 rfl) ?_
  refine va_get (D := (dC, dI)) (ci := 11) (v := .ref o12) (C := RX11) (T := TX11) (N := 13) hx hb hts iw_X11_digest_X11 hown hK hP 0 rfl rfl 2 (by decide) (hts (.fieldLink RX11 26 "HolelessHouse" "ordering" "LHolelessHouse$Ordering;") hm_X11_digest_3) (fun _ h9 => h9) rfl dX11_digest_80 ?_
  refine va_getN (D := (dC, dI)) (ci := 6) (v := .ref o34) (C := RX6) (T := TX6) (N := 9) hx hb hts iw_X11_digest_X6 hown hK hP 3 rfl rfl 3 (by decide) (hN.use ns_26) (fun _ h9 => h9) rfl dX11_digest_83 ?_
  refine lv_aload_n hx hb dX11_digest_86 rfl (lv_at hl 1 rfl) ?_
  refine va_get (D := (dC, dI)) (ci := 11) (v := .ref o12) (C := RX11) (T := TX11) (N := 13) hx hb hts iw_X11_digest_X11 hown hK hP 0 rfl rfl 2 (by decide) (hts (.fieldLink RX11 26 "HolelessHouse" "ordering" "LHolelessHouse$Ordering;") hm_X11_digest_3) (fun _ h9 => h9) rfl dX11_digest_87 ?_
  refine va_getN (D := (dC, dI)) (ci := 6) (v := .int v36) (C := RX6) (T := TX6) (N := 9) hx hb hts iw_X11_digest_X6 hown hK hP 3 rfl rfl 4 (by decide) (hN.use ns_27) (fun _ h9 => h9) rfl dX11_digest_90 ?_
  refine kc_l (D := (dC, dI)) (S := Unit) (wc := [(o34, .inl (cI, 12, .inl fw35))]) (wr := [(o1, .inr (11, [.ref o2, .ref o7, .ref o12, .ref o41, .ref o51, .ref o64, .ref o77, .ref o84, .ref o91, .ref o99, .ref o111, .ref o123, .int v125])), (o2, .inr (4, [.ref o3, .int v5, .int v6])), (o3, .inl (cI, 12, .inl fw4)), (o12, .inr (6, [.ref o13, .ref o18, .ref o32, .ref o34, .int v36, .int v37, .int v38, .int v39, .int v40])), (o32, .inl (cI, 12, .inl fw33)), (o7, .inr (10, [.ref o8, .int v10, .int v11])), (o8, .inl (cI, 12, .inl fw9))]) (w1 := fun _ => [(o34, .inl (cI, 12, .inl fw35))]) (wn := fun _ => [(o1, .inr (11, [.ref o2, .ref o7, .ref o12, .ref o41, .ref o51, .ref o64, .ref o77, .ref o84, .ref o91, .ref o99, .ref o111, .ref o123, .int v125])), (o2, .inr (4, [.ref o3, .int v5, .int v6])), (o3, .inl (cI, 12, .inl fw4)), (o12, .inr (6, [.ref o13, .ref o18, .ref o32, .ref o34, .int v36, .int v37, .int v38, .int v39, .int v40])), (o32, .inl (cI, 12, .inl fw33)), (o7, .inr (10, [.ref o8, .int v10, .int v11])), (o8, .inl (cI, 12, .inl fw9)), (o34, .inl (cI, 12, .inl fw35))]) (fun hPc hDc => va_runS (As := [.long l6, .ref o34, .int v36]) (rest := []) ⟨hx, hb, hml, hown, hts⟩ (kX11_mixAll_2 l dC dI cI c2 cZ o34 l6 fw35 v36 H.size fw35_b) (va_cwS 3 hts gX11_digest_X11_mixAll rfl rfl rfl (by decide +kernel) ⟨Nat.le_of_ble_eq_true rfl, Nat.le_of_ble_eq_true rfl⟩) (pre_S hPc hK hDc hN) rfl rfl hl.1 rfl (lv_room (Nat.le_of_ble_eq_true rfl)) dX11_digest_93 ⟨Nat.le_of_ble_eq_true rfl, Nat.le_of_ble_eq_true rfl⟩) hP hD hS hA [7] [0, 1, 2, 3, 4, 5, 6] [0, 1, 2, 3, 4, 5, 6, 7] rfl rfl (by decide +kernel) (by decide +kernel) (by decide +kernel) (by decide +kernel) (fun _ => rfl) (fun l7 _ H locs hq hP hD hS => ?_)
  have hP : va_P (dC, dI) vwCl ([(o1, .inr (11, [.ref o2, .ref o7, .ref o12, .ref o41, .ref o51, .ref o64, .ref o77, .ref o84, .ref o91, .ref o99, .ref o111, .ref o123, .int v125])), (o2, .inr (4, [.ref o3, .int v5, .int v6])), (o3, .inl (cI, 12, .inl fw4)), (o12, .inr (6, [.ref o13, .ref o18, .ref o32, .ref o34, .int v36, .int v37, .int v38, .int v39, .int v40])), (o32, .inl (cI, 12, .inl fw33)), (o7, .inr (10, [.ref o8, .int v10, .int v11])), (o8, .inl (cI, 12, .inl fw9)), (o34, .inl (cI, 12, .inl fw35))]) H := hP
  have hD : va_D A ([(o1, .inr (11, [.ref o2, .ref o7, .ref o12, .ref o41, .ref o51, .ref o64, .ref o77, .ref o84, .ref o91, .ref o99, .ref o111, .ref o123, .int v125])), (o2, .inr (4, [.ref o3, .int v5, .int v6])), (o3, .inl (cI, 12, .inl fw4)), (o12, .inr (6, [.ref o13, .ref o18, .ref o32, .ref o34, .int v36, .int v37, .int v38, .int v39, .int v40])), (o32, .inl (cI, 12, .inl fw33)), (o7, .inr (10, [.ref o8, .int v10, .int v11])), (o8, .inl (cI, 12, .inl fw9)), (o34, .inl (cI, 12, .inl fw35))]) := hD
  rw [hQ]
  exact W.lret (v := l7) hx hb hr (fun t ht hW => ⟨⟨l7, (), rfl, trivial, by rw [ht]; exact hP, va_K.moved hW.alike hK, hD⟩, hS.F ht⟩) hS.2.2 dX11_digest_96
