theorem hm_X9_lookFor_1 : (.fieldLink RX9 18 "HolelessHouse$Ring" "path" "[I" : Cond) ∈ wsX9_lookFor := List.mem_of_getElem? (i := 1) rfl
theorem hm_X9_bring_1 : (.fieldLink RX9 26 "HolelessHouse$Ring" "madeFor" "I" : Cond) ∈ wsX9_bring := List.mem_of_getElem? (i := 1) rfl
theorem hm_X9_bring_2 : (.fieldLink RX9 12 "HolelessHouse$Ring" "going" "LHolelessHouse$Going;" : Cond) ∈ wsX9_bring := List.mem_of_getElem? (i := 2) rfl
theorem hm_X9_bring_5 : (.initialized RX3 : Cond) ∈ wsX9_bring := List.mem_of_getElem? (i := 5) rfl
theorem hm_X9_bring_4 : (.instanceMethod yX3_goesWithoutFill : Cond) ∈ wsX9_bring := List.mem_of_getElem? (i := 4) rfl
theorem hm_X9_bring_6 : (.selects RX3 yX3_goesWithoutFill yX3_goesWithoutFill : Cond) ∈ wsX9_bring := List.mem_of_getElem? (i := 6) rfl
theorem hm_X9_bring_3 : (.fieldLink RX9 22 "HolelessHouse$Ring" "length" "I" : Cond) ∈ wsX9_bring := List.mem_of_getElem? (i := 3) rfl
theorem hm_X11_sound_1 : (.fieldLink RX11 33 "HolelessHouse" "ring" "LHolelessHouse$Ring;" : Cond) ∈ wsX11_sound := List.mem_of_getElem? (i := 1) rfl
theorem hm_X11_sound_2 : (.fieldLink RX11 10 "HolelessHouse" "graph" "LHolelessHouse$Graph;" : Cond) ∈ wsX11_sound := List.mem_of_getElem? (i := 2) rfl
theorem hm_X11_sound_4 : (.initialized RX9 : Cond) ∈ wsX11_sound := List.mem_of_getElem? (i := 4) rfl
theorem hm_X11_sound_3 : (.instanceMethod yX9_bring : Cond) ∈ wsX11_sound := List.mem_of_getElem? (i := 3) rfl
theorem hm_X11_sound_5 : (.selects RX9 yX9_bring yX9_bring : Cond) ∈ wsX11_sound := List.mem_of_getElem? (i := 5) rfl
theorem hm_X11_hole_1 : (.fieldLink RX11 33 "HolelessHouse" "ring" "LHolelessHouse$Ring;" : Cond) ∈ wsX11_hole := List.mem_of_getElem? (i := 1) rfl
theorem hm_X11_hole_2 : (.fieldLink RX11 10 "HolelessHouse" "graph" "LHolelessHouse$Graph;" : Cond) ∈ wsX11_hole := List.mem_of_getElem? (i := 2) rfl
theorem hm_X11_hole_4 : (.initialized RX9 : Cond) ∈ wsX11_hole := List.mem_of_getElem? (i := 4) rfl
theorem hm_X11_hole_3 : (.instanceMethod yX9_bring : Cond) ∈ wsX11_hole := List.mem_of_getElem? (i := 3) rfl
theorem hm_X11_hole_5 : (.selects RX9 yX9_bring yX9_bring : Cond) ∈ wsX11_hole := List.mem_of_getElem? (i := 5) rfl
theorem hm_X4_joinAll_1 : (.fieldLink RX4 15 "HolelessHouse$Graph" "size" "I" : Cond) ∈ wsX4_joinAll := List.mem_of_getElem? (i := 1) rfl
theorem hm_X4_joinAll_3 : (.fieldLink RX4 19 "HolelessHouse$Graph" "version" "I" : Cond) ∈ wsX4_joinAll := List.mem_of_getElem? (i := 3) rfl
theorem hm_X4_joinAll_5 : (.initialized RX11 : Cond) ∈ wsX4_joinAll := List.mem_of_getElem? (i := 5) rfl
theorem hm_X4_joinAll_4 : (.static yX11_in : Cond) ∈ wsX4_joinAll := List.mem_of_getElem? (i := 4) rfl
theorem hm_X4_joinAll_2 : (.fieldLink RX4 9 "HolelessHouse$Graph" "near" "[I" : Cond) ∈ wsX4_joinAll := List.mem_of_getElem? (i := 2) rfl
theorem hm_X11_fromTable_1 : (.fieldLink RX11 19 "HolelessHouse" "table" "LHolelessHouse$Table;" : Cond) ∈ wsX11_fromTable := List.mem_of_getElem? (i := 1) rfl
theorem hm_X11_fromTable_2 : (.fieldLink RX11 10 "HolelessHouse" "graph" "LHolelessHouse$Graph;" : Cond) ∈ wsX11_fromTable := List.mem_of_getElem? (i := 2) rfl
theorem hm_X11_fromTable_10 : (.initialized RX4 : Cond) ∈ wsX11_fromTable := List.mem_of_getElem? (i := 10) rfl
theorem hm_X11_fromTable_35 : (.instanceMethod yX4_joinAll : Cond) ∈ wsX11_fromTable := List.mem_of_getElem? (i := 35) rfl
theorem hm_X11_fromTable_36 : (.selects RX4 yX4_joinAll yX4_joinAll : Cond) ∈ wsX11_fromTable := List.mem_of_getElem? (i := 36) rfl
theorem hm_X4_invert_1 : (.fieldLink RX4 15 "HolelessHouse$Graph" "size" "I" : Cond) ∈ wsX4_invert := List.mem_of_getElem? (i := 1) rfl
theorem hm_X4_invert_3 : (.fieldLink RX4 19 "HolelessHouse$Graph" "version" "I" : Cond) ∈ wsX4_invert := List.mem_of_getElem? (i := 3) rfl
theorem hm_X4_invert_2 : (.fieldLink RX4 9 "HolelessHouse$Graph" "near" "[I" : Cond) ∈ wsX4_invert := List.mem_of_getElem? (i := 2) rfl
theorem hm_X4_pairs_1 : (.fieldLink RX4 15 "HolelessHouse$Graph" "size" "I" : Cond) ∈ wsX4_pairs := List.mem_of_getElem? (i := 1) rfl
theorem hm_X4_pairs_2 : (.fieldLink RX4 9 "HolelessHouse$Graph" "near" "[I" : Cond) ∈ wsX4_pairs := List.mem_of_getElem? (i := 2) rfl
theorem hm_X11_turn_1 : (.fieldLink RX11 10 "HolelessHouse" "graph" "LHolelessHouse$Graph;" : Cond) ∈ wsX11_turn := List.mem_of_getElem? (i := 1) rfl
theorem hm_X11_turn_4 : (.initialized RX4 : Cond) ∈ wsX11_turn := List.mem_of_getElem? (i := 4) rfl
theorem hm_X11_turn_3 : (.instanceMethod yX4_invert : Cond) ∈ wsX11_turn := List.mem_of_getElem? (i := 3) rfl
theorem hm_X11_turn_5 : (.selects RX4 yX4_invert yX4_invert : Cond) ∈ wsX11_turn := List.mem_of_getElem? (i := 5) rfl
theorem hm_X11_turn_2 : (.fieldLink RX11 26 "HolelessHouse" "ordering" "LHolelessHouse$Ordering;" : Cond) ∈ wsX11_turn := List.mem_of_getElem? (i := 2) rfl
theorem hm_X11_turn_15 : (.initialized RX6 : Cond) ∈ wsX11_turn := List.mem_of_getElem? (i := 15) rfl
theorem hm_X11_turn_14 : (.instanceMethod yX6_drop : Cond) ∈ wsX11_turn := List.mem_of_getElem? (i := 14) rfl
theorem hm_X11_turn_16 : (.selects RX6 yX6_drop yX6_drop : Cond) ∈ wsX11_turn := List.mem_of_getElem? (i := 16) rfl
theorem hm_X11_turn_19 : (.instanceMethod yX4_pairs : Cond) ∈ wsX11_turn := List.mem_of_getElem? (i := 19) rfl
theorem hm_X11_turn_20 : (.selects RX4 yX4_pairs yX4_pairs : Cond) ∈ wsX11_turn := List.mem_of_getElem? (i := 20) rfl
theorem hm_X6_draftSet_1 : (.fieldLink RX6 32 "HolelessHouse$Ordering" "draftSize" "I" : Cond) ∈ wsX6_draftSet := List.mem_of_getElem? (i := 1) rfl
theorem hm_X6_draftSet_2 : (.fieldLink RX6 29 "HolelessHouse$Ordering" "drafts" "[I" : Cond) ∈ wsX6_draftSet := List.mem_of_getElem? (i := 2) rfl
theorem hm_X6_drafted_9 : (.initialized RX11 : Cond) ∈ wsX6_drafted := List.mem_of_getElem? (i := 9) rfl
theorem hm_X6_drafted_8 : (.static yX11_in : Cond) ∈ wsX6_drafted := List.mem_of_getElem? (i := 8) rfl
theorem hm_X6_addToDraft_1 : (.fieldLink RX6 32 "HolelessHouse$Ordering" "draftSize" "I" : Cond) ∈ wsX6_addToDraft := List.mem_of_getElem? (i := 1) rfl
theorem hm_X6_addToDraft_2 : (.fieldLink RX6 29 "HolelessHouse$Ordering" "drafts" "[I" : Cond) ∈ wsX6_addToDraft := List.mem_of_getElem? (i := 2) rfl
theorem hm_X11_draft_1 : (.fieldLink RX11 10 "HolelessHouse" "graph" "LHolelessHouse$Graph;" : Cond) ∈ wsX11_draft := List.mem_of_getElem? (i := 1) rfl
theorem hm_X11_draft_4 : (.initialized RX4 : Cond) ∈ wsX11_draft := List.mem_of_getElem? (i := 4) rfl
theorem hm_X11_draft_3 : (.instanceMethod yX4_has : Cond) ∈ wsX11_draft := List.mem_of_getElem? (i := 3) rfl
theorem hm_X11_draft_5 : (.selects RX4 yX4_has yX4_has : Cond) ∈ wsX11_draft := List.mem_of_getElem? (i := 5) rfl
theorem hm_X11_draft_2 : (.fieldLink RX11 26 "HolelessHouse" "ordering" "LHolelessHouse$Ordering;" : Cond) ∈ wsX11_draft := List.mem_of_getElem? (i := 2) rfl
theorem hm_X11_draft_9 : (.initialized RX6 : Cond) ∈ wsX11_draft := List.mem_of_getElem? (i := 9) rfl
theorem hm_X11_draft_8 : (.instanceMethod yX6_drafted : Cond) ∈ wsX11_draft := List.mem_of_getElem? (i := 8) rfl
theorem hm_X11_draft_10 : (.selects RX6 yX6_drafted yX6_drafted : Cond) ∈ wsX11_draft := List.mem_of_getElem? (i := 10) rfl
theorem hm_X11_draft_21 : (.instanceMethod yX6_addToDraft : Cond) ∈ wsX11_draft := List.mem_of_getElem? (i := 21) rfl
theorem hm_X11_draft_22 : (.selects RX6 yX6_addToDraft yX6_addToDraft : Cond) ∈ wsX11_draft := List.mem_of_getElem? (i := 22) rfl
set_option maxHeartbeats 4000000 in
set_option maxRecDepth 100000 in
theorem kX9_closes_12 (l : Launch) (dC : Nat → ClassId) (dI : Nat → Nat → Nat) (cI c2 cZ : ClassId) (o1 : Nat) (o11 : Nat) (o2 : Nat) (o7 : Nat) (o12 : Nat) (fw8 : Nat → Int32) (v9 : Int32) (v10 : Int32) (fw13 : Nat → Int32) (v14 : Int32) (v15 : Int32) (a2 : Int32) (a4 : Int32) (sz : Nat) (fw8_b : Bd 12 0 11 fw8) (v9_h : Iv 0 12 v9) (fw13_b : Bd 12 0 4095 fw13) (v14_h : Iv 0 12 v14) (a2_h : Iv 4 12 a2) : Met l yX9_closes wsX9_closes ({ frames := 12, cells := 0, slots := 0, locals := 315 }) (va_Pc [.ref o1, .ref o11, .int a2, .int 1, .int a4] (wPre (dC, dI) [(cI, .int), (c2, .array .int), (cZ, .boolean)] ([(o1, .inr (9, [.ref o2, .ref o7, .int v9, .int v10])), (o7, .inl (cI, 12, .inl fw8)), (o11, .inr (4, [.ref o12, .int v14, .int v15])), (o12, .inl (cI, 12, .inl fw13))]) sz)) (va_Qi (fun (r : Int32) (u : (Nat → Int32)) => Iv 0 1 r ∧ Bd 12 0 11 u) (fun u t => wPost (dC, dI) [(cI, .int), (c2, .array .int), (cZ, .boolean)] (va_A ([(o1, .inr (9, [.ref o2, .ref o7, .int v9, .int v10])), (o7, .inl (cI, 12, .inl fw8)), (o11, .inr (4, [.ref o12, .int v14, .int v15])), (o12, .inl (cI, 12, .inl fw13))]) sz) ([(o1, .inr (9, [.ref o2, .ref o7, .int v9, .int v10])), (o7, .inl (cI, 12, .inl u)), (o11, .inr (4, [.ref o12, .int v14, .int v15])), (o12, .inl (cI, 12, .inl fw13))]) t) (va_A ([(o1, .inr (9, [.ref o2, .ref o7, .int v9, .int v10])), (o7, .inl (cI, 12, .inl fw8)), (o11, .inr (4, [.ref o12, .int v14, .int v15])), (o12, .inl (cI, 12, .inl fw13))]) sz)) 0 0 (va_A ([(o1, .inr (9, [.ref o2, .ref o7, .int v9, .int v10])), (o7, .inl (cI, 12, .inl fw8)), (o11, .inr (4, [.ref o12, .int v14, .int v15])), (o12, .inl (cI, 12, .inl fw13))]) sz) := by
  refine Met.ofW (cc := cX9_closes) (maxL := 8) (ret := (some .boolean)) (by decide) rfl ?_
  intro p e s m args below meth c s₁ B hml hv
  obtain ⟨rfl, hsz, hP, hK, hD0, hN⟩ := hv
  have hx := B.exec
  have hb := B.bytes
  have hr := B.returns
  have hts := atoms_spec (ws := wsX9_closes) B.pre
  have hown : s.vm.findClass RX9 = some m.cls := findClass_of_methodNamed B.named
  have hlocks := B.notSynchronized
  subst hsz
  have hD := hD0.self (sz := s.heap.size)
  generalize hAe : va_A ([(o1, .inr (9, [.ref o2, .ref o7, .int v9, .int v10])), (o7, .inl (cI, 12, .inl fw8)), (o11, .inr (4, [.ref o12, .int v14, .int v15])), (o12, .inl (cI, 12, .inl fw13))]) s.heap.size = A at hD ⊢
  have hA : ∀ q : Nat, s.heap.size ≤ q → A q := fun q h => by rw [← hAe]; exact Or.inr h
  have hS : va_S A s.heap s.heap [] := va_S.rf
  have hP : va_P (dC, dI) vwCl ([(o1, .inr (9, [.ref o2, .ref o7, .int v9, .int v10])), (o7, .inl (cI, 12, .inl fw8)), (o11, .inr (4, [.ref o12, .int v14, .int v15])), (o12, .inl (cI, 12, .inl fw13))]) s.heap := hP
  have hl := lv_entry ([.ref o1, .ref o11, .int a2, .int 1, .int a4]) (n := 8) (Nat.le_of_ble_eq_true rfl)
  rw [lg_entry_eq]
  generalize (lg_sl ([.ref o1, .ref o11, .int a2, .int 1, .int a4]) ++ List.replicate (8 - (lg_sl ([.ref o1, .ref o11, .int a2, .int 1, .int a4])).length) Slot.unset).toArray = ls at hl ⊢
  have hl : lv_has ls 8 [(0, .ref o1), (1, .ref o11), (2, .int a2), (3, .int 1), (4, .int a4)] := hl
  refine gen_Q (fun Q hQ => ?_)
  refine lv_iload_n hx hb dX9_closes_0 rfl (lv_at hl 3 rfl) ?_
  refine lv_iload_n hx hb dX9_closes_1 rfl (lv_at hl 2 rfl) ?_
  refine lv_icmp_lt (tgt := 7) hx hb dX9_closes_2 (by decide) (fun _ => ?_) (fun h9 => absurd (d_lt ik_1 a2_h (by decide)) h9)
  refine lv_aload_n hx hb dX9_closes_7 rfl (lv_at hl 0 rfl) ?_
  refine lv_aload_n hx hb dX9_closes_8 rfl (lv_at hl 1 rfl) ?_
  refine lv_iload_n hx hb dX9_closes_9 rfl (lv_at hl 2 rfl) ?_
  refine lv_iload_n hx hb dX9_closes_10 rfl (lv_at hl 3 rfl) ?_
  refine kc_i (D := (dC, dI)) (S := Unit) (wc := [(o1, .inr (9, [.ref o2, .ref o7, .int v9, .int v10])), (o7, .inl (cI, 12, .inl fw8)), (o11, .inr (4, [.ref o12, .int v14, .int v15])), (o12, .inl (cI, 12, .inl fw13))]) (wr := []) (w1 := fun _ => [(o1, .inr (9, [.ref o2, .ref o7, .int v9, .int v10])), (o7, .inl (cI, 12, .inl fw8)), (o11, .inr (4, [.ref o12, .int v14, .int v15])), (o12, .inl (cI, 12, .inl fw13))]) (wn := fun _ => [(o1, .inr (9, [.ref o2, .ref o7, .int v9, .int v10])), (o7, .inl (cI, 12, .inl fw8)), (o11, .inr (4, [.ref o12, .int v14, .int v15])), (o12, .inl (cI, 12, .inl fw13))]) (fun hPc hDc => va_runV (As := [.ref o11, .int a2, .int 1]) (rest := []) ⟨hx, hb, hml, hown, hts⟩ (kX9_nextOnes_1 l dC dI cI c2 cZ o1 o11 o2 o7 o12 fw8 v9 v10 fw13 v14 v15 a2 1 s.heap.size fw8_b v9_h fw13_b v14_h a2_h (iv_w ik_1 (by decide))) (cwV 3 hts gX9_closes_X9_nextOnes rfl rfl rfl (by decide +kernel) ⟨Nat.le_of_ble_eq_true rfl, Nat.le_of_ble_eq_true rfl⟩) (pre_V hPc hK hDc hN (ci := 9) (q0 := 0) rfl rfl) rfl rfl hl.1 rfl (lv_room (Nat.le_of_ble_eq_true rfl)) dX9_closes_11 ⟨Nat.le_of_ble_eq_true rfl, Nat.le_of_ble_eq_true rfl⟩) hP hD hS hA [0, 1, 2, 3] [] [0, 1, 2, 3] rfl rfl (by decide +kernel) (by decide +kernel) (by decide +kernel) (by decide +kernel) (fun _ => rfl) (fun x1 _ H locs hq hP hD hS => ?_)
  have x1_h := hq
  have hP : va_P (dC, dI) vwCl ([(o1, .inr (9, [.ref o2, .ref o7, .int v9, .int v10])), (o7, .inl (cI, 12, .inl fw8)), (o11, .inr (4, [.ref o12, .int v14, .int v15])), (o12, .inl (cI, 12, .inl fw13))]) H := hP
  have hD : va_D A ([(o1, .inr (9, [.ref o2, .ref o7, .int v9, .int v10])), (o7, .inl (cI, 12, .inl fw8)), (o11, .inr (4, [.ref o12, .int v14, .int v15])), (o12, .inl (cI, 12, .inl fw13))]) := hD
  refine lv_iload hx hb dX9_closes_14 (lv_at hl 4 rfl) ?_
  refine lv_iconst (v := (-1)) hx hb dX9_closes_16 (by decide) ?_
  refine lv_ixor hx hb dX9_closes_17 (lv_topi (fun x2 x2_e => ?_))
  refine lv_iand hx hb dX9_closes_18 (lv_topi (fun x3 x3_e => ?_))
  have x3_h : Iv 0 4095 x3 := iv_e x3_e (iv_andL _ x1_h (by decide))
  refine lv_istore (lv' := [(5, .int x3), (0, .ref o1), (1, .ref o11), (2, .int a2), (3, .int 1), (4, .int a4)]) hx hb dX9_closes_19 hl (by decide) rfl (fun ls hl => ?_)
  refine lv_iload_n hx hb dX9_closes_21 rfl (lv_at hl 4 rfl) ?_
  refine lv_iconst (v := 1) hx hb dX9_closes_22 (by decide) ?_
  refine lv_icmp_ne (tgt := 30) hx hb dX9_closes_23 (by decide) (fun h9 => absurd (by decide +kernel) h9) (fun _ => ?_)
  refine lv_iconst (v := 0) hx hb dX9_closes_26 (by decide) ?_
  refine lv_goto (tgt := 43) hx hb dX9_closes_27 (by decide) ?_
  refine lv_istore (lv' := [(6, .int 0), (5, .int x3), (0, .ref o1), (1, .ref o11), (2, .int a2), (3, .int 1), (4, .int a4)]) hx hb dX9_closes_43 hl (by decide) rfl (fun ls hl => ?_)
  refine lv_iconst (v := 0) hx hb dX9_closes_45 (by decide) ?_
  refine lv_istore (lv' := [(7, .int 0), (6, .int 0), (5, .int x3), (0, .ref o1), (1, .ref o11), (2, .int a2), (3, .int 1), (4, .int a4)]) hx hb dX9_closes_46 hl (by decide) rfl (fun ls hl => ?_)
  have L1 : ∀ (N : Nat) (x159 : Int32) (f160 : Nat → Int32) (H : Heap) (locs : List Loc) (ls : Array Slot), (12 - x159.toInt).toNat < N → Iv 0 12 x159 → Bd 12 0 11 f160 → va_P (dC, dI) vwCl ([(o1, .inr (9, [.ref o2, .ref o7, .int v9, .int v10])), (o7, .inl (cI, 12, .inl f160)), (o11, .inr (4, [.ref o12, .int v14, .int v15])), (o12, .inl (cI, 12, .inl fw13))]) H → va_D A ([(o1, .inr (9, [.ref o2, .ref o7, .int v9, .int v10])), (o7, .inl (cI, 12, .inl f160)), (o11, .inr (4, [.ref o12, .int v14, .int v15])), (o12, .inl (cI, 12, .inl fw13))]) → va_S A s.heap H locs → lv_has ls 8 [(7, .int x159), (6, .int 0), (5, .int x3), (0, .ref o1), (1, .ref o11), (2, .int a2), (3, .int 1), (4, .int a4)] → W p l e ({ frames := 12, cells := 0, slots := 0, locals := 315 }) s m ([.ref o1, .ref o11, .int a2, .int 1, .int a4] : List Value).toArray below meth c H locs 0 0 Q (F0 m 48 ls []) := by
    intro N
    induction N with
    | zero =>
      intro x159 f160 H locs ls hM
      exact absurd hM (Nat.not_lt_zero _)
    | succ N ih1 =>
      intro x159 f160 H locs ls hM1 x159_h f160_b hP hD hS hl
      refine lv_iload hx hb dX9_closes_48 (lv_at hl 0 rfl) ?_
      refine lv_aload_n hx hb dX9_closes_50 rfl (lv_at hl 4 rfl) ?_
      refine va_getN (D := (dC, dI)) (ci := 4) (v := .int v14) (C := RX4) (T := TX4) (N := 3) hx hb hts iw_X9_closes_X4 hown hK hP 2 rfl rfl 1 (by decide) (hN.use ns_11) (fun _ h9 => h9) rfl dX9_closes_51 ?_
      refine lv_icmp_ge (tgt := 105) hx hb dX9_closes_54 (by decide) (fun h161 => ?_) (fun h161 => ?_)
      ·
        have qh161 := le_i h161
        refine lv_iconst (v := 0) hx hb dX9_closes_105 (by decide) ?_
        rw [hQ]
        exact W.zret (v := 0) (ty := .boolean) hx hb hr rfl (fun t ht hW => ⟨⟨0, f160, rfl, ⟨(iv_w ik_0 (by decide)), f160_b⟩, by rw [ht]; exact hP, va_K.moved hW.alike hK, hD⟩, hS.F ht⟩) hS.2.2 dX9_closes_106
      ·
        have qh161 := nle_i h161
        have j162 : Iv 0 11 x159 := r_ltl qh161 x159_h v14_h (by decide)
        have j163 : Iv 1 12 v14 := r_ltr qh161 x159_h v14_h (by decide)
        refine lv_iload hx hb dX9_closes_57 (lv_at hl 2 rfl) ?_
        refine lv_iload hx hb dX9_closes_59 (lv_at hl 0 rfl) ?_
        refine kc_i (D := (dC, dI)) (S := Unit) (wc := []) (wr := [(o1, .inr (9, [.ref o2, .ref o7, .int v9, .int v10])), (o7, .inl (cI, 12, .inl f160)), (o11, .inr (4, [.ref o12, .int v14, .int v15])), (o12, .inl (cI, 12, .inl fw13))]) (w1 := fun _ => []) (wn := fun _ => [(o1, .inr (9, [.ref o2, .ref o7, .int v9, .int v10])), (o7, .inl (cI, 12, .inl f160)), (o11, .inr (4, [.ref o12, .int v14, .int v15])), (o12, .inl (cI, 12, .inl fw13))]) (fun hPc hDc => va_runSN (As := [.int x3, .int x159]) (rest := []) ⟨hx, hb, hml, hown, hts⟩ (kX11_in_1 l dC dI cI c2 cZ x3 x159 H.size) ⟨va_cnB 2 hts gX9_closes_X11_in_n56 rfl rfl rfl (hN.1 _ ns_76) (hts (.initialized RX11) hm_X9_closes_11) (by decide +kernel) ⟨Nat.le_of_ble_eq_true rfl, Nat.le_of_ble_eq_true rfl⟩, (hts (.static yX11_in) hm_X9_closes_10), trivial⟩ (pre_S hPc hK hDc hN) rfl rfl hl.1 rfl (lv_room (Nat.le_of_ble_eq_true rfl)) dX9_closes_61 ⟨Nat.le_of_ble_eq_true rfl, Nat.le_of_ble_eq_true rfl⟩) hP hD hS hA [] [0, 1, 2, 3] [0, 1, 2, 3] rfl rfl (by decide +kernel) (by decide +kernel) (by decide +kernel) (by decide +kernel) (fun _ => rfl) (fun x164 _ H locs hq hP hD hS => ?_)
        have x164_h := hq
        have hP : va_P (dC, dI) vwCl ([(o1, .inr (9, [.ref o2, .ref o7, .int v9, .int v10])), (o7, .inl (cI, 12, .inl f160)), (o11, .inr (4, [.ref o12, .int v14, .int v15])), (o12, .inl (cI, 12, .inl fw13))]) H := hP
        have hD : va_D A ([(o1, .inr (9, [.ref o2, .ref o7, .int v9, .int v10])), (o7, .inl (cI, 12, .inl f160)), (o11, .inr (4, [.ref o12, .int v14, .int v15])), (o12, .inl (cI, 12, .inl fw13))]) := hD
        refine lv_if_eq (tgt := 99) hx hb dX9_closes_64 (by decide) (fun h165 => ?_) (fun h165 => ?_)
        ·
          have j166 : Iv 0 0 x164 := r_eq h165 ik_0
          obtain ⟨x167, x167_e⟩ : ∃ z : Int32, z = x159 + 1 := ⟨_, rfl⟩
          have x167_h : Iv 1 12 x167 := iv_e x167_e (iv_add j162 ik_1 (by decide))
          refine lv_iinc (v := x167) (lv' := [(7, .int x167), (6, .int 0), (5, .int x3), (0, .ref o1), (1, .ref o11), (2, .int a2), (3, .int 1), (4, .int a4)]) hx hb dX9_closes_99 hl (k := 0) rfl (incN (by decide +kernel) x167_e) (by decide) rfl (fun ls hl => ?_)
          refine lv_goto (tgt := 48) hx hb dX9_closes_102 (by decide) ?_
          exact ih1 x167 f160 _ _ _ (ms_up x167_e j162 (by decide) hM1) (iv_w x167_h (by decide)) f160_b hP hD hS hl
        ·
          have j168 : Iv 1 1 x164 := r_nelo h165 x164_h ik_0 (by decide)
          refine lv_aload_n hx hb dX9_closes_67 rfl (lv_at hl 3 rfl) ?_
          refine va_get (D := (dC, dI)) (ci := 9) (v := .ref o7) (C := RX9) (T := TX9) (N := 4) hx hb hts iw_X9_closes_X9 hown hK hP 0 rfl rfl 1 (by decide) (hts (.fieldLink RX9 18 "HolelessHouse$Ring" "path" "[I") hm_X9_closes_1) (fun _ h9 => h9) rfl dX9_closes_68 ?_
          refine lv_iload_n hx hb dX9_closes_71 rfl (lv_at hl 6 rfl) ?_
          refine lv_iload hx hb dX9_closes_72 (lv_at hl 0 rfl) ?_
          refine k_iast hx hb hK hP hD hS 1 0 rfl rfl (vin_iv ik_1 (by decide)) dX9_closes_74 (fun f169 H locs f169_e hP hD hS => ?_)
          have f169_b : Bd 12 0 11 f169 := bd_upd f169_e f160_b j162 (by decide)
          have hP : va_P (dC, dI) vwCl ([(o1, .inr (9, [.ref o2, .ref o7, .int v9, .int v10])), (o7, .inl (cI, 12, .inl f169)), (o11, .inr (4, [.ref o12, .int v14, .int v15])), (o12, .inl (cI, 12, .inl fw13))]) H := hP
          have hD : va_D A ([(o1, .inr (9, [.ref o2, .ref o7, .int v9, .int v10])), (o7, .inl (cI, 12, .inl f169)), (o11, .inr (4, [.ref o12, .int v14, .int v15])), (o12, .inl (cI, 12, .inl fw13))]) := hD
          refine lv_aload_n hx hb dX9_closes_75 rfl (lv_at hl 3 rfl) ?_
          refine lv_aload_n hx hb dX9_closes_76 rfl (lv_at hl 4 rfl) ?_
          refine lv_iload_n hx hb dX9_closes_77 rfl (lv_at hl 5 rfl) ?_
          refine lv_iload_n hx hb dX9_closes_78 rfl (lv_at hl 6 rfl) ?_
          refine lv_iconst (v := 1) hx hb dX9_closes_79 (by decide) ?_
          refine lv_iadd hx hb dX9_closes_80 (tk_i (v := 2) (by decide +kernel) ?_)
          refine lv_iload hx hb dX9_closes_81 (lv_at hl 7 rfl) ?_
          refine lv_iload hx hb dX9_closes_83 (lv_at hl 1 rfl) ?_
          refine lv_ior hx hb dX9_closes_85 (lv_topi (fun x170 x170_e => ?_))
          refine lv_iconst (v := 1) hx hb dX9_closes_86 (by decide) ?_
          refine lv_iload hx hb dX9_closes_87 (lv_at hl 0 rfl) ?_
          refine lv_ishl hx hb dX9_closes_89 (lv_topi (fun x171 x171_e => ?_))
          have x171_h : Iv 1 2048 x171 := iv_e x171_e (iv_shl1 j162 (by decide))
          refine lv_ior hx hb dX9_closes_90 (lv_topi (fun x172 x172_e => ?_))
          refine kc_i (D := (dC, dI)) (S := (Nat → Int32)) (wc := [(o1, .inr (9, [.ref o2, .ref o7, .int v9, .int v10])), (o7, .inl (cI, 12, .inl f169)), (o11, .inr (4, [.ref o12, .int v14, .int v15])), (o12, .inl (cI, 12, .inl fw13))]) (wr := []) (w1 := fun u => [(o1, .inr (9, [.ref o2, .ref o7, .int v9, .int v10])), (o7, .inl (cI, 12, .inl u)), (o11, .inr (4, [.ref o12, .int v14, .int v15])), (o12, .inl (cI, 12, .inl fw13))]) (wn := fun u => [(o1, .inr (9, [.ref o2, .ref o7, .int v9, .int v10])), (o7, .inl (cI, 12, .inl u)), (o11, .inr (4, [.ref o12, .int v14, .int v15])), (o12, .inl (cI, 12, .inl fw13))]) (fun hPc hDc => va_runS (As := [.ref o1, .ref o11, .int a2, .int 2, .int x172]) (rest := []) ⟨hx, hb, hml, hown, hts⟩ (kX9_closes_11 l dC dI cI c2 cZ o1 o11 o2 o7 o12 f169 v9 v10 fw13 v14 v15 a2 x172 H.size f169_b v9_h fw13_b (iv_w j163 (by decide)) a2_h) (va_cwS 5 hts gX9_closes_X9_closes rfl rfl rfl (by decide +kernel) ⟨Nat.le_of_ble_eq_true rfl, Nat.le_of_ble_eq_true rfl⟩) (pre_S hPc hK hDc hN) rfl rfl hl.1 rfl (lv_room (Nat.le_of_ble_eq_true rfl)) dX9_closes_91 ⟨Nat.le_of_ble_eq_true rfl, Nat.le_of_ble_eq_true rfl⟩) hP hD hS hA [0, 1, 2, 3] [] [0, 1, 2, 3] rfl rfl (by decide +kernel) (by decide +kernel) (by decide +kernel) (by decide +kernel) (fun _ => rfl) (fun x174 f173 H locs hq hP hD hS => ?_)
          obtain ⟨x174_h, f173_b⟩ := hq
          have hP : va_P (dC, dI) vwCl ([(o1, .inr (9, [.ref o2, .ref o7, .int v9, .int v10])), (o7, .inl (cI, 12, .inl f173)), (o11, .inr (4, [.ref o12, .int v14, .int v15])), (o12, .inl (cI, 12, .inl fw13))]) H := hP
          have hD : va_D A ([(o1, .inr (9, [.ref o2, .ref o7, .int v9, .int v10])), (o7, .inl (cI, 12, .inl f173)), (o11, .inr (4, [.ref o12, .int v14, .int v15])), (o12, .inl (cI, 12, .inl fw13))]) := hD
          refine lv_if_eq (tgt := 99) hx hb dX9_closes_94 (by decide) (fun h175 => ?_) (fun h175 => ?_)
          ·
            have j176 : Iv 0 0 x174 := r_eq h175 ik_0
            obtain ⟨x177, x177_e⟩ : ∃ z : Int32, z = x159 + 1 := ⟨_, rfl⟩
            have x177_h : Iv 1 12 x177 := iv_e x177_e (iv_add j162 ik_1 (by decide))
            refine lv_iinc (v := x177) (lv' := [(7, .int x177), (6, .int 0), (5, .int x3), (0, .ref o1), (1, .ref o11), (2, .int a2), (3, .int 1), (4, .int a4)]) hx hb dX9_closes_99 hl (k := 0) rfl (incN (by decide +kernel) x177_e) (by decide) rfl (fun ls hl => ?_)
            refine lv_goto (tgt := 48) hx hb dX9_closes_102 (by decide) ?_
            exact ih1 x177 f173 _ _ _ (ms_up x177_e j162 (by decide) hM1) (iv_w x177_h (by decide)) f173_b hP hD hS hl
          ·
            have j178 : Iv 1 1 x174 := r_nelo h175 x174_h ik_0 (by decide)
            refine lv_iconst (v := 1) hx hb dX9_closes_97 (by decide) ?_
            rw [hQ]
            exact W.zret (v := 1) (ty := .boolean) hx hb hr rfl (fun t ht hW => ⟨⟨1, f173, rfl, ⟨(iv_w ik_1 (by decide)), f173_b⟩, by rw [ht]; exact hP, va_K.moved hW.alike hK, hD⟩, hS.F ht⟩) hS.2.2 dX9_closes_98
  exact L1 _ 0 fw8 _ _ _ (Nat.lt_succ_self _) (iv_w ik_0 (by decide)) fw8_b hP hD hS hl
theorem iw_X9_lookFor_X4 : ∀ w ∈ wsX40, w ∈ wsX9_lookFor := fun _ h => List.mem_cons.mpr (Or.inr (List.mem_append.mpr (Or.inl (List.mem_append.mpr (Or.inr h)))))
theorem iw_X9_lookFor_X9 : ∀ w ∈ wsX90, w ∈ wsX9_lookFor := fun _ h => List.mem_cons.mpr (Or.inr (List.mem_append.mpr (Or.inr h)))
set_option maxHeartbeats 4000000 in
set_option maxRecDepth 100000 in
theorem kX9_lookFor_1 (l : Launch) (dC : Nat → ClassId) (dI : Nat → Nat → Nat) (cI c2 cZ : ClassId) (o1 : Nat) (o11 : Nat) (o12 : Nat) (o2 : Nat) (o7 : Nat) (fw8 : Nat → Int32) (v9 : Int32) (v10 : Int32) (fw13 : Nat → Int32) (v14 : Int32) (v15 : Int32) (sz : Nat) (fw8_b : Bd 12 0 11 fw8) (v9_h : Iv 0 12 v9) (fw13_b : Bd 12 0 4095 fw13) (v14_h : Iv 0 12 v14) : Met l yX9_lookFor wsX9_lookFor ({ frames := 13, cells := 0, slots := 0, locals := 342 }) (va_Pc [.ref o1, .ref o11] (wPre (dC, dI) [(cI, .int), (c2, .array .int), (cZ, .boolean)] ([(o11, .inr (4, [.ref o12, .int v14, .int v15])), (o1, .inr (9, [.ref o2, .ref o7, .int v9, .int v10])), (o7, .inl (cI, 12, .inl fw8)), (o12, .inl (cI, 12, .inl fw13))]) sz)) (va_Qi (fun (r : Int32) (u : (Nat → Int32)) => Iv 0 12 r ∧ Bd 12 0 11 u) (fun u t => wPost (dC, dI) [(cI, .int), (c2, .array .int), (cZ, .boolean)] (va_A ([(o11, .inr (4, [.ref o12, .int v14, .int v15])), (o1, .inr (9, [.ref o2, .ref o7, .int v9, .int v10])), (o7, .inl (cI, 12, .inl fw8)), (o12, .inl (cI, 12, .inl fw13))]) sz) ([(o11, .inr (4, [.ref o12, .int v14, .int v15])), (o1, .inr (9, [.ref o2, .ref o7, .int v9, .int v10])), (o7, .inl (cI, 12, .inl u)), (o12, .inl (cI, 12, .inl fw13))]) t) (va_A ([(o11, .inr (4, [.ref o12, .int v14, .int v15])), (o1, .inr (9, [.ref o2, .ref o7, .int v9, .int v10])), (o7, .inl (cI, 12, .inl fw8)), (o12, .inl (cI, 12, .inl fw13))]) sz)) 0 0 (va_A ([(o11, .inr (4, [.ref o12, .int v14, .int v15])), (o1, .inr (9, [.ref o2, .ref o7, .int v9, .int v10])), (o7, .inl (cI, 12, .inl fw8)), (o12, .inl (cI, 12, .inl fw13))]) sz) := by
  refine Met.ofW (cc := cX9_lookFor) (maxL := 4) (ret := (some .int)) (by decide) rfl ?_
  intro p e s m args below meth c s₁ B hml hv
  obtain ⟨rfl, hsz, hP, hK, hD0, hN⟩ := hv
  have hx := B.exec
  have hb := B.bytes
  have hr := B.returns
  have hts := atoms_spec (ws := wsX9_lookFor) B.pre
  have hown : s.vm.findClass RX9 = some m.cls := findClass_of_methodNamed B.named
  have hlocks := B.notSynchronized
  subst hsz
  have hD := hD0.self (sz := s.heap.size)
  generalize hAe : va_A ([(o11, .inr (4, [.ref o12, .int v14, .int v15])), (o1, .inr (9, [.ref o2, .ref o7, .int v9, .int v10])), (o7, .inl (cI, 12, .inl fw8)), (o12, .inl (cI, 12, .inl fw13))]) s.heap.size = A at hD ⊢
  have hA : ∀ q : Nat, s.heap.size ≤ q → A q := fun q h => by rw [← hAe]; exact Or.inr h
  have hS : va_S A s.heap s.heap [] := va_S.rf
  have hP : va_P (dC, dI) vwCl ([(o11, .inr (4, [.ref o12, .int v14, .int v15])), (o1, .inr (9, [.ref o2, .ref o7, .int v9, .int v10])), (o7, .inl (cI, 12, .inl fw8)), (o12, .inl (cI, 12, .inl fw13))]) s.heap := hP
  have hl := lv_entry ([.ref o1, .ref o11]) (n := 4) (Nat.le_of_ble_eq_true rfl)
  rw [lg_entry_eq]
  generalize (lg_sl ([.ref o1, .ref o11]) ++ List.replicate (4 - (lg_sl ([.ref o1, .ref o11])).length) Slot.unset).toArray = ls at hl ⊢
  have hl : lv_has ls 4 [(0, .ref o1), (1, .ref o11)] := hl
  refine gen_Q (fun Q hQ => ?_)
  refine lv_iconst (v := 4) hx hb dX9_lookFor_0 (by decide) ?_
  refine lv_istore_n (lv' := [(2, .int 4), (0, .ref o1), (1, .ref o11)]) hx hb dX9_lookFor_1 rfl hl (by decide) rfl (fun ls hl => ?_)
  have L6 : ∀ (N : Nat) (x502 : Int32) (f503 : Nat → Int32) (H : Heap) (locs : List Loc) (ls : Array Slot), (13 - x502.toInt).toNat < N → Iv 4 13 x502 → Bd 12 0 11 f503 → va_P (dC, dI) vwCl ([(o11, .inr (4, [.ref o12, .int v14, .int v15])), (o1, .inr (9, [.ref o2, .ref o7, .int v9, .int v10])), (o7, .inl (cI, 12, .inl f503)), (o12, .inl (cI, 12, .inl fw13))]) H → va_D A ([(o11, .inr (4, [.ref o12, .int v14, .int v15])), (o1, .inr (9, [.ref o2, .ref o7, .int v9, .int v10])), (o7, .inl (cI, 12, .inl f503)), (o12, .inl (cI, 12, .inl fw13))]) → va_S A s.heap H locs → lv_has ls 4 [(2, .int x502), (0, .ref o1), (1, .ref o11)] → W p l e ({ frames := 13, cells := 0, slots := 0, locals := 342 }) s m ([.ref o1, .ref o11] : List Value).toArray below meth c H locs 0 0 Q (F0 m 2 ls []) := by
    intro N
    induction N with
    | zero =>
      intro x502 f503 H locs ls hM
      exact absurd hM (Nat.not_lt_zero _)
    | succ N ih6 =>
      intro x502 f503 H locs ls hM6 x502_h f503_b hP hD hS hl
      refine lv_iload_n hx hb dX9_lookFor_2 rfl (lv_at hl 0 rfl) ?_
      refine lv_aload_n hx hb dX9_lookFor_3 rfl (lv_at hl 2 rfl) ?_
      refine va_getN (D := (dC, dI)) (ci := 4) (v := .int v14) (C := RX4) (T := TX4) (N := 3) hx hb hts iw_X9_lookFor_X4 hown hK hP 0 rfl rfl 1 (by decide) (hN.use ns_11) (fun _ h9 => h9) rfl dX9_lookFor_4 ?_
      refine lv_icmp_gt (tgt := 52) hx hb dX9_lookFor_7 (by decide) (fun h504 => ?_) (fun h504 => ?_)
      ·
        have qh504 := lt_i h504
        refine lv_iconst (v := 0) hx hb dX9_lookFor_52 (by decide) ?_
        rw [hQ]
        exact W.iret (v := 0) hx hb hr (fun t ht hW => ⟨⟨0, f503, rfl, ⟨(iv_w ik_0 (by decide)), f503_b⟩, by rw [ht]; exact hP, va_K.moved hW.alike hK, hD⟩, hS.F ht⟩) hS.2.2 dX9_lookFor_53
      ·
        have qh504 := nlt_i h504
        have j505 : Iv 4 12 x502 := r_lel qh504 x502_h v14_h (by decide)
        have j506 : Iv 4 12 v14 := r_ler qh504 x502_h v14_h (by decide)
        refine lv_iconst (v := 0) hx hb dX9_lookFor_10 (by decide) ?_
        refine lv_istore_n (lv' := [(3, .int 0), (2, .int x502), (0, .ref o1), (1, .ref o11)]) hx hb dX9_lookFor_11 rfl hl (by decide) rfl (fun ls hl => ?_)
        have L7 : ∀ (N : Nat) (x591 : Int32) (f592 : Nat → Int32) (H : Heap) (locs : List Loc) (ls : Array Slot), (12 - x591.toInt).toNat < N → Iv 0 12 x591 → Bd 12 0 11 f592 → va_P (dC, dI) vwCl ([(o11, .inr (4, [.ref o12, .int v14, .int v15])), (o1, .inr (9, [.ref o2, .ref o7, .int v9, .int v10])), (o7, .inl (cI, 12, .inl f592)), (o12, .inl (cI, 12, .inl fw13))]) H → va_D A ([(o11, .inr (4, [.ref o12, .int v14, .int v15])), (o1, .inr (9, [.ref o2, .ref o7, .int v9, .int v10])), (o7, .inl (cI, 12, .inl f592)), (o12, .inl (cI, 12, .inl fw13))]) → va_S A s.heap H locs → lv_has ls 4 [(3, .int x591), (2, .int x502), (0, .ref o1), (1, .ref o11)] → W p l e ({ frames := 13, cells := 0, slots := 0, locals := 342 }) s m ([.ref o1, .ref o11] : List Value).toArray below meth c H locs 0 0 Q (F0 m 12 ls []) := by
          intro N
          induction N with
          | zero =>
            intro x591 f592 H locs ls hM
            exact absurd hM (Nat.not_lt_zero _)
          | succ N ih7 =>
            intro x591 f592 H locs ls hM7 x591_h f592_b hP hD hS hl
            refine lv_iload_n hx hb dX9_lookFor_12 rfl (lv_at hl 0 rfl) ?_
            refine lv_aload_n hx hb dX9_lookFor_13 rfl (lv_at hl 3 rfl) ?_
            refine va_getN (D := (dC, dI)) (ci := 4) (v := .int v14) (C := RX4) (T := TX4) (N := 3) hx hb hts iw_X9_lookFor_X4 hown hK hP 0 rfl rfl 1 (by decide) (hN.use ns_11) (fun _ h9 => h9) rfl dX9_lookFor_14 ?_
            refine lv_icmp_ge (tgt := 46) hx hb dX9_lookFor_17 (by decide) (fun h593 => ?_) (fun h593 => ?_)
            ·
              have qh593 := le_i h593
              have j594 : Iv 4 12 x591 := r_ler qh593 j506 x591_h (by decide)
              obtain ⟨x595, x595_e⟩ : ∃ z : Int32, z = x502 + 1 := ⟨_, rfl⟩
              have x595_h : Iv 5 13 x595 := iv_e x595_e (iv_add j505 ik_1 (by decide))
              refine lv_iinc (v := x595) (lv' := [(2, .int x595), (3, .int x591), (0, .ref o1), (1, .ref o11)]) hx hb dX9_lookFor_46 hl (k := 1) rfl (incN (by decide +kernel) x595_e) (by decide) rfl (fun ls hl => ?_)
              refine lv_goto (tgt := 2) hx hb dX9_lookFor_49 (by decide) ?_
              exact ih6 x595 f592 _ _ _ (ms_up x595_e j505 (by decide) hM6) (iv_w x595_h (by decide)) f592_b hP hD hS (lv_sub hl [0, 2, 3] rfl)
            ·
              have qh593 := nle_i h593
              have j596 : Iv 0 11 x591 := r_ltl qh593 x591_h j506 (by decide)
              refine lv_aload_n hx hb dX9_lookFor_20 rfl (lv_at hl 2 rfl) ?_
              refine va_get (D := (dC, dI)) (ci := 9) (v := .ref o7) (C := RX9) (T := TX9) (N := 4) hx hb hts iw_X9_lookFor_X9 hown hK hP 1 rfl rfl 1 (by decide) (hts (.fieldLink RX9 18 "HolelessHouse$Ring" "path" "[I") hm_X9_lookFor_1) (fun _ h9 => h9) rfl dX9_lookFor_21 ?_
              refine lv_iconst (v := 0) hx hb dX9_lookFor_24 (by decide) ?_
              refine lv_iload_n hx hb dX9_lookFor_25 rfl (lv_at hl 0 rfl) ?_
              refine k_iast hx hb hK hP hD hS 2 0 rfl rfl (vin_iv ik_0 (by decide)) dX9_lookFor_26 (fun f597 H locs f597_e hP hD hS => ?_)
              have f597_b : Bd 12 0 11 f597 := bd_upd f597_e f592_b j596 (by decide)
              have hP : va_P (dC, dI) vwCl ([(o11, .inr (4, [.ref o12, .int v14, .int v15])), (o1, .inr (9, [.ref o2, .ref o7, .int v9, .int v10])), (o7, .inl (cI, 12, .inl f597)), (o12, .inl (cI, 12, .inl fw13))]) H := hP
              have hD : va_D A ([(o11, .inr (4, [.ref o12, .int v14, .int v15])), (o1, .inr (9, [.ref o2, .ref o7, .int v9, .int v10])), (o7, .inl (cI, 12, .inl f597)), (o12, .inl (cI, 12, .inl fw13))]) := hD
              refine lv_aload_n hx hb dX9_lookFor_27 rfl (lv_at hl 2 rfl) ?_
              refine lv_aload_n hx hb dX9_lookFor_28 rfl (lv_at hl 3 rfl) ?_
              refine lv_iload_n hx hb dX9_lookFor_29 rfl (lv_at hl 1 rfl) ?_
              refine lv_iconst (v := 1) hx hb dX9_lookFor_30 (by decide) ?_
              refine lv_iconst (v := 0) hx hb dX9_lookFor_31 (by decide) ?_
              refine kc_i (D := (dC, dI)) (S := (Nat → Int32)) (wc := [(o1, .inr (9, [.ref o2, .ref o7, .int v9, .int v10])), (o7, .inl (cI, 12, .inl f597)), (o11, .inr (4, [.ref o12, .int v14, .int v15])), (o12, .inl (cI, 12, .inl fw13))]) (wr := []) (w1 := fun u => [(o1, .inr (9, [.ref o2, .ref o7, .int v9, .int v10])), (o7, .inl (cI, 12, .inl u)), (o11, .inr (4, [.ref o12, .int v14, .int v15])), (o12, .inl (cI, 12, .inl fw13))]) (wn := fun u => [(o11, .inr (4, [.ref o12, .int v14, .int v15])), (o1, .inr (9, [.ref o2, .ref o7, .int v9, .int v10])), (o7, .inl (cI, 12, .inl u)), (o12, .inl (cI, 12, .inl fw13))]) (fun hPc hDc => va_runS (As := [.ref o1, .ref o11, .int x502, .int 1, .int 0]) (rest := []) ⟨hx, hb, hml, hown, hts⟩ (kX9_closes_12 l dC dI cI c2 cZ o1 o11 o2 o7 o12 f597 v9 v10 fw13 v14 v15 x502 0 H.size f597_b v9_h fw13_b (iv_w j506 (by decide)) j505) (va_cwS 5 hts gX9_lookFor_X9_closes rfl rfl rfl (by decide +kernel) ⟨Nat.le_of_ble_eq_true rfl, Nat.le_of_ble_eq_true rfl⟩) (pre_S hPc hK hDc hN) rfl rfl hl.1 rfl (lv_room (Nat.le_of_ble_eq_true rfl)) dX9_lookFor_32 ⟨Nat.le_of_ble_eq_true rfl, Nat.le_of_ble_eq_true rfl⟩) hP hD hS hA [1, 2, 0, 3] [] [2, 0, 1, 3] rfl rfl (by decide +kernel) (by decide +kernel) (by decide +kernel) (by decide +kernel) (fun _ => rfl) (fun x599 f598 H locs hq hP hD hS => ?_)
              obtain ⟨x599_h, f598_b⟩ := hq
              have hP : va_P (dC, dI) vwCl ([(o11, .inr (4, [.ref o12, .int v14, .int v15])), (o1, .inr (9, [.ref o2, .ref o7, .int v9, .int v10])), (o7, .inl (cI, 12, .inl f598)), (o12, .inl (cI, 12, .inl fw13))]) H := hP
              have hD : va_D A ([(o11, .inr (4, [.ref o12, .int v14, .int v15])), (o1, .inr (9, [.ref o2, .ref o7, .int v9, .int v10])), (o7, .inl (cI, 12, .inl f598)), (o12, .inl (cI, 12, .inl fw13))]) := hD
              refine lv_if_eq (tgt := 40) hx hb dX9_lookFor_35 (by decide) (fun h600 => ?_) (fun h600 => ?_)
              ·
                have j601 : Iv 0 0 x599 := r_eq h600 ik_0
                obtain ⟨x602, x602_e⟩ : ∃ z : Int32, z = x591 + 1 := ⟨_, rfl⟩
                have x602_h : Iv 1 12 x602 := iv_e x602_e (iv_add j596 ik_1 (by decide))
                refine lv_iinc (v := x602) (lv' := [(3, .int x602), (2, .int x502), (0, .ref o1), (1, .ref o11)]) hx hb dX9_lookFor_40 hl (k := 0) rfl (incN (by decide +kernel) x602_e) (by decide) rfl (fun ls hl => ?_)
                refine lv_goto (tgt := 12) hx hb dX9_lookFor_43 (by decide) ?_
                exact ih7 x602 f598 _ _ _ (ms_up x602_e j596 (by decide) hM7) (iv_w x602_h (by decide)) f598_b hP hD hS hl
              ·
                have j603 : Iv 1 1 x599 := r_nelo h600 x599_h ik_0 (by decide)
                refine lv_iload_n hx hb dX9_lookFor_38 rfl (lv_at hl 1 rfl) ?_
                rw [hQ]
                exact W.iret (v := x502) hx hb hr (fun t ht hW => ⟨⟨x502, f598, rfl, ⟨(iv_w j505 (by decide)), f598_b⟩, by rw [ht]; exact hP, va_K.moved hW.alike hK, hD⟩, hS.F ht⟩) hS.2.2 dX9_lookFor_39
        exact L7 _ 0 f503 _ _ _ (Nat.lt_succ_self _) (iv_w ik_0 (by decide)) f503_b hP hD hS hl
  exact L6 _ 4 fw8 _ _ _ (Nat.lt_succ_self _) (iv_w ik_4 (by decide)) fw8_b hP hD hS hl
theorem iw_X9_bring_X4 : ∀ w ∈ wsX40, w ∈ wsX9_bring := fun _ h => List.mem_cons.mpr (Or.inr (List.mem_append.mpr (Or.inl (List.mem_append.mpr (Or.inr h)))))
theorem iw_X9_bring_X9 : ∀ w ∈ wsX90, w ∈ wsX9_bring := fun _ h => List.mem_cons.mpr (Or.inr (List.mem_append.mpr (Or.inl (List.mem_append.mpr (Or.inl (List.mem_append.mpr (Or.inr h)))))))
set_option maxHeartbeats 4000000 in
set_option maxRecDepth 100000 in
theorem kX9_bring_1 (l : Launch) (dC : Nat → ClassId) (dI : Nat → Nat → Nat) (cI c2 cZ : ClassId) (o1 : Nat) (o11 : Nat) (o2 : Nat) (o7 : Nat) (o12 : Nat) (o3 : Nat) (rw4 : Nat → Nat) (Gw5 : Nat → Nat → Int32) (v6 : Int32) (fw8 : Nat → Int32) (v9 : Int32) (v10 : Int32) (fw13 : Nat → Int32) (v14 : Int32) (v15 : Int32) (sz : Nat) (Gw5_b : Bg 13 12 0 4095 Gw5) (v6_h : Iv 0 12 v6) (fw8_b : Bd 12 0 11 fw8) (v9_h : Iv 0 12 v9) (fw13_b : Bd 12 0 4095 fw13) (v14_h : Iv 0 12 v14) : Met l yX9_bring wsX9_bring ({ frames := 14, cells := 0, slots := 0, locals := 365 }) (va_Pc [.ref o1, .ref o11] (wPre (dC, dI) [(cI, .int), (c2, .array .int), (cZ, .boolean)] (([(o1, .inr (9, [.ref o2, .ref o7, .int v9, .int v10])), (o11, .inr (4, [.ref o12, .int v14, .int v15])), (o2, .inr (3, [.ref o3, .int v6])), (o3, .inl (c2, 13, .inr (.inr (.inr (.inr (fun i => if i < 13 then some (rw4 i) else none)))))), (o12, .inl (cI, 12, .inl fw13)), (o7, .inl (cI, 12, .inl fw8))] : va_W) ++ (gr13 rw4 cI 12 Gw5 ++ ([] : va_W))) sz)) (va_Qv (fun (u : Int32 × Int32 × Int32 × (Nat → Nat → Int32) × (Nat → Int32)) => Iv 0 12 u.1 ∧ Iv 0 12 u.2.2.1 ∧ Bg 13 12 0 4095 u.2.2.2.1 ∧ Bd 12 0 11 u.2.2.2.2) (fun u t => wPost (dC, dI) [(cI, .int), (c2, .array .int), (cZ, .boolean)] (va_A (([(o1, .inr (9, [.ref o2, .ref o7, .int v9, .int v10])), (o11, .inr (4, [.ref o12, .int v14, .int v15])), (o2, .inr (3, [.ref o3, .int v6])), (o3, .inl (c2, 13, .inr (.inr (.inr (.inr (fun i => if i < 13 then some (rw4 i) else none)))))), (o12, .inl (cI, 12, .inl fw13)), (o7, .inl (cI, 12, .inl fw8))] : va_W) ++ (gr13 rw4 cI 12 Gw5 ++ ([] : va_W))) sz) (([(o1, .inr (9, [.ref o2, .ref o7, .int u.1, .int u.2.1])), (o11, .inr (4, [.ref o12, .int v14, .int v15])), (o2, .inr (3, [.ref o3, .int u.2.2.1])), (o3, .inl (c2, 13, .inr (.inr (.inr (.inr (fun i => if i < 13 then some (rw4 i) else none)))))), (o12, .inl (cI, 12, .inl fw13)), (o7, .inl (cI, 12, .inl u.2.2.2.2))] : va_W) ++ (gr13 rw4 cI 12 u.2.2.2.1 ++ ([] : va_W))) t) (va_A (([(o1, .inr (9, [.ref o2, .ref o7, .int v9, .int v10])), (o11, .inr (4, [.ref o12, .int v14, .int v15])), (o2, .inr (3, [.ref o3, .int v6])), (o3, .inl (c2, 13, .inr (.inr (.inr (.inr (fun i => if i < 13 then some (rw4 i) else none)))))), (o12, .inl (cI, 12, .inl fw13)), (o7, .inl (cI, 12, .inl fw8))] : va_W) ++ (gr13 rw4 cI 12 Gw5 ++ ([] : va_W))) sz)) 0 0 (va_A (([(o1, .inr (9, [.ref o2, .ref o7, .int v9, .int v10])), (o11, .inr (4, [.ref o12, .int v14, .int v15])), (o2, .inr (3, [.ref o3, .int v6])), (o3, .inl (c2, 13, .inr (.inr (.inr (.inr (fun i => if i < 13 then some (rw4 i) else none)))))), (o12, .inl (cI, 12, .inl fw13)), (o7, .inl (cI, 12, .inl fw8))] : va_W) ++ (gr13 rw4 cI 12 Gw5 ++ ([] : va_W))) sz) := by
  refine Met.ofW (cc := cX9_bring) (maxL := 2) (ret := none) (by decide) rfl ?_
  intro p e s m args below meth c s₁ B hml hv
  obtain ⟨rfl, hsz, hP, hK, hD0, hN⟩ := hv
  have hx := B.exec
  have hb := B.bytes
  have hr := B.returns
  have hts := atoms_spec (ws := wsX9_bring) B.pre
  have hown : s.vm.findClass RX9 = some m.cls := findClass_of_methodNamed B.named
  have hlocks := B.notSynchronized
  subst hsz
  have hD := hD0.self (sz := s.heap.size)
  generalize hAe : va_A (([(o1, .inr (9, [.ref o2, .ref o7, .int v9, .int v10])), (o11, .inr (4, [.ref o12, .int v14, .int v15])), (o2, .inr (3, [.ref o3, .int v6])), (o3, .inl (c2, 13, .inr (.inr (.inr (.inr (fun i => if i < 13 then some (rw4 i) else none)))))), (o12, .inl (cI, 12, .inl fw13)), (o7, .inl (cI, 12, .inl fw8))] : va_W) ++ (gr13 rw4 cI 12 Gw5 ++ ([] : va_W))) s.heap.size = A at hD ⊢
  have hA : ∀ q : Nat, s.heap.size ≤ q → A q := fun q h => by rw [← hAe]; exact Or.inr h
  have hS : va_S A s.heap s.heap [] := va_S.rf
  have hP : va_P (dC, dI) vwCl (([(o1, .inr (9, [.ref o2, .ref o7, .int v9, .int v10])), (o11, .inr (4, [.ref o12, .int v14, .int v15])), (o2, .inr (3, [.ref o3, .int v6])), (o3, .inl (c2, 13, .inr (.inr (.inr (.inr (fun i => if i < 13 then some (rw4 i) else none)))))), (o12, .inl (cI, 12, .inl fw13)), (o7, .inl (cI, 12, .inl fw8))] : va_W) ++ (gr13 rw4 cI 12 Gw5 ++ ([] : va_W))) s.heap := hP
  have hl := lv_entry ([.ref o1, .ref o11]) (n := 2) (Nat.le_of_ble_eq_true rfl)
  rw [lg_entry_eq]
  generalize (lg_sl ([.ref o1, .ref o11]) ++ List.replicate (2 - (lg_sl ([.ref o1, .ref o11])).length) Slot.unset).toArray = ls at hl ⊢
  have hl : lv_has ls 2 [(0, .ref o1), (1, .ref o11)] := hl
  refine gen_Q (fun Q hQ => ?_)
  refine lv_aload_n hx hb dX9_bring_0 rfl (lv_at hl 0 rfl) ?_
  refine va_get (D := (dC, dI)) (ci := 9) (v := .int v10) (C := RX9) (T := TX9) (N := 4) hx hb hts iw_X9_bring_X9 hown hK hP 0 rfl rfl 3 (by decide) (hts (.fieldLink RX9 26 "HolelessHouse$Ring" "madeFor" "I") hm_X9_bring_1) (fun _ h9 => h9) rfl dX9_bring_1 ?_
  refine lv_aload_n hx hb dX9_bring_4 rfl (lv_at hl 1 rfl) ?_
  refine va_getN (D := (dC, dI)) (ci := 4) (v := .int v15) (C := RX4) (T := TX4) (N := 3) hx hb hts iw_X9_bring_X4 hown hK hP 1 rfl rfl 2 (by decide) (hN.use ns_15) (fun _ h9 => h9) rfl dX9_bring_5 ?_
  refine lv_icmp_ne (tgt := 12) hx hb dX9_bring_8 (by decide) (fun h1 => ?_) (fun h1 => ?_)
  ·
    refine lv_aload_n hx hb dX9_bring_12 rfl (lv_at hl 0 rfl) ?_
    refine lv_aload_n hx hb dX9_bring_13 rfl (lv_at hl 1 rfl) ?_
    refine va_getN (D := (dC, dI)) (ci := 4) (v := .int v15) (C := RX4) (T := TX4) (N := 3) hx hb hts iw_X9_bring_X4 hown hK hP 1 rfl rfl 2 (by decide) (hN.use ns_15) (fun _ h9 => h9) rfl dX9_bring_14 ?_
    refine va_put (D := (dC, dI)) (ci := 9) (v := .int v15) (ty := .int) (C := RX9) (T := TX9) (N := 4) hx hb hts iw_X9_bring_X9 tyX9 tyX9_ok nmX9 hown hK hP hD hS 0 rfl rfl 3 (by decide) (hts (.fieldLink RX9 26 "HolelessHouse$Ring" "madeFor" "I") hm_X9_bring_1) (fun _ h9 => h9) rfl (by decide +kernel) rfl rfl (Nat.le_of_ble_eq_true rfl) dX9_bring_17 (fun H locs hP hD hS => ?_)
    have hP : va_P (dC, dI) vwCl (([(o1, .inr (9, [.ref o2, .ref o7, .int v9, .int v15])), (o11, .inr (4, [.ref o12, .int v14, .int v15])), (o2, .inr (3, [.ref o3, .int v6])), (o3, .inl (c2, 13, .inr (.inr (.inr (.inr (fun i => if i < 13 then some (rw4 i) else none)))))), (o12, .inl (cI, 12, .inl fw13)), (o7, .inl (cI, 12, .inl fw8))] : va_W) ++ (gr13 rw4 cI 12 Gw5 ++ ([] : va_W))) H := hP
    have hD : va_D A (([(o1, .inr (9, [.ref o2, .ref o7, .int v9, .int v15])), (o11, .inr (4, [.ref o12, .int v14, .int v15])), (o2, .inr (3, [.ref o3, .int v6])), (o3, .inl (c2, 13, .inr (.inr (.inr (.inr (fun i => if i < 13 then some (rw4 i) else none)))))), (o12, .inl (cI, 12, .inl fw13)), (o7, .inl (cI, 12, .inl fw8))] : va_W) ++ (gr13 rw4 cI 12 Gw5 ++ ([] : va_W))) := hD
    refine lv_aload_n hx hb dX9_bring_20 rfl (lv_at hl 0 rfl) ?_
    refine lv_aload_n hx hb dX9_bring_21 rfl (lv_at hl 0 rfl) ?_
    refine va_get (D := (dC, dI)) (ci := 9) (v := .ref o2) (C := RX9) (T := TX9) (N := 4) hx hb hts iw_X9_bring_X9 hown hK hP 0 rfl rfl 0 (by decide) (hts (.fieldLink RX9 12 "HolelessHouse$Ring" "going" "LHolelessHouse$Going;") hm_X9_bring_2) (fun _ h9 => h9) rfl dX9_bring_22 ?_
    refine lv_aload_n hx hb dX9_bring_25 rfl (lv_at hl 1 rfl) ?_
    refine kc_i (D := (dC, dI)) (S := Int32 × (Nat → Nat → Int32)) (wc := ([(o2, .inr (3, [.ref o3, .int v6])), (o11, .inr (4, [.ref o12, .int v14, .int v15])), (o3, .inl (c2, 13, .inr (.inr (.inr (.inr (fun i => if i < 13 then some (rw4 i) else none)))))), (o12, .inl (cI, 12, .inl fw13))] : va_W) ++ (gr13 rw4 cI 12 Gw5 ++ ([] : va_W))) (wr := [(o1, .inr (9, [.ref o2, .ref o7, .int v9, .int v15])), (o7, .inl (cI, 12, .inl fw8))]) (w1 := fun u => ([(o2, .inr (3, [.ref o3, .int u.1])), (o11, .inr (4, [.ref o12, .int v14, .int v15])), (o3, .inl (c2, 13, .inr (.inr (.inr (.inr (fun i => if i < 13 then some (rw4 i) else none)))))), (o12, .inl (cI, 12, .inl fw13))] : va_W) ++ (gr13 rw4 cI 12 u.2 ++ ([] : va_W))) (wn := fun u => ([(o1, .inr (9, [.ref o2, .ref o7, .int v9, .int v15])), (o11, .inr (4, [.ref o12, .int v14, .int v15])), (o2, .inr (3, [.ref o3, .int u.1])), (o3, .inl (c2, 13, .inr (.inr (.inr (.inr (fun i => if i < 13 then some (rw4 i) else none)))))), (o12, .inl (cI, 12, .inl fw13)), (o7, .inl (cI, 12, .inl fw8))] : va_W) ++ (gr13 rw4 cI 12 u.2 ++ ([] : va_W))) (fun hPc hDc => va_runVN (As := [.ref o11]) (rest := [.ref o1]) ⟨hx, hb, hml, hown, hts⟩ (kX3_goesWithoutFill_1 l dC dI cI c2 cZ o2 o11 o3 o12 rw4 Gw5 v6 fw13 v14 v15 H.size Gw5_b v6_h fw13_b v14_h) ⟨va_cnB 1 hts gX9_bring_X3_goesWithoutFill_n34 rfl rfl rfl (hN.1 _ ns_72) (hts (.initialized RX3) hm_X9_bring_5) (by decide +kernel) ⟨Nat.le_of_ble_eq_true rfl, Nat.le_of_ble_eq_true rfl⟩, (hts (.instanceMethod yX3_goesWithoutFill) hm_X9_bring_4), (hts (.selects RX3 yX3_goesWithoutFill yX3_goesWithoutFill) hm_X9_bring_6)⟩ (pre_V hPc hK hDc hN (ci := 3) (q0 := 0) rfl rfl) rfl rfl hl.1 rfl (lv_room (Nat.le_of_ble_eq_true rfl)) dX9_bring_26 ⟨Nat.le_of_ble_eq_true rfl, Nat.le_of_ble_eq_true rfl⟩) hP hD hS hA [2, 1, 3, 4, 6, 7, 8, 9, 10, 11, 12, 13, 14, 15, 16, 17, 18] [0, 5] [0, 3, 2, 4, 5, 1, 6, 7, 8, 9, 10, 11, 12, 13, 14, 15, 16, 17, 18] rfl rfl (by decide +kernel) (by decide +kernel) (by decide +kernel) (by decide +kernel) (fun _ => rfl) (fun x4 u H locs hq hP hD hS => ?_)
    obtain ⟨y2, G3⟩ := u
    obtain ⟨x4_h, y2_h, G3_b⟩ := hq
    have hP : va_P (dC, dI) vwCl (([(o1, .inr (9, [.ref o2, .ref o7, .int v9, .int v15])), (o11, .inr (4, [.ref o12, .int v14, .int v15])), (o2, .inr (3, [.ref o3, .int y2])), (o3, .inl (c2, 13, .inr (.inr (.inr (.inr (fun i => if i < 13 then some (rw4 i) else none)))))), (o12, .inl (cI, 12, .inl fw13)), (o7, .inl (cI, 12, .inl fw8))] : va_W) ++ (gr13 rw4 cI 12 G3 ++ ([] : va_W))) H := hP
    have hD : va_D A (([(o1, .inr (9, [.ref o2, .ref o7, .int v9, .int v15])), (o11, .inr (4, [.ref o12, .int v14, .int v15])), (o2, .inr (3, [.ref o3, .int y2])), (o3, .inl (c2, 13, .inr (.inr (.inr (.inr (fun i => if i < 13 then some (rw4 i) else none)))))), (o12, .inl (cI, 12, .inl fw13)), (o7, .inl (cI, 12, .inl fw8))] : va_W) ++ (gr13 rw4 cI 12 G3 ++ ([] : va_W))) := hD
    refine lv_if_eq (tgt := 36) hx hb dX9_bring_29 (by decide) (fun h5 => ?_) (fun h5 => ?_)
    ·
      have j6 : Iv 0 0 x4 := r_eq h5 ik_0
      refine lv_aload_n hx hb dX9_bring_36 rfl (lv_at hl 0 rfl) ?_
      refine lv_aload_n hx hb dX9_bring_37 rfl (lv_at hl 1 rfl) ?_
      refine kc_i (D := (dC, dI)) (S := (Nat → Int32)) (wc := [(o11, .inr (4, [.ref o12, .int v14, .int v15])), (o1, .inr (9, [.ref o2, .ref o7, .int v9, .int v15])), (o7, .inl (cI, 12, .inl fw8)), (o12, .inl (cI, 12, .inl fw13))]) (wr := ([(o2, .inr (3, [.ref o3, .int y2])), (o3, .inl (c2, 13, .inr (.inr (.inr (.inr (fun i => if i < 13 then some (rw4 i) else none))))))] : va_W) ++ (gr13 rw4 cI 12 G3 ++ ([] : va_W))) (w1 := fun u => [(o11, .inr (4, [.ref o12, .int v14, .int v15])), (o1, .inr (9, [.ref o2, .ref o7, .int v9, .int v15])), (o7, .inl (cI, 12, .inl u)), (o12, .inl (cI, 12, .inl fw13))]) (wn := fun u => ([(o1, .inr (9, [.ref o2, .ref o7, .int v9, .int v15])), (o11, .inr (4, [.ref o12, .int v14, .int v15])), (o2, .inr (3, [.ref o3, .int y2])), (o3, .inl (c2, 13, .inr (.inr (.inr (.inr (fun i => if i < 13 then some (rw4 i) else none)))))), (o12, .inl (cI, 12, .inl fw13)), (o7, .inl (cI, 12, .inl u))] : va_W) ++ (gr13 rw4 cI 12 G3 ++ ([] : va_W))) (fun hPc hDc => va_runV (As := [.ref o11]) (rest := [.ref o1]) ⟨hx, hb, hml, hown, hts⟩ (kX9_lookFor_1 l dC dI cI c2 cZ o1 o11 o12 o2 o7 fw8 v9 v15 fw13 v14 v15 H.size fw8_b v9_h fw13_b v14_h) (cwV 1 hts gX9_bring_X9_lookFor rfl rfl rfl (by decide +kernel) ⟨Nat.le_of_ble_eq_true rfl, Nat.le_of_ble_eq_true rfl⟩) (pre_V hPc hK hDc hN (ci := 9) (q0 := 1) rfl rfl) rfl rfl hl.1 rfl (lv_room (Nat.le_of_ble_eq_true rfl)) dX9_bring_38 ⟨Nat.le_of_ble_eq_true rfl, Nat.le_of_ble_eq_true rfl⟩) hP hD hS hA [1, 0, 5, 4] [2, 3, 6, 7, 8, 9, 10, 11, 12, 13, 14, 15, 16, 17, 18] [16, 15, 0, 1, 18, 17, 2, 3, 4, 5, 6, 7, 8, 9, 10, 11, 12, 13, 14] rfl rfl (by decide +kernel) (by decide +kernel) (by decide +kernel) (by decide +kernel) (fun _ => rfl) (fun x8 f7 H locs hq hP hD hS => ?_)
      obtain ⟨x8_h, f7_b⟩ := hq
      have hP : va_P (dC, dI) vwCl (([(o1, .inr (9, [.ref o2, .ref o7, .int v9, .int v15])), (o11, .inr (4, [.ref o12, .int v14, .int v15])), (o2, .inr (3, [.ref o3, .int y2])), (o3, .inl (c2, 13, .inr (.inr (.inr (.inr (fun i => if i < 13 then some (rw4 i) else none)))))), (o12, .inl (cI, 12, .inl fw13)), (o7, .inl (cI, 12, .inl f7))] : va_W) ++ (gr13 rw4 cI 12 G3 ++ ([] : va_W))) H := hP
      have hD : va_D A (([(o1, .inr (9, [.ref o2, .ref o7, .int v9, .int v15])), (o11, .inr (4, [.ref o12, .int v14, .int v15])), (o2, .inr (3, [.ref o3, .int y2])), (o3, .inl (c2, 13, .inr (.inr (.inr (.inr (fun i => if i < 13 then some (rw4 i) else none)))))), (o12, .inl (cI, 12, .inl fw13)), (o7, .inl (cI, 12, .inl f7))] : va_W) ++ (gr13 rw4 cI 12 G3 ++ ([] : va_W))) := hD
      refine va_put (D := (dC, dI)) (ci := 9) (v := .int x8) (ty := .int) (C := RX9) (T := TX9) (N := 4) hx hb hts iw_X9_bring_X9 tyX9 tyX9_ok nmX9 hown hK hP hD hS 0 rfl rfl 2 (by decide) (hts (.fieldLink RX9 22 "HolelessHouse$Ring" "length" "I") hm_X9_bring_3) (fun _ h9 => h9) rfl (by decide +kernel) rfl rfl (Nat.le_of_ble_eq_true rfl) dX9_bring_41 (fun H locs hP hD hS => ?_)
      have hP : va_P (dC, dI) vwCl (([(o1, .inr (9, [.ref o2, .ref o7, .int x8, .int v15])), (o11, .inr (4, [.ref o12, .int v14, .int v15])), (o2, .inr (3, [.ref o3, .int y2])), (o3, .inl (c2, 13, .inr (.inr (.inr (.inr (fun i => if i < 13 then some (rw4 i) else none)))))), (o12, .inl (cI, 12, .inl fw13)), (o7, .inl (cI, 12, .inl f7))] : va_W) ++ (gr13 rw4 cI 12 G3 ++ ([] : va_W))) H := hP
      have hD : va_D A (([(o1, .inr (9, [.ref o2, .ref o7, .int x8, .int v15])), (o11, .inr (4, [.ref o12, .int v14, .int v15])), (o2, .inr (3, [.ref o3, .int y2])), (o3, .inl (c2, 13, .inr (.inr (.inr (.inr (fun i => if i < 13 then some (rw4 i) else none)))))), (o12, .inl (cI, 12, .inl fw13)), (o7, .inl (cI, 12, .inl f7))] : va_W) ++ (gr13 rw4 cI 12 G3 ++ ([] : va_W))) := hD
      rw [hQ]
      exact W.vret hx hb hr (fun t ht hW => ⟨⟨(x8, v15, y2, G3, f7), rfl, ⟨x8_h, y2_h, G3_b, f7_b⟩, by rw [ht]; exact hP, va_K.moved hW.alike hK, hD⟩, hS.F ht⟩) hS.2.2 dX9_bring_44
    ·
      have j9 : Iv 1 1 x4 := r_nelo h5 x4_h ik_0 (by decide)
      refine lv_iconst (v := 0) hx hb dX9_bring_32 (by decide) ?_
      refine lv_goto (tgt := 41) hx hb dX9_bring_33 (by decide) ?_
      refine va_put (D := (dC, dI)) (ci := 9) (v := .int 0) (ty := .int) (C := RX9) (T := TX9) (N := 4) hx hb hts iw_X9_bring_X9 tyX9 tyX9_ok nmX9 hown hK hP hD hS 0 rfl rfl 2 (by decide) (hts (.fieldLink RX9 22 "HolelessHouse$Ring" "length" "I") hm_X9_bring_3) (fun _ h9 => h9) rfl (by decide +kernel) rfl rfl (Nat.le_of_ble_eq_true rfl) dX9_bring_41 (fun H locs hP hD hS => ?_)
      have hP : va_P (dC, dI) vwCl (([(o1, .inr (9, [.ref o2, .ref o7, .int 0, .int v15])), (o11, .inr (4, [.ref o12, .int v14, .int v15])), (o2, .inr (3, [.ref o3, .int y2])), (o3, .inl (c2, 13, .inr (.inr (.inr (.inr (fun i => if i < 13 then some (rw4 i) else none)))))), (o12, .inl (cI, 12, .inl fw13)), (o7, .inl (cI, 12, .inl fw8))] : va_W) ++ (gr13 rw4 cI 12 G3 ++ ([] : va_W))) H := hP
      have hD : va_D A (([(o1, .inr (9, [.ref o2, .ref o7, .int 0, .int v15])), (o11, .inr (4, [.ref o12, .int v14, .int v15])), (o2, .inr (3, [.ref o3, .int y2])), (o3, .inl (c2, 13, .inr (.inr (.inr (.inr (fun i => if i < 13 then some (rw4 i) else none)))))), (o12, .inl (cI, 12, .inl fw13)), (o7, .inl (cI, 12, .inl fw8))] : va_W) ++ (gr13 rw4 cI 12 G3 ++ ([] : va_W))) := hD
      rw [hQ]
      exact W.vret hx hb hr (fun t ht hW => ⟨⟨(0, v15, y2, G3, fw8), rfl, ⟨(iv_w ik_0 (by decide)), y2_h, G3_b, fw8_b⟩, by rw [ht]; exact hP, va_K.moved hW.alike hK, hD⟩, hS.F ht⟩) hS.2.2 dX9_bring_44
  ·
    rw [hQ]
    exact W.vret hx hb hr (fun t ht hW => ⟨⟨(v9, v10, v6, Gw5, fw8), rfl, ⟨v9_h, v6_h, Gw5_b, fw8_b⟩, by rw [ht]; exact hP, va_K.moved hW.alike hK, hD⟩, hS.F ht⟩) hS.2.2 dX9_bring_11
theorem iw_X11_sound_X11 : ∀ w ∈ wsX110, w ∈ wsX11_sound := fun _ h => List.mem_cons.mpr (Or.inr (List.mem_append.mpr (Or.inl (List.mem_append.mpr (Or.inl (List.mem_append.mpr (Or.inl (List.mem_append.mpr (Or.inr h)))))))))
theorem iw_X11_sound_X9 : ∀ w ∈ wsX90, w ∈ wsX11_sound := fun _ h => List.mem_cons.mpr (Or.inr (List.mem_append.mpr (Or.inl (List.mem_append.mpr (Or.inl (List.mem_append.mpr (Or.inr h)))))))
set_option maxHeartbeats 4000000 in
set_option maxRecDepth 100000 in
theorem kX11_sound_1 (l : Launch) (dC : Nat → ClassId) (dI : Nat → Nat → Nat) (cI c2 cZ : ClassId) (o1 : Nat) (o2 : Nat) (o7 : Nat) (o12 : Nat) (o41 : Nat) (o51 : Nat) (o64 : Nat) (o77 : Nat) (o84 : Nat) (o91 : Nat) (o99 : Nat) (o111 : Nat) (o123 : Nat) (o42 : Nat) (o47 : Nat) (o3 : Nat) (o43 : Nat) (fw4 : Nat → Int32) (v5 : Int32) (v6 : Int32) (rw44 : Nat → Nat) (Gw45 : Nat → Nat → Int32) (v46 : Int32) (fw48 : Nat → Int32) (v49 : Int32) (v50 : Int32) (v125 : Int32) (sz : Nat) (fw4_b : Bd 12 0 4095 fw4) (v5_h : Iv 0 12 v5) (Gw45_b : Bg 13 12 0 4095 Gw45) (v46_h : Iv 0 12 v46) (fw48_b : Bd 12 0 11 fw48) (v49_h : Iv 0 12 v49) : Met l yX11_sound wsX11_sound ({ frames := 15, cells := 0, slots := 0, locals := 386 }) (va_Pc [.ref o1] (wPre (dC, dI) [(cI, .int), (c2, .array .int), (cZ, .boolean)] (([(o1, .inr (11, [.ref o2, .ref o7, .ref o12, .ref o41, .ref o51, .ref o64, .ref o77, .ref o84, .ref o91, .ref o99, .ref o111, .ref o123, .int v125])), (o41, .inr (9, [.ref o42, .ref o47, .int v49, .int v50])), (o2, .inr (4, [.ref o3, .int v5, .int v6])), (o42, .inr (3, [.ref o43, .int v46])), (o43, .inl (c2, 13, .inr (.inr (.inr (.inr (fun i => if i < 13 then some (rw44 i) else none)))))), (o3, .inl (cI, 12, .inl fw4)), (o47, .inl (cI, 12, .inl fw48))] : va_W) ++ (gr13 rw44 cI 12 Gw45 ++ ([] : va_W))) sz)) (va_Qi (fun (r : Int32) (u : Int32 × Int32 × Int32 × (Nat → Nat → Int32) × (Nat → Int32)) => Iv 0 1 r ∧ Iv 0 12 u.1 ∧ Iv 0 12 u.2.2.1 ∧ Bg 13 12 0 4095 u.2.2.2.1 ∧ Bd 12 0 11 u.2.2.2.2) (fun u t => wPost (dC, dI) [(cI, .int), (c2, .array .int), (cZ, .boolean)] (va_A (([(o1, .inr (11, [.ref o2, .ref o7, .ref o12, .ref o41, .ref o51, .ref o64, .ref o77, .ref o84, .ref o91, .ref o99, .ref o111, .ref o123, .int v125])), (o41, .inr (9, [.ref o42, .ref o47, .int v49, .int v50])), (o2, .inr (4, [.ref o3, .int v5, .int v6])), (o42, .inr (3, [.ref o43, .int v46])), (o43, .inl (c2, 13, .inr (.inr (.inr (.inr (fun i => if i < 13 then some (rw44 i) else none)))))), (o3, .inl (cI, 12, .inl fw4)), (o47, .inl (cI, 12, .inl fw48))] : va_W) ++ (gr13 rw44 cI 12 Gw45 ++ ([] : va_W))) sz) (([(o1, .inr (11, [.ref o2, .ref o7, .ref o12, .ref o41, .ref o51, .ref o64, .ref o77, .ref o84, .ref o91, .ref o99, .ref o111, .ref o123, .int v125])), (o41, .inr (9, [.ref o42, .ref o47, .int u.1, .int u.2.1])), (o2, .inr (4, [.ref o3, .int v5, .int v6])), (o42, .inr (3, [.ref o43, .int u.2.2.1])), (o43, .inl (c2, 13, .inr (.inr (.inr (.inr (fun i => if i < 13 then some (rw44 i) else none)))))), (o3, .inl (cI, 12, .inl fw4)), (o47, .inl (cI, 12, .inl u.2.2.2.2))] : va_W) ++ (gr13 rw44 cI 12 u.2.2.2.1 ++ ([] : va_W))) t) (va_A (([(o1, .inr (11, [.ref o2, .ref o7, .ref o12, .ref o41, .ref o51, .ref o64, .ref o77, .ref o84, .ref o91, .ref o99, .ref o111, .ref o123, .int v125])), (o41, .inr (9, [.ref o42, .ref o47, .int v49, .int v50])), (o2, .inr (4, [.ref o3, .int v5, .int v6])), (o42, .inr (3, [.ref o43, .int v46])), (o43, .inl (c2, 13, .inr (.inr (.inr (.inr (fun i => if i < 13 then some (rw44 i) else none)))))), (o3, .inl (cI, 12, .inl fw4)), (o47, .inl (cI, 12, .inl fw48))] : va_W) ++ (gr13 rw44 cI 12 Gw45 ++ ([] : va_W))) sz)) 0 0 (va_A (([(o1, .inr (11, [.ref o2, .ref o7, .ref o12, .ref o41, .ref o51, .ref o64, .ref o77, .ref o84, .ref o91, .ref o99, .ref o111, .ref o123, .int v125])), (o41, .inr (9, [.ref o42, .ref o47, .int v49, .int v50])), (o2, .inr (4, [.ref o3, .int v5, .int v6])), (o42, .inr (3, [.ref o43, .int v46])), (o43, .inl (c2, 13, .inr (.inr (.inr (.inr (fun i => if i < 13 then some (rw44 i) else none)))))), (o3, .inl (cI, 12, .inl fw4)), (o47, .inl (cI, 12, .inl fw48))] : va_W) ++ (gr13 rw44 cI 12 Gw45 ++ ([] : va_W))) sz) := by
  refine Met.ofW (cc := cX11_sound) (maxL := 1) (ret := (some .int)) (by decide) rfl ?_
  intro p e s m args below meth c s₁ B hml hv
  obtain ⟨rfl, hsz, hP, hK, hD0, hN⟩ := hv
  have hx := B.exec
  have hb := B.bytes
  have hr := B.returns
  have hts := atoms_spec (ws := wsX11_sound) B.pre
  have hown : s.vm.findClass RX11 = some m.cls := findClass_of_methodNamed B.named
  have hlocks := B.notSynchronized
  subst hsz
  have hD := hD0.self (sz := s.heap.size)
  generalize hAe : va_A (([(o1, .inr (11, [.ref o2, .ref o7, .ref o12, .ref o41, .ref o51, .ref o64, .ref o77, .ref o84, .ref o91, .ref o99, .ref o111, .ref o123, .int v125])), (o41, .inr (9, [.ref o42, .ref o47, .int v49, .int v50])), (o2, .inr (4, [.ref o3, .int v5, .int v6])), (o42, .inr (3, [.ref o43, .int v46])), (o43, .inl (c2, 13, .inr (.inr (.inr (.inr (fun i => if i < 13 then some (rw44 i) else none)))))), (o3, .inl (cI, 12, .inl fw4)), (o47, .inl (cI, 12, .inl fw48))] : va_W) ++ (gr13 rw44 cI 12 Gw45 ++ ([] : va_W))) s.heap.size = A at hD ⊢
  have hA : ∀ q : Nat, s.heap.size ≤ q → A q := fun q h => by rw [← hAe]; exact Or.inr h
  have hS : va_S A s.heap s.heap [] := va_S.rf
  have hP : va_P (dC, dI) vwCl (([(o1, .inr (11, [.ref o2, .ref o7, .ref o12, .ref o41, .ref o51, .ref o64, .ref o77, .ref o84, .ref o91, .ref o99, .ref o111, .ref o123, .int v125])), (o41, .inr (9, [.ref o42, .ref o47, .int v49, .int v50])), (o2, .inr (4, [.ref o3, .int v5, .int v6])), (o42, .inr (3, [.ref o43, .int v46])), (o43, .inl (c2, 13, .inr (.inr (.inr (.inr (fun i => if i < 13 then some (rw44 i) else none)))))), (o3, .inl (cI, 12, .inl fw4)), (o47, .inl (cI, 12, .inl fw48))] : va_W) ++ (gr13 rw44 cI 12 Gw45 ++ ([] : va_W))) s.heap := hP
  have hl := lv_entry ([.ref o1]) (n := 1) (Nat.le_of_ble_eq_true rfl)
  rw [lg_entry_eq]
  generalize (lg_sl ([.ref o1]) ++ List.replicate (1 - (lg_sl ([.ref o1])).length) Slot.unset).toArray = ls at hl ⊢
  have hl : lv_has ls 1 [(0, .ref o1)] := hl
  refine gen_Q (fun Q hQ => ?_)
  refine lv_aload_n hx hb dX11_sound_0 rfl (lv_at hl 0 rfl) ?_
  refine va_get (D := (dC, dI)) (ci := 11) (v := .ref o41) (C := RX11) (T := TX11) (N := 13) hx hb hts iw_X11_sound_X11 hown hK hP 0 rfl rfl 3 (by decide) (hts (.fieldLink RX11 33 "HolelessHouse" "ring" "LHolelessHouse$Ring;") hm_X11_sound_1) (fun _ h9 => h9) rfl dX11_sound_1 ?_
  refine lv_aload_n hx hb dX11_sound_4 rfl (lv_at hl 0 rfl) ?_
  refine va_get (D := (dC, dI)) (ci := 11) (v := .ref o2) (C := RX11) (T := TX11) (N := 13) hx hb hts iw_X11_sound_X11 hown hK hP 0 rfl rfl 0 (by decide) (hts (.fieldLink RX11 10 "HolelessHouse" "graph" "LHolelessHouse$Graph;") hm_X11_sound_2) (fun _ h9 => h9) rfl dX11_sound_5 ?_
  refine kc_v (D := (dC, dI)) (S := Int32 × Int32 × Int32 × (Nat → Nat → Int32) × (Nat → Int32)) (wc := ([(o41, .inr (9, [.ref o42, .ref o47, .int v49, .int v50])), (o2, .inr (4, [.ref o3, .int v5, .int v6])), (o42, .inr (3, [.ref o43, .int v46])), (o43, .inl (c2, 13, .inr (.inr (.inr (.inr (fun i => if i < 13 then some (rw44 i) else none)))))), (o3, .inl (cI, 12, .inl fw4)), (o47, .inl (cI, 12, .inl fw48))] : va_W) ++ (gr13 rw44 cI 12 Gw45 ++ ([] : va_W))) (wr := [(o1, .inr (11, [.ref o2, .ref o7, .ref o12, .ref o41, .ref o51, .ref o64, .ref o77, .ref o84, .ref o91, .ref o99, .ref o111, .ref o123, .int v125]))]) (w1 := fun u => ([(o41, .inr (9, [.ref o42, .ref o47, .int u.1, .int u.2.1])), (o2, .inr (4, [.ref o3, .int v5, .int v6])), (o42, .inr (3, [.ref o43, .int u.2.2.1])), (o43, .inl (c2, 13, .inr (.inr (.inr (.inr (fun i => if i < 13 then some (rw44 i) else none)))))), (o3, .inl (cI, 12, .inl fw4)), (o47, .inl (cI, 12, .inl u.2.2.2.2))] : va_W) ++ (gr13 rw44 cI 12 u.2.2.2.1 ++ ([] : va_W))) (wn := fun u => ([(o1, .inr (11, [.ref o2, .ref o7, .ref o12, .ref o41, .ref o51, .ref o64, .ref o77, .ref o84, .ref o91, .ref o99, .ref o111, .ref o123, .int v125])), (o41, .inr (9, [.ref o42, .ref o47, .int u.1, .int u.2.1])), (o2, .inr (4, [.ref o3, .int v5, .int v6])), (o42, .inr (3, [.ref o43, .int u.2.2.1])), (o43, .inl (c2, 13, .inr (.inr (.inr (.inr (fun i => if i < 13 then some (rw44 i) else none)))))), (o3, .inl (cI, 12, .inl fw4)), (o47, .inl (cI, 12, .inl u.2.2.2.2))] : va_W) ++ (gr13 rw44 cI 12 u.2.2.2.1 ++ ([] : va_W))) (fun hPc hDc => va_runVN (As := [.ref o2]) (rest := []) ⟨hx, hb, hml, hown, hts⟩ (kX9_bring_1 l dC dI cI c2 cZ o41 o2 o42 o47 o3 o43 rw44 Gw45 v46 fw48 v49 v50 fw4 v5 v6 s.heap.size Gw45_b v46_h fw48_b v49_h fw4_b v5_h) ⟨va_cnB 1 hts gX11_sound_X9_bring_n123 rfl rfl rfl (hN.1 _ ns_71) (hts (.initialized RX9) hm_X11_sound_4) (by decide +kernel) ⟨Nat.le_of_ble_eq_true rfl, Nat.le_of_ble_eq_true rfl⟩, (hts (.instanceMethod yX9_bring) hm_X11_sound_3), (hts (.selects RX9 yX9_bring yX9_bring) hm_X11_sound_5)⟩ (pre_V hPc hK hDc hN (ci := 9) (q0 := 0) rfl rfl) rfl rfl hl.1 rfl (lv_room (Nat.le_of_ble_eq_true rfl)) dX11_sound_8 ⟨Nat.le_of_ble_eq_true rfl, Nat.le_of_ble_eq_true rfl⟩) hP hD hS hA [1, 2, 3, 4, 5, 6, 7, 8, 9, 10, 11, 12, 13, 14, 15, 16, 17, 18, 19] [0] [0, 1, 2, 3, 4, 5, 6, 7, 8, 9, 10, 11, 12, 13, 14, 15, 16, 17, 18, 19] rfl rfl (by decide +kernel) (by decide +kernel) (by decide +kernel) (by decide +kernel) (fun _ => rfl) (fun u H locs hq hP hD hS => ?_)
  obtain ⟨y1, y2, y3, G4, f5⟩ := u
  obtain ⟨y1_h, y3_h, G4_b, f5_b⟩ := hq
  have hP : va_P (dC, dI) vwCl (([(o1, .inr (11, [.ref o2, .ref o7, .ref o12, .ref o41, .ref o51, .ref o64, .ref o77, .ref o84, .ref o91, .ref o99, .ref o111, .ref o123, .int v125])), (o41, .inr (9, [.ref o42, .ref o47, .int y1, .int y2])), (o2, .inr (4, [.ref o3, .int v5, .int v6])), (o42, .inr (3, [.ref o43, .int y3])), (o43, .inl (c2, 13, .inr (.inr (.inr (.inr (fun i => if i < 13 then some (rw44 i) else none)))))), (o3, .inl (cI, 12, .inl fw4)), (o47, .inl (cI, 12, .inl f5))] : va_W) ++ (gr13 rw44 cI 12 G4 ++ ([] : va_W))) H := hP
  have hD : va_D A (([(o1, .inr (11, [.ref o2, .ref o7, .ref o12, .ref o41, .ref o51, .ref o64, .ref o77, .ref o84, .ref o91, .ref o99, .ref o111, .ref o123, .int v125])), (o41, .inr (9, [.ref o42, .ref o47, .int y1, .int y2])), (o2, .inr (4, [.ref o3, .int v5, .int v6])), (o42, .inr (3, [.ref o43, .int y3])), (o43, .inl (c2, 13, .inr (.inr (.inr (.inr (fun i => if i < 13 then some (rw44 i) else none)))))), (o3, .inl (cI, 12, .inl fw4)), (o47, .inl (cI, 12, .inl f5))] : va_W) ++ (gr13 rw44 cI 12 G4 ++ ([] : va_W))) := hD
  refine lv_aload_n hx hb dX11_sound_11 rfl (lv_at hl 0 rfl) ?_
  refine va_get (D := (dC, dI)) (ci := 11) (v := .ref o41) (C := RX11) (T := TX11) (N := 13) hx hb hts iw_X11_sound_X11 hown hK hP 0 rfl rfl 3 (by decide) (hts (.fieldLink RX11 33 "HolelessHouse" "ring" "LHolelessHouse$Ring;") hm_X11_sound_1) (fun _ h9 => h9) rfl dX11_sound_12 ?_
  refine va_getN (D := (dC, dI)) (ci := 9) (v := .int y1) (C := RX9) (T := TX9) (N := 4) hx hb hts iw_X11_sound_X9 hown hK hP 1 rfl rfl 2 (by decide) (hN.use ns_32) (fun _ h9 => h9) rfl dX11_sound_15 ?_
  refine lv_if_ne (tgt := 25) hx hb dX11_sound_18 (by decide) (fun h6 => ?_) (fun h6 => ?_)
  ·
    have j7 : Iv 1 12 y1 := r_nelo h6 y1_h ik_0 (by decide)
    refine lv_iconst (v := 0) hx hb dX11_sound_25 (by decide) ?_
    rw [hQ]
    exact W.iret (v := 0) hx hb hr (fun t ht hW => ⟨⟨0, (y1, y2, y3, G4, f5), rfl, ⟨(iv_w ik_0 (by decide)), (iv_w j7 (by decide)), y3_h, G4_b, f5_b⟩, by rw [ht]; exact hP, va_K.moved hW.alike hK, hD⟩, hS.F ht⟩) hS.2.2 dX11_sound_26
  ·
    have j8 : Iv 0 0 y1 := r_eq h6 ik_0
    refine lv_iconst (v := 1) hx hb dX11_sound_21 (by decide) ?_
    refine lv_goto (tgt := 26) hx hb dX11_sound_22 (by decide) ?_
    rw [hQ]
    exact W.iret (v := 1) hx hb hr (fun t ht hW => ⟨⟨1, (y1, y2, y3, G4, f5), rfl, ⟨(iv_w ik_1 (by decide)), (iv_w j8 (by decide)), y3_h, G4_b, f5_b⟩, by rw [ht]; exact hP, va_K.moved hW.alike hK, hD⟩, hS.F ht⟩) hS.2.2 dX11_sound_26
theorem iw_X11_hole_X11 : ∀ w ∈ wsX110, w ∈ wsX11_hole := fun _ h => List.mem_cons.mpr (Or.inr (List.mem_append.mpr (Or.inl (List.mem_append.mpr (Or.inl (List.mem_append.mpr (Or.inl (List.mem_append.mpr (Or.inr h)))))))))
theorem iw_X11_hole_X9 : ∀ w ∈ wsX90, w ∈ wsX11_hole := fun _ h => List.mem_cons.mpr (Or.inr (List.mem_append.mpr (Or.inl (List.mem_append.mpr (Or.inl (List.mem_append.mpr (Or.inr h)))))))
set_option maxHeartbeats 4000000 in
set_option maxRecDepth 100000 in
theorem kX11_hole_1 (l : Launch) (dC : Nat → ClassId) (dI : Nat → Nat → Nat) (cI c2 cZ : ClassId) (o1 : Nat) (o2 : Nat) (o7 : Nat) (o12 : Nat) (o41 : Nat) (o51 : Nat) (o64 : Nat) (o77 : Nat) (o84 : Nat) (o91 : Nat) (o99 : Nat) (o111 : Nat) (o123 : Nat) (o42 : Nat) (o47 : Nat) (o3 : Nat) (o43 : Nat) (fw4 : Nat → Int32) (v5 : Int32) (v6 : Int32) (rw44 : Nat → Nat) (Gw45 : Nat → Nat → Int32) (v46 : Int32) (fw48 : Nat → Int32) (v49 : Int32) (v50 : Int32) (v125 : Int32) (a1 : Int32) (sz : Nat) (fw4_b : Bd 12 0 4095 fw4) (v5_h : Iv 0 12 v5) (Gw45_b : Bg 13 12 0 4095 Gw45) (v46_h : Iv 0 12 v46) (fw48_b : Bd 12 0 11 fw48) (v49_h : Iv 0 12 v49) : Met l yX11_hole wsX11_hole ({ frames := 15, cells := 0, slots := 0, locals := 386 }) (va_Pc [.ref o1, .int a1] (wPre (dC, dI) [(cI, .int), (c2, .array .int), (cZ, .boolean)] (([(o1, .inr (11, [.ref o2, .ref o7, .ref o12, .ref o41, .ref o51, .ref o64, .ref o77, .ref o84, .ref o91, .ref o99, .ref o111, .ref o123, .int v125])), (o41, .inr (9, [.ref o42, .ref o47, .int v49, .int v50])), (o2, .inr (4, [.ref o3, .int v5, .int v6])), (o42, .inr (3, [.ref o43, .int v46])), (o43, .inl (c2, 13, .inr (.inr (.inr (.inr (fun i => if i < 13 then some (rw44 i) else none)))))), (o3, .inl (cI, 12, .inl fw4)), (o47, .inl (cI, 12, .inl fw48))] : va_W) ++ (gr13 rw44 cI 12 Gw45 ++ ([] : va_W))) sz)) (va_Qi (fun (r : Int32) (u : Int32 × Int32 × Int32 × (Nat → Nat → Int32) × (Nat → Int32)) => Iv (-9) 11 r ∧ Iv 0 12 u.1 ∧ Iv 0 12 u.2.2.1 ∧ Bg 13 12 0 4095 u.2.2.2.1 ∧ Bd 12 0 11 u.2.2.2.2) (fun u t => wPost (dC, dI) [(cI, .int), (c2, .array .int), (cZ, .boolean)] (va_A (([(o1, .inr (11, [.ref o2, .ref o7, .ref o12, .ref o41, .ref o51, .ref o64, .ref o77, .ref o84, .ref o91, .ref o99, .ref o111, .ref o123, .int v125])), (o41, .inr (9, [.ref o42, .ref o47, .int v49, .int v50])), (o2, .inr (4, [.ref o3, .int v5, .int v6])), (o42, .inr (3, [.ref o43, .int v46])), (o43, .inl (c2, 13, .inr (.inr (.inr (.inr (fun i => if i < 13 then some (rw44 i) else none)))))), (o3, .inl (cI, 12, .inl fw4)), (o47, .inl (cI, 12, .inl fw48))] : va_W) ++ (gr13 rw44 cI 12 Gw45 ++ ([] : va_W))) sz) (([(o1, .inr (11, [.ref o2, .ref o7, .ref o12, .ref o41, .ref o51, .ref o64, .ref o77, .ref o84, .ref o91, .ref o99, .ref o111, .ref o123, .int v125])), (o41, .inr (9, [.ref o42, .ref o47, .int u.1, .int u.2.1])), (o2, .inr (4, [.ref o3, .int v5, .int v6])), (o42, .inr (3, [.ref o43, .int u.2.2.1])), (o43, .inl (c2, 13, .inr (.inr (.inr (.inr (fun i => if i < 13 then some (rw44 i) else none)))))), (o3, .inl (cI, 12, .inl fw4)), (o47, .inl (cI, 12, .inl u.2.2.2.2))] : va_W) ++ (gr13 rw44 cI 12 u.2.2.2.1 ++ ([] : va_W))) t) (va_A (([(o1, .inr (11, [.ref o2, .ref o7, .ref o12, .ref o41, .ref o51, .ref o64, .ref o77, .ref o84, .ref o91, .ref o99, .ref o111, .ref o123, .int v125])), (o41, .inr (9, [.ref o42, .ref o47, .int v49, .int v50])), (o2, .inr (4, [.ref o3, .int v5, .int v6])), (o42, .inr (3, [.ref o43, .int v46])), (o43, .inl (c2, 13, .inr (.inr (.inr (.inr (fun i => if i < 13 then some (rw44 i) else none)))))), (o3, .inl (cI, 12, .inl fw4)), (o47, .inl (cI, 12, .inl fw48))] : va_W) ++ (gr13 rw44 cI 12 Gw45 ++ ([] : va_W))) sz)) 0 0 (va_A (([(o1, .inr (11, [.ref o2, .ref o7, .ref o12, .ref o41, .ref o51, .ref o64, .ref o77, .ref o84, .ref o91, .ref o99, .ref o111, .ref o123, .int v125])), (o41, .inr (9, [.ref o42, .ref o47, .int v49, .int v50])), (o2, .inr (4, [.ref o3, .int v5, .int v6])), (o42, .inr (3, [.ref o43, .int v46])), (o43, .inl (c2, 13, .inr (.inr (.inr (.inr (fun i => if i < 13 then some (rw44 i) else none)))))), (o3, .inl (cI, 12, .inl fw4)), (o47, .inl (cI, 12, .inl fw48))] : va_W) ++ (gr13 rw44 cI 12 Gw45 ++ ([] : va_W))) sz) := by
  refine Met.ofW (cc := cX11_hole) (maxL := 2) (ret := (some .int)) (by decide) rfl ?_
  intro p e s m args below meth c s₁ B hml hv
  obtain ⟨rfl, hsz, hP, hK, hD0, hN⟩ := hv
  have hx := B.exec
  have hb := B.bytes
  have hr := B.returns
  have hts := atoms_spec (ws := wsX11_hole) B.pre
  have hown : s.vm.findClass RX11 = some m.cls := findClass_of_methodNamed B.named
  have hlocks := B.notSynchronized
  subst hsz
  have hD := hD0.self (sz := s.heap.size)
  generalize hAe : va_A (([(o1, .inr (11, [.ref o2, .ref o7, .ref o12, .ref o41, .ref o51, .ref o64, .ref o77, .ref o84, .ref o91, .ref o99, .ref o111, .ref o123, .int v125])), (o41, .inr (9, [.ref o42, .ref o47, .int v49, .int v50])), (o2, .inr (4, [.ref o3, .int v5, .int v6])), (o42, .inr (3, [.ref o43, .int v46])), (o43, .inl (c2, 13, .inr (.inr (.inr (.inr (fun i => if i < 13 then some (rw44 i) else none)))))), (o3, .inl (cI, 12, .inl fw4)), (o47, .inl (cI, 12, .inl fw48))] : va_W) ++ (gr13 rw44 cI 12 Gw45 ++ ([] : va_W))) s.heap.size = A at hD ⊢
  have hA : ∀ q : Nat, s.heap.size ≤ q → A q := fun q h => by rw [← hAe]; exact Or.inr h
  have hS : va_S A s.heap s.heap [] := va_S.rf
  have hP : va_P (dC, dI) vwCl (([(o1, .inr (11, [.ref o2, .ref o7, .ref o12, .ref o41, .ref o51, .ref o64, .ref o77, .ref o84, .ref o91, .ref o99, .ref o111, .ref o123, .int v125])), (o41, .inr (9, [.ref o42, .ref o47, .int v49, .int v50])), (o2, .inr (4, [.ref o3, .int v5, .int v6])), (o42, .inr (3, [.ref o43, .int v46])), (o43, .inl (c2, 13, .inr (.inr (.inr (.inr (fun i => if i < 13 then some (rw44 i) else none)))))), (o3, .inl (cI, 12, .inl fw4)), (o47, .inl (cI, 12, .inl fw48))] : va_W) ++ (gr13 rw44 cI 12 Gw45 ++ ([] : va_W))) s.heap := hP
  have hl := lv_entry ([.ref o1, .int a1]) (n := 2) (Nat.le_of_ble_eq_true rfl)
  rw [lg_entry_eq]
  generalize (lg_sl ([.ref o1, .int a1]) ++ List.replicate (2 - (lg_sl ([.ref o1, .int a1])).length) Slot.unset).toArray = ls at hl ⊢
  have hl : lv_has ls 2 [(0, .ref o1), (1, .int a1)] := hl
  refine gen_Q (fun Q hQ => ?_)
  refine lv_aload_n hx hb dX11_hole_0 rfl (lv_at hl 0 rfl) ?_
  refine va_get (D := (dC, dI)) (ci := 11) (v := .ref o41) (C := RX11) (T := TX11) (N := 13) hx hb hts iw_X11_hole_X11 hown hK hP 0 rfl rfl 3 (by decide) (hts (.fieldLink RX11 33 "HolelessHouse" "ring" "LHolelessHouse$Ring;") hm_X11_hole_1) (fun _ h9 => h9) rfl dX11_hole_1 ?_
  refine lv_aload_n hx hb dX11_hole_4 rfl (lv_at hl 0 rfl) ?_
  refine va_get (D := (dC, dI)) (ci := 11) (v := .ref o2) (C := RX11) (T := TX11) (N := 13) hx hb hts iw_X11_hole_X11 hown hK hP 0 rfl rfl 0 (by decide) (hts (.fieldLink RX11 10 "HolelessHouse" "graph" "LHolelessHouse$Graph;") hm_X11_hole_2) (fun _ h9 => h9) rfl dX11_hole_5 ?_
  refine kc_v (D := (dC, dI)) (S := Int32 × Int32 × Int32 × (Nat → Nat → Int32) × (Nat → Int32)) (wc := ([(o41, .inr (9, [.ref o42, .ref o47, .int v49, .int v50])), (o2, .inr (4, [.ref o3, .int v5, .int v6])), (o42, .inr (3, [.ref o43, .int v46])), (o43, .inl (c2, 13, .inr (.inr (.inr (.inr (fun i => if i < 13 then some (rw44 i) else none)))))), (o3, .inl (cI, 12, .inl fw4)), (o47, .inl (cI, 12, .inl fw48))] : va_W) ++ (gr13 rw44 cI 12 Gw45 ++ ([] : va_W))) (wr := [(o1, .inr (11, [.ref o2, .ref o7, .ref o12, .ref o41, .ref o51, .ref o64, .ref o77, .ref o84, .ref o91, .ref o99, .ref o111, .ref o123, .int v125]))]) (w1 := fun u => ([(o41, .inr (9, [.ref o42, .ref o47, .int u.1, .int u.2.1])), (o2, .inr (4, [.ref o3, .int v5, .int v6])), (o42, .inr (3, [.ref o43, .int u.2.2.1])), (o43, .inl (c2, 13, .inr (.inr (.inr (.inr (fun i => if i < 13 then some (rw44 i) else none)))))), (o3, .inl (cI, 12, .inl fw4)), (o47, .inl (cI, 12, .inl u.2.2.2.2))] : va_W) ++ (gr13 rw44 cI 12 u.2.2.2.1 ++ ([] : va_W))) (wn := fun u => ([(o1, .inr (11, [.ref o2, .ref o7, .ref o12, .ref o41, .ref o51, .ref o64, .ref o77, .ref o84, .ref o91, .ref o99, .ref o111, .ref o123, .int v125])), (o41, .inr (9, [.ref o42, .ref o47, .int u.1, .int u.2.1])), (o2, .inr (4, [.ref o3, .int v5, .int v6])), (o42, .inr (3, [.ref o43, .int u.2.2.1])), (o43, .inl (c2, 13, .inr (.inr (.inr (.inr (fun i => if i < 13 then some (rw44 i) else none)))))), (o3, .inl (cI, 12, .inl fw4)), (o47, .inl (cI, 12, .inl u.2.2.2.2))] : va_W) ++ (gr13 rw44 cI 12 u.2.2.2.1 ++ ([] : va_W))) (fun hPc hDc => va_runVN (As := [.ref o2]) (rest := []) ⟨hx, hb, hml, hown, hts⟩ (kX9_bring_1 l dC dI cI c2 cZ o41 o2 o42 o47 o3 o43 rw44 Gw45 v46 fw48 v49 v50 fw4 v5 v6 s.heap.size Gw45_b v46_h fw48_b v49_h fw4_b v5_h) ⟨va_cnB 1 hts gX11_hole_X9_bring_n123 rfl rfl rfl (hN.1 _ ns_71) (hts (.initialized RX9) hm_X11_hole_4) (by decide +kernel) ⟨Nat.le_of_ble_eq_true rfl, Nat.le_of_ble_eq_true rfl⟩, (hts (.instanceMethod yX9_bring) hm_X11_hole_3), (hts (.selects RX9 yX9_bring yX9_bring) hm_X11_hole_5)⟩ (pre_V hPc hK hDc hN (ci := 9) (q0 := 0) rfl rfl) rfl rfl hl.1 rfl (lv_room (Nat.le_of_ble_eq_true rfl)) dX11_hole_8 ⟨Nat.le_of_ble_eq_true rfl, Nat.le_of_ble_eq_true rfl⟩) hP hD hS hA [1, 2, 3, 4, 5, 6, 7, 8, 9, 10, 11, 12, 13, 14, 15, 16, 17, 18, 19] [0] [0, 1, 2, 3, 4, 5, 6, 7, 8, 9, 10, 11, 12, 13, 14, 15, 16, 17, 18, 19] rfl rfl (by decide +kernel) (by decide +kernel) (by decide +kernel) (by decide +kernel) (fun _ => rfl) (fun u H locs hq hP hD hS => ?_)
  obtain ⟨y1, y2, y3, G4, f5⟩ := u
  obtain ⟨y1_h, y3_h, G4_b, f5_b⟩ := hq
  have hP : va_P (dC, dI) vwCl (([(o1, .inr (11, [.ref o2, .ref o7, .ref o12, .ref o41, .ref o51, .ref o64, .ref o77, .ref o84, .ref o91, .ref o99, .ref o111, .ref o123, .int v125])), (o41, .inr (9, [.ref o42, .ref o47, .int y1, .int y2])), (o2, .inr (4, [.ref o3, .int v5, .int v6])), (o42, .inr (3, [.ref o43, .int y3])), (o43, .inl (c2, 13, .inr (.inr (.inr (.inr (fun i => if i < 13 then some (rw44 i) else none)))))), (o3, .inl (cI, 12, .inl fw4)), (o47, .inl (cI, 12, .inl f5))] : va_W) ++ (gr13 rw44 cI 12 G4 ++ ([] : va_W))) H := hP
  have hD : va_D A (([(o1, .inr (11, [.ref o2, .ref o7, .ref o12, .ref o41, .ref o51, .ref o64, .ref o77, .ref o84, .ref o91, .ref o99, .ref o111, .ref o123, .int v125])), (o41, .inr (9, [.ref o42, .ref o47, .int y1, .int y2])), (o2, .inr (4, [.ref o3, .int v5, .int v6])), (o42, .inr (3, [.ref o43, .int y3])), (o43, .inl (c2, 13, .inr (.inr (.inr (.inr (fun i => if i < 13 then some (rw44 i) else none)))))), (o3, .inl (cI, 12, .inl fw4)), (o47, .inl (cI, 12, .inl f5))] : va_W) ++ (gr13 rw44 cI 12 G4 ++ ([] : va_W))) := hD
  refine lv_iload_n hx hb dX11_hole_11 rfl (lv_at hl 1 rfl) ?_
  refine lv_if_lt (tgt := 38) hx hb dX11_hole_12 (by decide) (fun h6 => ?_) (fun h6 => ?_)
  ·
    have qh6 := lt_i h6
    have j7 : Iv (-2147483648) (-1) a1 := r_ltl qh6 (iv_full a1) ik_0 (by decide)
    refine lv_bipush (v := (-9)) hx hb dX11_hole_38 (by decide) ?_
    rw [hQ]
    exact W.iret (v := (-9)) hx hb hr (fun t ht hW => ⟨⟨(-9), (y1, y2, y3, G4, f5), rfl, ⟨(iv_w ikm_9 (by decide)), y1_h, y3_h, G4_b, f5_b⟩, by rw [ht]; exact hP, va_K.moved hW.alike hK, hD⟩, hS.F ht⟩) hS.2.2 dX11_hole_40
  ·
    have qh6 := nlt_i h6
    have j8 : Iv 0 2147483647 a1 := r_ler qh6 ik_0 (iv_full a1) (by decide)
    refine lv_iload_n hx hb dX11_hole_15 rfl (lv_at hl 1 rfl) ?_
    refine lv_aload_n hx hb dX11_hole_16 rfl (lv_at hl 0 rfl) ?_
    refine va_get (D := (dC, dI)) (ci := 11) (v := .ref o41) (C := RX11) (T := TX11) (N := 13) hx hb hts iw_X11_hole_X11 hown hK hP 0 rfl rfl 3 (by decide) (hts (.fieldLink RX11 33 "HolelessHouse" "ring" "LHolelessHouse$Ring;") hm_X11_hole_1) (fun _ h9 => h9) rfl dX11_hole_17 ?_
    refine va_getN (D := (dC, dI)) (ci := 9) (v := .int y1) (C := RX9) (T := TX9) (N := 4) hx hb hts iw_X11_hole_X9 hown hK hP 1 rfl rfl 2 (by decide) (hN.use ns_32) (fun _ h9 => h9) rfl dX11_hole_20 ?_
    refine lv_icmp_ge (tgt := 38) hx hb dX11_hole_23 (by decide) (fun h9 => ?_) (fun h9 => ?_)
    ·
      have qh9 := le_i h9
      refine lv_bipush (v := (-9)) hx hb dX11_hole_38 (by decide) ?_
      rw [hQ]
      exact W.iret (v := (-9)) hx hb hr (fun t ht hW => ⟨⟨(-9), (y1, y2, y3, G4, f5), rfl, ⟨(iv_w ikm_9 (by decide)), y1_h, y3_h, G4_b, f5_b⟩, by rw [ht]; exact hP, va_K.moved hW.alike hK, hD⟩, hS.F ht⟩) hS.2.2 dX11_hole_40
    ·
      have qh9 := nle_i h9
      have j10 : Iv 0 11 a1 := r_ltl qh9 j8 y1_h (by decide)
      have j11 : Iv 1 12 y1 := r_ltr qh9 j8 y1_h (by decide)
      refine lv_aload_n hx hb dX11_hole_26 rfl (lv_at hl 0 rfl) ?_
      refine va_get (D := (dC, dI)) (ci := 11) (v := .ref o41) (C := RX11) (T := TX11) (N := 13) hx hb hts iw_X11_hole_X11 hown hK hP 0 rfl rfl 3 (by decide) (hts (.fieldLink RX11 33 "HolelessHouse" "ring" "LHolelessHouse$Ring;") hm_X11_hole_1) (fun _ h9 => h9) rfl dX11_hole_27 ?_
      refine va_getN (D := (dC, dI)) (ci := 9) (v := .ref o47) (C := RX9) (T := TX9) (N := 4) hx hb hts iw_X11_hole_X9 hown hK hP 1 rfl rfl 1 (by decide) (hN.use ns_31) (fun _ h9 => h9) rfl dX11_hole_30 ?_
      refine lv_iload_n hx hb dX11_hole_33 rfl (lv_at hl 1 rfl) ?_
      refine va_iald hx hb hK hP 6 0 rfl rfl (vin_iv j10 (by decide)) dX11_hole_34 (lv_topi (fun x12 x12_e => ?_))
      have x12_h : Iv 0 11 x12 := iv_e x12_e (bd_at f5_b (vin_iv j10 (by decide)))
      refine lv_goto (tgt := 40) hx hb dX11_hole_35 (by decide) ?_
      rw [hQ]
      exact W.iret (v := x12) hx hb hr (fun t ht hW => ⟨⟨x12, (y1, y2, y3, G4, f5), rfl, ⟨(iv_w x12_h (by decide)), (iv_w j11 (by decide)), y3_h, G4_b, f5_b⟩, by rw [ht]; exact hP, va_K.moved hW.alike hK, hD⟩, hS.F ht⟩) hS.2.2 dX11_hole_40
theorem iw_X4_joinAll_X4 : ∀ w ∈ wsX40, w ∈ wsX4_joinAll := fun _ h => List.mem_cons.mpr (Or.inr (List.mem_append.mpr (Or.inr h)))
set_option maxHeartbeats 4000000 in
set_option maxRecDepth 100000 in
theorem kX4_joinAll_1 (l : Launch) (dC : Nat → ClassId) (dI : Nat → Nat → Nat) (cI c2 cZ : ClassId) (o1 : Nat) (o2 : Nat) (fw3 : Nat → Int32) (v4 : Int32) (v5 : Int32) (a1 : Int32) (sz : Nat) (fw3_b : Bd 12 0 4095 fw3) (v4_h : Iv 0 12 v4) (a1_h : Iv 0 4095 a1) : Met l yX4_joinAll wsX4_joinAll ({ frames := 1, cells := 0, slots := 0, locals := 21 }) (va_Pc [.ref o1, .int a1] (wPre (dC, dI) [(cI, .int), (c2, .array .int), (cZ, .boolean)] ([(o1, .inr (4, [.ref o2, .int v4, .int v5])), (o2, .inl (cI, 12, .inl fw3))]) sz)) (va_Qv (fun (u : Int32 × (Nat → Int32)) => Bd 12 0 4095 u.2) (fun u t => wPost (dC, dI) [(cI, .int), (c2, .array .int), (cZ, .boolean)] (va_A ([(o1, .inr (4, [.ref o2, .int v4, .int v5])), (o2, .inl (cI, 12, .inl fw3))]) sz) ([(o1, .inr (4, [.ref o2, .int v4, .int u.1])), (o2, .inl (cI, 12, .inl u.2))]) t) (va_A ([(o1, .inr (4, [.ref o2, .int v4, .int v5])), (o2, .inl (cI, 12, .inl fw3))]) sz)) 0 0 (va_A ([(o1, .inr (4, [.ref o2, .int v4, .int v5])), (o2, .inl (cI, 12, .inl fw3))]) sz) := by
  refine Met.ofW (cc := cX4_joinAll) (maxL := 3) (ret := none) (by decide) rfl ?_
  intro p e s m args below meth c s₁ B hml hv
  obtain ⟨rfl, hsz, hP, hK, hD0, hN⟩ := hv
  have hx := B.exec
  have hb := B.bytes
  have hr := B.returns
  have hts := atoms_spec (ws := wsX4_joinAll) B.pre
  have hown : s.vm.findClass RX4 = some m.cls := findClass_of_methodNamed B.named
  have hlocks := B.notSynchronized
  subst hsz
  have hD := hD0.self (sz := s.heap.size)
  generalize hAe : va_A ([(o1, .inr (4, [.ref o2, .int v4, .int v5])), (o2, .inl (cI, 12, .inl fw3))]) s.heap.size = A at hD ⊢
  have hA : ∀ q : Nat, s.heap.size ≤ q → A q := fun q h => by rw [← hAe]; exact Or.inr h
  have hS : va_S A s.heap s.heap [] := va_S.rf
  have hP : va_P (dC, dI) vwCl ([(o1, .inr (4, [.ref o2, .int v4, .int v5])), (o2, .inl (cI, 12, .inl fw3))]) s.heap := hP
  have hl := lv_entry ([.ref o1, .int a1]) (n := 3) (Nat.le_of_ble_eq_true rfl)
  rw [lg_entry_eq]
  generalize (lg_sl ([.ref o1, .int a1]) ++ List.replicate (3 - (lg_sl ([.ref o1, .int a1])).length) Slot.unset).toArray = ls at hl ⊢
  have hl : lv_has ls 3 [(0, .ref o1), (1, .int a1)] := hl
  refine gen_Q (fun Q hQ => ?_)
  refine lv_iconst (v := 0) hx hb dX4_joinAll_0 (by decide) ?_
  refine lv_istore_n (lv' := [(2, .int 0), (0, .ref o1), (1, .int a1)]) hx hb dX4_joinAll_1 rfl hl (by decide) rfl (fun ls hl => ?_)
  have L1 : ∀ (N : Nat) (x131 : Int32) (f132 : Nat → Int32) (H : Heap) (locs : List Loc) (ls : Array Slot), (12 - x131.toInt).toNat < N → Iv 0 12 x131 → Bd 12 0 4095 f132 → va_P (dC, dI) vwCl ([(o1, .inr (4, [.ref o2, .int v4, .int v5])), (o2, .inl (cI, 12, .inl f132))]) H → va_D A ([(o1, .inr (4, [.ref o2, .int v4, .int v5])), (o2, .inl (cI, 12, .inl f132))]) → va_S A s.heap H locs → lv_has ls 3 [(2, .int x131), (0, .ref o1), (1, .int a1)] → W p l e ({ frames := 1, cells := 0, slots := 0, locals := 21 }) s m ([.ref o1, .int a1] : List Value).toArray below meth c H locs 0 0 Q (F0 m 2 ls []) := by
    intro N
    induction N with
    | zero =>
      intro x131 f132 H locs ls hM
      exact absurd hM (Nat.not_lt_zero _)
    | succ N ih1 =>
      intro x131 f132 H locs ls hM1 x131_h f132_b hP hD hS hl
      refine lv_iload_n hx hb dX4_joinAll_2 rfl (lv_at hl 0 rfl) ?_
      refine lv_aload_n hx hb dX4_joinAll_3 rfl (lv_at hl 1 rfl) ?_
      refine va_get (D := (dC, dI)) (ci := 4) (v := .int v4) (C := RX4) (T := TX4) (N := 3) hx hb hts iw_X4_joinAll_X4 hown hK hP 0 rfl rfl 1 (by decide) (hts (.fieldLink RX4 15 "HolelessHouse$Graph" "size" "I") hm_X4_joinAll_1) (fun _ h9 => h9) rfl dX4_joinAll_4 ?_
      refine lv_icmp_ge (tgt := 40) hx hb dX4_joinAll_7 (by decide) (fun h133 => ?_) (fun h133 => ?_)
      ·
        have qh133 := le_i h133
        refine lv_aload_n hx hb dX4_joinAll_40 rfl (lv_at hl 1 rfl) ?_
        refine lv_dup hx hb dX4_joinAll_41 rfl ?_
        refine va_get (D := (dC, dI)) (ci := 4) (v := .int v5) (C := RX4) (T := TX4) (N := 3) hx hb hts iw_X4_joinAll_X4 hown hK hP 0 rfl rfl 2 (by decide) (hts (.fieldLink RX4 19 "HolelessHouse$Graph" "version" "I") hm_X4_joinAll_3) (fun _ h9 => h9) rfl dX4_joinAll_42 ?_
        refine lv_iconst (v := 1) hx hb dX4_joinAll_45 (by decide) ?_
        refine lv_iadd hx hb dX4_joinAll_46 (lv_topi (fun x134 x134_e => ?_))
        refine va_put (D := (dC, dI)) (ci := 4) (v := .int x134) (ty := .int) (C := RX4) (T := TX4) (N := 3) hx hb hts iw_X4_joinAll_X4 tyX4 tyX4_ok nmX4 hown hK hP hD hS 0 rfl rfl 2 (by decide) (hts (.fieldLink RX4 19 "HolelessHouse$Graph" "version" "I") hm_X4_joinAll_3) (fun _ h9 => h9) rfl (by decide +kernel) rfl rfl (Nat.le_of_ble_eq_true rfl) dX4_joinAll_47 (fun H locs hP hD hS => ?_)
        have hP : va_P (dC, dI) vwCl ([(o1, .inr (4, [.ref o2, .int v4, .int x134])), (o2, .inl (cI, 12, .inl f132))]) H := hP
        have hD : va_D A ([(o1, .inr (4, [.ref o2, .int v4, .int x134])), (o2, .inl (cI, 12, .inl f132))]) := hD
        rw [hQ]
        exact W.vret hx hb hr (fun t ht hW => ⟨⟨(x134, f132), rfl, f132_b, by rw [ht]; exact hP, va_K.moved hW.alike hK, hD⟩, hS.F ht⟩) hS.2.2 dX4_joinAll_50
      ·
        have qh133 := nle_i h133
        have j135 : Iv 0 11 x131 := r_ltl qh133 x131_h v4_h (by decide)
        have j136 : Iv 1 12 v4 := r_ltr qh133 x131_h v4_h (by decide)
        refine lv_iload_n hx hb dX4_joinAll_10 rfl (lv_at hl 2 rfl) ?_
        refine lv_iload_n hx hb dX4_joinAll_11 rfl (lv_at hl 0 rfl) ?_
        refine kc_i (D := (dC, dI)) (S := Unit) (wc := []) (wr := [(o1, .inr (4, [.ref o2, .int v4, .int v5])), (o2, .inl (cI, 12, .inl f132))]) (w1 := fun _ => []) (wn := fun _ => [(o1, .inr (4, [.ref o2, .int v4, .int v5])), (o2, .inl (cI, 12, .inl f132))]) (fun hPc hDc => va_runSN (As := [.int a1, .int x131]) (rest := []) ⟨hx, hb, hml, hown, hts⟩ (kX11_in_1 l dC dI cI c2 cZ a1 x131 H.size) ⟨va_cnB 2 hts gX4_joinAll_X11_in_n22 rfl rfl rfl (hN.1 _ ns_68) (hts (.initialized RX11) hm_X4_joinAll_5) (by decide +kernel) ⟨Nat.le_of_ble_eq_true rfl, Nat.le_of_ble_eq_true rfl⟩, (hts (.static yX11_in) hm_X4_joinAll_4), trivial⟩ (pre_S hPc hK hDc hN) rfl rfl hl.1 rfl (lv_room (Nat.le_of_ble_eq_true rfl)) dX4_joinAll_12 ⟨Nat.le_of_ble_eq_true rfl, Nat.le_of_ble_eq_true rfl⟩) hP hD hS hA [] [0, 1] [0, 1] rfl rfl (by decide +kernel) (by decide +kernel) (by decide +kernel) (by decide +kernel) (fun _ => rfl) (fun x137 _ H locs hq hP hD hS => ?_)
        have x137_h := hq
        have hP : va_P (dC, dI) vwCl ([(o1, .inr (4, [.ref o2, .int v4, .int v5])), (o2, .inl (cI, 12, .inl f132))]) H := hP
        have hD : va_D A ([(o1, .inr (4, [.ref o2, .int v4, .int v5])), (o2, .inl (cI, 12, .inl f132))]) := hD
        refine lv_if_eq (tgt := 34) hx hb dX4_joinAll_15 (by decide) (fun h138 => ?_) (fun h138 => ?_)
        ·
          have j139 : Iv 0 0 x137 := r_eq h138 ik_0
          obtain ⟨x140, x140_e⟩ : ∃ z : Int32, z = x131 + 1 := ⟨_, rfl⟩
          have x140_h : Iv 1 12 x140 := iv_e x140_e (iv_add j135 ik_1 (by decide))
          refine lv_iinc (v := x140) (lv' := [(2, .int x140), (0, .ref o1), (1, .int a1)]) hx hb dX4_joinAll_34 hl (k := 0) rfl (incN (by decide +kernel) x140_e) (by decide) rfl (fun ls hl => ?_)
          refine lv_goto (tgt := 2) hx hb dX4_joinAll_37 (by decide) ?_
          exact ih1 x140 f132 _ _ _ (ms_up x140_e j135 (by decide) hM1) (iv_w x140_h (by decide)) f132_b hP hD hS hl
        ·
          have j141 : Iv 1 1 x137 := r_nelo h138 x137_h ik_0 (by decide)
          refine lv_aload_n hx hb dX4_joinAll_18 rfl (lv_at hl 1 rfl) ?_
          refine va_get (D := (dC, dI)) (ci := 4) (v := .ref o2) (C := RX4) (T := TX4) (N := 3) hx hb hts iw_X4_joinAll_X4 hown hK hP 0 rfl rfl 0 (by decide) (hts (.fieldLink RX4 9 "HolelessHouse$Graph" "near" "[I") hm_X4_joinAll_2) (fun _ h9 => h9) rfl dX4_joinAll_19 ?_
          refine lv_iload_n hx hb dX4_joinAll_22 rfl (lv_at hl 0 rfl) ?_
          refine lv_dup2_11 hx hb dX4_joinAll_23 rfl rfl ?_
          refine va_iald hx hb hK hP 1 0 rfl rfl (vin_iv j135 (by decide)) dX4_joinAll_24 (lv_topi (fun x142 x142_e => ?_))
          have x142_h : Iv 0 4095 x142 := iv_e x142_e (bd_at f132_b (vin_iv j135 (by decide)))
          refine lv_iload_n hx hb dX4_joinAll_25 rfl (lv_at hl 2 rfl) ?_
          refine lv_iconst (v := 1) hx hb dX4_joinAll_26 (by decide) ?_
          refine lv_iload_n hx hb dX4_joinAll_27 rfl (lv_at hl 0 rfl) ?_
          refine lv_ishl hx hb dX4_joinAll_28 (lv_topi (fun x143 x143_e => ?_))
          have x143_h : Iv 1 2048 x143 := iv_e x143_e (iv_shl1 j135 (by decide))
          refine lv_iconst (v := (-1)) hx hb dX4_joinAll_29 (by decide) ?_
          refine lv_ixor hx hb dX4_joinAll_30 (lv_topi (fun x144 x144_e => ?_))
          refine lv_iand hx hb dX4_joinAll_31 (lv_topi (fun x145 x145_e => ?_))
          have x145_h : Iv 0 4095 x145 := iv_e x145_e (iv_andL _ a1_h (by decide))
          refine lv_ior hx hb dX4_joinAll_32 (lv_topi (fun x146 x146_e => ?_))
          have x146_h : Iv 0 4095 x146 := iv_e x146_e (iv_or 12 x142_h x145_h (by decide))
          refine k_iast hx hb hK hP hD hS 1 0 rfl rfl (vin_iv j135 (by decide)) dX4_joinAll_33 (fun f147 H locs f147_e hP hD hS => ?_)
          have f147_b : Bd 12 0 4095 f147 := bd_upd f147_e f132_b x146_h (by decide)
          have hP : va_P (dC, dI) vwCl ([(o1, .inr (4, [.ref o2, .int v4, .int v5])), (o2, .inl (cI, 12, .inl f147))]) H := hP
          have hD : va_D A ([(o1, .inr (4, [.ref o2, .int v4, .int v5])), (o2, .inl (cI, 12, .inl f147))]) := hD
          obtain ⟨x148, x148_e⟩ : ∃ z : Int32, z = x131 + 1 := ⟨_, rfl⟩
          have x148_h : Iv 1 12 x148 := iv_e x148_e (iv_add j135 ik_1 (by decide))
          refine lv_iinc (v := x148) (lv' := [(2, .int x148), (0, .ref o1), (1, .int a1)]) hx hb dX4_joinAll_34 hl (k := 0) rfl (incN (by decide +kernel) x148_e) (by decide) rfl (fun ls hl => ?_)
          refine lv_goto (tgt := 2) hx hb dX4_joinAll_37 (by decide) ?_
          exact ih1 x148 f147 _ _ _ (ms_up x148_e j135 (by decide) hM1) (iv_w x148_h (by decide)) f147_b hP hD hS hl
  exact L1 _ 0 fw3 _ _ _ (Nat.lt_succ_self _) (iv_w ik_0 (by decide)) fw3_b hP hD hS hl
theorem iw_X11_fromTable_X10 : ∀ w ∈ wsX100, w ∈ wsX11_fromTable := fun _ h => List.mem_cons.mpr (Or.inr (List.mem_append.mpr (Or.inl (List.mem_append.mpr (Or.inl (List.mem_append.mpr (Or.inr h)))))))
theorem iw_X11_fromTable_X11 : ∀ w ∈ wsX110, w ∈ wsX11_fromTable := fun _ h => List.mem_cons.mpr (Or.inr (List.mem_append.mpr (Or.inl (List.mem_append.mpr (Or.inl (List.mem_append.mpr (Or.inl (List.mem_append.mpr (Or.inr h)))))))))
theorem iw_X11_fromTable_X4 : ∀ w ∈ wsX40, w ∈ wsX11_fromTable := fun _ h => List.mem_cons.mpr (Or.inr (List.mem_append.mpr (Or.inl (List.mem_append.mpr (Or.inr h)))))
set_option maxHeartbeats 4000000 in
set_option maxRecDepth 100000 in
theorem kX11_fromTable_1 (l : Launch) (dC : Nat → ClassId) (dI : Nat → Nat → Nat) (cI c2 cZ : ClassId) (o1 : Nat) (o2 : Nat) (o7 : Nat) (o12 : Nat) (o41 : Nat) (o51 : Nat) (o64 : Nat) (o77 : Nat) (o84 : Nat) (o91 : Nat) (o99 : Nat) (o111 : Nat) (o123 : Nat) (o8 : Nat) (o3 : Nat) (o13 : Nat) (o18 : Nat) (o32 : Nat) (o34 : Nat) (fw4 : Nat → Int32) (v5 : Int32) (v6 : Int32) (fw9 : Nat → Int32) (v10 : Int32) (v11 : Int32) (fw35 : Nat → Int32) (v36 : Int32) (v37 : Int32) (v38 : Int32) (v39 : Int32) (v40 : Int32) (v125 : Int32) (sz : Nat) (fw4_b : Bd 12 0 4095 fw4) (v5_h : Iv 0 12 v5) (fw9_b : Bd 12 (-1) 255 fw9) (v10_h : Iv 0 8 v10) (fw35_b : Bd 12 0 11 fw35) (v36_h : Iv 0 12 v36) (v37_h : Iv 0 12 v37) (v38_h : Iv 0 1 v38) : Met l yX11_fromTable wsX11_fromTable ({ frames := 3, cells := 0, slots := 0, locals := 65 }) (va_Pc [.ref o1] (wPre (dC, dI) [(cI, .int), (c2, .array .int), (cZ, .boolean)] ([(o1, .inr (11, [.ref o2, .ref o7, .ref o12, .ref o41, .ref o51, .ref o64, .ref o77, .ref o84, .ref o91, .ref o99, .ref o111, .ref o123, .int v125])), (o7, .inr (10, [.ref o8, .int v10, .int v11])), (o2, .inr (4, [.ref o3, .int v5, .int v6])), (o3, .inl (cI, 12, .inl fw4)), (o12, .inr (6, [.ref o13, .ref o18, .ref o32, .ref o34, .int v36, .int v37, .int v38, .int v39, .int v40])), (o34, .inl (cI, 12, .inl fw35)), (o8, .inl (cI, 12, .inl fw9))]) sz)) (va_Qi (fun (r : Int32) (u : Int32 × Int32 × (Nat → Int32) × Int32 × Int32 × (Nat → Int32)) => Iv 0 12 r ∧ Iv 0 12 u.1 ∧ Bd 12 0 4095 u.2.2.1 ∧ Iv 0 12 u.2.2.2.1 ∧ Iv 0 1 u.2.2.2.2.1 ∧ Bd 12 0 11 u.2.2.2.2.2) (fun u t => wPost (dC, dI) [(cI, .int), (c2, .array .int), (cZ, .boolean)] (va_A ([(o1, .inr (11, [.ref o2, .ref o7, .ref o12, .ref o41, .ref o51, .ref o64, .ref o77, .ref o84, .ref o91, .ref o99, .ref o111, .ref o123, .int v125])), (o7, .inr (10, [.ref o8, .int v10, .int v11])), (o2, .inr (4, [.ref o3, .int v5, .int v6])), (o3, .inl (cI, 12, .inl fw4)), (o12, .inr (6, [.ref o13, .ref o18, .ref o32, .ref o34, .int v36, .int v37, .int v38, .int v39, .int v40])), (o34, .inl (cI, 12, .inl fw35)), (o8, .inl (cI, 12, .inl fw9))]) sz) ([(o1, .inr (11, [.ref o2, .ref o7, .ref o12, .ref o41, .ref o51, .ref o64, .ref o77, .ref o84, .ref o91, .ref o99, .ref o111, .ref o123, .int v125])), (o7, .inr (10, [.ref o8, .int v10, .int v11])), (o2, .inr (4, [.ref o3, .int u.1, .int u.2.1])), (o3, .inl (cI, 12, .inl u.2.2.1)), (o12, .inr (6, [.ref o13, .ref o18, .ref o32, .ref o34, .int u.2.2.2.1, .int v37, .int u.2.2.2.2.1, .int v39, .int v40])), (o34, .inl (cI, 12, .inl u.2.2.2.2.2)), (o8, .inl (cI, 12, .inl fw9))]) t) (va_A ([(o1, .inr (11, [.ref o2, .ref o7, .ref o12, .ref o41, .ref o51, .ref o64, .ref o77, .ref o84, .ref o91, .ref o99, .ref o111, .ref o123, .int v125])), (o7, .inr (10, [.ref o8, .int v10, .int v11])), (o2, .inr (4, [.ref o3, .int v5, .int v6])), (o3, .inl (cI, 12, .inl fw4)), (o12, .inr (6, [.ref o13, .ref o18, .ref o32, .ref o34, .int v36, .int v37, .int v38, .int v39, .int v40])), (o34, .inl (cI, 12, .inl fw35)), (o8, .inl (cI, 12, .inl fw9))]) sz)) 0 0 (va_A ([(o1, .inr (11, [.ref o2, .ref o7, .ref o12, .ref o41, .ref o51, .ref o64, .ref o77, .ref o84, .ref o91, .ref o99, .ref o111, .ref o123, .int v125])), (o7, .inr (10, [.ref o8, .int v10, .int v11])), (o2, .inr (4, [.ref o3, .int v5, .int v6])), (o3, .inl (cI, 12, .inl fw4)), (o12, .inr (6, [.ref o13, .ref o18, .ref o32, .ref o34, .int v36, .int v37, .int v38, .int v39, .int v40])), (o34, .inl (cI, 12, .inl fw35)), (o8, .inl (cI, 12, .inl fw9))]) sz) := by
  refine Met.ofW (cc := cX11_fromTable) (maxL := 2) (ret := (some .int)) (by decide) rfl ?_
  intro p e s m args below meth c s₁ B hml hv
  obtain ⟨rfl, hsz, hP, hK, hD0, hN⟩ := hv
  have hx := B.exec
  have hb := B.bytes
  have hr := B.returns
  have hts := atoms_spec (ws := wsX11_fromTable) B.pre
  have hown : s.vm.findClass RX11 = some m.cls := findClass_of_methodNamed B.named
  have hlocks := B.notSynchronized
  subst hsz
  have hD := hD0.self (sz := s.heap.size)
  generalize hAe : va_A ([(o1, .inr (11, [.ref o2, .ref o7, .ref o12, .ref o41, .ref o51, .ref o64, .ref o77, .ref o84, .ref o91, .ref o99, .ref o111, .ref o123, .int v125])), (o7, .inr (10, [.ref o8, .int v10, .int v11])), (o2, .inr (4, [.ref o3, .int v5, .int v6])), (o3, .inl (cI, 12, .inl fw4)), (o12, .inr (6, [.ref o13, .ref o18, .ref o32, .ref o34, .int v36, .int v37, .int v38, .int v39, .int v40])), (o34, .inl (cI, 12, .inl fw35)), (o8, .inl (cI, 12, .inl fw9))]) s.heap.size = A at hD ⊢
  have hA : ∀ q : Nat, s.heap.size ≤ q → A q := fun q h => by rw [← hAe]; exact Or.inr h
  have hS : va_S A s.heap s.heap [] := va_S.rf
  have hP : va_P (dC, dI) vwCl ([(o1, .inr (11, [.ref o2, .ref o7, .ref o12, .ref o41, .ref o51, .ref o64, .ref o77, .ref o84, .ref o91, .ref o99, .ref o111, .ref o123, .int v125])), (o7, .inr (10, [.ref o8, .int v10, .int v11])), (o2, .inr (4, [.ref o3, .int v5, .int v6])), (o3, .inl (cI, 12, .inl fw4)), (o12, .inr (6, [.ref o13, .ref o18, .ref o32, .ref o34, .int v36, .int v37, .int v38, .int v39, .int v40])), (o34, .inl (cI, 12, .inl fw35)), (o8, .inl (cI, 12, .inl fw9))]) s.heap := hP
  have hl := lv_entry ([.ref o1]) (n := 2) (Nat.le_of_ble_eq_true rfl)
  rw [lg_entry_eq]
  generalize (lg_sl ([.ref o1]) ++ List.replicate (2 - (lg_sl ([.ref o1])).length) Slot.unset).toArray = ls at hl ⊢
  have hl : lv_has ls 2 [(0, .ref o1)] := hl
  refine gen_Q (fun Q hQ => ?_)
  refine lv_aload_n hx hb dX11_fromTable_0 rfl (lv_at hl 0 rfl) ?_
  refine lv_aload_n hx hb dX11_fromTable_1 rfl (lv_at hl 0 rfl) ?_
  refine va_get (D := (dC, dI)) (ci := 11) (v := .ref o7) (C := RX11) (T := TX11) (N := 13) hx hb hts iw_X11_fromTable_X11 hown hK hP 0 rfl rfl 1 (by decide) (hts (.fieldLink RX11 19 "HolelessHouse" "table" "LHolelessHouse$Table;") hm_X11_fromTable_1) (fun _ h9 => h9) rfl dX11_fromTable_2 ?_
  refine va_getN (D := (dC, dI)) (ci := 10) (v := .int v10) (C := RX10) (T := TX10) (N := 3) hx hb hts iw_X11_fromTable_X10 hown hK hP 1 rfl rfl 1 (by decide) (hN.use ns_22) (fun _ h9 => h9) rfl dX11_fromTable_5 ?_
  refine kc_v (D := (dC, dI)) (S := Int32 × Int32 × (Nat → Int32) × Int32 × Int32 × (Nat → Int32)) (wc := [(o1, .inr (11, [.ref o2, .ref o7, .ref o12, .ref o41, .ref o51, .ref o64, .ref o77, .ref o84, .ref o91, .ref o99, .ref o111, .ref o123, .int v125])), (o2, .inr (4, [.ref o3, .int v5, .int v6])), (o3, .inl (cI, 12, .inl fw4)), (o12, .inr (6, [.ref o13, .ref o18, .ref o32, .ref o34, .int v36, .int v37, .int v38, .int v39, .int v40])), (o34, .inl (cI, 12, .inl fw35))]) (wr := [(o7, .inr (10, [.ref o8, .int v10, .int v11])), (o8, .inl (cI, 12, .inl fw9))]) (w1 := fun u => [(o1, .inr (11, [.ref o2, .ref o7, .ref o12, .ref o41, .ref o51, .ref o64, .ref o77, .ref o84, .ref o91, .ref o99, .ref o111, .ref o123, .int v125])), (o2, .inr (4, [.ref o3, .int u.1, .int u.2.1])), (o3, .inl (cI, 12, .inl u.2.2.1)), (o12, .inr (6, [.ref o13, .ref o18, .ref o32, .ref o34, .int u.2.2.2.1, .int v37, .int u.2.2.2.2.1, .int v39, .int v40])), (o34, .inl (cI, 12, .inl u.2.2.2.2.2))]) (wn := fun u => [(o1, .inr (11, [.ref o2, .ref o7, .ref o12, .ref o41, .ref o51, .ref o64, .ref o77, .ref o84, .ref o91, .ref o99, .ref o111, .ref o123, .int v125])), (o7, .inr (10, [.ref o8, .int v10, .int v11])), (o2, .inr (4, [.ref o3, .int u.1, .int u.2.1])), (o3, .inl (cI, 12, .inl u.2.2.1)), (o12, .inr (6, [.ref o13, .ref o18, .ref o32, .ref o34, .int u.2.2.2.1, .int v37, .int u.2.2.2.2.1, .int v39, .int v40])), (o34, .inl (cI, 12, .inl u.2.2.2.2.2)), (o8, .inl (cI, 12, .inl fw9))]) (fun hPc hDc => va_runV (As := [.int v10]) (rest := []) ⟨hx, hb, hml, hown, hts⟩ (kX11_startGraph_1 l dC dI cI c2 cZ o1 o2 o7 o12 o41 o51 o64 o77 o84 o91 o99 o111 o123 o3 o13 o18 o32 o34 fw4 v5 v6 fw35 v36 v37 v38 v39 v40 v125 v10 s.heap.size fw4_b v5_h fw35_b v36_h v37_h v38_h (iv_w v10_h (by decide))) (cwV 1 hts gX11_fromTable_X11_startGraph rfl rfl rfl (by decide +kernel) ⟨Nat.le_of_ble_eq_true rfl, Nat.le_of_ble_eq_true rfl⟩) (pre_V hPc hK hDc hN (ci := 11) (q0 := 0) rfl rfl) rfl rfl hl.1 rfl (lv_room (Nat.le_of_ble_eq_true rfl)) dX11_fromTable_8 ⟨Nat.le_of_ble_eq_true rfl, Nat.le_of_ble_eq_true rfl⟩) hP hD hS hA [0, 2, 3, 4, 5] [1, 6] [2, 0, 3, 4, 5, 6, 1] rfl rfl (by decide +kernel) (by decide +kernel) (by decide +kernel) (by decide +kernel) (fun _ => rfl) (fun u H locs hq hP hD hS => ?_)
  obtain ⟨y1, y2, f3, y4, y5, f6⟩ := u
  obtain ⟨y1_h, f3_b, y4_h, y5_h, f6_b⟩ := hq
  have hP : va_P (dC, dI) vwCl ([(o1, .inr (11, [.ref o2, .ref o7, .ref o12, .ref o41, .ref o51, .ref o64, .ref o77, .ref o84, .ref o91, .ref o99, .ref o111, .ref o123, .int v125])), (o7, .inr (10, [.ref o8, .int v10, .int v11])), (o2, .inr (4, [.ref o3, .int y1, .int y2])), (o3, .inl (cI, 12, .inl f3)), (o12, .inr (6, [.ref o13, .ref o18, .ref o32, .ref o34, .int y4, .int v37, .int y5, .int v39, .int v40])), (o34, .inl (cI, 12, .inl f6)), (o8, .inl (cI, 12, .inl fw9))]) H := hP
  have hD : va_D A ([(o1, .inr (11, [.ref o2, .ref o7, .ref o12, .ref o41, .ref o51, .ref o64, .ref o77, .ref o84, .ref o91, .ref o99, .ref o111, .ref o123, .int v125])), (o7, .inr (10, [.ref o8, .int v10, .int v11])), (o2, .inr (4, [.ref o3, .int y1, .int y2])), (o3, .inl (cI, 12, .inl f3)), (o12, .inr (6, [.ref o13, .ref o18, .ref o32, .ref o34, .int y4, .int v37, .int y5, .int v39, .int v40])), (o34, .inl (cI, 12, .inl f6)), (o8, .inl (cI, 12, .inl fw9))]) := hD
  refine lv_iconst (v := 0) hx hb dX11_fromTable_11 (by decide) ?_
  refine lv_istore_n (lv' := [(1, .int 0), (0, .ref o1)]) hx hb dX11_fromTable_12 rfl hl (by decide) rfl (fun ls hl => ?_)
  have L1 : ∀ (N : Nat) (x101 : Int32) (f102 : Nat → Int32) (x103 : Int32) (H : Heap) (locs : List Loc) (ls : Array Slot), (12 - x101.toInt).toNat < N → Iv 0 12 x101 → Bd 12 0 4095 f102 → va_P (dC, dI) vwCl ([(o1, .inr (11, [.ref o2, .ref o7, .ref o12, .ref o41, .ref o51, .ref o64, .ref o77, .ref o84, .ref o91, .ref o99, .ref o111, .ref o123, .int v125])), (o7, .inr (10, [.ref o8, .int v10, .int v11])), (o2, .inr (4, [.ref o3, .int y1, .int x103])), (o3, .inl (cI, 12, .inl f102)), (o12, .inr (6, [.ref o13, .ref o18, .ref o32, .ref o34, .int y4, .int v37, .int y5, .int v39, .int v40])), (o34, .inl (cI, 12, .inl f6)), (o8, .inl (cI, 12, .inl fw9))]) H → va_D A ([(o1, .inr (11, [.ref o2, .ref o7, .ref o12, .ref o41, .ref o51, .ref o64, .ref o77, .ref o84, .ref o91, .ref o99, .ref o111, .ref o123, .int v125])), (o7, .inr (10, [.ref o8, .int v10, .int v11])), (o2, .inr (4, [.ref o3, .int y1, .int x103])), (o3, .inl (cI, 12, .inl f102)), (o12, .inr (6, [.ref o13, .ref o18, .ref o32, .ref o34, .int y4, .int v37, .int y5, .int v39, .int v40])), (o34, .inl (cI, 12, .inl f6)), (o8, .inl (cI, 12, .inl fw9))]) → va_S A s.heap H locs → lv_has ls 2 [(1, .int x101), (0, .ref o1)] → W p l e ({ frames := 3, cells := 0, slots := 0, locals := 65 }) s m ([.ref o1] : List Value).toArray below meth c H locs 0 0 Q (F0 m 13 ls []) := by
    intro N
    induction N with
    | zero =>
      intro x101 f102 x103 H locs ls hM
      exact absurd hM (Nat.not_lt_zero _)
    | succ N ih1 =>
      intro x101 f102 x103 H locs ls hM1 x101_h f102_b hP hD hS hl
      refine lv_iload_n hx hb dX11_fromTable_13 rfl (lv_at hl 0 rfl) ?_
      refine lv_bipush (v := 12) hx hb dX11_fromTable_14 (by decide) ?_
      refine lv_icmp_ge (tgt := 54) hx hb dX11_fromTable_16 (by decide) (fun h104 => ?_) (fun h104 => ?_)
      ·
        have qh104 := le_i h104
        have j105 : Iv 12 12 x101 := r_ler qh104 ik_12 x101_h (by decide)
        refine lv_aload_n hx hb dX11_fromTable_54 rfl (lv_at hl 1 rfl) ?_
        refine va_get (D := (dC, dI)) (ci := 11) (v := .ref o2) (C := RX11) (T := TX11) (N := 13) hx hb hts iw_X11_fromTable_X11 hown hK hP 0 rfl rfl 0 (by decide) (hts (.fieldLink RX11 10 "HolelessHouse" "graph" "LHolelessHouse$Graph;") hm_X11_fromTable_2) (fun _ h9 => h9) rfl dX11_fromTable_55 ?_
        refine va_getN (D := (dC, dI)) (ci := 4) (v := .int y1) (C := RX4) (T := TX4) (N := 3) hx hb hts iw_X11_fromTable_X4 hown hK hP 2 rfl rfl 1 (by decide) (hN.use ns_14) (fun _ h9 => h9) rfl dX11_fromTable_58 ?_
        rw [hQ]
        exact W.iret (v := y1) hx hb hr (fun t ht hW => ⟨⟨y1, (y1, x103, f102, y4, y5, f6), rfl, ⟨y1_h, y1_h, f102_b, y4_h, y5_h, f6_b⟩, by rw [ht]; exact hP, va_K.moved hW.alike hK, hD⟩, hS.F ht⟩) hS.2.2 dX11_fromTable_61
      ·
        have qh104 := nle_i h104
        have j106 : Iv 0 11 x101 := r_ltl qh104 x101_h ik_12 (by decide)
        refine lv_aload_n hx hb dX11_fromTable_19 rfl (lv_at hl 1 rfl) ?_
        refine va_get (D := (dC, dI)) (ci := 11) (v := .ref o7) (C := RX11) (T := TX11) (N := 13) hx hb hts iw_X11_fromTable_X11 hown hK hP 0 rfl rfl 1 (by decide) (hts (.fieldLink RX11 19 "HolelessHouse" "table" "LHolelessHouse$Table;") hm_X11_fromTable_1) (fun _ h9 => h9) rfl dX11_fromTable_20 ?_
        refine va_getN (D := (dC, dI)) (ci := 10) (v := .ref o8) (C := RX10) (T := TX10) (N := 3) hx hb hts iw_X11_fromTable_X10 hown hK hP 1 rfl rfl 0 (by decide) (hN.use ns_21) (fun _ h9 => h9) rfl dX11_fromTable_23 ?_
        refine lv_iload_n hx hb dX11_fromTable_26 rfl (lv_at hl 0 rfl) ?_
        refine va_iald hx hb hK hP 6 0 rfl rfl (vin_iv j106 (by decide)) dX11_fromTable_27 (lv_topi (fun x107 x107_e => ?_))
        have x107_h : Iv (-1) 255 x107 := iv_e x107_e (bd_at fw9_b (vin_iv j106 (by decide)))
        refine lv_iconst (v := (-1)) hx hb dX11_fromTable_28 (by decide) ?_
        refine lv_icmp_eq (tgt := 48) hx hb dX11_fromTable_29 (by decide) (fun h108 => ?_) (fun h108 => ?_)
        ·
          have j109 : Iv (-1) (-1) x107 := r_eq h108 ikm_1
          obtain ⟨x110, x110_e⟩ : ∃ z : Int32, z = x101 + 1 := ⟨_, rfl⟩
          have x110_h : Iv 1 12 x110 := iv_e x110_e (iv_add j106 ik_1 (by decide))
          refine lv_iinc (v := x110) (lv' := [(1, .int x110), (0, .ref o1)]) hx hb dX11_fromTable_48 hl (k := 0) rfl (incN (by decide +kernel) x110_e) (by decide) rfl (fun ls hl => ?_)
          refine lv_goto (tgt := 13) hx hb dX11_fromTable_51 (by decide) ?_
          exact ih1 x110 f102 x103 _ _ _ (ms_up x110_e j106 (by decide) hM1) (iv_w x110_h (by decide)) f102_b hP hD hS hl
        ·
          have j111 : Iv 0 255 x107 := r_nelo h108 x107_h ikm_1 (by decide)
          refine lv_aload_n hx hb dX11_fromTable_32 rfl (lv_at hl 1 rfl) ?_
          refine va_get (D := (dC, dI)) (ci := 11) (v := .ref o2) (C := RX11) (T := TX11) (N := 13) hx hb hts iw_X11_fromTable_X11 hown hK hP 0 rfl rfl 0 (by decide) (hts (.fieldLink RX11 10 "HolelessHouse" "graph" "LHolelessHouse$Graph;") hm_X11_fromTable_2) (fun _ h9 => h9) rfl dX11_fromTable_33 ?_
          refine lv_aload_n hx hb dX11_fromTable_36 rfl (lv_at hl 1 rfl) ?_
          refine va_get (D := (dC, dI)) (ci := 11) (v := .ref o7) (C := RX11) (T := TX11) (N := 13) hx hb hts iw_X11_fromTable_X11 hown hK hP 0 rfl rfl 1 (by decide) (hts (.fieldLink RX11 19 "HolelessHouse" "table" "LHolelessHouse$Table;") hm_X11_fromTable_1) (fun _ h9 => h9) rfl dX11_fromTable_37 ?_
          refine va_getN (D := (dC, dI)) (ci := 10) (v := .ref o8) (C := RX10) (T := TX10) (N := 3) hx hb hts iw_X11_fromTable_X10 hown hK hP 1 rfl rfl 0 (by decide) (hN.use ns_21) (fun _ h9 => h9) rfl dX11_fromTable_40 ?_
          refine lv_iload_n hx hb dX11_fromTable_43 rfl (lv_at hl 0 rfl) ?_
          refine va_iald hx hb hK hP 6 0 rfl rfl (vin_iv j106 (by decide)) dX11_fromTable_44 (lv_topi (fun x112 x112_e => ?_))
          have x112_h : Iv 0 255 x112 := iv_e (x112_e.trans x107_e.symm) j111
          refine kc_v (D := (dC, dI)) (S := Int32 × (Nat → Int32)) (wc := [(o2, .inr (4, [.ref o3, .int y1, .int x103])), (o3, .inl (cI, 12, .inl f102))]) (wr := [(o1, .inr (11, [.ref o2, .ref o7, .ref o12, .ref o41, .ref o51, .ref o64, .ref o77, .ref o84, .ref o91, .ref o99, .ref o111, .ref o123, .int v125])), (o7, .inr (10, [.ref o8, .int v10, .int v11])), (o12, .inr (6, [.ref o13, .ref o18, .ref o32, .ref o34, .int y4, .int v37, .int y5, .int v39, .int v40])), (o34, .inl (cI, 12, .inl f6)), (o8, .inl (cI, 12, .inl fw9))]) (w1 := fun u => [(o2, .inr (4, [.ref o3, .int y1, .int u.1])), (o3, .inl (cI, 12, .inl u.2))]) (wn := fun u => [(o1, .inr (11, [.ref o2, .ref o7, .ref o12, .ref o41, .ref o51, .ref o64, .ref o77, .ref o84, .ref o91, .ref o99, .ref o111, .ref o123, .int v125])), (o7, .inr (10, [.ref o8, .int v10, .int v11])), (o2, .inr (4, [.ref o3, .int y1, .int u.1])), (o3, .inl (cI, 12, .inl u.2)), (o12, .inr (6, [.ref o13, .ref o18, .ref o32, .ref o34, .int y4, .int v37, .int y5, .int v39, .int v40])), (o34, .inl (cI, 12, .inl f6)), (o8, .inl (cI, 12, .inl fw9))]) (fun hPc hDc => va_runVN (As := [.int x112]) (rest := []) ⟨hx, hb, hml, hown, hts⟩ (kX4_joinAll_1 l dC dI cI c2 cZ o2 o3 f102 y1 x103 x112 H.size f102_b y1_h (iv_w x112_h (by decide))) ⟨va_cnB 1 hts gX11_fromTable_X4_joinAll_n139 rfl rfl rfl (hN.1 _ ns_77) (hts (.initialized RX4) hm_X11_fromTable_10) (by decide +kernel) ⟨Nat.le_of_ble_eq_true rfl, Nat.le_of_ble_eq_true rfl⟩, (hts (.instanceMethod yX4_joinAll) hm_X11_fromTable_35), (hts (.selects RX4 yX4_joinAll yX4_joinAll) hm_X11_fromTable_36)⟩ (pre_V hPc hK hDc hN (ci := 4) (q0 := 0) rfl rfl) rfl rfl hl.1 rfl (lv_room (Nat.le_of_ble_eq_true rfl)) dX11_fromTable_45 ⟨Nat.le_of_ble_eq_true rfl, Nat.le_of_ble_eq_true rfl⟩) hP hD hS hA [2, 3] [0, 1, 4, 5, 6] [0, 1, 5, 6, 2, 3, 4] rfl rfl (by decide +kernel) (by decide +kernel) (by decide +kernel) (by decide +kernel) (fun _ => rfl) (fun u H locs hq hP hD hS => ?_)
          obtain ⟨y113, f114⟩ := u
          have f114_b := hq
          have hP : va_P (dC, dI) vwCl ([(o1, .inr (11, [.ref o2, .ref o7, .ref o12, .ref o41, .ref o51, .ref o64, .ref o77, .ref o84, .ref o91, .ref o99, .ref o111, .ref o123, .int v125])), (o7, .inr (10, [.ref o8, .int v10, .int v11])), (o2, .inr (4, [.ref o3, .int y1, .int y113])), (o3, .inl (cI, 12, .inl f114)), (o12, .inr (6, [.ref o13, .ref o18, .ref o32, .ref o34, .int y4, .int v37, .int y5, .int v39, .int v40])), (o34, .inl (cI, 12, .inl f6)), (o8, .inl (cI, 12, .inl fw9))]) H := hP
          have hD : va_D A ([(o1, .inr (11, [.ref o2, .ref o7, .ref o12, .ref o41, .ref o51, .ref o64, .ref o77, .ref o84, .ref o91, .ref o99, .ref o111, .ref o123, .int v125])), (o7, .inr (10, [.ref o8, .int v10, .int v11])), (o2, .inr (4, [.ref o3, .int y1, .int y113])), (o3, .inl (cI, 12, .inl f114)), (o12, .inr (6, [.ref o13, .ref o18, .ref o32, .ref o34, .int y4, .int v37, .int y5, .int v39, .int v40])), (o34, .inl (cI, 12, .inl f6)), (o8, .inl (cI, 12, .inl fw9))]) := hD
          obtain ⟨x115, x115_e⟩ : ∃ z : Int32, z = x101 + 1 := ⟨_, rfl⟩
          have x115_h : Iv 1 12 x115 := iv_e x115_e (iv_add j106 ik_1 (by decide))
          refine lv_iinc (v := x115) (lv' := [(1, .int x115), (0, .ref o1)]) hx hb dX11_fromTable_48 hl (k := 0) rfl (incN (by decide +kernel) x115_e) (by decide) rfl (fun ls hl => ?_)
          refine lv_goto (tgt := 13) hx hb dX11_fromTable_51 (by decide) ?_
          exact ih1 x115 f114 y113 _ _ _ (ms_up x115_e j106 (by decide) hM1) (iv_w x115_h (by decide)) f114_b hP hD hS hl
  exact L1 _ 0 f3 y2 _ _ _ (Nat.lt_succ_self _) (iv_w ik_0 (by decide)) f3_b hP hD hS hl
theorem iw_X4_invert_X4 : ∀ w ∈ wsX40, w ∈ wsX4_invert := fun _ h => List.mem_cons.mpr (Or.inr (List.mem_append.mpr (Or.inr h)))
set_option maxHeartbeats 4000000 in
set_option maxRecDepth 100000 in
theorem kX4_invert_1 (l : Launch) (dC : Nat → ClassId) (dI : Nat → Nat → Nat) (cI c2 cZ : ClassId) (o1 : Nat) (o2 : Nat) (fw3 : Nat → Int32) (v4 : Int32) (v5 : Int32) (sz : Nat) (fw3_b : Bd 12 0 4095 fw3) (v4_h : Iv 0 12 v4) : Met l yX4_invert wsX4_invert ({ frames := 1, cells := 0, slots := 0, locals := 20 }) (va_Pc [.ref o1] (wPre (dC, dI) [(cI, .int), (c2, .array .int), (cZ, .boolean)] ([(o1, .inr (4, [.ref o2, .int v4, .int v5])), (o2, .inl (cI, 12, .inl fw3))]) sz)) (va_Qv (fun (u : Int32 × (Nat → Int32)) => Bd 12 0 4095 u.2) (fun u t => wPost (dC, dI) [(cI, .int), (c2, .array .int), (cZ, .boolean)] (va_A ([(o1, .inr (4, [.ref o2, .int v4, .int v5])), (o2, .inl (cI, 12, .inl fw3))]) sz) ([(o1, .inr (4, [.ref o2, .int v4, .int u.1])), (o2, .inl (cI, 12, .inl u.2))]) t) (va_A ([(o1, .inr (4, [.ref o2, .int v4, .int v5])), (o2, .inl (cI, 12, .inl fw3))]) sz)) 0 0 (va_A ([(o1, .inr (4, [.ref o2, .int v4, .int v5])), (o2, .inl (cI, 12, .inl fw3))]) sz) := by
  refine Met.ofW (cc := cX4_invert) (maxL := 2) (ret := none) (by decide) rfl ?_
  intro p e s m args below meth c s₁ B hml hv
  obtain ⟨rfl, hsz, hP, hK, hD0, hN⟩ := hv
  have hx := B.exec
  have hb := B.bytes
  have hr := B.returns
  have hts := atoms_spec (ws := wsX4_invert) B.pre
  have hown : s.vm.findClass RX4 = some m.cls := findClass_of_methodNamed B.named
  have hlocks := B.notSynchronized
  subst hsz
  have hD := hD0.self (sz := s.heap.size)
  generalize hAe : va_A ([(o1, .inr (4, [.ref o2, .int v4, .int v5])), (o2, .inl (cI, 12, .inl fw3))]) s.heap.size = A at hD ⊢
  have hA : ∀ q : Nat, s.heap.size ≤ q → A q := fun q h => by rw [← hAe]; exact Or.inr h
  have hS : va_S A s.heap s.heap [] := va_S.rf
  have hP : va_P (dC, dI) vwCl ([(o1, .inr (4, [.ref o2, .int v4, .int v5])), (o2, .inl (cI, 12, .inl fw3))]) s.heap := hP
  have hl := lv_entry ([.ref o1]) (n := 2) (Nat.le_of_ble_eq_true rfl)
  rw [lg_entry_eq]
  generalize (lg_sl ([.ref o1]) ++ List.replicate (2 - (lg_sl ([.ref o1])).length) Slot.unset).toArray = ls at hl ⊢
  have hl : lv_has ls 2 [(0, .ref o1)] := hl
  refine gen_Q (fun Q hQ => ?_)
  refine lv_iconst (v := 0) hx hb dX4_invert_0 (by decide) ?_
  refine lv_istore_n (lv' := [(1, .int 0), (0, .ref o1)]) hx hb dX4_invert_1 rfl hl (by decide) rfl (fun ls hl => ?_)
  have L1 : ∀ (N : Nat) (x108 : Int32) (f109 : Nat → Int32) (H : Heap) (locs : List Loc) (ls : Array Slot), (12 - x108.toInt).toNat < N → Iv 0 12 x108 → Bd 12 0 4095 f109 → va_P (dC, dI) vwCl ([(o1, .inr (4, [.ref o2, .int v4, .int v5])), (o2, .inl (cI, 12, .inl f109))]) H → va_D A ([(o1, .inr (4, [.ref o2, .int v4, .int v5])), (o2, .inl (cI, 12, .inl f109))]) → va_S A s.heap H locs → lv_has ls 2 [(1, .int x108), (0, .ref o1)] → W p l e ({ frames := 1, cells := 0, slots := 0, locals := 20 }) s m ([.ref o1] : List Value).toArray below meth c H locs 0 0 Q (F0 m 2 ls []) := by
    intro N
    induction N with
    | zero =>
      intro x108 f109 H locs ls hM
      exact absurd hM (Nat.not_lt_zero _)
    | succ N ih1 =>
      intro x108 f109 H locs ls hM1 x108_h f109_b hP hD hS hl
      refine lv_iload_n hx hb dX4_invert_2 rfl (lv_at hl 0 rfl) ?_
      refine lv_aload_n hx hb dX4_invert_3 rfl (lv_at hl 1 rfl) ?_
      refine va_get (D := (dC, dI)) (ci := 4) (v := .int v4) (C := RX4) (T := TX4) (N := 3) hx hb hts iw_X4_invert_X4 hown hK hP 0 rfl rfl 1 (by decide) (hts (.fieldLink RX4 15 "HolelessHouse$Graph" "size" "I") hm_X4_invert_1) (fun _ h9 => h9) rfl dX4_invert_4 ?_
      refine lv_icmp_ge (tgt := 41) hx hb dX4_invert_7 (by decide) (fun h110 => ?_) (fun h110 => ?_)
      ·
        have qh110 := le_i h110
        refine lv_aload_n hx hb dX4_invert_41 rfl (lv_at hl 1 rfl) ?_
        refine lv_dup hx hb dX4_invert_42 rfl ?_
        refine va_get (D := (dC, dI)) (ci := 4) (v := .int v5) (C := RX4) (T := TX4) (N := 3) hx hb hts iw_X4_invert_X4 hown hK hP 0 rfl rfl 2 (by decide) (hts (.fieldLink RX4 19 "HolelessHouse$Graph" "version" "I") hm_X4_invert_3) (fun _ h9 => h9) rfl dX4_invert_43 ?_
        refine lv_iconst (v := 1) hx hb dX4_invert_46 (by decide) ?_
        refine lv_iadd hx hb dX4_invert_47 (lv_topi (fun x111 x111_e => ?_))
        refine va_put (D := (dC, dI)) (ci := 4) (v := .int x111) (ty := .int) (C := RX4) (T := TX4) (N := 3) hx hb hts iw_X4_invert_X4 tyX4 tyX4_ok nmX4 hown hK hP hD hS 0 rfl rfl 2 (by decide) (hts (.fieldLink RX4 19 "HolelessHouse$Graph" "version" "I") hm_X4_invert_3) (fun _ h9 => h9) rfl (by decide +kernel) rfl rfl (Nat.le_of_ble_eq_true rfl) dX4_invert_48 (fun H locs hP hD hS => ?_)
        have hP : va_P (dC, dI) vwCl ([(o1, .inr (4, [.ref o2, .int v4, .int x111])), (o2, .inl (cI, 12, .inl f109))]) H := hP
        have hD : va_D A ([(o1, .inr (4, [.ref o2, .int v4, .int x111])), (o2, .inl (cI, 12, .inl f109))]) := hD
        rw [hQ]
        exact W.vret hx hb hr (fun t ht hW => ⟨⟨(x111, f109), rfl, f109_b, by rw [ht]; exact hP, va_K.moved hW.alike hK, hD⟩, hS.F ht⟩) hS.2.2 dX4_invert_51
      ·
        have qh110 := nle_i h110
        have j112 : Iv 0 11 x108 := r_ltl qh110 x108_h v4_h (by decide)
        have j113 : Iv 1 12 v4 := r_ltr qh110 x108_h v4_h (by decide)
        refine lv_aload_n hx hb dX4_invert_10 rfl (lv_at hl 1 rfl) ?_
        refine va_get (D := (dC, dI)) (ci := 4) (v := .ref o2) (C := RX4) (T := TX4) (N := 3) hx hb hts iw_X4_invert_X4 hown hK hP 0 rfl rfl 0 (by decide) (hts (.fieldLink RX4 9 "HolelessHouse$Graph" "near" "[I") hm_X4_invert_2) (fun _ h9 => h9) rfl dX4_invert_11 ?_
        refine lv_iload_n hx hb dX4_invert_14 rfl (lv_at hl 0 rfl) ?_
        refine lv_aload_n hx hb dX4_invert_15 rfl (lv_at hl 1 rfl) ?_
        refine kc_i (D := (dC, dI)) (S := Unit) (wc := [(o1, .inr (4, [.ref o2, .int v4, .int v5]))]) (wr := [(o2, .inl (cI, 12, .inl f109))]) (w1 := fun _ => [(o1, .inr (4, [.ref o2, .int v4, .int v5]))]) (wn := fun _ => [(o1, .inr (4, [.ref o2, .int v4, .int v5])), (o2, .inl (cI, 12, .inl f109))]) (fun hPc hDc => va_runV (As := []) (rest := [.int x108, .ref o2]) ⟨hx, hb, hml, hown, hts⟩ (kX4_all_1 l dC dI cI c2 cZ o1 o2 v4 v5 H.size (iv_w j113 (by decide))) (cwV 0 hts gX4_invert_X4_all rfl rfl rfl (by decide +kernel) ⟨Nat.le_of_ble_eq_true rfl, Nat.le_of_ble_eq_true rfl⟩) (pre_V hPc hK hDc hN (ci := 4) (q0 := 0) rfl rfl) rfl rfl hl.1 rfl (lv_room (Nat.le_of_ble_eq_true rfl)) dX4_invert_16 ⟨Nat.le_of_ble_eq_true rfl, Nat.le_of_ble_eq_true rfl⟩) hP hD hS hA [0] [1] [1, 0] rfl rfl (by decide +kernel) (by decide +kernel) (by decide +kernel) (by decide +kernel) (fun _ => rfl) (fun x114 _ H locs hq hP hD hS => ?_)
        have x114_h := hq
        have hP : va_P (dC, dI) vwCl ([(o1, .inr (4, [.ref o2, .int v4, .int v5])), (o2, .inl (cI, 12, .inl f109))]) H := hP
        have hD : va_D A ([(o1, .inr (4, [.ref o2, .int v4, .int v5])), (o2, .inl (cI, 12, .inl f109))]) := hD
        refine lv_aload_n hx hb dX4_invert_19 rfl (lv_at hl 1 rfl) ?_
        refine va_get (D := (dC, dI)) (ci := 4) (v := .ref o2) (C := RX4) (T := TX4) (N := 3) hx hb hts iw_X4_invert_X4 hown hK hP 0 rfl rfl 0 (by decide) (hts (.fieldLink RX4 9 "HolelessHouse$Graph" "near" "[I") hm_X4_invert_2) (fun _ h9 => h9) rfl dX4_invert_20 ?_
        refine lv_iload_n hx hb dX4_invert_23 rfl (lv_at hl 0 rfl) ?_
        refine va_iald hx hb hK hP 1 0 rfl rfl (vin_iv j112 (by decide)) dX4_invert_24 (lv_topi (fun x115 x115_e => ?_))
        have x115_h : Iv 0 4095 x115 := iv_e x115_e (bd_at f109_b (vin_iv j112 (by decide)))
        refine lv_iconst (v := (-1)) hx hb dX4_invert_25 (by decide) ?_
        refine lv_ixor hx hb dX4_invert_26 (lv_topi (fun x116 x116_e => ?_))
        refine lv_iand hx hb dX4_invert_27 (lv_topi (fun x117 x117_e => ?_))
        have x117_h : Iv 0 4095 x117 := iv_e x117_e (iv_andL _ x114_h (by decide))
        refine lv_iconst (v := 1) hx hb dX4_invert_28 (by decide) ?_
        refine lv_iload_n hx hb dX4_invert_29 rfl (lv_at hl 0 rfl) ?_
        refine lv_ishl hx hb dX4_invert_30 (lv_topi (fun x118 x118_e => ?_))
        have x118_h : Iv 1 2048 x118 := iv_e x118_e (iv_shl1 j112 (by decide))
        refine lv_iconst (v := (-1)) hx hb dX4_invert_31 (by decide) ?_
        refine lv_ixor hx hb dX4_invert_32 (lv_topi (fun x119 x119_e => ?_))
        refine lv_iand hx hb dX4_invert_33 (lv_topi (fun x120 x120_e => ?_))
        have x120_h : Iv 0 4095 x120 := iv_e x120_e (iv_andL _ x117_h (by decide))
        refine k_iast hx hb hK hP hD hS 1 0 rfl rfl (vin_iv j112 (by decide)) dX4_invert_34 (fun f121 H locs f121_e hP hD hS => ?_)
        have f121_b : Bd 12 0 4095 f121 := bd_upd f121_e f109_b x120_h (by decide)
        have hP : va_P (dC, dI) vwCl ([(o1, .inr (4, [.ref o2, .int v4, .int v5])), (o2, .inl (cI, 12, .inl f121))]) H := hP
        have hD : va_D A ([(o1, .inr (4, [.ref o2, .int v4, .int v5])), (o2, .inl (cI, 12, .inl f121))]) := hD
        obtain ⟨x122, x122_e⟩ : ∃ z : Int32, z = x108 + 1 := ⟨_, rfl⟩
        have x122_h : Iv 1 12 x122 := iv_e x122_e (iv_add j112 ik_1 (by decide))
        refine lv_iinc (v := x122) (lv' := [(1, .int x122), (0, .ref o1)]) hx hb dX4_invert_35 hl (k := 0) rfl (incN (by decide +kernel) x122_e) (by decide) rfl (fun ls hl => ?_)
        refine lv_goto (tgt := 2) hx hb dX4_invert_38 (by decide) ?_
        exact ih1 x122 f121 _ _ _ (ms_up x122_e j112 (by decide) hM1) (iv_w x122_h (by decide)) f121_b hP hD hS hl
  exact L1 _ 0 fw3 _ _ _ (Nat.lt_succ_self _) (iv_w ik_0 (by decide)) fw3_b hP hD hS hl
theorem iw_X4_pairs_X4 : ∀ w ∈ wsX40, w ∈ wsX4_pairs := fun _ h => List.mem_cons.mpr (Or.inr (List.mem_append.mpr (Or.inr h)))
set_option maxHeartbeats 4000000 in
set_option maxRecDepth 100000 in
theorem kX4_pairs_1 (l : Launch) (dC : Nat → ClassId) (dI : Nat → Nat → Nat) (cI c2 cZ : ClassId) (o1 : Nat) (o2 : Nat) (fw3 : Nat → Int32) (v4 : Int32) (v5 : Int32) (sz : Nat) (fw3_b : Bd 12 0 4095 fw3) (v4_h : Iv 0 12 v4) : Met l yX4_pairs wsX4_pairs ({ frames := 1, cells := 0, slots := 0, locals := 20 }) (va_Pc [.ref o1] (wPre (dC, dI) [(cI, .int), (c2, .array .int), (cZ, .boolean)] ([(o1, .inr (4, [.ref o2, .int v4, .int v5])), (o2, .inl (cI, 12, .inl fw3))]) sz)) (va_Qi (fun (r : Int32) (_ : Unit) => True) (fun _ t => wPost (dC, dI) [(cI, .int), (c2, .array .int), (cZ, .boolean)] (va_A ([(o1, .inr (4, [.ref o2, .int v4, .int v5])), (o2, .inl (cI, 12, .inl fw3))]) sz) ([(o1, .inr (4, [.ref o2, .int v4, .int v5])), (o2, .inl (cI, 12, .inl fw3))]) t) (va_A ([(o1, .inr (4, [.ref o2, .int v4, .int v5])), (o2, .inl (cI, 12, .inl fw3))]) sz)) 0 0 (va_A ([(o1, .inr (4, [.ref o2, .int v4, .int v5])), (o2, .inl (cI, 12, .inl fw3))]) sz) := by
  refine Met.ofW (cc := cX4_pairs) (maxL := 3) (ret := (some .int)) (by decide) rfl ?_
  intro p e s m args below meth c s₁ B hml hv
  obtain ⟨rfl, hsz, hP, hK, hD0, hN⟩ := hv
  have hx := B.exec
  have hb := B.bytes
  have hr := B.returns
  have hts := atoms_spec (ws := wsX4_pairs) B.pre
  have hown : s.vm.findClass RX4 = some m.cls := findClass_of_methodNamed B.named
  have hlocks := B.notSynchronized
  subst hsz
  have hD := hD0.self (sz := s.heap.size)
  generalize hAe : va_A ([(o1, .inr (4, [.ref o2, .int v4, .int v5])), (o2, .inl (cI, 12, .inl fw3))]) s.heap.size = A at hD ⊢
  have hA : ∀ q : Nat, s.heap.size ≤ q → A q := fun q h => by rw [← hAe]; exact Or.inr h
  have hS : va_S A s.heap s.heap [] := va_S.rf
  have hP : va_P (dC, dI) vwCl ([(o1, .inr (4, [.ref o2, .int v4, .int v5])), (o2, .inl (cI, 12, .inl fw3))]) s.heap := hP
  have hl := lv_entry ([.ref o1]) (n := 3) (Nat.le_of_ble_eq_true rfl)
  rw [lg_entry_eq]
  generalize (lg_sl ([.ref o1]) ++ List.replicate (3 - (lg_sl ([.ref o1])).length) Slot.unset).toArray = ls at hl ⊢
  have hl : lv_has ls 3 [(0, .ref o1)] := hl
  refine gen_Q (fun Q hQ => ?_)
  refine lv_iconst (v := 0) hx hb dX4_pairs_0 (by decide) ?_
  refine lv_istore_n (lv' := [(1, .int 0), (0, .ref o1)]) hx hb dX4_pairs_1 rfl hl (by decide) rfl (fun ls hl => ?_)
  refine lv_iconst (v := 0) hx hb dX4_pairs_2 (by decide) ?_
  refine lv_istore_n (lv' := [(2, .int 0), (1, .int 0), (0, .ref o1)]) hx hb dX4_pairs_3 rfl hl (by decide) rfl (fun ls hl => ?_)
  have L1 : ∀ (N : Nat) (x70 : Int32) (x71 : Int32) (H : Heap) (locs : List Loc) (ls : Array Slot), (12 - x70.toInt).toNat < N → Iv 0 12 x70 → va_P (dC, dI) vwCl ([(o1, .inr (4, [.ref o2, .int v4, .int v5])), (o2, .inl (cI, 12, .inl fw3))]) H → va_D A ([(o1, .inr (4, [.ref o2, .int v4, .int v5])), (o2, .inl (cI, 12, .inl fw3))]) → va_S A s.heap H locs → lv_has ls 3 [(2, .int x70), (1, .int x71), (0, .ref o1)] → W p l e ({ frames := 1, cells := 0, slots := 0, locals := 20 }) s m ([.ref o1] : List Value).toArray below meth c H locs 0 0 Q (F0 m 4 ls []) := by
    intro N
    induction N with
    | zero =>
      intro x70 x71 H locs ls hM
      exact absurd hM (Nat.not_lt_zero _)
    | succ N ih1 =>
      intro x70 x71 H locs ls hM1 x70_h hP hD hS hl
      refine lv_iload_n hx hb dX4_pairs_4 rfl (lv_at hl 0 rfl) ?_
      refine lv_aload_n hx hb dX4_pairs_5 rfl (lv_at hl 2 rfl) ?_
      refine va_get (D := (dC, dI)) (ci := 4) (v := .int v4) (C := RX4) (T := TX4) (N := 3) hx hb hts iw_X4_pairs_X4 hown hK hP 0 rfl rfl 1 (by decide) (hts (.fieldLink RX4 15 "HolelessHouse$Graph" "size" "I") hm_X4_pairs_1) (fun _ h9 => h9) rfl dX4_pairs_6 ?_
      refine lv_icmp_ge (tgt := 30) hx hb dX4_pairs_9 (by decide) (fun h72 => ?_) (fun h72 => ?_)
      ·
        have qh72 := le_i h72
        refine lv_iload_n hx hb dX4_pairs_30 rfl (lv_at hl 1 rfl) ?_
        refine lv_iconst (v := 2) hx hb dX4_pairs_31 (by decide) ?_
        refine lv_idiv hx hb dX4_pairs_32 (by decide +kernel) (lv_topi (fun x73 x73_e => ?_))
        rw [hQ]
        exact W.iret (v := x73) hx hb hr (fun t ht hW => ⟨⟨x73, (), rfl, trivial, by rw [ht]; exact hP, va_K.moved hW.alike hK, hD⟩, hS.F ht⟩) hS.2.2 dX4_pairs_33
      ·
        have qh72 := nle_i h72
        have j74 : Iv 0 11 x70 := r_ltl qh72 x70_h v4_h (by decide)
        have j75 : Iv 1 12 v4 := r_ltr qh72 x70_h v4_h (by decide)
        refine lv_iload_n hx hb dX4_pairs_12 rfl (lv_at hl 1 rfl) ?_
        refine lv_aload_n hx hb dX4_pairs_13 rfl (lv_at hl 2 rfl) ?_
        refine va_get (D := (dC, dI)) (ci := 4) (v := .ref o2) (C := RX4) (T := TX4) (N := 3) hx hb hts iw_X4_pairs_X4 hown hK hP 0 rfl rfl 0 (by decide) (hts (.fieldLink RX4 9 "HolelessHouse$Graph" "near" "[I") hm_X4_pairs_2) (fun _ h9 => h9) rfl dX4_pairs_14 ?_
        refine lv_iload_n hx hb dX4_pairs_17 rfl (lv_at hl 0 rfl) ?_
        refine va_iald hx hb hK hP 1 0 rfl rfl (vin_iv j74 (by decide)) dX4_pairs_18 (lv_topi (fun x76 x76_e => ?_))
        have x76_h : Iv 0 4095 x76 := iv_e x76_e (bd_at fw3_b (vin_iv j74 (by decide)))
        refine kc_i (D := (dC, dI)) (S := Unit) (wc := []) (wr := [(o1, .inr (4, [.ref o2, .int v4, .int v5])), (o2, .inl (cI, 12, .inl fw3))]) (w1 := fun _ => []) (wn := fun _ => [(o1, .inr (4, [.ref o2, .int v4, .int v5])), (o2, .inl (cI, 12, .inl fw3))]) (fun hPc hDc => va_runS (As := [.int x76]) (rest := [.int x71]) ⟨hx, hb, hml, hown, hts⟩ (kJ6_bitCount_0f7a4_1 l dC dI cI c2 cZ x76 H.size) (va_cwS 1 hts gX4_pairs_J6_bitCount_0f7a4 rfl rfl rfl (by decide +kernel) ⟨Nat.le_of_ble_eq_true rfl, Nat.le_of_ble_eq_true rfl⟩) (pre_S hPc hK hDc hN) rfl rfl hl.1 rfl (lv_room (Nat.le_of_ble_eq_true rfl)) dX4_pairs_19 ⟨Nat.le_of_ble_eq_true rfl, Nat.le_of_ble_eq_true rfl⟩) hP hD hS hA [] [0, 1] [0, 1] rfl rfl (by decide +kernel) (by decide +kernel) (by decide +kernel) (by decide +kernel) (fun _ => rfl) (fun x77 _ H locs hq hP hD hS => ?_)
        have x77_h := hq
        have hP : va_P (dC, dI) vwCl ([(o1, .inr (4, [.ref o2, .int v4, .int v5])), (o2, .inl (cI, 12, .inl fw3))]) H := hP
        have hD : va_D A ([(o1, .inr (4, [.ref o2, .int v4, .int v5])), (o2, .inl (cI, 12, .inl fw3))]) := hD
        refine lv_iadd hx hb dX4_pairs_22 (lv_topi (fun x78 x78_e => ?_))
        refine lv_istore_n (lv' := [(1, .int x78), (2, .int x70), (0, .ref o1)]) hx hb dX4_pairs_23 rfl hl (by decide) rfl (fun ls hl => ?_)
        obtain ⟨x79, x79_e⟩ : ∃ z : Int32, z = x70 + 1 := ⟨_, rfl⟩
        have x79_h : Iv 1 12 x79 := iv_e x79_e (iv_add j74 ik_1 (by decide))
        refine lv_iinc (v := x79) (lv' := [(2, .int x79), (1, .int x78), (0, .ref o1)]) hx hb dX4_pairs_24 hl (k := 1) rfl (incN (by decide +kernel) x79_e) (by decide) rfl (fun ls hl => ?_)
        refine lv_goto (tgt := 4) hx hb dX4_pairs_27 (by decide) ?_
        exact ih1 x79 x78 _ _ _ (ms_up x79_e j74 (by decide) hM1) (iv_w x79_h (by decide)) hP hD hS hl
  exact L1 _ 0 0 _ _ _ (Nat.lt_succ_self _) (iv_w ik_0 (by decide)) hP hD hS hl
theorem iw_X11_turn_X11 : ∀ w ∈ wsX110, w ∈ wsX11_turn := fun _ h => List.mem_cons.mpr (Or.inr (List.mem_append.mpr (Or.inl (List.mem_append.mpr (Or.inl (List.mem_append.mpr (Or.inr h)))))))
set_option maxHeartbeats 4000000 in
set_option maxRecDepth 100000 in
theorem kX11_turn_1 (l : Launch) (dC : Nat → ClassId) (dI : Nat → Nat → Nat) (cI c2 cZ : ClassId) (o1 : Nat) (o2 : Nat) (o7 : Nat) (o12 : Nat) (o41 : Nat) (o51 : Nat) (o64 : Nat) (o77 : Nat) (o84 : Nat) (o91 : Nat) (o99 : Nat) (o111 : Nat) (o123 : Nat) (o3 : Nat) (o13 : Nat) (o18 : Nat) (o32 : Nat) (o34 : Nat) (fw4 : Nat → Int32) (v5 : Int32) (v6 : Int32) (v36 : Int32) (v37 : Int32) (v38 : Int32) (v39 : Int32) (v40 : Int32) (v125 : Int32) (sz : Nat) (fw4_b : Bd 12 0 4095 fw4) (v5_h : Iv 0 12 v5) (v36_h : Iv 0 12 v36) (v37_h : Iv 0 12 v37) (v38_h : Iv 0 1 v38) : Met l yX11_turn wsX11_turn ({ frames := 2, cells := 0, slots := 0, locals := 42 }) (va_Pc [.ref o1] (wPre (dC, dI) [(cI, .int), (c2, .array .int), (cZ, .boolean)] ([(o1, .inr (11, [.ref o2, .ref o7, .ref o12, .ref o41, .ref o51, .ref o64, .ref o77, .ref o84, .ref o91, .ref o99, .ref o111, .ref o123, .int v125])), (o2, .inr (4, [.ref o3, .int v5, .int v6])), (o3, .inl (cI, 12, .inl fw4)), (o12, .inr (6, [.ref o13, .ref o18, .ref o32, .ref o34, .int v36, .int v37, .int v38, .int v39, .int v40]))]) sz)) (va_Qi (fun (r : Int32) (u : Int32 × (Nat → Int32) × Int32) => Bd 12 0 4095 u.2.1 ∧ Iv 0 1 u.2.2) (fun u t => wPost (dC, dI) [(cI, .int), (c2, .array .int), (cZ, .boolean)] (va_A ([(o1, .inr (11, [.ref o2, .ref o7, .ref o12, .ref o41, .ref o51, .ref o64, .ref o77, .ref o84, .ref o91, .ref o99, .ref o111, .ref o123, .int v125])), (o2, .inr (4, [.ref o3, .int v5, .int v6])), (o3, .inl (cI, 12, .inl fw4)), (o12, .inr (6, [.ref o13, .ref o18, .ref o32, .ref o34, .int v36, .int v37, .int v38, .int v39, .int v40]))]) sz) ([(o1, .inr (11, [.ref o2, .ref o7, .ref o12, .ref o41, .ref o51, .ref o64, .ref o77, .ref o84, .ref o91, .ref o99, .ref o111, .ref o123, .int v125])), (o2, .inr (4, [.ref o3, .int v5, .int u.1])), (o3, .inl (cI, 12, .inl u.2.1)), (o12, .inr (6, [.ref o13, .ref o18, .ref o32, .ref o34, .int v36, .int v37, .int u.2.2, .int v39, .int v40]))]) t) (va_A ([(o1, .inr (11, [.ref o2, .ref o7, .ref o12, .ref o41, .ref o51, .ref o64, .ref o77, .ref o84, .ref o91, .ref o99, .ref o111, .ref o123, .int v125])), (o2, .inr (4, [.ref o3, .int v5, .int v6])), (o3, .inl (cI, 12, .inl fw4)), (o12, .inr (6, [.ref o13, .ref o18, .ref o32, .ref o34, .int v36, .int v37, .int v38, .int v39, .int v40]))]) sz)) 0 0 (va_A ([(o1, .inr (11, [.ref o2, .ref o7, .ref o12, .ref o41, .ref o51, .ref o64, .ref o77, .ref o84, .ref o91, .ref o99, .ref o111, .ref o123, .int v125])), (o2, .inr (4, [.ref o3, .int v5, .int v6])), (o3, .inl (cI, 12, .inl fw4)), (o12, .inr (6, [.ref o13, .ref o18, .ref o32, .ref o34, .int v36, .int v37, .int v38, .int v39, .int v40]))]) sz) := by
  refine Met.ofW (cc := cX11_turn) (maxL := 1) (ret := (some .int)) (by decide) rfl ?_
  intro p e s m args below meth c s₁ B hml hv
  obtain ⟨rfl, hsz, hP, hK, hD0, hN⟩ := hv
  have hx := B.exec
  have hb := B.bytes
  have hr := B.returns
  have hts := atoms_spec (ws := wsX11_turn) B.pre
  have hown : s.vm.findClass RX11 = some m.cls := findClass_of_methodNamed B.named
  have hlocks := B.notSynchronized
  subst hsz
  have hD := hD0.self (sz := s.heap.size)
  generalize hAe : va_A ([(o1, .inr (11, [.ref o2, .ref o7, .ref o12, .ref o41, .ref o51, .ref o64, .ref o77, .ref o84, .ref o91, .ref o99, .ref o111, .ref o123, .int v125])), (o2, .inr (4, [.ref o3, .int v5, .int v6])), (o3, .inl (cI, 12, .inl fw4)), (o12, .inr (6, [.ref o13, .ref o18, .ref o32, .ref o34, .int v36, .int v37, .int v38, .int v39, .int v40]))]) s.heap.size = A at hD ⊢
  have hA : ∀ q : Nat, s.heap.size ≤ q → A q := fun q h => by rw [← hAe]; exact Or.inr h
  have hS : va_S A s.heap s.heap [] := va_S.rf
  have hP : va_P (dC, dI) vwCl ([(o1, .inr (11, [.ref o2, .ref o7, .ref o12, .ref o41, .ref o51, .ref o64, .ref o77, .ref o84, .ref o91, .ref o99, .ref o111, .ref o123, .int v125])), (o2, .inr (4, [.ref o3, .int v5, .int v6])), (o3, .inl (cI, 12, .inl fw4)), (o12, .inr (6, [.ref o13, .ref o18, .ref o32, .ref o34, .int v36, .int v37, .int v38, .int v39, .int v40]))]) s.heap := hP
  have hl := lv_entry ([.ref o1]) (n := 1) (Nat.le_of_ble_eq_true rfl)
  rw [lg_entry_eq]
  generalize (lg_sl ([.ref o1]) ++ List.replicate (1 - (lg_sl ([.ref o1])).length) Slot.unset).toArray = ls at hl ⊢
  have hl : lv_has ls 1 [(0, .ref o1)] := hl
  refine gen_Q (fun Q hQ => ?_)
  refine lv_aload_n hx hb dX11_turn_0 rfl (lv_at hl 0 rfl) ?_
  refine va_get (D := (dC, dI)) (ci := 11) (v := .ref o2) (C := RX11) (T := TX11) (N := 13) hx hb hts iw_X11_turn_X11 hown hK hP 0 rfl rfl 0 (by decide) (hts (.fieldLink RX11 10 "HolelessHouse" "graph" "LHolelessHouse$Graph;") hm_X11_turn_1) (fun _ h9 => h9) rfl dX11_turn_1 ?_
  refine kc_v (D := (dC, dI)) (S := Int32 × (Nat → Int32)) (wc := [(o2, .inr (4, [.ref o3, .int v5, .int v6])), (o3, .inl (cI, 12, .inl fw4))]) (wr := [(o1, .inr (11, [.ref o2, .ref o7, .ref o12, .ref o41, .ref o51, .ref o64, .ref o77, .ref o84, .ref o91, .ref o99, .ref o111, .ref o123, .int v125])), (o12, .inr (6, [.ref o13, .ref o18, .ref o32, .ref o34, .int v36, .int v37, .int v38, .int v39, .int v40]))]) (w1 := fun u => [(o2, .inr (4, [.ref o3, .int v5, .int u.1])), (o3, .inl (cI, 12, .inl u.2))]) (wn := fun u => [(o1, .inr (11, [.ref o2, .ref o7, .ref o12, .ref o41, .ref o51, .ref o64, .ref o77, .ref o84, .ref o91, .ref o99, .ref o111, .ref o123, .int v125])), (o2, .inr (4, [.ref o3, .int v5, .int u.1])), (o3, .inl (cI, 12, .inl u.2)), (o12, .inr (6, [.ref o13, .ref o18, .ref o32, .ref o34, .int v36, .int v37, .int v38, .int v39, .int v40]))]) (fun hPc hDc => va_runVN (As := []) (rest := []) ⟨hx, hb, hml, hown, hts⟩ (kX4_invert_1 l dC dI cI c2 cZ o2 o3 fw4 v5 v6 s.heap.size fw4_b v5_h) ⟨va_cnB 0 hts gX11_turn_X4_invert_n145 rfl rfl rfl (hN.1 _ ns_78) (hts (.initialized RX4) hm_X11_turn_4) (by decide +kernel) ⟨Nat.le_of_ble_eq_true rfl, Nat.le_of_ble_eq_true rfl⟩, (hts (.instanceMethod yX4_invert) hm_X11_turn_3), (hts (.selects RX4 yX4_invert yX4_invert) hm_X11_turn_5)⟩ (pre_V hPc hK hDc hN (ci := 4) (q0 := 0) rfl rfl) rfl rfl hl.1 rfl (lv_room (Nat.le_of_ble_eq_true rfl)) dX11_turn_4 ⟨Nat.le_of_ble_eq_true rfl, Nat.le_of_ble_eq_true rfl⟩) hP hD hS hA [1, 2] [0, 3] [0, 2, 3, 1] rfl rfl (by decide +kernel) (by decide +kernel) (by decide +kernel) (by decide +kernel) (fun _ => rfl) (fun u H locs hq hP hD hS => ?_)
  obtain ⟨y1, f2⟩ := u
  have f2_b := hq
  have hP : va_P (dC, dI) vwCl ([(o1, .inr (11, [.ref o2, .ref o7, .ref o12, .ref o41, .ref o51, .ref o64, .ref o77, .ref o84, .ref o91, .ref o99, .ref o111, .ref o123, .int v125])), (o2, .inr (4, [.ref o3, .int v5, .int y1])), (o3, .inl (cI, 12, .inl f2)), (o12, .inr (6, [.ref o13, .ref o18, .ref o32, .ref o34, .int v36, .int v37, .int v38, .int v39, .int v40]))]) H := hP
  have hD : va_D A ([(o1, .inr (11, [.ref o2, .ref o7, .ref o12, .ref o41, .ref o51, .ref o64, .ref o77, .ref o84, .ref o91, .ref o99, .ref o111, .ref o123, .int v125])), (o2, .inr (4, [.ref o3, .int v5, .int y1])), (o3, .inl (cI, 12, .inl f2)), (o12, .inr (6, [.ref o13, .ref o18, .ref o32, .ref o34, .int v36, .int v37, .int v38, .int v39, .int v40]))]) := hD
  refine lv_aload_n hx hb dX11_turn_7 rfl (lv_at hl 0 rfl) ?_
  refine va_get (D := (dC, dI)) (ci := 11) (v := .ref o12) (C := RX11) (T := TX11) (N := 13) hx hb hts iw_X11_turn_X11 hown hK hP 0 rfl rfl 2 (by decide) (hts (.fieldLink RX11 26 "HolelessHouse" "ordering" "LHolelessHouse$Ordering;") hm_X11_turn_2) (fun _ h9 => h9) rfl dX11_turn_8 ?_
  refine kc_v (D := (dC, dI)) (S := Int32) (wc := [(o12, .inr (6, [.ref o13, .ref o18, .ref o32, .ref o34, .int v36, .int v37, .int v38, .int v39, .int v40]))]) (wr := [(o1, .inr (11, [.ref o2, .ref o7, .ref o12, .ref o41, .ref o51, .ref o64, .ref o77, .ref o84, .ref o91, .ref o99, .ref o111, .ref o123, .int v125])), (o2, .inr (4, [.ref o3, .int v5, .int y1])), (o3, .inl (cI, 12, .inl f2))]) (w1 := fun u => [(o12, .inr (6, [.ref o13, .ref o18, .ref o32, .ref o34, .int v36, .int v37, .int u, .int v39, .int v40]))]) (wn := fun u => [(o1, .inr (11, [.ref o2, .ref o7, .ref o12, .ref o41, .ref o51, .ref o64, .ref o77, .ref o84, .ref o91, .ref o99, .ref o111, .ref o123, .int v125])), (o2, .inr (4, [.ref o3, .int v5, .int y1])), (o3, .inl (cI, 12, .inl f2)), (o12, .inr (6, [.ref o13, .ref o18, .ref o32, .ref o34, .int v36, .int v37, .int u, .int v39, .int v40]))]) (fun hPc hDc => va_runVN (As := []) (rest := []) ⟨hx, hb, hml, hown, hts⟩ (kX6_drop_1 l dC dI cI c2 cZ o12 o13 o18 o32 o34 v36 v37 v38 v39 v40 H.size v36_h v37_h v38_h) ⟨va_cnB 0 hts gX11_turn_X6_drop_n105 rfl rfl rfl (hN.1 _ ns_62) (hts (.initialized RX6) hm_X11_turn_15) (by decide +kernel) ⟨Nat.le_of_ble_eq_true rfl, Nat.le_of_ble_eq_true rfl⟩, (hts (.instanceMethod yX6_drop) hm_X11_turn_14), (hts (.selects RX6 yX6_drop yX6_drop) hm_X11_turn_16)⟩ (pre_V hPc hK hDc hN (ci := 6) (q0 := 0) rfl rfl) rfl rfl hl.1 rfl (lv_room (Nat.le_of_ble_eq_true rfl)) dX11_turn_11 ⟨Nat.le_of_ble_eq_true rfl, Nat.le_of_ble_eq_true rfl⟩) hP hD hS hA [3] [0, 1, 2] [0, 1, 2, 3] rfl rfl (by decide +kernel) (by decide +kernel) (by decide +kernel) (by decide +kernel) (fun _ => rfl) (fun y3 H locs hq hP hD hS => ?_)
  have y3_h := hq
  have hP : va_P (dC, dI) vwCl ([(o1, .inr (11, [.ref o2, .ref o7, .ref o12, .ref o41, .ref o51, .ref o64, .ref o77, .ref o84, .ref o91, .ref o99, .ref o111, .ref o123, .int v125])), (o2, .inr (4, [.ref o3, .int v5, .int y1])), (o3, .inl (cI, 12, .inl f2)), (o12, .inr (6, [.ref o13, .ref o18, .ref o32, .ref o34, .int v36, .int v37, .int y3, .int v39, .int v40]))]) H := hP
  have hD : va_D A ([(o1, .inr (11, [.ref o2, .ref o7, .ref o12, .ref o41, .ref o51, .ref o64, .ref o77, .ref o84, .ref o91, .ref o99, .ref o111, .ref o123, .int v125])), (o2, .inr (4, [.ref o3, .int v5, .int y1])), (o3, .inl (cI, 12, .inl f2)), (o12, .inr (6, [.ref o13, .ref o18, .ref o32, .ref o34, .int v36, .int v37, .int y3, .int v39, .int v40]))]) := hD
  refine lv_aload_n hx hb dX11_turn_14 rfl (lv_at hl 0 rfl) ?_
  refine va_get (D := (dC, dI)) (ci := 11) (v := .ref o2) (C := RX11) (T := TX11) (N := 13) hx hb hts iw_X11_turn_X11 hown hK hP 0 rfl rfl 0 (by decide) (hts (.fieldLink RX11 10 "HolelessHouse" "graph" "LHolelessHouse$Graph;") hm_X11_turn_1) (fun _ h9 => h9) rfl dX11_turn_15 ?_
  refine kc_i (D := (dC, dI)) (S := Unit) (wc := [(o2, .inr (4, [.ref o3, .int v5, .int y1])), (o3, .inl (cI, 12, .inl f2))]) (wr := [(o1, .inr (11, [.ref o2, .ref o7, .ref o12, .ref o41, .ref o51, .ref o64, .ref o77, .ref o84, .ref o91, .ref o99, .ref o111, .ref o123, .int v125])), (o12, .inr (6, [.ref o13, .ref o18, .ref o32, .ref o34, .int v36, .int v37, .int y3, .int v39, .int v40]))]) (w1 := fun _ => [(o2, .inr (4, [.ref o3, .int v5, .int y1])), (o3, .inl (cI, 12, .inl f2))]) (wn := fun _ => [(o1, .inr (11, [.ref o2, .ref o7, .ref o12, .ref o41, .ref o51, .ref o64, .ref o77, .ref o84, .ref o91, .ref o99, .ref o111, .ref o123, .int v125])), (o2, .inr (4, [.ref o3, .int v5, .int y1])), (o3, .inl (cI, 12, .inl f2)), (o12, .inr (6, [.ref o13, .ref o18, .ref o32, .ref o34, .int v36, .int v37, .int y3, .int v39, .int v40]))]) (fun hPc hDc => va_runVN (As := []) (rest := []) ⟨hx, hb, hml, hown, hts⟩ (kX4_pairs_1 l dC dI cI c2 cZ o2 o3 f2 v5 y1 H.size f2_b v5_h) ⟨va_cnB 0 hts gX11_turn_X4_pairs_n148 rfl rfl rfl (hN.1 _ ns_79) (hts (.initialized RX4) hm_X11_turn_4) (by decide +kernel) ⟨Nat.le_of_ble_eq_true rfl, Nat.le_of_ble_eq_true rfl⟩, (hts (.instanceMethod yX4_pairs) hm_X11_turn_19), (hts (.selects RX4 yX4_pairs yX4_pairs) hm_X11_turn_20)⟩ (pre_V hPc hK hDc hN (ci := 4) (q0 := 0) rfl rfl) rfl rfl hl.1 rfl (lv_room (Nat.le_of_ble_eq_true rfl)) dX11_turn_18 ⟨Nat.le_of_ble_eq_true rfl, Nat.le_of_ble_eq_true rfl⟩) hP hD hS hA [1, 2] [0, 3] [0, 2, 3, 1] rfl rfl (by decide +kernel) (by decide +kernel) (by decide +kernel) (by decide +kernel) (fun _ => rfl) (fun x4 _ H locs hq hP hD hS => ?_)
  have hP : va_P (dC, dI) vwCl ([(o1, .inr (11, [.ref o2, .ref o7, .ref o12, .ref o41, .ref o51, .ref o64, .ref o77, .ref o84, .ref o91, .ref o99, .ref o111, .ref o123, .int v125])), (o2, .inr (4, [.ref o3, .int v5, .int y1])), (o3, .inl (cI, 12, .inl f2)), (o12, .inr (6, [.ref o13, .ref o18, .ref o32, .ref o34, .int v36, .int v37, .int y3, .int v39, .int v40]))]) H := hP
  have hD : va_D A ([(o1, .inr (11, [.ref o2, .ref o7, .ref o12, .ref o41, .ref o51, .ref o64, .ref o77, .ref o84, .ref o91, .ref o99, .ref o111, .ref o123, .int v125])), (o2, .inr (4, [.ref o3, .int v5, .int y1])), (o3, .inl (cI, 12, .inl f2)), (o12, .inr (6, [.ref o13, .ref o18, .ref o32, .ref o34, .int v36, .int v37, .int y3, .int v39, .int v40]))]) := hD
  rw [hQ]
  exact W.iret (v := x4) hx hb hr (fun t ht hW => ⟨⟨x4, (y1, f2, y3), rfl, ⟨f2_b, y3_h⟩, by rw [ht]; exact hP, va_K.moved hW.alike hK, hD⟩, hS.F ht⟩) hS.2.2 dX11_turn_21
theorem iw_X6_draftSet_X6 : ∀ w ∈ wsX60, w ∈ wsX6_draftSet := fun _ h => List.mem_cons.mpr (Or.inr (List.mem_append.mpr (Or.inr h)))
set_option maxHeartbeats 4000000 in
set_option maxRecDepth 100000 in
theorem kX6_draftSet_1 (l : Launch) (dC : Nat → ClassId) (dI : Nat → Nat → Nat) (cI c2 cZ : ClassId) (o1 : Nat) (o2 : Nat) (o7 : Nat) (o21 : Nat) (o23 : Nat) (fw24 : Nat → Int32) (v25 : Int32) (v26 : Int32) (v27 : Int32) (v28 : Int32) (v29 : Int32) (sz : Nat) (fw24_b : Bd 12 0 11 fw24) (v25_h : Iv 0 12 v25) (v26_h : Iv 0 12 v26) (v27_h : Iv 0 1 v27) : Met l yX6_draftSet wsX6_draftSet ({ frames := 0, cells := 0, slots := 0, locals := 0 }) (va_Pc [.ref o1] (wPre (dC, dI) [(cI, .int), (c2, .array .int), (cZ, .boolean)] ([(o1, .inr (6, [.ref o2, .ref o7, .ref o21, .ref o23, .int v25, .int v26, .int v27, .int v28, .int v29])), (o23, .inl (cI, 12, .inl fw24))]) sz)) (va_Qi (fun (r : Int32) (_ : Unit) => Iv 0 4095 r) (fun _ t => wPost (dC, dI) [(cI, .int), (c2, .array .int), (cZ, .boolean)] (va_A ([(o1, .inr (6, [.ref o2, .ref o7, .ref o21, .ref o23, .int v25, .int v26, .int v27, .int v28, .int v29])), (o23, .inl (cI, 12, .inl fw24))]) sz) ([(o1, .inr (6, [.ref o2, .ref o7, .ref o21, .ref o23, .int v25, .int v26, .int v27, .int v28, .int v29])), (o23, .inl (cI, 12, .inl fw24))]) t) (va_A ([(o1, .inr (6, [.ref o2, .ref o7, .ref o21, .ref o23, .int v25, .int v26, .int v27, .int v28, .int v29])), (o23, .inl (cI, 12, .inl fw24))]) sz)) 0 0 (va_A ([(o1, .inr (6, [.ref o2, .ref o7, .ref o21, .ref o23, .int v25, .int v26, .int v27, .int v28, .int v29])), (o23, .inl (cI, 12, .inl fw24))]) sz) := by
  refine Met.ofW (cc := cX6_draftSet) (maxL := 3) (ret := (some .int)) (by decide) rfl ?_
  intro p e s m args below meth c s₁ B hml hv
  obtain ⟨rfl, hsz, hP, hK, hD0, hN⟩ := hv
  have hx := B.exec
  have hb := B.bytes
  have hr := B.returns
  have hts := atoms_spec (ws := wsX6_draftSet) B.pre
  have hown : s.vm.findClass RX6 = some m.cls := findClass_of_methodNamed B.named
  have hlocks := B.notSynchronized
  subst hsz
  have hD := hD0.self (sz := s.heap.size)
  generalize hAe : va_A ([(o1, .inr (6, [.ref o2, .ref o7, .ref o21, .ref o23, .int v25, .int v26, .int v27, .int v28, .int v29])), (o23, .inl (cI, 12, .inl fw24))]) s.heap.size = A at hD ⊢
  have hA : ∀ q : Nat, s.heap.size ≤ q → A q := fun q h => by rw [← hAe]; exact Or.inr h
  have hS : va_S A s.heap s.heap [] := va_S.rf
  have hP : va_P (dC, dI) vwCl ([(o1, .inr (6, [.ref o2, .ref o7, .ref o21, .ref o23, .int v25, .int v26, .int v27, .int v28, .int v29])), (o23, .inl (cI, 12, .inl fw24))]) s.heap := hP
  have hl := lv_entry ([.ref o1]) (n := 3) (Nat.le_of_ble_eq_true rfl)
  rw [lg_entry_eq]
  generalize (lg_sl ([.ref o1]) ++ List.replicate (3 - (lg_sl ([.ref o1])).length) Slot.unset).toArray = ls at hl ⊢
  have hl : lv_has ls 3 [(0, .ref o1)] := hl
  refine gen_Q (fun Q hQ => ?_)
  refine lv_iconst (v := 0) hx hb dX6_draftSet_0 (by decide) ?_
  refine lv_istore_n (lv' := [(1, .int 0), (0, .ref o1)]) hx hb dX6_draftSet_1 rfl hl (by decide) rfl (fun ls hl => ?_)
  refine lv_iconst (v := 0) hx hb dX6_draftSet_2 (by decide) ?_
  refine lv_istore_n (lv' := [(2, .int 0), (1, .int 0), (0, .ref o1)]) hx hb dX6_draftSet_3 rfl hl (by decide) rfl (fun ls hl => ?_)
  have L1 : ∀ (N : Nat) (x70 : Int32) (x71 : Int32) (H : Heap) (locs : List Loc) (ls : Array Slot), (12 - x70.toInt).toNat < N → Iv 0 12 x70 → Iv 0 4095 x71 → va_P (dC, dI) vwCl ([(o1, .inr (6, [.ref o2, .ref o7, .ref o21, .ref o23, .int v25, .int v26, .int v27, .int v28, .int v29])), (o23, .inl (cI, 12, .inl fw24))]) H → va_D A ([(o1, .inr (6, [.ref o2, .ref o7, .ref o21, .ref o23, .int v25, .int v26, .int v27, .int v28, .int v29])), (o23, .inl (cI, 12, .inl fw24))]) → va_S A s.heap H locs → lv_has ls 3 [(2, .int x70), (1, .int x71), (0, .ref o1)] → W p l e ({ frames := 0, cells := 0, slots := 0, locals := 0 }) s m ([.ref o1] : List Value).toArray below meth c H locs 0 0 Q (F0 m 4 ls []) := by
    intro N
    induction N with
    | zero =>
      intro x70 x71 H locs ls hM
      exact absurd hM (Nat.not_lt_zero _)
    | succ N ih1 =>
      intro x70 x71 H locs ls hM1 x70_h x71_h hP hD hS hl
      refine lv_iload_n hx hb dX6_draftSet_4 rfl (lv_at hl 0 rfl) ?_
      refine lv_aload_n hx hb dX6_draftSet_5 rfl (lv_at hl 2 rfl) ?_
      refine va_get (D := (dC, dI)) (ci := 6) (v := .int v25) (C := RX6) (T := TX6) (N := 9) hx hb hts iw_X6_draftSet_X6 hown hK hP 0 rfl rfl 4 (by decide) (hts (.fieldLink RX6 32 "HolelessHouse$Ordering" "draftSize" "I") hm_X6_draftSet_1) (fun _ h9 => h9) rfl dX6_draftSet_6 ?_
      refine lv_icmp_ge (tgt := 29) hx hb dX6_draftSet_9 (by decide) (fun h72 => ?_) (fun h72 => ?_)
      ·
        have qh72 := le_i h72
        refine lv_iload_n hx hb dX6_draftSet_29 rfl (lv_at hl 1 rfl) ?_
        rw [hQ]
        exact W.iret (v := x71) hx hb hr (fun t ht hW => ⟨⟨x71, (), rfl, x71_h, by rw [ht]; exact hP, va_K.moved hW.alike hK, hD⟩, hS.F ht⟩) hS.2.2 dX6_draftSet_30
      ·
        have qh72 := nle_i h72
        have j73 : Iv 0 11 x70 := r_ltl qh72 x70_h v25_h (by decide)
        have j74 : Iv 1 12 v25 := r_ltr qh72 x70_h v25_h (by decide)
        refine lv_iload_n hx hb dX6_draftSet_12 rfl (lv_at hl 1 rfl) ?_
        refine lv_iconst (v := 1) hx hb dX6_draftSet_13 (by decide) ?_
        refine lv_aload_n hx hb dX6_draftSet_14 rfl (lv_at hl 2 rfl) ?_
        refine va_get (D := (dC, dI)) (ci := 6) (v := .ref o23) (C := RX6) (T := TX6) (N := 9) hx hb hts iw_X6_draftSet_X6 hown hK hP 0 rfl rfl 3 (by decide) (hts (.fieldLink RX6 29 "HolelessHouse$Ordering" "drafts" "[I") hm_X6_draftSet_2) (fun _ h9 => h9) rfl dX6_draftSet_15 ?_
        refine lv_iload_n hx hb dX6_draftSet_18 rfl (lv_at hl 0 rfl) ?_
        refine va_iald hx hb hK hP 1 0 rfl rfl (vin_iv j73 (by decide)) dX6_draftSet_19 (lv_topi (fun x75 x75_e => ?_))
        have x75_h : Iv 0 11 x75 := iv_e x75_e (bd_at fw24_b (vin_iv j73 (by decide)))
        refine lv_ishl hx hb dX6_draftSet_20 (lv_topi (fun x76 x76_e => ?_))
        have x76_h : Iv 1 2048 x76 := iv_e x76_e (iv_shl1 x75_h (by decide))
        refine lv_ior hx hb dX6_draftSet_21 (lv_topi (fun x77 x77_e => ?_))
        have x77_h : Iv 0 4095 x77 := iv_e x77_e (iv_or 12 x71_h x76_h (by decide))
        refine lv_istore_n (lv' := [(1, .int x77), (2, .int x70), (0, .ref o1)]) hx hb dX6_draftSet_22 rfl hl (by decide) rfl (fun ls hl => ?_)
        obtain ⟨x78, x78_e⟩ : ∃ z : Int32, z = x70 + 1 := ⟨_, rfl⟩
        have x78_h : Iv 1 12 x78 := iv_e x78_e (iv_add j73 ik_1 (by decide))
        refine lv_iinc (v := x78) (lv' := [(2, .int x78), (1, .int x77), (0, .ref o1)]) hx hb dX6_draftSet_23 hl (k := 1) rfl (incN (by decide +kernel) x78_e) (by decide) rfl (fun ls hl => ?_)
        refine lv_goto (tgt := 4) hx hb dX6_draftSet_26 (by decide) ?_
        exact ih1 x78 x77 _ _ _ (ms_up x78_e j73 (by decide) hM1) (iv_w x78_h (by decide)) x77_h hP hD hS hl
  exact L1 _ 0 0 _ _ _ (Nat.lt_succ_self _) (iv_w ik_0 (by decide)) (iv_w ik_0 (by decide)) hP hD hS hl
set_option maxHeartbeats 4000000 in
set_option maxRecDepth 100000 in
theorem kX6_drafted_1 (l : Launch) (dC : Nat → ClassId) (dI : Nat → Nat → Nat) (cI c2 cZ : ClassId) (o1 : Nat) (o2 : Nat) (o7 : Nat) (o21 : Nat) (o23 : Nat) (fw24 : Nat → Int32) (v25 : Int32) (v26 : Int32) (v27 : Int32) (v28 : Int32) (v29 : Int32) (a1 : Int32) (sz : Nat) (fw24_b : Bd 12 0 11 fw24) (v25_h : Iv 0 12 v25) (v26_h : Iv 0 12 v26) (v27_h : Iv 0 1 v27) (a1_h : Iv 0 11 a1) : Met l yX6_drafted wsX6_drafted ({ frames := 1, cells := 0, slots := 0, locals := 22 }) (va_Pc [.ref o1, .int a1] (wPre (dC, dI) [(cI, .int), (c2, .array .int), (cZ, .boolean)] ([(o1, .inr (6, [.ref o2, .ref o7, .ref o21, .ref o23, .int v25, .int v26, .int v27, .int v28, .int v29])), (o23, .inl (cI, 12, .inl fw24))]) sz)) (va_Qi (fun (r : Int32) (_ : Unit) => Iv 0 1 r) (fun _ t => wPost (dC, dI) [(cI, .int), (c2, .array .int), (cZ, .boolean)] (va_A ([(o1, .inr (6, [.ref o2, .ref o7, .ref o21, .ref o23, .int v25, .int v26, .int v27, .int v28, .int v29])), (o23, .inl (cI, 12, .inl fw24))]) sz) ([(o1, .inr (6, [.ref o2, .ref o7, .ref o21, .ref o23, .int v25, .int v26, .int v27, .int v28, .int v29])), (o23, .inl (cI, 12, .inl fw24))]) t) (va_A ([(o1, .inr (6, [.ref o2, .ref o7, .ref o21, .ref o23, .int v25, .int v26, .int v27, .int v28, .int v29])), (o23, .inl (cI, 12, .inl fw24))]) sz)) 0 0 (va_A ([(o1, .inr (6, [.ref o2, .ref o7, .ref o21, .ref o23, .int v25, .int v26, .int v27, .int v28, .int v29])), (o23, .inl (cI, 12, .inl fw24))]) sz) := by
  refine Met.ofW (cc := cX6_drafted) (maxL := 2) (ret := (some .boolean)) (by decide) rfl ?_
  intro p e s m args below meth c s₁ B hml hv
  obtain ⟨rfl, hsz, hP, hK, hD0, hN⟩ := hv
  have hx := B.exec
  have hb := B.bytes
  have hr := B.returns
  have hts := atoms_spec (ws := wsX6_drafted) B.pre
  have hown : s.vm.findClass RX6 = some m.cls := findClass_of_methodNamed B.named
  have hlocks := B.notSynchronized
  subst hsz
  have hD := hD0.self (sz := s.heap.size)
  generalize hAe : va_A ([(o1, .inr (6, [.ref o2, .ref o7, .ref o21, .ref o23, .int v25, .int v26, .int v27, .int v28, .int v29])), (o23, .inl (cI, 12, .inl fw24))]) s.heap.size = A at hD ⊢
  have hA : ∀ q : Nat, s.heap.size ≤ q → A q := fun q h => by rw [← hAe]; exact Or.inr h
  have hS : va_S A s.heap s.heap [] := va_S.rf
  have hP : va_P (dC, dI) vwCl ([(o1, .inr (6, [.ref o2, .ref o7, .ref o21, .ref o23, .int v25, .int v26, .int v27, .int v28, .int v29])), (o23, .inl (cI, 12, .inl fw24))]) s.heap := hP
  have hl := lv_entry ([.ref o1, .int a1]) (n := 2) (Nat.le_of_ble_eq_true rfl)
  rw [lg_entry_eq]
  generalize (lg_sl ([.ref o1, .int a1]) ++ List.replicate (2 - (lg_sl ([.ref o1, .int a1])).length) Slot.unset).toArray = ls at hl ⊢
  have hl : lv_has ls 2 [(0, .ref o1), (1, .int a1)] := hl
  refine gen_Q (fun Q hQ => ?_)
  refine lv_aload_n hx hb dX6_drafted_0 rfl (lv_at hl 0 rfl) ?_
  refine kc_i (D := (dC, dI)) (S := Unit) (wc := [(o1, .inr (6, [.ref o2, .ref o7, .ref o21, .ref o23, .int v25, .int v26, .int v27, .int v28, .int v29])), (o23, .inl (cI, 12, .inl fw24))]) (wr := []) (w1 := fun _ => [(o1, .inr (6, [.ref o2, .ref o7, .ref o21, .ref o23, .int v25, .int v26, .int v27, .int v28, .int v29])), (o23, .inl (cI, 12, .inl fw24))]) (wn := fun _ => [(o1, .inr (6, [.ref o2, .ref o7, .ref o21, .ref o23, .int v25, .int v26, .int v27, .int v28, .int v29])), (o23, .inl (cI, 12, .inl fw24))]) (fun hPc hDc => va_runV (As := []) (rest := []) ⟨hx, hb, hml, hown, hts⟩ (kX6_draftSet_1 l dC dI cI c2 cZ o1 o2 o7 o21 o23 fw24 v25 v26 v27 v28 v29 s.heap.size fw24_b v25_h v26_h v27_h) (cwV 0 hts gX6_drafted_X6_draftSet rfl rfl rfl (by decide +kernel) ⟨Nat.le_of_ble_eq_true rfl, Nat.le_of_ble_eq_true rfl⟩) (pre_V hPc hK hDc hN (ci := 6) (q0 := 0) rfl rfl) rfl rfl hl.1 rfl (lv_room (Nat.le_of_ble_eq_true rfl)) dX6_drafted_1 ⟨Nat.le_of_ble_eq_true rfl, Nat.le_of_ble_eq_true rfl⟩) hP hD hS hA [0, 1] [] [0, 1] rfl rfl (by decide +kernel) (by decide +kernel) (by decide +kernel) (by decide +kernel) (fun _ => rfl) (fun x1 _ H locs hq hP hD hS => ?_)
  have x1_h := hq
  have hP : va_P (dC, dI) vwCl ([(o1, .inr (6, [.ref o2, .ref o7, .ref o21, .ref o23, .int v25, .int v26, .int v27, .int v28, .int v29])), (o23, .inl (cI, 12, .inl fw24))]) H := hP
  have hD : va_D A ([(o1, .inr (6, [.ref o2, .ref o7, .ref o21, .ref o23, .int v25, .int v26, .int v27, .int v28, .int v29])), (o23, .inl (cI, 12, .inl fw24))]) := hD
  refine lv_iload_n hx hb dX6_drafted_4 rfl (lv_at hl 1 rfl) ?_
  refine kc_i (D := (dC, dI)) (S := Unit) (wc := []) (wr := [(o1, .inr (6, [.ref o2, .ref o7, .ref o21, .ref o23, .int v25, .int v26, .int v27, .int v28, .int v29])), (o23, .inl (cI, 12, .inl fw24))]) (w1 := fun _ => []) (wn := fun _ => [(o1, .inr (6, [.ref o2, .ref o7, .ref o21, .ref o23, .int v25, .int v26, .int v27, .int v28, .int v29])), (o23, .inl (cI, 12, .inl fw24))]) (fun hPc hDc => va_runSN (As := [.int x1, .int a1]) (rest := []) ⟨hx, hb, hml, hown, hts⟩ (kX11_in_1 l dC dI cI c2 cZ x1 a1 H.size) ⟨va_cnB 2 hts gX6_drafted_X11_in_n53 rfl rfl rfl (hN.1 _ ns_65) (hts (.initialized RX11) hm_X6_drafted_9) (by decide +kernel) ⟨Nat.le_of_ble_eq_true rfl, Nat.le_of_ble_eq_true rfl⟩, (hts (.static yX11_in) hm_X6_drafted_8), trivial⟩ (pre_S hPc hK hDc hN) rfl rfl hl.1 rfl (lv_room (Nat.le_of_ble_eq_true rfl)) dX6_drafted_5 ⟨Nat.le_of_ble_eq_true rfl, Nat.le_of_ble_eq_true rfl⟩) hP hD hS hA [] [0, 1] [0, 1] rfl rfl (by decide +kernel) (by decide +kernel) (by decide +kernel) (by decide +kernel) (fun _ => rfl) (fun x2 _ H locs hq hP hD hS => ?_)
  have x2_h := hq
  have hP : va_P (dC, dI) vwCl ([(o1, .inr (6, [.ref o2, .ref o7, .ref o21, .ref o23, .int v25, .int v26, .int v27, .int v28, .int v29])), (o23, .inl (cI, 12, .inl fw24))]) H := hP
  have hD : va_D A ([(o1, .inr (6, [.ref o2, .ref o7, .ref o21, .ref o23, .int v25, .int v26, .int v27, .int v28, .int v29])), (o23, .inl (cI, 12, .inl fw24))]) := hD
  rw [hQ]
  exact W.zret (v := x2) (ty := .boolean) hx hb hr (nar_z x2_h) (fun t ht hW => ⟨⟨x2, (), rfl, x2_h, by rw [ht]; exact hP, va_K.moved hW.alike hK, hD⟩, hS.F ht⟩) hS.2.2 dX6_drafted_8
theorem iw_X6_addToDraft_X6 : ∀ w ∈ wsX60, w ∈ wsX6_addToDraft := fun _ h => List.mem_cons.mpr (Or.inr (List.mem_append.mpr (Or.inr h)))
set_option maxHeartbeats 4000000 in
set_option maxRecDepth 100000 in
theorem kX6_addToDraft_1 (l : Launch) (dC : Nat → ClassId) (dI : Nat → Nat → Nat) (cI c2 cZ : ClassId) (o1 : Nat) (o2 : Nat) (o7 : Nat) (o21 : Nat) (o23 : Nat) (fw24 : Nat → Int32) (v25 : Int32) (v26 : Int32) (v27 : Int32) (v28 : Int32) (v29 : Int32) (a1 : Int32) (sz : Nat) (fw24_b : Bd 12 0 11 fw24) (v25_h : Iv 0 12 v25) (v26_h : Iv 0 12 v26) (v27_h : Iv 0 1 v27) (a1_h : Iv 0 11 a1) : Met l yX6_addToDraft wsX6_addToDraft ({ frames := 0, cells := 0, slots := 0, locals := 0 }) (va_Pc [.ref o1, .int a1] (wPre (dC, dI) [(cI, .int), (c2, .array .int), (cZ, .boolean)] ([(o1, .inr (6, [.ref o2, .ref o7, .ref o21, .ref o23, .int v25, .int v26, .int v27, .int v28, .int v29])), (o23, .inl (cI, 12, .inl fw24))]) sz)) (va_Qv (fun (u : Int32 × (Nat → Int32)) => Iv 0 12 u.1 ∧ Bd 12 0 11 u.2) (fun u t => wPost (dC, dI) [(cI, .int), (c2, .array .int), (cZ, .boolean)] (va_A ([(o1, .inr (6, [.ref o2, .ref o7, .ref o21, .ref o23, .int v25, .int v26, .int v27, .int v28, .int v29])), (o23, .inl (cI, 12, .inl fw24))]) sz) ([(o1, .inr (6, [.ref o2, .ref o7, .ref o21, .ref o23, .int u.1, .int v26, .int v27, .int v28, .int v29])), (o23, .inl (cI, 12, .inl u.2))]) t) (va_A ([(o1, .inr (6, [.ref o2, .ref o7, .ref o21, .ref o23, .int v25, .int v26, .int v27, .int v28, .int v29])), (o23, .inl (cI, 12, .inl fw24))]) sz)) 0 0 (va_A ([(o1, .inr (6, [.ref o2, .ref o7, .ref o21, .ref o23, .int v25, .int v26, .int v27, .int v28, .int v29])), (o23, .inl (cI, 12, .inl fw24))]) sz) := by
  refine Met.ofW (cc := cX6_addToDraft) (maxL := 2) (ret := none) (by decide) rfl ?_
  intro p e s m args below meth c s₁ B hml hv
  obtain ⟨rfl, hsz, hP, hK, hD0, hN⟩ := hv
  have hx := B.exec
  have hb := B.bytes
  have hr := B.returns
  have hts := atoms_spec (ws := wsX6_addToDraft) B.pre
  have hown : s.vm.findClass RX6 = some m.cls := findClass_of_methodNamed B.named
  have hlocks := B.notSynchronized
  subst hsz
  have hD := hD0.self (sz := s.heap.size)
  generalize hAe : va_A ([(o1, .inr (6, [.ref o2, .ref o7, .ref o21, .ref o23, .int v25, .int v26, .int v27, .int v28, .int v29])), (o23, .inl (cI, 12, .inl fw24))]) s.heap.size = A at hD ⊢
  have hA : ∀ q : Nat, s.heap.size ≤ q → A q := fun q h => by rw [← hAe]; exact Or.inr h
  have hS : va_S A s.heap s.heap [] := va_S.rf
  have hP : va_P (dC, dI) vwCl ([(o1, .inr (6, [.ref o2, .ref o7, .ref o21, .ref o23, .int v25, .int v26, .int v27, .int v28, .int v29])), (o23, .inl (cI, 12, .inl fw24))]) s.heap := hP
  have hl := lv_entry ([.ref o1, .int a1]) (n := 2) (Nat.le_of_ble_eq_true rfl)
  rw [lg_entry_eq]
  generalize (lg_sl ([.ref o1, .int a1]) ++ List.replicate (2 - (lg_sl ([.ref o1, .int a1])).length) Slot.unset).toArray = ls at hl ⊢
  have hl : lv_has ls 2 [(0, .ref o1), (1, .int a1)] := hl
  refine gen_Q (fun Q hQ => ?_)
  refine lv_aload_n hx hb dX6_addToDraft_0 rfl (lv_at hl 0 rfl) ?_
  refine va_get (D := (dC, dI)) (ci := 6) (v := .int v25) (C := RX6) (T := TX6) (N := 9) hx hb hts iw_X6_addToDraft_X6 hown hK hP 0 rfl rfl 4 (by decide) (hts (.fieldLink RX6 32 "HolelessHouse$Ordering" "draftSize" "I") hm_X6_addToDraft_1) (fun _ h9 => h9) rfl dX6_addToDraft_1 ?_
  refine lv_bipush (v := 12) hx hb dX6_addToDraft_4 (by decide) ?_
  refine lv_icmp_ge (tgt := 29) hx hb dX6_addToDraft_6 (by decide) (fun h1 => ?_) (fun h1 => ?_)
  ·
    have qh1 := le_i h1
    have j2 : Iv 12 12 v25 := r_ler qh1 ik_12 v25_h (by decide)
    rw [hQ]
    exact W.vret hx hb hr (fun t ht hW => ⟨⟨(v25, fw24), rfl, ⟨(iv_w j2 (by decide)), fw24_b⟩, by rw [ht]; exact hP, va_K.moved hW.alike hK, hD⟩, hS.F ht⟩) hS.2.2 dX6_addToDraft_29
  ·
    have qh1 := nle_i h1
    have j3 : Iv 0 11 v25 := r_ltl qh1 v25_h ik_12 (by decide)
    refine lv_aload_n hx hb dX6_addToDraft_9 rfl (lv_at hl 0 rfl) ?_
    refine va_get (D := (dC, dI)) (ci := 6) (v := .ref o23) (C := RX6) (T := TX6) (N := 9) hx hb hts iw_X6_addToDraft_X6 hown hK hP 0 rfl rfl 3 (by decide) (hts (.fieldLink RX6 29 "HolelessHouse$Ordering" "drafts" "[I") hm_X6_addToDraft_2) (fun _ h9 => h9) rfl dX6_addToDraft_10 ?_
    refine lv_aload_n hx hb dX6_addToDraft_13 rfl (lv_at hl 0 rfl) ?_
    refine va_get (D := (dC, dI)) (ci := 6) (v := .int v25) (C := RX6) (T := TX6) (N := 9) hx hb hts iw_X6_addToDraft_X6 hown hK hP 0 rfl rfl 4 (by decide) (hts (.fieldLink RX6 32 "HolelessHouse$Ordering" "draftSize" "I") hm_X6_addToDraft_1) (fun _ h9 => h9) rfl dX6_addToDraft_14 ?_
    refine lv_iload_n hx hb dX6_addToDraft_17 rfl (lv_at hl 1 rfl) ?_
    refine k_iast hx hb hK hP hD hS 1 0 rfl rfl (vin_iv j3 (by decide)) dX6_addToDraft_18 (fun f4 H locs f4_e hP hD hS => ?_)
    have f4_b : Bd 12 0 11 f4 := bd_upd f4_e fw24_b a1_h (by decide)
    have hP : va_P (dC, dI) vwCl ([(o1, .inr (6, [.ref o2, .ref o7, .ref o21, .ref o23, .int v25, .int v26, .int v27, .int v28, .int v29])), (o23, .inl (cI, 12, .inl f4))]) H := hP
    have hD : va_D A ([(o1, .inr (6, [.ref o2, .ref o7, .ref o21, .ref o23, .int v25, .int v26, .int v27, .int v28, .int v29])), (o23, .inl (cI, 12, .inl f4))]) := hD
    refine lv_aload_n hx hb dX6_addToDraft_19 rfl (lv_at hl 0 rfl) ?_
    refine lv_dup hx hb dX6_addToDraft_20 rfl ?_
    refine va_get (D := (dC, dI)) (ci := 6) (v := .int v25) (C := RX6) (T := TX6) (N := 9) hx hb hts iw_X6_addToDraft_X6 hown hK hP 0 rfl rfl 4 (by decide) (hts (.fieldLink RX6 32 "HolelessHouse$Ordering" "draftSize" "I") hm_X6_addToDraft_1) (fun _ h9 => h9) rfl dX6_addToDraft_21 ?_
    refine lv_iconst (v := 1) hx hb dX6_addToDraft_24 (by decide) ?_
    refine lv_iadd hx hb dX6_addToDraft_25 (lv_topi (fun x5 x5_e => ?_))
    have x5_h : Iv 1 12 x5 := iv_e x5_e (iv_add j3 ik_1 (by decide))
    refine va_put (D := (dC, dI)) (ci := 6) (v := .int x5) (ty := .int) (C := RX6) (T := TX6) (N := 9) hx hb hts iw_X6_addToDraft_X6 tyX6 tyX6_ok nmX6 hown hK hP hD hS 0 rfl rfl 4 (by decide) (hts (.fieldLink RX6 32 "HolelessHouse$Ordering" "draftSize" "I") hm_X6_addToDraft_1) (fun _ h9 => h9) rfl (by decide +kernel) rfl rfl (Nat.le_of_ble_eq_true rfl) dX6_addToDraft_26 (fun H locs hP hD hS => ?_)
    have hP : va_P (dC, dI) vwCl ([(o1, .inr (6, [.ref o2, .ref o7, .ref o21, .ref o23, .int x5, .int v26, .int v27, .int v28, .int v29])), (o23, .inl (cI, 12, .inl f4))]) H := hP
    have hD : va_D A ([(o1, .inr (6, [.ref o2, .ref o7, .ref o21, .ref o23, .int x5, .int v26, .int v27, .int v28, .int v29])), (o23, .inl (cI, 12, .inl f4))]) := hD
    rw [hQ]
    exact W.vret hx hb hr (fun t ht hW => ⟨⟨(x5, f4), rfl, ⟨(iv_w x5_h (by decide)), f4_b⟩, by rw [ht]; exact hP, va_K.moved hW.alike hK, hD⟩, hS.F ht⟩) hS.2.2 dX6_addToDraft_29
theorem iw_X11_draft_X11 : ∀ w ∈ wsX110, w ∈ wsX11_draft := fun _ h => List.mem_cons.mpr (Or.inr (List.mem_append.mpr (Or.inl (List.mem_append.mpr (Or.inl (List.mem_append.mpr (Or.inr h)))))))
theorem iw_X11_draft_X6 : ∀ w ∈ wsX60, w ∈ wsX11_draft := fun _ h => List.mem_cons.mpr (Or.inr (List.mem_append.mpr (Or.inl (List.mem_append.mpr (Or.inr h)))))
set_option maxHeartbeats 4000000 in
set_option maxRecDepth 100000 in
theorem kX11_draft_1 (l : Launch) (dC : Nat → ClassId) (dI : Nat → Nat → Nat) (cI c2 cZ : ClassId) (o1 : Nat) (o2 : Nat) (o7 : Nat) (o12 : Nat) (o41 : Nat) (o51 : Nat) (o64 : Nat) (o77 : Nat) (o84 : Nat) (o91 : Nat) (o99 : Nat) (o111 : Nat) (o123 : Nat) (o3 : Nat) (o13 : Nat) (o18 : Nat) (o32 : Nat) (o34 : Nat) (v5 : Int32) (v6 : Int32) (fw35 : Nat → Int32) (v36 : Int32) (v37 : Int32) (v38 : Int32) (v39 : Int32) (v40 : Int32) (v125 : Int32) (a1 : Int32) (sz : Nat) (v5_h : Iv 0 12 v5) (fw35_b : Bd 12 0 11 fw35) (v36_h : Iv 0 12 v36) (v37_h : Iv 0 12 v37) (v38_h : Iv 0 1 v38) : Met l yX11_draft wsX11_draft ({ frames := 2, cells := 0, slots := 0, locals := 43 }) (va_Pc [.ref o1, .int a1] (wPre (dC, dI) [(cI, .int), (c2, .array .int), (cZ, .boolean)] ([(o1, .inr (11, [.ref o2, .ref o7, .ref o12, .ref o41, .ref o51, .ref o64, .ref o77, .ref o84, .ref o91, .ref o99, .ref o111, .ref o123, .int v125])), (o2, .inr (4, [.ref o3, .int v5, .int v6])), (o12, .inr (6, [.ref o13, .ref o18, .ref o32, .ref o34, .int v36, .int v37, .int v38, .int v39, .int v40])), (o34, .inl (cI, 12, .inl fw35))]) sz)) (va_Qi (fun (r : Int32) (u : Int32 × (Nat → Int32)) => Iv (-1) 12 r ∧ Iv 0 12 u.1 ∧ Bd 12 0 11 u.2) (fun u t => wPost (dC, dI) [(cI, .int), (c2, .array .int), (cZ, .boolean)] (va_A ([(o1, .inr (11, [.ref o2, .ref o7, .ref o12, .ref o41, .ref o51, .ref o64, .ref o77, .ref o84, .ref o91, .ref o99, .ref o111, .ref o123, .int v125])), (o2, .inr (4, [.ref o3, .int v5, .int v6])), (o12, .inr (6, [.ref o13, .ref o18, .ref o32, .ref o34, .int v36, .int v37, .int v38, .int v39, .int v40])), (o34, .inl (cI, 12, .inl fw35))]) sz) ([(o1, .inr (11, [.ref o2, .ref o7, .ref o12, .ref o41, .ref o51, .ref o64, .ref o77, .ref o84, .ref o91, .ref o99, .ref o111, .ref o123, .int v125])), (o2, .inr (4, [.ref o3, .int v5, .int v6])), (o12, .inr (6, [.ref o13, .ref o18, .ref o32, .ref o34, .int u.1, .int v37, .int v38, .int v39, .int v40])), (o34, .inl (cI, 12, .inl u.2))]) t) (va_A ([(o1, .inr (11, [.ref o2, .ref o7, .ref o12, .ref o41, .ref o51, .ref o64, .ref o77, .ref o84, .ref o91, .ref o99, .ref o111, .ref o123, .int v125])), (o2, .inr (4, [.ref o3, .int v5, .int v6])), (o12, .inr (6, [.ref o13, .ref o18, .ref o32, .ref o34, .int v36, .int v37, .int v38, .int v39, .int v40])), (o34, .inl (cI, 12, .inl fw35))]) sz)) 0 0 (va_A ([(o1, .inr (11, [.ref o2, .ref o7, .ref o12, .ref o41, .ref o51, .ref o64, .ref o77, .ref o84, .ref o91, .ref o99, .ref o111, .ref o123, .int v125])), (o2, .inr (4, [.ref o3, .int v5, .int v6])), (o12, .inr (6, [.ref o13, .ref o18, .ref o32, .ref o34, .int v36, .int v37, .int v38, .int v39, .int v40])), (o34, .inl (cI, 12, .inl fw35))]) sz) := by
  refine Met.ofW (cc := cX11_draft) (maxL := 2) (ret := (some .int)) (by decide) rfl ?_
  intro p e s m args below meth c s₁ B hml hv
  obtain ⟨rfl, hsz, hP, hK, hD0, hN⟩ := hv
  have hx := B.exec
  have hb := B.bytes
  have hr := B.returns
  have hts := atoms_spec (ws := wsX11_draft) B.pre
  have hown : s.vm.findClass RX11 = some m.cls := findClass_of_methodNamed B.named
  have hlocks := B.notSynchronized
  subst hsz
  have hD := hD0.self (sz := s.heap.size)
  generalize hAe : va_A ([(o1, .inr (11, [.ref o2, .ref o7, .ref o12, .ref o41, .ref o51, .ref o64, .ref o77, .ref o84, .ref o91, .ref o99, .ref o111, .ref o123, .int v125])), (o2, .inr (4, [.ref o3, .int v5, .int v6])), (o12, .inr (6, [.ref o13, .ref o18, .ref o32, .ref o34, .int v36, .int v37, .int v38, .int v39, .int v40])), (o34, .inl (cI, 12, .inl fw35))]) s.heap.size = A at hD ⊢
  have hA : ∀ q : Nat, s.heap.size ≤ q → A q := fun q h => by rw [← hAe]; exact Or.inr h
  have hS : va_S A s.heap s.heap [] := va_S.rf
  have hP : va_P (dC, dI) vwCl ([(o1, .inr (11, [.ref o2, .ref o7, .ref o12, .ref o41, .ref o51, .ref o64, .ref o77, .ref o84, .ref o91, .ref o99, .ref o111, .ref o123, .int v125])), (o2, .inr (4, [.ref o3, .int v5, .int v6])), (o12, .inr (6, [.ref o13, .ref o18, .ref o32, .ref o34, .int v36, .int v37, .int v38, .int v39, .int v40])), (o34, .inl (cI, 12, .inl fw35))]) s.heap := hP
  have hl := lv_entry ([.ref o1, .int a1]) (n := 2) (Nat.le_of_ble_eq_true rfl)
  rw [lg_entry_eq]
  generalize (lg_sl ([.ref o1, .int a1]) ++ List.replicate (2 - (lg_sl ([.ref o1, .int a1])).length) Slot.unset).toArray = ls at hl ⊢
  have hl : lv_has ls 2 [(0, .ref o1), (1, .int a1)] := hl
  refine gen_Q (fun Q hQ => ?_)
  refine lv_aload_n hx hb dX11_draft_0 rfl (lv_at hl 0 rfl) ?_
  refine va_get (D := (dC, dI)) (ci := 11) (v := .ref o2) (C := RX11) (T := TX11) (N := 13) hx hb hts iw_X11_draft_X11 hown hK hP 0 rfl rfl 0 (by decide) (hts (.fieldLink RX11 10 "HolelessHouse" "graph" "LHolelessHouse$Graph;") hm_X11_draft_1) (fun _ h9 => h9) rfl dX11_draft_1 ?_
  refine lv_iload_n hx hb dX11_draft_4 rfl (lv_at hl 1 rfl) ?_
  refine kc_i (D := (dC, dI)) (S := Unit) (wc := [(o2, .inr (4, [.ref o3, .int v5, .int v6]))]) (wr := [(o1, .inr (11, [.ref o2, .ref o7, .ref o12, .ref o41, .ref o51, .ref o64, .ref o77, .ref o84, .ref o91, .ref o99, .ref o111, .ref o123, .int v125])), (o12, .inr (6, [.ref o13, .ref o18, .ref o32, .ref o34, .int v36, .int v37, .int v38, .int v39, .int v40])), (o34, .inl (cI, 12, .inl fw35))]) (w1 := fun _ => [(o2, .inr (4, [.ref o3, .int v5, .int v6]))]) (wn := fun _ => [(o1, .inr (11, [.ref o2, .ref o7, .ref o12, .ref o41, .ref o51, .ref o64, .ref o77, .ref o84, .ref o91, .ref o99, .ref o111, .ref o123, .int v125])), (o2, .inr (4, [.ref o3, .int v5, .int v6])), (o12, .inr (6, [.ref o13, .ref o18, .ref o32, .ref o34, .int v36, .int v37, .int v38, .int v39, .int v40])), (o34, .inl (cI, 12, .inl fw35))]) (fun hPc hDc => va_runVN (As := [.int a1]) (rest := []) ⟨hx, hb, hml, hown, hts⟩ (kX4_has_1 l dC dI cI c2 cZ o2 o3 v5 v6 a1 s.heap.size v5_h) ⟨va_cnB 1 hts gX11_draft_X4_has_n93 rfl rfl rfl (hN.1 _ ns_66) (hts (.initialized RX4) hm_X11_draft_4) (by decide +kernel) ⟨Nat.le_of_ble_eq_true rfl, Nat.le_of_ble_eq_true rfl⟩, (hts (.instanceMethod yX4_has) hm_X11_draft_3), (hts (.selects RX4 yX4_has yX4_has) hm_X11_draft_5)⟩ (pre_V hPc hK hDc hN (ci := 4) (q0 := 0) rfl rfl) rfl rfl hl.1 rfl (lv_room (Nat.le_of_ble_eq_true rfl)) dX11_draft_5 ⟨Nat.le_of_ble_eq_true rfl, Nat.le_of_ble_eq_true rfl⟩) hP hD hS hA [1] [0, 2, 3] [0, 3, 1, 2] rfl rfl (by decide +kernel) (by decide +kernel) (by decide +kernel) (by decide +kernel) (fun _ => rfl) (fun x1 _ H locs hq hP hD hS => ?_)
  obtain ⟨x1_h, i2⟩ := hq
  have hP : va_P (dC, dI) vwCl ([(o1, .inr (11, [.ref o2, .ref o7, .ref o12, .ref o41, .ref o51, .ref o64, .ref o77, .ref o84, .ref o91, .ref o99, .ref o111, .ref o123, .int v125])), (o2, .inr (4, [.ref o3, .int v5, .int v6])), (o12, .inr (6, [.ref o13, .ref o18, .ref o32, .ref o34, .int v36, .int v37, .int v38, .int v39, .int v40])), (o34, .inl (cI, 12, .inl fw35))]) H := hP
  have hD : va_D A ([(o1, .inr (11, [.ref o2, .ref o7, .ref o12, .ref o41, .ref o51, .ref o64, .ref o77, .ref o84, .ref o91, .ref o99, .ref o111, .ref o123, .int v125])), (o2, .inr (4, [.ref o3, .int v5, .int v6])), (o12, .inr (6, [.ref o13, .ref o18, .ref o32, .ref o34, .int v36, .int v37, .int v38, .int v39, .int v40])), (o34, .inl (cI, 12, .inl fw35))]) := hD
  refine lv_if_eq (tgt := 22) hx hb dX11_draft_8 (by decide) (fun h3 => ?_) (fun h3 => ?_)
  ·
    have j4 : Iv 0 0 x1 := r_eq h3 ik_0
    refine lv_iconst (v := (-1)) hx hb dX11_draft_22 (by decide) ?_
    rw [hQ]
    exact W.iret (v := (-1)) hx hb hr (fun t ht hW => ⟨⟨(-1), (v36, fw35), rfl, ⟨(iv_w ikm_1 (by decide)), v36_h, fw35_b⟩, by rw [ht]; exact hP, va_K.moved hW.alike hK, hD⟩, hS.F ht⟩) hS.2.2 dX11_draft_23
  ·
    have j5 : Iv 1 1 x1 := r_nelo h3 x1_h ik_0 (by decide)
    have j6 : Iv 0 11 a1 := i2 h3
    refine lv_aload_n hx hb dX11_draft_11 rfl (lv_at hl 0 rfl) ?_
    refine va_get (D := (dC, dI)) (ci := 11) (v := .ref o12) (C := RX11) (T := TX11) (N := 13) hx hb hts iw_X11_draft_X11 hown hK hP 0 rfl rfl 2 (by decide) (hts (.fieldLink RX11 26 "HolelessHouse" "ordering" "LHolelessHouse$Ordering;") hm_X11_draft_2) (fun _ h9 => h9) rfl dX11_draft_12 ?_
    refine lv_iload_n hx hb dX11_draft_15 rfl (lv_at hl 1 rfl) ?_
    refine kc_i (D := (dC, dI)) (S := Unit) (wc := [(o12, .inr (6, [.ref o13, .ref o18, .ref o32, .ref o34, .int v36, .int v37, .int v38, .int v39, .int v40])), (o34, .inl (cI, 12, .inl fw35))]) (wr := [(o1, .inr (11, [.ref o2, .ref o7, .ref o12, .ref o41, .ref o51, .ref o64, .ref o77, .ref o84, .ref o91, .ref o99, .ref o111, .ref o123, .int v125])), (o2, .inr (4, [.ref o3, .int v5, .int v6]))]) (w1 := fun _ => [(o12, .inr (6, [.ref o13, .ref o18, .ref o32, .ref o34, .int v36, .int v37, .int v38, .int v39, .int v40])), (o34, .inl (cI, 12, .inl fw35))]) (wn := fun _ => [(o1, .inr (11, [.ref o2, .ref o7, .ref o12, .ref o41, .ref o51, .ref o64, .ref o77, .ref o84, .ref o91, .ref o99, .ref o111, .ref o123, .int v125])), (o2, .inr (4, [.ref o3, .int v5, .int v6])), (o12, .inr (6, [.ref o13, .ref o18, .ref o32, .ref o34, .int v36, .int v37, .int v38, .int v39, .int v40])), (o34, .inl (cI, 12, .inl fw35))]) (fun hPc hDc => va_runVN (As := [.int a1]) (rest := []) ⟨hx, hb, hml, hown, hts⟩ (kX6_drafted_1 l dC dI cI c2 cZ o12 o13 o18 o32 o34 fw35 v36 v37 v38 v39 v40 a1 H.size fw35_b v36_h v37_h v38_h j6) ⟨va_cnB 1 hts gX11_draft_X6_drafted_n152 rfl rfl rfl (hN.1 _ ns_80) (hts (.initialized RX6) hm_X11_draft_9) (by decide +kernel) ⟨Nat.le_of_ble_eq_true rfl, Nat.le_of_ble_eq_true rfl⟩, (hts (.instanceMethod yX6_drafted) hm_X11_draft_8), (hts (.selects RX6 yX6_drafted yX6_drafted) hm_X11_draft_10)⟩ (pre_V hPc hK hDc hN (ci := 6) (q0 := 0) rfl rfl) rfl rfl hl.1 rfl (lv_room (Nat.le_of_ble_eq_true rfl)) dX11_draft_16 ⟨Nat.le_of_ble_eq_true rfl, Nat.le_of_ble_eq_true rfl⟩) hP hD hS hA [2, 3] [0, 1] [0, 1, 2, 3] rfl rfl (by decide +kernel) (by decide +kernel) (by decide +kernel) (by decide +kernel) (fun _ => rfl) (fun x7 _ H locs hq hP hD hS => ?_)
    have x7_h := hq
    have hP : va_P (dC, dI) vwCl ([(o1, .inr (11, [.ref o2, .ref o7, .ref o12, .ref o41, .ref o51, .ref o64, .ref o77, .ref o84, .ref o91, .ref o99, .ref o111, .ref o123, .int v125])), (o2, .inr (4, [.ref o3, .int v5, .int v6])), (o12, .inr (6, [.ref o13, .ref o18, .ref o32, .ref o34, .int v36, .int v37, .int v38, .int v39, .int v40])), (o34, .inl (cI, 12, .inl fw35))]) H := hP
    have hD : va_D A ([(o1, .inr (11, [.ref o2, .ref o7, .ref o12, .ref o41, .ref o51, .ref o64, .ref o77, .ref o84, .ref o91, .ref o99, .ref o111, .ref o123, .int v125])), (o2, .inr (4, [.ref o3, .int v5, .int v6])), (o12, .inr (6, [.ref o13, .ref o18, .ref o32, .ref o34, .int v36, .int v37, .int v38, .int v39, .int v40])), (o34, .inl (cI, 12, .inl fw35))]) := hD
    refine lv_if_eq (tgt := 24) hx hb dX11_draft_19 (by decide) (fun h8 => ?_) (fun h8 => ?_)
    ·
      have j9 : Iv 0 0 x7 := r_eq h8 ik_0
      refine lv_aload_n hx hb dX11_draft_24 rfl (lv_at hl 0 rfl) ?_
      refine va_get (D := (dC, dI)) (ci := 11) (v := .ref o12) (C := RX11) (T := TX11) (N := 13) hx hb hts iw_X11_draft_X11 hown hK hP 0 rfl rfl 2 (by decide) (hts (.fieldLink RX11 26 "HolelessHouse" "ordering" "LHolelessHouse$Ordering;") hm_X11_draft_2) (fun _ h9 => h9) rfl dX11_draft_25 ?_
      refine lv_iload_n hx hb dX11_draft_28 rfl (lv_at hl 1 rfl) ?_
      refine kc_v (D := (dC, dI)) (S := Int32 × (Nat → Int32)) (wc := [(o12, .inr (6, [.ref o13, .ref o18, .ref o32, .ref o34, .int v36, .int v37, .int v38, .int v39, .int v40])), (o34, .inl (cI, 12, .inl fw35))]) (wr := [(o1, .inr (11, [.ref o2, .ref o7, .ref o12, .ref o41, .ref o51, .ref o64, .ref o77, .ref o84, .ref o91, .ref o99, .ref o111, .ref o123, .int v125])), (o2, .inr (4, [.ref o3, .int v5, .int v6]))]) (w1 := fun u => [(o12, .inr (6, [.ref o13, .ref o18, .ref o32, .ref o34, .int u.1, .int v37, .int v38, .int v39, .int v40])), (o34, .inl (cI, 12, .inl u.2))]) (wn := fun u => [(o1, .inr (11, [.ref o2, .ref o7, .ref o12, .ref o41, .ref o51, .ref o64, .ref o77, .ref o84, .ref o91, .ref o99, .ref o111, .ref o123, .int v125])), (o2, .inr (4, [.ref o3, .int v5, .int v6])), (o12, .inr (6, [.ref o13, .ref o18, .ref o32, .ref o34, .int u.1, .int v37, .int v38, .int v39, .int v40])), (o34, .inl (cI, 12, .inl u.2))]) (fun hPc hDc => va_runVN (As := [.int a1]) (rest := []) ⟨hx, hb, hml, hown, hts⟩ (kX6_addToDraft_1 l dC dI cI c2 cZ o12 o13 o18 o32 o34 fw35 v36 v37 v38 v39 v40 a1 H.size fw35_b v36_h v37_h v38_h j6) ⟨va_cnB 1 hts gX11_draft_X6_addToDraft_n155 rfl rfl rfl (hN.1 _ ns_81) (hts (.initialized RX6) hm_X11_draft_9) (by decide +kernel) ⟨Nat.le_of_ble_eq_true rfl, Nat.le_of_ble_eq_true rfl⟩, (hts (.instanceMethod yX6_addToDraft) hm_X11_draft_21), (hts (.selects RX6 yX6_addToDraft yX6_addToDraft) hm_X11_draft_22)⟩ (pre_V hPc hK hDc hN (ci := 6) (q0 := 0) rfl rfl) rfl rfl hl.1 rfl (lv_room (Nat.le_of_ble_eq_true rfl)) dX11_draft_29 ⟨Nat.le_of_ble_eq_true rfl, Nat.le_of_ble_eq_true rfl⟩) hP hD hS hA [2, 3] [0, 1] [0, 1, 2, 3] rfl rfl (by decide +kernel) (by decide +kernel) (by decide +kernel) (by decide +kernel) (fun _ => rfl) (fun u H locs hq hP hD hS => ?_)
      obtain ⟨y10, f11⟩ := u
      obtain ⟨y10_h, f11_b⟩ := hq
      have hP : va_P (dC, dI) vwCl ([(o1, .inr (11, [.ref o2, .ref o7, .ref o12, .ref o41, .ref o51, .ref o64, .ref o77, .ref o84, .ref o91, .ref o99, .ref o111, .ref o123, .int v125])), (o2, .inr (4, [.ref o3, .int v5, .int v6])), (o12, .inr (6, [.ref o13, .ref o18, .ref o32, .ref o34, .int y10, .int v37, .int v38, .int v39, .int v40])), (o34, .inl (cI, 12, .inl f11))]) H := hP
      have hD : va_D A ([(o1, .inr (11, [.ref o2, .ref o7, .ref o12, .ref o41, .ref o51, .ref o64, .ref o77, .ref o84, .ref o91, .ref o99, .ref o111, .ref o123, .int v125])), (o2, .inr (4, [.ref o3, .int v5, .int v6])), (o12, .inr (6, [.ref o13, .ref o18, .ref o32, .ref o34, .int y10, .int v37, .int v38, .int v39, .int v40])), (o34, .inl (cI, 12, .inl f11))]) := hD
      refine lv_aload_n hx hb dX11_draft_32 rfl (lv_at hl 0 rfl) ?_
      refine va_get (D := (dC, dI)) (ci := 11) (v := .ref o12) (C := RX11) (T := TX11) (N := 13) hx hb hts iw_X11_draft_X11 hown hK hP 0 rfl rfl 2 (by decide) (hts (.fieldLink RX11 26 "HolelessHouse" "ordering" "LHolelessHouse$Ordering;") hm_X11_draft_2) (fun _ h9 => h9) rfl dX11_draft_33 ?_
      refine va_getN (D := (dC, dI)) (ci := 6) (v := .int y10) (C := RX6) (T := TX6) (N := 9) hx hb hts iw_X11_draft_X6 hown hK hP 2 rfl rfl 4 (by decide) (hN.use ns_27) (fun _ h9 => h9) rfl dX11_draft_36 ?_
      rw [hQ]
      exact W.iret (v := y10) hx hb hr (fun t ht hW => ⟨⟨y10, (y10, f11), rfl, ⟨(iv_w y10_h (by decide)), y10_h, f11_b⟩, by rw [ht]; exact hP, va_K.moved hW.alike hK, hD⟩, hS.F ht⟩) hS.2.2 dX11_draft_39
    ·
      have j12 : Iv 1 1 x7 := r_nelo h8 x7_h ik_0 (by decide)
      refine lv_iconst (v := (-1)) hx hb dX11_draft_22 (by decide) ?_
      rw [hQ]
      exact W.iret (v := (-1)) hx hb hr (fun t ht hW => ⟨⟨(-1), (v36, fw35), rfl, ⟨(iv_w ikm_1 (by decide)), v36_h, fw35_b⟩, by rw [ht]; exact hP, va_K.moved hW.alike hK, hD⟩, hS.F ht⟩) hS.2.2 dX11_draft_23
