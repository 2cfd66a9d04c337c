theorem hm_J6_bitCount_0f7a4_1 : (.constant RJ6 265 (1431655765) : Cond) ∈ wsJ6_bitCount_0f7a4 := List.mem_of_getElem? (i := 1) rfl
theorem hm_J6_bitCount_0f7a4_2 : (.constant RJ6 266 (858993459) : Cond) ∈ wsJ6_bitCount_0f7a4 := List.mem_of_getElem? (i := 2) rfl
theorem hm_J6_bitCount_0f7a4_3 : (.constant RJ6 267 (252645135) : Cond) ∈ wsJ6_bitCount_0f7a4 := List.mem_of_getElem? (i := 3) rfl
theorem hm_X11_found_1 : (.fieldLink RX11 86 "HolelessHouse" "latest" "I" : Cond) ∈ wsX11_found := List.mem_of_getElem? (i := 1) rfl
theorem hm_X11_found_2 : (.fieldLink RX11 82 "HolelessHouse" "timesFound" "[I" : Cond) ∈ wsX11_found := List.mem_of_getElem? (i := 2) rfl
theorem hm_X11_degree_1 : (.fieldLink RX11 10 "HolelessHouse" "graph" "LHolelessHouse$Graph;" : Cond) ∈ wsX11_degree := List.mem_of_getElem? (i := 1) rfl
theorem hm_X11_degree_3 : (.initialized RX4 : Cond) ∈ wsX11_degree := List.mem_of_getElem? (i := 3) rfl
theorem hm_X11_degree_2 : (.instanceMethod yX4_has : Cond) ∈ wsX11_degree := List.mem_of_getElem? (i := 2) rfl
theorem hm_X11_degree_4 : (.selects RX4 yX4_has yX4_has : Cond) ∈ wsX11_degree := List.mem_of_getElem? (i := 4) rfl
theorem hm_X3_start_1 : (.fieldLink RX3 16 "HolelessHouse$Going" "size" "I" : Cond) ∈ wsX3_start := List.mem_of_getElem? (i := 1) rfl
theorem hm_X3_start_2 : (.fieldLink RX3 11 "HolelessHouse$Going" "near" "[[I" : Cond) ∈ wsX3_start := List.mem_of_getElem? (i := 2) rfl
theorem hm_X3_start_3 : (.methodLink RX3 26 arraycopyName : Cond) ∈ wsX3_start := List.mem_of_getElem? (i := 3) rfl
theorem hm_X3_start_4 : (.native arraycopyName : Cond) ∈ wsX3_start := List.mem_of_getElem? (i := 4) rfl
theorem hm_X3_start_5 : (.static arraycopyName : Cond) ∈ wsX3_start := List.mem_of_getElem? (i := 5) rfl
theorem hm_X3_start_6 : (.initialized "java/lang/System" : Cond) ∈ wsX3_start := List.mem_of_getElem? (i := 6) rfl
theorem hm_J6_numberOfTrailingZeros_0f7a4_1 : (.constant RJ6 264 (65536) : Cond) ∈ wsJ6_numberOfTrailingZeros_0f7a4 := List.mem_of_getElem? (i := 1) rfl
theorem hm_X3_isTight_1 : (.fieldLink RX3 11 "HolelessHouse$Going" "near" "[[I" : Cond) ∈ wsX3_isTight := List.mem_of_getElem? (i := 1) rfl
theorem hm_X3_isTight_2 : (.fieldLink RX3 16 "HolelessHouse$Going" "size" "I" : Cond) ∈ wsX3_isTight := List.mem_of_getElem? (i := 2) rfl
theorem hm_X3_isTight_9 : (.initialized RX11 : Cond) ∈ wsX3_isTight := List.mem_of_getElem? (i := 9) rfl
theorem hm_X3_isTight_8 : (.static yX11_withoutLeast : Cond) ∈ wsX3_isTight := List.mem_of_getElem? (i := 8) rfl
theorem hm_X3_leastTight_1 : (.fieldLink RX3 16 "HolelessHouse$Going" "size" "I" : Cond) ∈ wsX3_leastTight := List.mem_of_getElem? (i := 1) rfl
theorem hm_X3_leastTight_3 : (.initialized RX11 : Cond) ∈ wsX3_leastTight := List.mem_of_getElem? (i := 3) rfl
theorem hm_X3_leastTight_2 : (.static yX11_in : Cond) ∈ wsX3_leastTight := List.mem_of_getElem? (i := 2) rfl
theorem hm_X3_leave_1 : (.fieldLink RX3 11 "HolelessHouse$Going" "near" "[[I" : Cond) ∈ wsX3_leave := List.mem_of_getElem? (i := 1) rfl
theorem hm_X3_leave_2 : (.methodLink RX3 26 arraycopyName : Cond) ∈ wsX3_leave := List.mem_of_getElem? (i := 2) rfl
theorem hm_X3_leave_3 : (.native arraycopyName : Cond) ∈ wsX3_leave := List.mem_of_getElem? (i := 3) rfl
theorem hm_X3_leave_4 : (.static arraycopyName : Cond) ∈ wsX3_leave := List.mem_of_getElem? (i := 4) rfl
theorem hm_X3_leave_5 : (.initialized "java/lang/System" : Cond) ∈ wsX3_leave := List.mem_of_getElem? (i := 5) rfl
theorem hm_X3_leave_6 : (.fieldLink RX3 16 "HolelessHouse$Going" "size" "I" : Cond) ∈ wsX3_leave := List.mem_of_getElem? (i := 6) rfl
theorem hm_X3_leave_13 : (.initialized RX11 : Cond) ∈ wsX3_leave := List.mem_of_getElem? (i := 13) rfl
theorem hm_X3_leave_12 : (.static yX11_withoutLeast : Cond) ∈ wsX3_leave := List.mem_of_getElem? (i := 12) rfl
theorem hm_X3_goesWithoutFill_13 : (.initialized RX4 : Cond) ∈ wsX3_goesWithoutFill := List.mem_of_getElem? (i := 13) rfl
theorem hm_X3_goesWithoutFill_12 : (.instanceMethod yX4_all : Cond) ∈ wsX3_goesWithoutFill := List.mem_of_getElem? (i := 12) rfl
theorem hm_X3_goesWithoutFill_14 : (.selects RX4 yX4_all yX4_all : Cond) ∈ wsX3_goesWithoutFill := List.mem_of_getElem? (i := 14) rfl
theorem hm_X3_goesWithoutFill_1 : (.fieldLink RX3 16 "HolelessHouse$Going" "size" "I" : Cond) ∈ wsX3_goesWithoutFill := List.mem_of_getElem? (i := 1) rfl
theorem hm_X9_nextOnes_1 : (.fieldLink RX9 18 "HolelessHouse$Ring" "path" "[I" : Cond) ∈ wsX9_nextOnes := List.mem_of_getElem? (i := 1) rfl
theorem hm_X9_closes_1 : (.fieldLink RX9 18 "HolelessHouse$Ring" "path" "[I" : Cond) ∈ wsX9_closes := List.mem_of_getElem? (i := 1) rfl
theorem hm_X9_closes_11 : (.initialized RX11 : Cond) ∈ wsX9_closes := List.mem_of_getElem? (i := 11) rfl
theorem hm_X9_closes_10 : (.static yX11_in : Cond) ∈ wsX9_closes := List.mem_of_getElem? (i := 10) rfl
set_option maxHeartbeats 4000000 in
set_option maxRecDepth 100000 in
theorem kJ6_bitCount_0f7a4_1 (l : Launch) (dC : Nat → ClassId) (dI : Nat → Nat → Nat) (cI c2 cZ : ClassId) (a0 : Int32) (sz : Nat) : Met l yJ6_bitCount_0f7a4 wsJ6_bitCount_0f7a4 ({ frames := 0, cells := 0, slots := 0, locals := 0 }) (va_Pc [.int a0] (wPre (dC, dI) [(cI, .int), (c2, .array .int), (cZ, .boolean)] ([]) sz)) (va_Qi (fun (r : Int32) (_ : Unit) => Iv 0 63 r) (fun _ t => wPost (dC, dI) [(cI, .int), (c2, .array .int), (cZ, .boolean)] (va_A ([]) sz) ([]) t) (va_A ([]) sz)) 0 0 (va_A ([]) sz) := by
  refine Met.ofW (cc := cJ6_bitCount_0f7a4) (maxL := 1) (ret := (some .int)) (by decide) rfl ?_
  intro p e s m args below meth c s₁ B hml hv
  obtain ⟨rfl, hsz, hP, hK, hD0, hN⟩ := hv
  have hx := B.exec
  have hb := B.bytes
  have hr := B.returns
  have hts := atoms_spec (ws := wsJ6_bitCount_0f7a4) B.pre
  have hown : s.vm.findClass RJ6 = some m.cls := findClass_of_methodNamed B.named
  have hlocks := B.notSynchronized
  subst hsz
  have hD := hD0.self (sz := s.heap.size)
  generalize hAe : va_A ([]) s.heap.size = A at hD ⊢
  have hA : ∀ q : Nat, s.heap.size ≤ q → A q := fun q h => by rw [← hAe]; exact Or.inr h
  have hS : va_S A s.heap s.heap [] := va_S.rf
  have hP : va_P (dC, dI) vwCl ([]) s.heap := hP
  have hl := lv_entry ([.int a0]) (n := 1) (Nat.le_of_ble_eq_true rfl)
  rw [lg_entry_eq]
  generalize (lg_sl ([.int a0]) ++ List.replicate (1 - (lg_sl ([.int a0])).length) Slot.unset).toArray = ls at hl ⊢
  have hl : lv_has ls 1 [(0, .int a0)] := hl
  refine gen_Q (fun Q hQ => ?_)
  refine lv_iload_n hx hb dJ6_bitCount_0f7a4_0 rfl (lv_at hl 0 rfl) ?_
  refine lv_iload_n hx hb dJ6_bitCount_0f7a4_1 rfl (lv_at hl 0 rfl) ?_
  refine lv_iconst (v := 1) hx hb dJ6_bitCount_0f7a4_2 (by decide) ?_
  obtain ⟨x1, x1_e⟩ : ∃ z : Int32, z = (Int32.toUInt32 a0 >>> (Int32.toUInt32 1 &&& Int32.toUInt32 31)).toInt32 := ⟨_, rfl⟩
  refine lv_iushr (v := x1) hx hb dJ6_bitCount_0f7a4_3 x1_e.symm ?_
  refine lv_ldcw (v := 1431655765) hx hb hown (hts (.constant RJ6 265 (1431655765)) hm_J6_bitCount_0f7a4_1) dJ6_bitCount_0f7a4_4 ?_
  refine lv_iand hx hb dJ6_bitCount_0f7a4_7 (lv_topi (fun x2 x2_e => ?_))
  have x2_h : Iv 0 1431655765 x2 := iv_e x2_e (iv_andR _ ik_1431655765 (by decide))
  refine lv_isub hx hb dJ6_bitCount_0f7a4_8 (lv_topi (fun x3 x3_e => ?_))
  refine lv_istore_n (lv' := [(0, .int x3)]) hx hb dJ6_bitCount_0f7a4_9 rfl hl (by decide) rfl (fun ls hl => ?_)
  refine lv_iload_n hx hb dJ6_bitCount_0f7a4_10 rfl (lv_at hl 0 rfl) ?_
  refine lv_ldcw (v := 858993459) hx hb hown (hts (.constant RJ6 266 (858993459)) hm_J6_bitCount_0f7a4_2) dJ6_bitCount_0f7a4_11 ?_
  refine lv_iand hx hb dJ6_bitCount_0f7a4_14 (lv_topi (fun x4 x4_e => ?_))
  have x4_h : Iv 0 858993459 x4 := iv_e x4_e (iv_andR _ ik_858993459 (by decide))
  refine lv_iload_n hx hb dJ6_bitCount_0f7a4_15 rfl (lv_at hl 0 rfl) ?_
  refine lv_iconst (v := 2) hx hb dJ6_bitCount_0f7a4_16 (by decide) ?_
  obtain ⟨x5, x5_e⟩ : ∃ z : Int32, z = (Int32.toUInt32 x3 >>> (Int32.toUInt32 2 &&& Int32.toUInt32 31)).toInt32 := ⟨_, rfl⟩
  refine lv_iushr (v := x5) hx hb dJ6_bitCount_0f7a4_17 x5_e.symm ?_
  refine lv_ldcw (v := 858993459) hx hb hown (hts (.constant RJ6 266 (858993459)) hm_J6_bitCount_0f7a4_2) dJ6_bitCount_0f7a4_18 ?_
  refine lv_iand hx hb dJ6_bitCount_0f7a4_21 (lv_topi (fun x6 x6_e => ?_))
  have x6_h : Iv 0 858993459 x6 := iv_e x6_e (iv_andR _ ik_858993459 (by decide))
  refine lv_iadd hx hb dJ6_bitCount_0f7a4_22 (lv_topi (fun x7 x7_e => ?_))
  have x7_h : Iv 0 1717986918 x7 := iv_e x7_e (iv_add x4_h x6_h (by decide))
  refine lv_istore_n (lv' := [(0, .int x7)]) hx hb dJ6_bitCount_0f7a4_23 rfl hl (by decide) rfl (fun ls hl => ?_)
  refine lv_iload_n hx hb dJ6_bitCount_0f7a4_24 rfl (lv_at hl 0 rfl) ?_
  refine lv_iload_n hx hb dJ6_bitCount_0f7a4_25 rfl (lv_at hl 0 rfl) ?_
  refine lv_iconst (v := 4) hx hb dJ6_bitCount_0f7a4_26 (by decide) ?_
  obtain ⟨x8, x8_e⟩ : ∃ z : Int32, z = (Int32.toUInt32 x7 >>> (Int32.toUInt32 4 &&& Int32.toUInt32 31)).toInt32 := ⟨_, rfl⟩
  refine lv_iushr (v := x8) hx hb dJ6_bitCount_0f7a4_27 x8_e.symm ?_
  have x8_h : Iv 0 107374182 x8 := iv_e x8_e (iv_ushr 4 x7_h (by decide +kernel) (by decide))
  refine lv_iadd hx hb dJ6_bitCount_0f7a4_28 (lv_topi (fun x9 x9_e => ?_))
  have x9_h : Iv 0 1825361100 x9 := iv_e x9_e (iv_add x7_h x8_h (by decide))
  refine lv_ldcw (v := 252645135) hx hb hown (hts (.constant RJ6 267 (252645135)) hm_J6_bitCount_0f7a4_3) dJ6_bitCount_0f7a4_29 ?_
  refine lv_iand hx hb dJ6_bitCount_0f7a4_32 (lv_topi (fun x10 x10_e => ?_))
  have x10_h : Iv 0 252645135 x10 := iv_e x10_e (iv_andR _ ik_252645135 (by decide))
  refine lv_istore_n (lv' := [(0, .int x10)]) hx hb dJ6_bitCount_0f7a4_33 rfl hl (by decide) rfl (fun ls hl => ?_)
  refine lv_iload_n hx hb dJ6_bitCount_0f7a4_34 rfl (lv_at hl 0 rfl) ?_
  refine lv_iload_n hx hb dJ6_bitCount_0f7a4_35 rfl (lv_at hl 0 rfl) ?_
  refine lv_bipush (v := 8) hx hb dJ6_bitCount_0f7a4_36 (by decide) ?_
  obtain ⟨x11, x11_e⟩ : ∃ z : Int32, z = (Int32.toUInt32 x10 >>> (Int32.toUInt32 8 &&& Int32.toUInt32 31)).toInt32 := ⟨_, rfl⟩
  refine lv_iushr (v := x11) hx hb dJ6_bitCount_0f7a4_38 x11_e.symm ?_
  have x11_h : Iv 0 986895 x11 := iv_e x11_e (iv_ushr 8 x10_h (by decide +kernel) (by decide))
  refine lv_iadd hx hb dJ6_bitCount_0f7a4_39 (lv_topi (fun x12 x12_e => ?_))
  have x12_h : Iv 0 253632030 x12 := iv_e x12_e (iv_add x10_h x11_h (by decide))
  refine lv_istore_n (lv' := [(0, .int x12)]) hx hb dJ6_bitCount_0f7a4_40 rfl hl (by decide) rfl (fun ls hl => ?_)
  refine lv_iload_n hx hb dJ6_bitCount_0f7a4_41 rfl (lv_at hl 0 rfl) ?_
  refine lv_iload_n hx hb dJ6_bitCount_0f7a4_42 rfl (lv_at hl 0 rfl) ?_
  refine lv_bipush (v := 16) hx hb dJ6_bitCount_0f7a4_43 (by decide) ?_
  obtain ⟨x13, x13_e⟩ : ∃ z : Int32, z = (Int32.toUInt32 x12 >>> (Int32.toUInt32 16 &&& Int32.toUInt32 31)).toInt32 := ⟨_, rfl⟩
  refine lv_iushr (v := x13) hx hb dJ6_bitCount_0f7a4_45 x13_e.symm ?_
  have x13_h : Iv 0 3870 x13 := iv_e x13_e (iv_ushr 16 x12_h (by decide +kernel) (by decide))
  refine lv_iadd hx hb dJ6_bitCount_0f7a4_46 (lv_topi (fun x14 x14_e => ?_))
  have x14_h : Iv 0 253635900 x14 := iv_e x14_e (iv_add x12_h x13_h (by decide))
  refine lv_istore_n (lv' := [(0, .int x14)]) hx hb dJ6_bitCount_0f7a4_47 rfl hl (by decide) rfl (fun ls hl => ?_)
  refine lv_iload_n hx hb dJ6_bitCount_0f7a4_48 rfl (lv_at hl 0 rfl) ?_
  refine lv_bipush (v := 63) hx hb dJ6_bitCount_0f7a4_49 (by decide) ?_
  refine lv_iand hx hb dJ6_bitCount_0f7a4_51 (lv_topi (fun x15 x15_e => ?_))
  have x15_h : Iv 0 63 x15 := iv_e x15_e (iv_andR _ ik_63 (by decide))
  rw [hQ]
  exact W.iret (v := x15) hx hb hr (fun t ht hW => ⟨⟨x15, (), rfl, x15_h, by rw [ht]; exact hP, va_K.moved hW.alike hK, hD⟩, hS.F ht⟩) hS.2.2 dJ6_bitCount_0f7a4_52
theorem iw_X11_found_X11 : ∀ w ∈ wsX110, w ∈ wsX11_found := fun _ h => List.mem_cons.mpr (Or.inr (List.mem_append.mpr (Or.inr h)))
set_option maxHeartbeats 4000000 in
set_option maxRecDepth 100000 in
theorem kX11_found_1 (l : Launch) (dC : Nat → ClassId) (dI : Nat → Nat → Nat) (cI c2 cZ : ClassId) (o1 : Nat) (o2 : Nat) (o7 : Nat) (o12 : Nat) (o41 : Nat) (o51 : Nat) (o64 : Nat) (o77 : Nat) (o84 : Nat) (o91 : Nat) (o99 : Nat) (o111 : Nat) (o123 : Nat) (fw124 : Nat → Int32) (v125 : Int32) (a1 : Int32) (sz : Nat) (a1_h : Iv 3 3 a1) : Met l yX11_found wsX11_found ({ frames := 0, cells := 0, slots := 0, locals := 0 }) (va_Pc [.ref o1, .int a1] (wPre (dC, dI) [(cI, .int), (c2, .array .int), (cZ, .boolean)] ([(o1, .inr (11, [.ref o2, .ref o7, .ref o12, .ref o41, .ref o51, .ref o64, .ref o77, .ref o84, .ref o91, .ref o99, .ref o111, .ref o123, .int v125])), (o123, .inl (cI, 5, .inl fw124))]) sz)) (va_Qi (fun (r : Int32) (u : Int32 × (Nat → Int32)) => Iv (-3) (-3) r) (fun u t => wPost (dC, dI) [(cI, .int), (c2, .array .int), (cZ, .boolean)] (va_A ([(o1, .inr (11, [.ref o2, .ref o7, .ref o12, .ref o41, .ref o51, .ref o64, .ref o77, .ref o84, .ref o91, .ref o99, .ref o111, .ref o123, .int v125])), (o123, .inl (cI, 5, .inl fw124))]) sz) ([(o1, .inr (11, [.ref o2, .ref o7, .ref o12, .ref o41, .ref o51, .ref o64, .ref o77, .ref o84, .ref o91, .ref o99, .ref o111, .ref o123, .int u.1])), (o123, .inl (cI, 5, .inl u.2))]) t) (va_A ([(o1, .inr (11, [.ref o2, .ref o7, .ref o12, .ref o41, .ref o51, .ref o64, .ref o77, .ref o84, .ref o91, .ref o99, .ref o111, .ref o123, .int v125])), (o123, .inl (cI, 5, .inl fw124))]) sz)) 0 0 (va_A ([(o1, .inr (11, [.ref o2, .ref o7, .ref o12, .ref o41, .ref o51, .ref o64, .ref o77, .ref o84, .ref o91, .ref o99, .ref o111, .ref o123, .int v125])), (o123, .inl (cI, 5, .inl fw124))]) sz) := by
  refine Met.ofW (cc := cX11_found) (maxL := 2) (ret := (some .int)) (by decide) rfl ?_
  intro p e s m args below meth c s₁ B hml hv
  obtain ⟨rfl, hsz, hP, hK, hD0, hN⟩ := hv
  have hx := B.exec
  have hb := B.bytes
  have hr := B.returns
  have hts := atoms_spec (ws := wsX11_found) B.pre
  have hown : s.vm.findClass RX11 = some m.cls := findClass_of_methodNamed B.named
  have hlocks := B.notSynchronized
  subst hsz
  have hD := hD0.self (sz := s.heap.size)
  generalize hAe : va_A ([(o1, .inr (11, [.ref o2, .ref o7, .ref o12, .ref o41, .ref o51, .ref o64, .ref o77, .ref o84, .ref o91, .ref o99, .ref o111, .ref o123, .int v125])), (o123, .inl (cI, 5, .inl fw124))]) s.heap.size = A at hD ⊢
  have hA : ∀ q : Nat, s.heap.size ≤ q → A q := fun q h => by rw [← hAe]; exact Or.inr h
  have hS : va_S A s.heap s.heap [] := va_S.rf
  have hP : va_P (dC, dI) vwCl ([(o1, .inr (11, [.ref o2, .ref o7, .ref o12, .ref o41, .ref o51, .ref o64, .ref o77, .ref o84, .ref o91, .ref o99, .ref o111, .ref o123, .int v125])), (o123, .inl (cI, 5, .inl fw124))]) s.heap := hP
  have hl := lv_entry ([.ref o1, .int a1]) (n := 2) (Nat.le_of_ble_eq_true rfl)
  rw [lg_entry_eq]
  generalize (lg_sl ([.ref o1, .int a1]) ++ List.replicate (2 - (lg_sl ([.ref o1, .int a1])).length) Slot.unset).toArray = ls at hl ⊢
  have hl : lv_has ls 2 [(0, .ref o1), (1, .int a1)] := hl
  refine gen_Q (fun Q hQ => ?_)
  refine lv_aload_n hx hb dX11_found_0 rfl (lv_at hl 0 rfl) ?_
  refine lv_iload_n hx hb dX11_found_1 rfl (lv_at hl 1 rfl) ?_
  refine va_put (D := (dC, dI)) (ci := 11) (v := .int a1) (ty := .int) (C := RX11) (T := TX11) (N := 13) hx hb hts iw_X11_found_X11 tyX11 tyX11_ok nmX11 hown hK hP hD hS 0 rfl rfl 12 (by decide) (hts (.fieldLink RX11 86 "HolelessHouse" "latest" "I") hm_X11_found_1) (fun _ h9 => h9) rfl (by decide +kernel) rfl rfl (Nat.le_of_ble_eq_true rfl) dX11_found_2 (fun H locs hP hD hS => ?_)
  have hP : va_P (dC, dI) vwCl ([(o1, .inr (11, [.ref o2, .ref o7, .ref o12, .ref o41, .ref o51, .ref o64, .ref o77, .ref o84, .ref o91, .ref o99, .ref o111, .ref o123, .int a1])), (o123, .inl (cI, 5, .inl fw124))]) H := hP
  have hD : va_D A ([(o1, .inr (11, [.ref o2, .ref o7, .ref o12, .ref o41, .ref o51, .ref o64, .ref o77, .ref o84, .ref o91, .ref o99, .ref o111, .ref o123, .int a1])), (o123, .inl (cI, 5, .inl fw124))]) := hD
  refine lv_aload_n hx hb dX11_found_5 rfl (lv_at hl 0 rfl) ?_
  refine va_get (D := (dC, dI)) (ci := 11) (v := .ref o123) (C := RX11) (T := TX11) (N := 13) hx hb hts iw_X11_found_X11 hown hK hP 0 rfl rfl 11 (by decide) (hts (.fieldLink RX11 82 "HolelessHouse" "timesFound" "[I") hm_X11_found_2) (fun _ h9 => h9) rfl dX11_found_6 ?_
  refine lv_iload_n hx hb dX11_found_9 rfl (lv_at hl 1 rfl) ?_
  refine lv_dup2_11 hx hb dX11_found_10 rfl rfl ?_
  refine va_iald hx hb hK hP 1 0 rfl rfl (vin_iv a1_h (by decide)) dX11_found_11 (lv_topi (fun x1 x1_e => ?_))
  refine lv_iconst (v := 1) hx hb dX11_found_12 (by decide) ?_
  refine lv_iadd hx hb dX11_found_13 (lv_topi (fun x2 x2_e => ?_))
  refine k_iast hx hb hK hP hD hS 1 0 rfl rfl (vin_iv a1_h (by decide)) dX11_found_14 (fun f3 H locs f3_e hP hD hS => ?_)
  have hP : va_P (dC, dI) vwCl ([(o1, .inr (11, [.ref o2, .ref o7, .ref o12, .ref o41, .ref o51, .ref o64, .ref o77, .ref o84, .ref o91, .ref o99, .ref o111, .ref o123, .int a1])), (o123, .inl (cI, 5, .inl f3))]) H := hP
  have hD : va_D A ([(o1, .inr (11, [.ref o2, .ref o7, .ref o12, .ref o41, .ref o51, .ref o64, .ref o77, .ref o84, .ref o91, .ref o99, .ref o111, .ref o123, .int a1])), (o123, .inl (cI, 5, .inl f3))]) := hD
  refine lv_bipush (v := (-3)) hx hb dX11_found_15 (by decide) ?_
  rw [hQ]
  exact W.iret (v := (-3)) hx hb hr (fun t ht hW => ⟨⟨(-3), (a1, f3), rfl, ikm_3, by rw [ht]; exact hP, va_K.moved hW.alike hK, hD⟩, hS.F ht⟩) hS.2.2 dX11_found_17
theorem iw_X11_degree_X11 : ∀ w ∈ wsX110, w ∈ wsX11_degree := fun _ h => List.mem_cons.mpr (Or.inr (List.mem_append.mpr (Or.inl (List.mem_append.mpr (Or.inr h)))))
theorem iw_X11_degree_X4 : ∀ w ∈ wsX40, w ∈ wsX11_degree := fun _ h => List.mem_cons.mpr (Or.inr (List.mem_append.mpr (Or.inr h)))
set_option maxHeartbeats 4000000 in
set_option maxRecDepth 100000 in
theorem kX11_degree_1 (l : Launch) (dC : Nat → ClassId) (dI : Nat → Nat → Nat) (cI c2 cZ : ClassId) (o1 : Nat) (o2 : Nat) (o7 : Nat) (o12 : Nat) (o41 : Nat) (o51 : Nat) (o64 : Nat) (o77 : Nat) (o84 : Nat) (o91 : Nat) (o99 : Nat) (o111 : Nat) (o123 : Nat) (o3 : Nat) (fw4 : Nat → Int32) (v5 : Int32) (v6 : Int32) (fw124 : Nat → Int32) (v125 : Int32) (a1 : Int32) (a2 : Int32) (sz : Nat) (fw4_b : Bd 12 0 4095 fw4) (v5_h : Iv 0 12 v5) : Met l yX11_degree wsX11_degree ({ frames := 3, cells := 0, slots := 0, locals := 66 }) (va_Pc [.ref o1, .int a1, .int a2] (wPre (dC, dI) [(cI, .int), (c2, .array .int), (cZ, .boolean)] ([(o1, .inr (11, [.ref o2, .ref o7, .ref o12, .ref o41, .ref o51, .ref o64, .ref o77, .ref o84, .ref o91, .ref o99, .ref o111, .ref o123, .int v125])), (o2, .inr (4, [.ref o3, .int v5, .int v6])), (o3, .inl (cI, 12, .inl fw4)), (o123, .inl (cI, 5, .inl fw124))]) sz)) (va_Qi (fun (r : Int32) (u : Int32 × (Nat → Int32)) => Iv (-3) 63 r) (fun u t => wPost (dC, dI) [(cI, .int), (c2, .array .int), (cZ, .boolean)] (va_A ([(o1, .inr (11, [.ref o2, .ref o7, .ref o12, .ref o41, .ref o51, .ref o64, .ref o77, .ref o84, .ref o91, .ref o99, .ref o111, .ref o123, .int v125])), (o2, .inr (4, [.ref o3, .int v5, .int v6])), (o3, .inl (cI, 12, .inl fw4)), (o123, .inl (cI, 5, .inl fw124))]) sz) ([(o1, .inr (11, [.ref o2, .ref o7, .ref o12, .ref o41, .ref o51, .ref o64, .ref o77, .ref o84, .ref o91, .ref o99, .ref o111, .ref o123, .int u.1])), (o2, .inr (4, [.ref o3, .int v5, .int v6])), (o3, .inl (cI, 12, .inl fw4)), (o123, .inl (cI, 5, .inl u.2))]) t) (va_A ([(o1, .inr (11, [.ref o2, .ref o7, .ref o12, .ref o41, .ref o51, .ref o64, .ref o77, .ref o84, .ref o91, .ref o99, .ref o111, .ref o123, .int v125])), (o2, .inr (4, [.ref o3, .int v5, .int v6])), (o3, .inl (cI, 12, .inl fw4)), (o123, .inl (cI, 5, .inl fw124))]) sz)) 0 0 (va_A ([(o1, .inr (11, [.ref o2, .ref o7, .ref o12, .ref o41, .ref o51, .ref o64, .ref o77, .ref o84, .ref o91, .ref o99, .ref o111, .ref o123, .int v125])), (o2, .inr (4, [.ref o3, .int v5, .int v6])), (o3, .inl (cI, 12, .inl fw4)), (o123, .inl (cI, 5, .inl fw124))]) sz) := by
  refine Met.ofW (cc := cX11_degree) (maxL := 3) (ret := (some .int)) (by decide) rfl ?_
  intro p e s m args below meth c s₁ B hml hv
  obtain ⟨rfl, hsz, hP, hK, hD0, hN⟩ := hv
  have hx := B.exec
  have hb := B.bytes
  have hr := B.returns
  have hts := atoms_spec (ws := wsX11_degree) B.pre
  have hown : s.vm.findClass RX11 = some m.cls := findClass_of_methodNamed B.named
  have hlocks := B.notSynchronized
  subst hsz
  have hD := hD0.self (sz := s.heap.size)
  generalize hAe : va_A ([(o1, .inr (11, [.ref o2, .ref o7, .ref o12, .ref o41, .ref o51, .ref o64, .ref o77, .ref o84, .ref o91, .ref o99, .ref o111, .ref o123, .int v125])), (o2, .inr (4, [.ref o3, .int v5, .int v6])), (o3, .inl (cI, 12, .inl fw4)), (o123, .inl (cI, 5, .inl fw124))]) s.heap.size = A at hD ⊢
  have hA : ∀ q : Nat, s.heap.size ≤ q → A q := fun q h => by rw [← hAe]; exact Or.inr h
  have hS : va_S A s.heap s.heap [] := va_S.rf
  have hP : va_P (dC, dI) vwCl ([(o1, .inr (11, [.ref o2, .ref o7, .ref o12, .ref o41, .ref o51, .ref o64, .ref o77, .ref o84, .ref o91, .ref o99, .ref o111, .ref o123, .int v125])), (o2, .inr (4, [.ref o3, .int v5, .int v6])), (o3, .inl (cI, 12, .inl fw4)), (o123, .inl (cI, 5, .inl fw124))]) s.heap := hP
  have hl := lv_entry ([.ref o1, .int a1, .int a2]) (n := 3) (Nat.le_of_ble_eq_true rfl)
  rw [lg_entry_eq]
  generalize (lg_sl ([.ref o1, .int a1, .int a2]) ++ List.replicate (3 - (lg_sl ([.ref o1, .int a1, .int a2])).length) Slot.unset).toArray = ls at hl ⊢
  have hl : lv_has ls 3 [(0, .ref o1), (1, .int a1), (2, .int a2)] := hl
  refine gen_Q (fun Q hQ => ?_)
  refine lv_aload_n hx hb dX11_degree_0 rfl (lv_at hl 0 rfl) ?_
  refine va_get (D := (dC, dI)) (ci := 11) (v := .ref o2) (C := RX11) (T := TX11) (N := 13) hx hb hts iw_X11_degree_X11 hown hK hP 0 rfl rfl 0 (by decide) (hts (.fieldLink RX11 10 "HolelessHouse" "graph" "LHolelessHouse$Graph;") hm_X11_degree_1) (fun _ h9 => h9) rfl dX11_degree_1 ?_
  refine lv_iload_n hx hb dX11_degree_4 rfl (lv_at hl 1 rfl) ?_
  refine kc_i (D := (dC, dI)) (S := Unit) (wc := [(o2, .inr (4, [.ref o3, .int v5, .int v6]))]) (wr := [(o1, .inr (11, [.ref o2, .ref o7, .ref o12, .ref o41, .ref o51, .ref o64, .ref o77, .ref o84, .ref o91, .ref o99, .ref o111, .ref o123, .int v125])), (o3, .inl (cI, 12, .inl fw4)), (o123, .inl (cI, 5, .inl fw124))]) (w1 := fun _ => [(o2, .inr (4, [.ref o3, .int v5, .int v6]))]) (wn := fun _ => [(o1, .inr (11, [.ref o2, .ref o7, .ref o12, .ref o41, .ref o51, .ref o64, .ref o77, .ref o84, .ref o91, .ref o99, .ref o111, .ref o123, .int v125])), (o2, .inr (4, [.ref o3, .int v5, .int v6])), (o3, .inl (cI, 12, .inl fw4)), (o123, .inl (cI, 5, .inl fw124))]) (fun hPc hDc => va_runVN (As := [.int a1]) (rest := []) ⟨hx, hb, hml, hown, hts⟩ (kX4_has_1 l dC dI cI c2 cZ o2 o3 v5 v6 a1 s.heap.size v5_h) ⟨va_cnB 1 hts gX11_degree_X4_has_n93 rfl rfl rfl (hN.1 _ ns_66) (hts (.initialized RX4) hm_X11_degree_3) (by decide +kernel) ⟨Nat.le_of_ble_eq_true rfl, Nat.le_of_ble_eq_true rfl⟩, (hts (.instanceMethod yX4_has) hm_X11_degree_2), (hts (.selects RX4 yX4_has yX4_has) hm_X11_degree_4)⟩ (pre_V hPc hK hDc hN (ci := 4) (q0 := 0) rfl rfl) rfl rfl hl.1 rfl (lv_room (Nat.le_of_ble_eq_true rfl)) dX11_degree_5 ⟨Nat.le_of_ble_eq_true rfl, Nat.le_of_ble_eq_true rfl⟩) hP hD hS hA [1] [0, 2, 3] [0, 3, 1, 2] rfl rfl (by decide +kernel) (by decide +kernel) (by decide +kernel) (by decide +kernel) (fun _ => rfl) (fun x1 _ H locs hq hP hD hS => ?_)
  obtain ⟨x1_h, i2⟩ := hq
  have hP : va_P (dC, dI) vwCl ([(o1, .inr (11, [.ref o2, .ref o7, .ref o12, .ref o41, .ref o51, .ref o64, .ref o77, .ref o84, .ref o91, .ref o99, .ref o111, .ref o123, .int v125])), (o2, .inr (4, [.ref o3, .int v5, .int v6])), (o3, .inl (cI, 12, .inl fw4)), (o123, .inl (cI, 5, .inl fw124))]) H := hP
  have hD : va_D A ([(o1, .inr (11, [.ref o2, .ref o7, .ref o12, .ref o41, .ref o51, .ref o64, .ref o77, .ref o84, .ref o91, .ref o99, .ref o111, .ref o123, .int v125])), (o2, .inr (4, [.ref o3, .int v5, .int v6])), (o3, .inl (cI, 12, .inl fw4)), (o123, .inl (cI, 5, .inl fw124))]) := hD
  refine lv_if_eq (tgt := 20) hx hb dX11_degree_8 (by decide) (fun h3 => ?_) (fun h3 => ?_)
  ·
    have j4 : Iv 0 0 x1 := r_eq h3 ik_0
    refine lv_iconst (v := (-1)) hx hb dX11_degree_20 (by decide) ?_
    rw [hQ]
    exact W.iret (v := (-1)) hx hb hr (fun t ht hW => ⟨⟨(-1), (v125, fw124), rfl, (iv_w ikm_1 (by decide)), by rw [ht]; exact hP, va_K.moved hW.alike hK, hD⟩, hS.F ht⟩) hS.2.2 dX11_degree_21
  ·
    have j5 : Iv 1 1 x1 := r_nelo h3 x1_h ik_0 (by decide)
    have j6 : Iv 0 11 a1 := i2 h3
    refine lv_iload_n hx hb dX11_degree_11 rfl (lv_at hl 2 rfl) ?_
    refine lv_if_lt (tgt := 20) hx hb dX11_degree_12 (by decide) (fun h7 => ?_) (fun h7 => ?_)
    ·
      have qh7 := lt_i h7
      have j8 : Iv (-2147483648) (-1) a2 := r_ltl qh7 (iv_full a2) ik_0 (by decide)
      refine lv_iconst (v := (-1)) hx hb dX11_degree_20 (by decide) ?_
      rw [hQ]
      exact W.iret (v := (-1)) hx hb hr (fun t ht hW => ⟨⟨(-1), (v125, fw124), rfl, (iv_w ikm_1 (by decide)), by rw [ht]; exact hP, va_K.moved hW.alike hK, hD⟩, hS.F ht⟩) hS.2.2 dX11_degree_21
    ·
      have qh7 := nlt_i h7
      have j9 : Iv 0 2147483647 a2 := r_ler qh7 ik_0 (iv_full a2) (by decide)
      refine lv_iload_n hx hb dX11_degree_15 rfl (lv_at hl 2 rfl) ?_
      refine lv_iconst (v := 3) hx hb dX11_degree_16 (by decide) ?_
      refine lv_icmp_le (tgt := 22) hx hb dX11_degree_17 (by decide) (fun h10 => ?_) (fun h10 => ?_)
      ·
        have qh10 := le_i h10
        have j11 : Iv 0 3 a2 := r_lel qh10 j9 ik_3 (by decide)
        refine lv_aload_n hx hb dX11_degree_22 rfl (lv_at hl 0 rfl) ?_
        refine lv_iload_n hx hb dX11_degree_23 rfl (lv_at hl 1 rfl) ?_
        refine lv_iload_n hx hb dX11_degree_24 rfl (lv_at hl 2 rfl) ?_
        refine kc_i (D := (dC, dI)) (S := Unit) (wc := [(o1, .inr (11, [.ref o2, .ref o7, .ref o12, .ref o41, .ref o51, .ref o64, .ref o77, .ref o84, .ref o91, .ref o99, .ref o111, .ref o123, .int v125])), (o2, .inr (4, [.ref o3, .int v5, .int v6])), (o3, .inl (cI, 12, .inl fw4))]) (wr := [(o123, .inl (cI, 5, .inl fw124))]) (w1 := fun _ => [(o1, .inr (11, [.ref o2, .ref o7, .ref o12, .ref o41, .ref o51, .ref o64, .ref o77, .ref o84, .ref o91, .ref o99, .ref o111, .ref o123, .int v125])), (o2, .inr (4, [.ref o3, .int v5, .int v6])), (o3, .inl (cI, 12, .inl fw4))]) (wn := fun _ => [(o1, .inr (11, [.ref o2, .ref o7, .ref o12, .ref o41, .ref o51, .ref o64, .ref o77, .ref o84, .ref o91, .ref o99, .ref o111, .ref o123, .int v125])), (o2, .inr (4, [.ref o3, .int v5, .int v6])), (o3, .inl (cI, 12, .inl fw4)), (o123, .inl (cI, 5, .inl fw124))]) (fun hPc hDc => va_runV (As := [.int a1, .int a2]) (rest := []) ⟨hx, hb, hml, hown, hts⟩ (kX11_isKind_1 l dC dI cI c2 cZ o1 o2 o7 o12 o41 o51 o64 o77 o84 o91 o99 o111 o123 o3 fw4 v5 v6 v125 a1 a2 H.size fw4_b v5_h j6) (cwV 2 hts gX11_degree_X11_isKind rfl rfl rfl (by decide +kernel) ⟨Nat.le_of_ble_eq_true rfl, Nat.le_of_ble_eq_true rfl⟩) (pre_V hPc hK hDc hN (ci := 11) (q0 := 0) rfl rfl) rfl rfl hl.1 rfl (lv_room (Nat.le_of_ble_eq_true rfl)) dX11_degree_25 ⟨Nat.le_of_ble_eq_true rfl, Nat.le_of_ble_eq_true rfl⟩) hP hD hS hA [0, 1, 2] [3] [1, 2, 3, 0] rfl rfl (by decide +kernel) (by decide +kernel) (by decide +kernel) (by decide +kernel) (fun _ => rfl) (fun x12 _ H locs hq hP hD hS => ?_)
        have x12_h := hq
        have hP : va_P (dC, dI) vwCl ([(o1, .inr (11, [.ref o2, .ref o7, .ref o12, .ref o41, .ref o51, .ref o64, .ref o77, .ref o84, .ref o91, .ref o99, .ref o111, .ref o123, .int v125])), (o2, .inr (4, [.ref o3, .int v5, .int v6])), (o3, .inl (cI, 12, .inl fw4)), (o123, .inl (cI, 5, .inl fw124))]) H := hP
        have hD : va_D A ([(o1, .inr (11, [.ref o2, .ref o7, .ref o12, .ref o41, .ref o51, .ref o64, .ref o77, .ref o84, .ref o91, .ref o99, .ref o111, .ref o123, .int v125])), (o2, .inr (4, [.ref o3, .int v5, .int v6])), (o3, .inl (cI, 12, .inl fw4)), (o123, .inl (cI, 5, .inl fw124))]) := hD
        refine lv_if_ne (tgt := 37) hx hb dX11_degree_28 (by decide) (fun h13 => ?_) (fun h13 => ?_)
        ·
          have j14 : Iv 1 1 x12 := r_nelo h13 x12_h ik_0 (by decide)
          refine lv_aload_n hx hb dX11_degree_37 rfl (lv_at hl 0 rfl) ?_
          refine va_get (D := (dC, dI)) (ci := 11) (v := .ref o2) (C := RX11) (T := TX11) (N := 13) hx hb hts iw_X11_degree_X11 hown hK hP 0 rfl rfl 0 (by decide) (hts (.fieldLink RX11 10 "HolelessHouse" "graph" "LHolelessHouse$Graph;") hm_X11_degree_1) (fun _ h9 => h9) rfl dX11_degree_38 ?_
          refine va_getN (D := (dC, dI)) (ci := 4) (v := .ref o3) (C := RX4) (T := TX4) (N := 3) hx hb hts iw_X11_degree_X4 hown hK hP 1 rfl rfl 0 (by decide) (hN.use ns_5) (fun _ h9 => h9) rfl dX11_degree_41 ?_
          refine lv_iload_n hx hb dX11_degree_44 rfl (lv_at hl 1 rfl) ?_
          refine va_iald hx hb hK hP 2 0 rfl rfl (vin_iv j6 (by decide)) dX11_degree_45 (lv_topi (fun x15 x15_e => ?_))
          have x15_h : Iv 0 4095 x15 := iv_e x15_e (bd_at fw4_b (vin_iv j6 (by decide)))
          refine kc_i (D := (dC, dI)) (S := Unit) (wc := []) (wr := [(o1, .inr (11, [.ref o2, .ref o7, .ref o12, .ref o41, .ref o51, .ref o64, .ref o77, .ref o84, .ref o91, .ref o99, .ref o111, .ref o123, .int v125])), (o2, .inr (4, [.ref o3, .int v5, .int v6])), (o3, .inl (cI, 12, .inl fw4)), (o123, .inl (cI, 5, .inl fw124))]) (w1 := fun _ => []) (wn := fun _ => [(o1, .inr (11, [.ref o2, .ref o7, .ref o12, .ref o41, .ref o51, .ref o64, .ref o77, .ref o84, .ref o91, .ref o99, .ref o111, .ref o123, .int v125])), (o2, .inr (4, [.ref o3, .int v5, .int v6])), (o3, .inl (cI, 12, .inl fw4)), (o123, .inl (cI, 5, .inl fw124))]) (fun hPc hDc => va_runS (As := [.int x15]) (rest := []) ⟨hx, hb, hml, hown, hts⟩ (kJ6_bitCount_0f7a4_1 l dC dI cI c2 cZ x15 H.size) (va_cwS 1 hts gX11_degree_J6_bitCount_0f7a4 rfl rfl rfl (by decide +kernel) ⟨Nat.le_of_ble_eq_true rfl, Nat.le_of_ble_eq_true rfl⟩) (pre_S hPc hK hDc hN) rfl rfl hl.1 rfl (lv_room (Nat.le_of_ble_eq_true rfl)) dX11_degree_46 ⟨Nat.le_of_ble_eq_true rfl, Nat.le_of_ble_eq_true rfl⟩) hP hD hS hA [] [0, 1, 2, 3] [0, 1, 2, 3] rfl rfl (by decide +kernel) (by decide +kernel) (by decide +kernel) (by decide +kernel) (fun _ => rfl) (fun x16 _ H locs hq hP hD hS => ?_)
          have x16_h := hq
          have hP : va_P (dC, dI) vwCl ([(o1, .inr (11, [.ref o2, .ref o7, .ref o12, .ref o41, .ref o51, .ref o64, .ref o77, .ref o84, .ref o91, .ref o99, .ref o111, .ref o123, .int v125])), (o2, .inr (4, [.ref o3, .int v5, .int v6])), (o3, .inl (cI, 12, .inl fw4)), (o123, .inl (cI, 5, .inl fw124))]) H := hP
          have hD : va_D A ([(o1, .inr (11, [.ref o2, .ref o7, .ref o12, .ref o41, .ref o51, .ref o64, .ref o77, .ref o84, .ref o91, .ref o99, .ref o111, .ref o123, .int v125])), (o2, .inr (4, [.ref o3, .int v5, .int v6])), (o3, .inl (cI, 12, .inl fw4)), (o123, .inl (cI, 5, .inl fw124))]) := hD
          rw [hQ]
          exact W.iret (v := x16) hx hb hr (fun t ht hW => ⟨⟨x16, (v125, fw124), rfl, (iv_w x16_h (by decide)), by rw [ht]; exact hP, va_K.moved hW.alike hK, hD⟩, hS.F ht⟩) hS.2.2 dX11_degree_49
        ·
          have j17 : Iv 0 0 x12 := r_eq h13 ik_0
          refine lv_aload_n hx hb dX11_degree_31 rfl (lv_at hl 0 rfl) ?_
          refine lv_iconst (v := 3) hx hb dX11_degree_32 (by decide) ?_
          refine kc_i (D := (dC, dI)) (S := Int32 × (Nat → Int32)) (wc := [(o1, .inr (11, [.ref o2, .ref o7, .ref o12, .ref o41, .ref o51, .ref o64, .ref o77, .ref o84, .ref o91, .ref o99, .ref o111, .ref o123, .int v125])), (o123, .inl (cI, 5, .inl fw124))]) (wr := [(o2, .inr (4, [.ref o3, .int v5, .int v6])), (o3, .inl (cI, 12, .inl fw4))]) (w1 := fun u => [(o1, .inr (11, [.ref o2, .ref o7, .ref o12, .ref o41, .ref o51, .ref o64, .ref o77, .ref o84, .ref o91, .ref o99, .ref o111, .ref o123, .int u.1])), (o123, .inl (cI, 5, .inl u.2))]) (wn := fun u => [(o1, .inr (11, [.ref o2, .ref o7, .ref o12, .ref o41, .ref o51, .ref o64, .ref o77, .ref o84, .ref o91, .ref o99, .ref o111, .ref o123, .int u.1])), (o2, .inr (4, [.ref o3, .int v5, .int v6])), (o3, .inl (cI, 12, .inl fw4)), (o123, .inl (cI, 5, .inl u.2))]) (fun hPc hDc => va_runV (As := [.int 3]) (rest := []) ⟨hx, hb, hml, hown, hts⟩ (kX11_found_1 l dC dI cI c2 cZ o1 o2 o7 o12 o41 o51 o64 o77 o84 o91 o99 o111 o123 fw124 v125 3 H.size ik_3) (cwV 1 hts gX11_degree_X11_found rfl rfl rfl (by decide +kernel) ⟨Nat.le_of_ble_eq_true rfl, Nat.le_of_ble_eq_true rfl⟩) (pre_V hPc hK hDc hN (ci := 11) (q0 := 0) rfl rfl) rfl rfl hl.1 rfl (lv_room (Nat.le_of_ble_eq_true rfl)) dX11_degree_33 ⟨Nat.le_of_ble_eq_true rfl, Nat.le_of_ble_eq_true rfl⟩) hP hD hS hA [0, 3] [1, 2] [2, 0, 1, 3] rfl rfl (by decide +kernel) (by decide +kernel) (by decide +kernel) (by decide +kernel) (fun _ => rfl) (fun x20 u H locs hq hP hD hS => ?_)
          obtain ⟨y18, f19⟩ := u
          have x20_h := hq
          have hP : va_P (dC, dI) vwCl ([(o1, .inr (11, [.ref o2, .ref o7, .ref o12, .ref o41, .ref o51, .ref o64, .ref o77, .ref o84, .ref o91, .ref o99, .ref o111, .ref o123, .int y18])), (o2, .inr (4, [.ref o3, .int v5, .int v6])), (o3, .inl (cI, 12, .inl fw4)), (o123, .inl (cI, 5, .inl f19))]) H := hP
          have hD : va_D A ([(o1, .inr (11, [.ref o2, .ref o7, .ref o12, .ref o41, .ref o51, .ref o64, .ref o77, .ref o84, .ref o91, .ref o99, .ref o111, .ref o123, .int y18])), (o2, .inr (4, [.ref o3, .int v5, .int v6])), (o3, .inl (cI, 12, .inl fw4)), (o123, .inl (cI, 5, .inl f19))]) := hD
          rw [hQ]
          exact W.iret (v := x20) hx hb hr (fun t ht hW => ⟨⟨x20, (y18, f19), rfl, (iv_w x20_h (by decide)), by rw [ht]; exact hP, va_K.moved hW.alike hK, hD⟩, hS.F ht⟩) hS.2.2 dX11_degree_36
      ·
        have qh10 := nle_i h10
        have j21 : Iv 4 2147483647 a2 := r_ltr qh10 ik_3 j9 (by decide)
        refine lv_iconst (v := (-1)) hx hb dX11_degree_20 (by decide) ?_
        rw [hQ]
        exact W.iret (v := (-1)) hx hb hr (fun t ht hW => ⟨⟨(-1), (v125, fw124), rfl, (iv_w ikm_1 (by decide)), by rw [ht]; exact hP, va_K.moved hW.alike hK, hD⟩, hS.F ht⟩) hS.2.2 dX11_degree_21
theorem iw_X3_start_X3 : ∀ w ∈ wsX30, w ∈ wsX3_start := fun _ h => List.mem_cons.mpr (Or.inr (List.mem_append.mpr (Or.inr h)))
theorem iw_X3_start_X4 : ∀ w ∈ wsX40, w ∈ wsX3_start := fun _ h => List.mem_cons.mpr (Or.inr (List.mem_append.mpr (Or.inl (List.mem_append.mpr (Or.inr h)))))
set_option maxHeartbeats 4000000 in
set_option maxRecDepth 100000 in
theorem kX3_start_1 (l : Launch) (dC : Nat → ClassId) (dI : Nat → Nat → Nat) (cI c2 cZ : ClassId) (o1 : Nat) (o6 : Nat) (o7 : Nat) (o2 : Nat) (rw3 : Nat → Nat) (Gw4 : Nat → Nat → Int32) (v5 : Int32) (fw8 : Nat → Int32) (v9 : Int32) (v10 : Int32) (sz : Nat) (Gw4_b : Bg 13 12 0 4095 Gw4) (v5_h : Iv 0 12 v5) (fw8_b : Bd 12 0 4095 fw8) (v9_h : Iv 0 12 v9) : Met l yX3_start wsX3_start ({ frames := 1, cells := 0, slots := 0, locals := 64 }) (va_Pc [.ref o1, .ref o6] (wPre (dC, dI) [(cI, .int), (c2, .array .int), (cZ, .boolean)] (([(o6, .inr (4, [.ref o7, .int v9, .int v10])), (o1, .inr (3, [.ref o2, .int v5])), (o2, .inl (c2, 13, .inr (.inr (.inr (.inr (fun i => if i < 13 then some (rw3 i) else none)))))), (o7, .inl (cI, 12, .inl fw8))] : va_W) ++ (gr13 rw3 cI 12 Gw4 ++ ([] : va_W))) sz)) (va_Qv (fun (u : Int32 × (Nat → Nat → Int32)) => Iv 0 12 u.1 ∧ Bg 13 12 0 4095 u.2) (fun u t => wPost (dC, dI) [(cI, .int), (c2, .array .int), (cZ, .boolean)] (va_A (([(o6, .inr (4, [.ref o7, .int v9, .int v10])), (o1, .inr (3, [.ref o2, .int v5])), (o2, .inl (c2, 13, .inr (.inr (.inr (.inr (fun i => if i < 13 then some (rw3 i) else none)))))), (o7, .inl (cI, 12, .inl fw8))] : va_W) ++ (gr13 rw3 cI 12 Gw4 ++ ([] : va_W))) sz) (([(o6, .inr (4, [.ref o7, .int v9, .int v10])), (o1, .inr (3, [.ref o2, .int u.1])), (o2, .inl (c2, 13, .inr (.inr (.inr (.inr (fun i => if i < 13 then some (rw3 i) else none)))))), (o7, .inl (cI, 12, .inl fw8))] : va_W) ++ (gr13 rw3 cI 12 u.2 ++ ([] : va_W))) t) (va_A (([(o6, .inr (4, [.ref o7, .int v9, .int v10])), (o1, .inr (3, [.ref o2, .int v5])), (o2, .inl (c2, 13, .inr (.inr (.inr (.inr (fun i => if i < 13 then some (rw3 i) else none)))))), (o7, .inl (cI, 12, .inl fw8))] : va_W) ++ (gr13 rw3 cI 12 Gw4 ++ ([] : va_W))) sz)) 0 0 (va_A (([(o6, .inr (4, [.ref o7, .int v9, .int v10])), (o1, .inr (3, [.ref o2, .int v5])), (o2, .inl (c2, 13, .inr (.inr (.inr (.inr (fun i => if i < 13 then some (rw3 i) else none)))))), (o7, .inl (cI, 12, .inl fw8))] : va_W) ++ (gr13 rw3 cI 12 Gw4 ++ ([] : va_W))) sz) := by
  refine Met.ofW (cc := cX3_start) (maxL := 2) (ret := none) (by decide) rfl ?_
  intro p e s m args below meth c s₁ B hml hv
  obtain ⟨rfl, hsz, hP, hK, hD0, hN⟩ := hv
  have hx := B.exec
  have hb := B.bytes
  have hr := B.returns
  have hts := atoms_spec (ws := wsX3_start) B.pre
  have hown : s.vm.findClass RX3 = some m.cls := findClass_of_methodNamed B.named
  have hlocks := B.notSynchronized
  subst hsz
  have hD := hD0.self (sz := s.heap.size)
  generalize hAe : va_A (([(o6, .inr (4, [.ref o7, .int v9, .int v10])), (o1, .inr (3, [.ref o2, .int v5])), (o2, .inl (c2, 13, .inr (.inr (.inr (.inr (fun i => if i < 13 then some (rw3 i) else none)))))), (o7, .inl (cI, 12, .inl fw8))] : va_W) ++ (gr13 rw3 cI 12 Gw4 ++ ([] : va_W))) s.heap.size = A at hD ⊢
  have hA : ∀ q : Nat, s.heap.size ≤ q → A q := fun q h => by rw [← hAe]; exact Or.inr h
  have hS : va_S A s.heap s.heap [] := va_S.rf
  have hP : va_P (dC, dI) vwCl (([(o6, .inr (4, [.ref o7, .int v9, .int v10])), (o1, .inr (3, [.ref o2, .int v5])), (o2, .inl (c2, 13, .inr (.inr (.inr (.inr (fun i => if i < 13 then some (rw3 i) else none)))))), (o7, .inl (cI, 12, .inl fw8))] : va_W) ++ (gr13 rw3 cI 12 Gw4 ++ ([] : va_W))) s.heap := hP
  have hl := lv_entry ([.ref o1, .ref o6]) (n := 2) (Nat.le_of_ble_eq_true rfl)
  rw [lg_entry_eq]
  generalize (lg_sl ([.ref o1, .ref o6]) ++ List.replicate (2 - (lg_sl ([.ref o1, .ref o6])).length) Slot.unset).toArray = ls at hl ⊢
  have hl : lv_has ls 2 [(0, .ref o1), (1, .ref o6)] := hl
  refine gen_Q (fun Q hQ => ?_)
  refine lv_aload_n hx hb dX3_start_0 rfl (lv_at hl 0 rfl) ?_
  refine lv_aload_n hx hb dX3_start_1 rfl (lv_at hl 1 rfl) ?_
  refine va_getN (D := (dC, dI)) (ci := 4) (v := .int v9) (C := RX4) (T := TX4) (N := 3) hx hb hts iw_X3_start_X4 hown hK hP 0 rfl rfl 1 (by decide) (hN.use ns_7) (fun _ h9 => h9) rfl dX3_start_2 ?_
  refine va_put (D := (dC, dI)) (ci := 3) (v := .int v9) (ty := .int) (C := RX3) (T := TX3) (N := 2) hx hb hts iw_X3_start_X3 tyX3 tyX3_ok nmX3 hown hK hP hD hS 1 rfl rfl 1 (by decide) (hts (.fieldLink RX3 16 "HolelessHouse$Going" "size" "I") hm_X3_start_1) (fun _ h9 => h9) rfl (by decide +kernel) rfl rfl (Nat.le_of_ble_eq_true rfl) dX3_start_5 (fun H locs hP hD hS => ?_)
  have hP : va_P (dC, dI) vwCl (([(o6, .inr (4, [.ref o7, .int v9, .int v10])), (o1, .inr (3, [.ref o2, .int v9])), (o2, .inl (c2, 13, .inr (.inr (.inr (.inr (fun i => if i < 13 then some (rw3 i) else none)))))), (o7, .inl (cI, 12, .inl fw8))] : va_W) ++ (gr13 rw3 cI 12 Gw4 ++ ([] : va_W))) H := hP
  have hD : va_D A (([(o6, .inr (4, [.ref o7, .int v9, .int v10])), (o1, .inr (3, [.ref o2, .int v9])), (o2, .inl (c2, 13, .inr (.inr (.inr (.inr (fun i => if i < 13 then some (rw3 i) else none)))))), (o7, .inl (cI, 12, .inl fw8))] : va_W) ++ (gr13 rw3 cI 12 Gw4 ++ ([] : va_W))) := hD
  refine lv_aload_n hx hb dX3_start_8 rfl (lv_at hl 1 rfl) ?_
  refine va_getN (D := (dC, dI)) (ci := 4) (v := .ref o7) (C := RX4) (T := TX4) (N := 3) hx hb hts iw_X3_start_X4 hown hK hP 0 rfl rfl 0 (by decide) (hN.use ns_0) (fun _ h9 => h9) rfl dX3_start_9 ?_
  refine lv_iconst (v := 0) hx hb dX3_start_12 (by decide) ?_
  refine lv_aload_n hx hb dX3_start_13 rfl (lv_at hl 0 rfl) ?_
  refine va_get (D := (dC, dI)) (ci := 3) (v := .ref o2) (C := RX3) (T := TX3) (N := 2) hx hb hts iw_X3_start_X3 hown hK hP 1 rfl rfl 0 (by decide) (hts (.fieldLink RX3 11 "HolelessHouse$Going" "near" "[[I") hm_X3_start_2) (fun _ h9 => h9) rfl dX3_start_14 ?_
  refine lv_iconst (v := 0) hx hb dX3_start_17 (by decide) ?_
  refine va_alda hx hb hK hP 2 1 rfl rfl (vin_iv ik_0 (by decide)) dX3_start_18 (tk_r (v := .ref (rw3 0)) rfl ?_)
  refine lv_iconst (v := 0) hx hb dX3_start_19 (by decide) ?_
  refine lv_bipush (v := 12) hx hb dX3_start_20 (by decide) ?_
  refine k_gcpy13 (i0 := 0) hx hb (hml.trans hl.1.symm) hown (hts (.methodLink RX3 26 arraycopyName) hm_X3_start_3) (hts (.native arraycopyName) hm_X3_start_4) (hts (.static arraycopyName) hm_X3_start_5) (hts (.initialized "java/lang/System") hm_X3_start_6) hK (pre := ([(o6, .inr (4, [.ref o7, .int v9, .int v10])), (o1, .inr (3, [.ref o2, .int v9])), (o2, .inl (c2, 13, .inr (.inr (.inr (.inr (fun i => if i < 13 then some (rw3 i) else none)))))), (o7, .inl (cI, 12, .inl fw8))] : va_W)) (po := ([] : va_W)) hP hD hS rfl (by decide) 3 0 rfl rfl (by decide) (by decide) (by decide) (by decide +kernel) (by decide +kernel) (Nat.le_of_ble_eq_true rfl) (by decide +kernel) dX3_start_22 (fun f1 G2 H locs f1_e G2_e hP hD hS => ?_)
  have G2_b : Bg 13 12 0 4095 G2 := bg_up G2_e Gw4_b (bd_cpy f1_e fw8_b (Gw4_b _ (by decide)) (by decide +kernel))
  have hP : va_P (dC, dI) vwCl (([(o6, .inr (4, [.ref o7, .int v9, .int v10])), (o1, .inr (3, [.ref o2, .int v9])), (o2, .inl (c2, 13, .inr (.inr (.inr (.inr (fun i => if i < 13 then some (rw3 i) else none)))))), (o7, .inl (cI, 12, .inl fw8))] : va_W) ++ (gr13 rw3 cI 12 G2 ++ ([] : va_W))) H := by simpa only [List.append_assoc] using hP
  have hD : va_D A (([(o6, .inr (4, [.ref o7, .int v9, .int v10])), (o1, .inr (3, [.ref o2, .int v9])), (o2, .inl (c2, 13, .inr (.inr (.inr (.inr (fun i => if i < 13 then some (rw3 i) else none)))))), (o7, .inl (cI, 12, .inl fw8))] : va_W) ++ (gr13 rw3 cI 12 G2 ++ ([] : va_W))) := by simpa only [List.append_assoc] using hD
  rw [hQ]
  exact W.vret hx hb hr (fun t ht hW => ⟨⟨(v9, G2), rfl, ⟨v9_h, G2_b⟩, by rw [ht]; exact hP, va_K.moved hW.alike hK, hD⟩, hS.F ht⟩) hS.2.2 dX3_start_25
set_option maxHeartbeats 4000000 in
set_option maxRecDepth 100000 in
theorem kJ6_numberOfTrailingZeros_0f7a4_1 (l : Launch) (dC : Nat → ClassId) (dI : Nat → Nat → Nat) (cI c2 cZ : ClassId) (a0 : Int32) (sz : Nat) (a0_h : Iv 1 4095 a0) : Met l yJ6_numberOfTrailingZeros_0f7a4 wsJ6_numberOfTrailingZeros_0f7a4 ({ frames := 0, cells := 0, slots := 0, locals := 0 }) (va_Pc [.int a0] (wPre (dC, dI) [(cI, .int), (c2, .array .int), (cZ, .boolean)] ([]) sz)) (va_Qi (fun (r : Int32) (_ : Unit) => Iv 0 11 r) (fun _ t => wPost (dC, dI) [(cI, .int), (c2, .array .int), (cZ, .boolean)] (va_A ([]) sz) ([]) t) (va_A ([]) sz)) 0 0 (va_A ([]) sz) := by
  refine Met.ofW (cc := cJ6_numberOfTrailingZeros_0f7a4) (maxL := 2) (ret := (some .int)) (by decide) rfl ?_
  intro p e s m args below meth c s₁ B hml hv
  obtain ⟨rfl, hsz, hP, hK, hD0, hN⟩ := hv
  have hx := B.exec
  have hb := B.bytes
  have hr := B.returns
  have hts := atoms_spec (ws := wsJ6_numberOfTrailingZeros_0f7a4) B.pre
  have hown : s.vm.findClass RJ6 = some m.cls := findClass_of_methodNamed B.named
  have hlocks := B.notSynchronized
  subst hsz
  have hD := hD0.self (sz := s.heap.size)
  generalize hAe : va_A ([]) s.heap.size = A at hD ⊢
  have hA : ∀ q : Nat, s.heap.size ≤ q → A q := fun q h => by rw [← hAe]; exact Or.inr h
  have hS : va_S A s.heap s.heap [] := va_S.rf
  have hP : va_P (dC, dI) vwCl ([]) s.heap := hP
  have hl := lv_entry ([.int a0]) (n := 2) (Nat.le_of_ble_eq_true rfl)
  rw [lg_entry_eq]
  generalize (lg_sl ([.int a0]) ++ List.replicate (2 - (lg_sl ([.int a0])).length) Slot.unset).toArray = ls at hl ⊢
  have hl : lv_has ls 2 [(0, .int a0)] := hl
  refine gen_Q (fun Q hQ => ?_)
  refine lv_iload_n hx hb dJ6_numberOfTrailingZeros_0f7a4_0 rfl (lv_at hl 0 rfl) ?_
  refine lv_iconst (v := (-1)) hx hb dJ6_numberOfTrailingZeros_0f7a4_1 (by decide) ?_
  refine lv_ixor hx hb dJ6_numberOfTrailingZeros_0f7a4_2 (lv_topi (fun x1 x1_e => ?_))
  refine lv_iload_n hx hb dJ6_numberOfTrailingZeros_0f7a4_3 rfl (lv_at hl 0 rfl) ?_
  refine lv_iconst (v := 1) hx hb dJ6_numberOfTrailingZeros_0f7a4_4 (by decide) ?_
  refine lv_isub hx hb dJ6_numberOfTrailingZeros_0f7a4_5 (lv_topi (fun x2 x2_e => ?_))
  have x2_h : Iv 0 4094 x2 := iv_e x2_e (iv_sub a0_h ik_1 (by decide))
  refine lv_iand hx hb dJ6_numberOfTrailingZeros_0f7a4_6 (lv_topi (fun x3 x3_e => ?_))
  have x3_h : Iv 0 2047 x3 := iv_e x3_e (ntz_m x1_e x2_e a0_h)
  refine lv_istore_n (lv' := [(0, .int x3)]) hx hb dJ6_numberOfTrailingZeros_0f7a4_7 rfl hl (by decide) rfl (fun ls hl => ?_)
  refine lv_iload_n hx hb dJ6_numberOfTrailingZeros_0f7a4_8 rfl (lv_at hl 0 rfl) ?_
  refine lv_if_gt (tgt := 17) hx hb dJ6_numberOfTrailingZeros_0f7a4_9 (by decide) (fun h4 => ?_) (fun h4 => ?_)
  ·
    have qh4 := lt_i h4
    have j5 : Iv 1 2047 x3 := r_ltr qh4 ik_0 x3_h (by decide)
    refine lv_iconst (v := 1) hx hb dJ6_numberOfTrailingZeros_0f7a4_17 (by decide) ?_
    refine lv_istore_n (lv' := [(1, .int 1), (0, .int x3)]) hx hb dJ6_numberOfTrailingZeros_0f7a4_18 rfl hl (by decide) rfl (fun ls hl => ?_)
    refine lv_iload_n hx hb dJ6_numberOfTrailingZeros_0f7a4_19 rfl (lv_at hl 1 rfl) ?_
    refine lv_ldcw (v := 65536) hx hb hown (hts (.constant RJ6 264 (65536)) hm_J6_numberOfTrailingZeros_0f7a4_1) dJ6_numberOfTrailingZeros_0f7a4_20 ?_
    refine lv_icmp_le (tgt := 34) hx hb dJ6_numberOfTrailingZeros_0f7a4_23 (by decide) (fun _ => ?_) (fun h9 => absurd (d_le j5 ik_65536 (by decide)) h9)
    refine lv_iload_n hx hb dJ6_numberOfTrailingZeros_0f7a4_34 rfl (lv_at hl 1 rfl) ?_
    refine lv_sipush (v := 256) hx hb dJ6_numberOfTrailingZeros_0f7a4_35 (by decide) ?_
    refine lv_icmp_le (tgt := 49) hx hb dJ6_numberOfTrailingZeros_0f7a4_38 (by decide) (fun h6 => ?_) (fun h6 => ?_)
    ·
      have qh6 := le_i h6
      have j7 : Iv 1 256 x3 := r_lel qh6 j5 ik_256 (by decide)
      refine lv_iload_n hx hb dJ6_numberOfTrailingZeros_0f7a4_49 rfl (lv_at hl 1 rfl) ?_
      refine lv_bipush (v := 16) hx hb dJ6_numberOfTrailingZeros_0f7a4_50 (by decide) ?_
      refine lv_icmp_le (tgt := 62) hx hb dJ6_numberOfTrailingZeros_0f7a4_52 (by decide) (fun h8 => ?_) (fun h8 => ?_)
      ·
        have qh8 := le_i h8
        have j9 : Iv 1 16 x3 := r_lel qh8 j7 ik_16 (by decide)
        refine lv_iload_n hx hb dJ6_numberOfTrailingZeros_0f7a4_62 rfl (lv_at hl 1 rfl) ?_
        refine lv_iconst (v := 4) hx hb dJ6_numberOfTrailingZeros_0f7a4_63 (by decide) ?_
        refine lv_icmp_le (tgt := 74) hx hb dJ6_numberOfTrailingZeros_0f7a4_64 (by decide) (fun h10 => ?_) (fun h10 => ?_)
        ·
          have qh10 := le_i h10
          have j11 : Iv 1 4 x3 := r_lel qh10 j9 ik_4 (by decide)
          refine lv_iload_n hx hb dJ6_numberOfTrailingZeros_0f7a4_74 rfl (lv_at hl 0 rfl) ?_
          refine lv_iload_n hx hb dJ6_numberOfTrailingZeros_0f7a4_75 rfl (lv_at hl 1 rfl) ?_
          refine lv_iconst (v := 1) hx hb dJ6_numberOfTrailingZeros_0f7a4_76 (by decide) ?_
          obtain ⟨x12, x12_e⟩ : ∃ z : Int32, z = (Int32.toUInt32 x3 >>> (Int32.toUInt32 1 &&& Int32.toUInt32 31)).toInt32 := ⟨_, rfl⟩
          refine lv_iushr (v := x12) hx hb dJ6_numberOfTrailingZeros_0f7a4_77 x12_e.symm ?_
          have x12_h : Iv 0 2 x12 := iv_e x12_e (iv_ushr 1 j11 (by decide +kernel) (by decide))
          refine lv_iadd hx hb dJ6_numberOfTrailingZeros_0f7a4_78 (lv_topi (fun x13 x13_e => ?_))
          have x13_h : Iv 1 3 x13 := iv_e x13_e (iv_add ik_1 x12_h (by decide))
          rw [hQ]
          exact W.iret (v := x13) hx hb hr (fun t ht hW => ⟨⟨x13, (), rfl, (iv_w x13_h (by decide)), by rw [ht]; exact hP, va_K.moved hW.alike hK, hD⟩, hS.F ht⟩) hS.2.2 dJ6_numberOfTrailingZeros_0f7a4_79
        ·
          have qh10 := nle_i h10
          have j14 : Iv 5 16 x3 := r_ltr qh10 ik_4 j9 (by decide)
          refine lv_iinc (v := 3) (lv' := [(1, .int 3), (0, .int x3)]) hx hb dJ6_numberOfTrailingZeros_0f7a4_67 hl (k := 0) rfl (by decide +kernel) (by decide) rfl (fun ls hl => ?_)
          refine lv_iload_n hx hb dJ6_numberOfTrailingZeros_0f7a4_70 rfl (lv_at hl 1 rfl) ?_
          refine lv_iconst (v := 2) hx hb dJ6_numberOfTrailingZeros_0f7a4_71 (by decide) ?_
          obtain ⟨x15, x15_e⟩ : ∃ z : Int32, z = (Int32.toUInt32 x3 >>> (Int32.toUInt32 2 &&& Int32.toUInt32 31)).toInt32 := ⟨_, rfl⟩
          refine lv_iushr (v := x15) hx hb dJ6_numberOfTrailingZeros_0f7a4_72 x15_e.symm ?_
          have x15_h : Iv 1 4 x15 := iv_e x15_e (iv_ushr 2 j14 (by decide +kernel) (by decide))
          refine lv_istore_n (lv' := [(0, .int x15), (1, .int 3)]) hx hb dJ6_numberOfTrailingZeros_0f7a4_73 rfl hl (by decide) rfl (fun ls hl => ?_)
          refine lv_iload_n hx hb dJ6_numberOfTrailingZeros_0f7a4_74 rfl (lv_at hl 1 rfl) ?_
          refine lv_iload_n hx hb dJ6_numberOfTrailingZeros_0f7a4_75 rfl (lv_at hl 0 rfl) ?_
          refine lv_iconst (v := 1) hx hb dJ6_numberOfTrailingZeros_0f7a4_76 (by decide) ?_
          obtain ⟨x16, x16_e⟩ : ∃ z : Int32, z = (Int32.toUInt32 x15 >>> (Int32.toUInt32 1 &&& Int32.toUInt32 31)).toInt32 := ⟨_, rfl⟩
          refine lv_iushr (v := x16) hx hb dJ6_numberOfTrailingZeros_0f7a4_77 x16_e.symm ?_
          have x16_h : Iv 0 2 x16 := iv_e x16_e (iv_ushr 1 x15_h (by decide +kernel) (by decide))
          refine lv_iadd hx hb dJ6_numberOfTrailingZeros_0f7a4_78 (lv_topi (fun x17 x17_e => ?_))
          have x17_h : Iv 3 5 x17 := iv_e x17_e (iv_add ik_3 x16_h (by decide))
          rw [hQ]
          exact W.iret (v := x17) hx hb hr (fun t ht hW => ⟨⟨x17, (), rfl, (iv_w x17_h (by decide)), by rw [ht]; exact hP, va_K.moved hW.alike hK, hD⟩, hS.F ht⟩) hS.2.2 dJ6_numberOfTrailingZeros_0f7a4_79
      ·
        have qh8 := nle_i h8
        have j18 : Iv 17 256 x3 := r_ltr qh8 ik_16 j7 (by decide)
        refine lv_iinc (v := 5) (lv' := [(1, .int 5), (0, .int x3)]) hx hb dJ6_numberOfTrailingZeros_0f7a4_55 hl (k := 0) rfl (by decide +kernel) (by decide) rfl (fun ls hl => ?_)
        refine lv_iload_n hx hb dJ6_numberOfTrailingZeros_0f7a4_58 rfl (lv_at hl 1 rfl) ?_
        refine lv_iconst (v := 4) hx hb dJ6_numberOfTrailingZeros_0f7a4_59 (by decide) ?_
        obtain ⟨x19, x19_e⟩ : ∃ z : Int32, z = (Int32.toUInt32 x3 >>> (Int32.toUInt32 4 &&& Int32.toUInt32 31)).toInt32 := ⟨_, rfl⟩
        refine lv_iushr (v := x19) hx hb dJ6_numberOfTrailingZeros_0f7a4_60 x19_e.symm ?_
        have x19_h : Iv 1 16 x19 := iv_e x19_e (iv_ushr 4 j18 (by decide +kernel) (by decide))
        refine lv_istore_n (lv' := [(0, .int x19), (1, .int 5)]) hx hb dJ6_numberOfTrailingZeros_0f7a4_61 rfl hl (by decide) rfl (fun ls hl => ?_)
        refine lv_iload_n hx hb dJ6_numberOfTrailingZeros_0f7a4_62 rfl (lv_at hl 0 rfl) ?_
        refine lv_iconst (v := 4) hx hb dJ6_numberOfTrailingZeros_0f7a4_63 (by decide) ?_
        refine lv_icmp_le (tgt := 74) hx hb dJ6_numberOfTrailingZeros_0f7a4_64 (by decide) (fun h20 => ?_) (fun h20 => ?_)
        ·
          have qh20 := le_i h20
          have j21 : Iv 1 4 x19 := r_lel qh20 x19_h ik_4 (by decide)
          refine lv_iload_n hx hb dJ6_numberOfTrailingZeros_0f7a4_74 rfl (lv_at hl 1 rfl) ?_
          refine lv_iload_n hx hb dJ6_numberOfTrailingZeros_0f7a4_75 rfl (lv_at hl 0 rfl) ?_
          refine lv_iconst (v := 1) hx hb dJ6_numberOfTrailingZeros_0f7a4_76 (by decide) ?_
          obtain ⟨x22, x22_e⟩ : ∃ z : Int32, z = (Int32.toUInt32 x19 >>> (Int32.toUInt32 1 &&& Int32.toUInt32 31)).toInt32 := ⟨_, rfl⟩
          refine lv_iushr (v := x22) hx hb dJ6_numberOfTrailingZeros_0f7a4_77 x22_e.symm ?_
          have x22_h : Iv 0 2 x22 := iv_e x22_e (iv_ushr 1 j21 (by decide +kernel) (by decide))
          refine lv_iadd hx hb dJ6_numberOfTrailingZeros_0f7a4_78 (lv_topi (fun x23 x23_e => ?_))
          have x23_h : Iv 5 7 x23 := iv_e x23_e (iv_add ik_5 x22_h (by decide))
          rw [hQ]
          exact W.iret (v := x23) hx hb hr (fun t ht hW => ⟨⟨x23, (), rfl, (iv_w x23_h (by decide)), by rw [ht]; exact hP, va_K.moved hW.alike hK, hD⟩, hS.F ht⟩) hS.2.2 dJ6_numberOfTrailingZeros_0f7a4_79
        ·
          have qh20 := nle_i h20
          have j24 : Iv 5 16 x19 := r_ltr qh20 ik_4 x19_h (by decide)
          refine lv_iinc (v := 7) (lv' := [(1, .int 7), (0, .int x19)]) hx hb dJ6_numberOfTrailingZeros_0f7a4_67 hl (k := 1) rfl (by decide +kernel) (by decide) rfl (fun ls hl => ?_)
          refine lv_iload_n hx hb dJ6_numberOfTrailingZeros_0f7a4_70 rfl (lv_at hl 1 rfl) ?_
          refine lv_iconst (v := 2) hx hb dJ6_numberOfTrailingZeros_0f7a4_71 (by decide) ?_
          obtain ⟨x25, x25_e⟩ : ∃ z : Int32, z = (Int32.toUInt32 x19 >>> (Int32.toUInt32 2 &&& Int32.toUInt32 31)).toInt32 := ⟨_, rfl⟩
          refine lv_iushr (v := x25) hx hb dJ6_numberOfTrailingZeros_0f7a4_72 x25_e.symm ?_
          have x25_h : Iv 1 4 x25 := iv_e x25_e (iv_ushr 2 j24 (by decide +kernel) (by decide))
          refine lv_istore_n (lv' := [(0, .int x25), (1, .int 7)]) hx hb dJ6_numberOfTrailingZeros_0f7a4_73 rfl hl (by decide) rfl (fun ls hl => ?_)
          refine lv_iload_n hx hb dJ6_numberOfTrailingZeros_0f7a4_74 rfl (lv_at hl 1 rfl) ?_
          refine lv_iload_n hx hb dJ6_numberOfTrailingZeros_0f7a4_75 rfl (lv_at hl 0 rfl) ?_
          refine lv_iconst (v := 1) hx hb dJ6_numberOfTrailingZeros_0f7a4_76 (by decide) ?_
          obtain ⟨x26, x26_e⟩ : ∃ z : Int32, z = (Int32.toUInt32 x25 >>> (Int32.toUInt32 1 &&& Int32.toUInt32 31)).toInt32 := ⟨_, rfl⟩
          refine lv_iushr (v := x26) hx hb dJ6_numberOfTrailingZeros_0f7a4_77 x26_e.symm ?_
          have x26_h : Iv 0 2 x26 := iv_e x26_e (iv_ushr 1 x25_h (by decide +kernel) (by decide))
          refine lv_iadd hx hb dJ6_numberOfTrailingZeros_0f7a4_78 (lv_topi (fun x27 x27_e => ?_))
          have x27_h : Iv 7 9 x27 := iv_e x27_e (iv_add ik_7 x26_h (by decide))
          rw [hQ]
          exact W.iret (v := x27) hx hb hr (fun t ht hW => ⟨⟨x27, (), rfl, (iv_w x27_h (by decide)), by rw [ht]; exact hP, va_K.moved hW.alike hK, hD⟩, hS.F ht⟩) hS.2.2 dJ6_numberOfTrailingZeros_0f7a4_79
    ·
      have qh6 := nle_i h6
      have j28 : Iv 257 2047 x3 := r_ltr qh6 ik_256 j5 (by decide)
      refine lv_iinc (v := 9) (lv' := [(1, .int 9), (0, .int x3)]) hx hb dJ6_numberOfTrailingZeros_0f7a4_41 hl (k := 0) rfl (by decide +kernel) (by decide) rfl (fun ls hl => ?_)
      refine lv_iload_n hx hb dJ6_numberOfTrailingZeros_0f7a4_44 rfl (lv_at hl 1 rfl) ?_
      refine lv_bipush (v := 8) hx hb dJ6_numberOfTrailingZeros_0f7a4_45 (by decide) ?_
      obtain ⟨x29, x29_e⟩ : ∃ z : Int32, z = (Int32.toUInt32 x3 >>> (Int32.toUInt32 8 &&& Int32.toUInt32 31)).toInt32 := ⟨_, rfl⟩
      refine lv_iushr (v := x29) hx hb dJ6_numberOfTrailingZeros_0f7a4_47 x29_e.symm ?_
      have x29_h : Iv 1 7 x29 := iv_e x29_e (iv_ushr 8 j28 (by decide +kernel) (by decide))
      refine lv_istore_n (lv' := [(0, .int x29), (1, .int 9)]) hx hb dJ6_numberOfTrailingZeros_0f7a4_48 rfl hl (by decide) rfl (fun ls hl => ?_)
      refine lv_iload_n hx hb dJ6_numberOfTrailingZeros_0f7a4_49 rfl (lv_at hl 0 rfl) ?_
      refine lv_bipush (v := 16) hx hb dJ6_numberOfTrailingZeros_0f7a4_50 (by decide) ?_
      refine lv_icmp_le (tgt := 62) hx hb dJ6_numberOfTrailingZeros_0f7a4_52 (by decide) (fun _ => ?_) (fun h9 => absurd (d_le x29_h ik_16 (by decide)) h9)
      refine lv_iload_n hx hb dJ6_numberOfTrailingZeros_0f7a4_62 rfl (lv_at hl 0 rfl) ?_
      refine lv_iconst (v := 4) hx hb dJ6_numberOfTrailingZeros_0f7a4_63 (by decide) ?_
      refine lv_icmp_le (tgt := 74) hx hb dJ6_numberOfTrailingZeros_0f7a4_64 (by decide) (fun h30 => ?_) (fun h30 => ?_)
      ·
        have qh30 := le_i h30
        have j31 : Iv 1 4 x29 := r_lel qh30 x29_h ik_4 (by decide)
        refine lv_iload_n hx hb dJ6_numberOfTrailingZeros_0f7a4_74 rfl (lv_at hl 1 rfl) ?_
        refine lv_iload_n hx hb dJ6_numberOfTrailingZeros_0f7a4_75 rfl (lv_at hl 0 rfl) ?_
        refine lv_iconst (v := 1) hx hb dJ6_numberOfTrailingZeros_0f7a4_76 (by decide) ?_
        obtain ⟨x32, x32_e⟩ : ∃ z : Int32, z = (Int32.toUInt32 x29 >>> (Int32.toUInt32 1 &&& Int32.toUInt32 31)).toInt32 := ⟨_, rfl⟩
        refine lv_iushr (v := x32) hx hb dJ6_numberOfTrailingZeros_0f7a4_77 x32_e.symm ?_
        have x32_h : Iv 0 2 x32 := iv_e x32_e (iv_ushr 1 j31 (by decide +kernel) (by decide))
        refine lv_iadd hx hb dJ6_numberOfTrailingZeros_0f7a4_78 (lv_topi (fun x33 x33_e => ?_))
        have x33_h : Iv 9 11 x33 := iv_e x33_e (iv_add ik_9 x32_h (by decide))
        rw [hQ]
        exact W.iret (v := x33) hx hb hr (fun t ht hW => ⟨⟨x33, (), rfl, (iv_w x33_h (by decide)), by rw [ht]; exact hP, va_K.moved hW.alike hK, hD⟩, hS.F ht⟩) hS.2.2 dJ6_numberOfTrailingZeros_0f7a4_79
      ·
        have qh30 := nle_i h30
        have j34 : Iv 5 7 x29 := r_ltr qh30 ik_4 x29_h (by decide)
        refine lv_iinc (v := 11) (lv' := [(1, .int 11), (0, .int x29)]) hx hb dJ6_numberOfTrailingZeros_0f7a4_67 hl (k := 1) rfl (by decide +kernel) (by decide) rfl (fun ls hl => ?_)
        refine lv_iload_n hx hb dJ6_numberOfTrailingZeros_0f7a4_70 rfl (lv_at hl 1 rfl) ?_
        refine lv_iconst (v := 2) hx hb dJ6_numberOfTrailingZeros_0f7a4_71 (by decide) ?_
        obtain ⟨x35, x35_e⟩ : ∃ z : Int32, z = (Int32.toUInt32 x29 >>> (Int32.toUInt32 2 &&& Int32.toUInt32 31)).toInt32 := ⟨_, rfl⟩
        refine lv_iushr (v := x35) hx hb dJ6_numberOfTrailingZeros_0f7a4_72 x35_e.symm ?_
        have x35_h : Iv 1 1 x35 := iv_e x35_e (iv_ushr 2 j34 (by decide +kernel) (by decide))
        refine lv_istore_n (lv' := [(0, .int x35), (1, .int 11)]) hx hb dJ6_numberOfTrailingZeros_0f7a4_73 rfl hl (by decide) rfl (fun ls hl => ?_)
        refine lv_iload_n hx hb dJ6_numberOfTrailingZeros_0f7a4_74 rfl (lv_at hl 1 rfl) ?_
        refine lv_iload_n hx hb dJ6_numberOfTrailingZeros_0f7a4_75 rfl (lv_at hl 0 rfl) ?_
        refine lv_iconst (v := 1) hx hb dJ6_numberOfTrailingZeros_0f7a4_76 (by decide) ?_
        obtain ⟨x36, x36_e⟩ : ∃ z : Int32, z = (Int32.toUInt32 x35 >>> (Int32.toUInt32 1 &&& Int32.toUInt32 31)).toInt32 := ⟨_, rfl⟩
        refine lv_iushr (v := x36) hx hb dJ6_numberOfTrailingZeros_0f7a4_77 x36_e.symm ?_
        have x36_h : Iv 0 0 x36 := iv_e x36_e (iv_ushr 1 x35_h (by decide +kernel) (by decide))
        refine lv_iadd hx hb dJ6_numberOfTrailingZeros_0f7a4_78 (lv_topi (fun x37 x37_e => ?_))
        have x37_h : Iv 11 11 x37 := iv_e x37_e (iv_add ik_11 x36_h (by decide))
        rw [hQ]
        exact W.iret (v := x37) hx hb hr (fun t ht hW => ⟨⟨x37, (), rfl, (iv_w x37_h (by decide)), by rw [ht]; exact hP, va_K.moved hW.alike hK, hD⟩, hS.F ht⟩) hS.2.2 dJ6_numberOfTrailingZeros_0f7a4_79
  ·
    have qh4 := nlt_i h4
    have j38 : Iv 0 0 x3 := r_lel qh4 x3_h ik_0 (by decide)
    refine lv_iload_n hx hb dJ6_numberOfTrailingZeros_0f7a4_12 rfl (lv_at hl 0 rfl) ?_
    refine lv_bipush (v := 32) hx hb dJ6_numberOfTrailingZeros_0f7a4_13 (by decide) ?_
    refine lv_iand hx hb dJ6_numberOfTrailingZeros_0f7a4_15 (lv_topi (fun x39 x39_e => ?_))
    have x39_h : Iv 0 0 x39 := iv_e x39_e (iv_andL _ j38 (by decide))
    rw [hQ]
    exact W.iret (v := x39) hx hb hr (fun t ht hW => ⟨⟨x39, (), rfl, (iv_w x39_h (by decide)), by rw [ht]; exact hP, va_K.moved hW.alike hK, hD⟩, hS.F ht⟩) hS.2.2 dJ6_numberOfTrailingZeros_0f7a4_16
set_option maxHeartbeats 4000000 in
set_option maxRecDepth 100000 in
theorem kX11_withoutLeast_1 (l : Launch) (dC : Nat → ClassId) (dI : Nat → Nat → Nat) (cI c2 cZ : ClassId) (a0 : Int32) (sz : Nat) (a0_h : Iv 0 4095 a0) : Met l yX11_withoutLeast wsX11_withoutLeast ({ frames := 0, cells := 0, slots := 0, locals := 0 }) (va_Pc [.int a0] (wPre (dC, dI) [(cI, .int), (c2, .array .int), (cZ, .boolean)] ([]) sz)) (va_Qi (fun (r : Int32) (_ : Unit) => Iv 0 4095 r) (fun _ t => wPost (dC, dI) [(cI, .int), (c2, .array .int), (cZ, .boolean)] (va_A ([]) sz) ([]) t) (va_A ([]) sz)) 0 0 (va_A ([]) sz) := by
  refine Met.ofW (cc := cX11_withoutLeast) (maxL := 1) (ret := (some .int)) (by decide) rfl ?_
  intro p e s m args below meth c s₁ B hml hv
  obtain ⟨rfl, hsz, hP, hK, hD0, hN⟩ := hv
  have hx := B.exec
  have hb := B.bytes
  have hr := B.returns
  have hts := atoms_spec (ws := wsX11_withoutLeast) B.pre
  have hown : s.vm.findClass RX11 = some m.cls := findClass_of_methodNamed B.named
  have hlocks := B.notSynchronized
  subst hsz
  have hD := hD0.self (sz := s.heap.size)
  generalize hAe : va_A ([]) s.heap.size = A at hD ⊢
  have hA : ∀ q : Nat, s.heap.size ≤ q → A q := fun q h => by rw [← hAe]; exact Or.inr h
  have hS : va_S A s.heap s.heap [] := va_S.rf
  have hP : va_P (dC, dI) vwCl ([]) s.heap := hP
  have hl := lv_entry ([.int a0]) (n := 1) (Nat.le_of_ble_eq_true rfl)
  rw [lg_entry_eq]
  generalize (lg_sl ([.int a0]) ++ List.replicate (1 - (lg_sl ([.int a0])).length) Slot.unset).toArray = ls at hl ⊢
  have hl : lv_has ls 1 [(0, .int a0)] := hl
  refine gen_Q (fun Q hQ => ?_)
  refine lv_iload_n hx hb dX11_withoutLeast_0 rfl (lv_at hl 0 rfl) ?_
  refine lv_iload_n hx hb dX11_withoutLeast_1 rfl (lv_at hl 0 rfl) ?_
  refine lv_iconst (v := 1) hx hb dX11_withoutLeast_2 (by decide) ?_
  refine lv_isub hx hb dX11_withoutLeast_3 (lv_topi (fun x1 x1_e => ?_))
  have x1_h : Iv (-1) 4094 x1 := iv_e x1_e (iv_sub a0_h ik_1 (by decide))
  refine lv_iand hx hb dX11_withoutLeast_4 (lv_topi (fun x2 x2_e => ?_))
  have x2_h : Iv 0 4095 x2 := iv_e x2_e (iv_andL _ a0_h (by decide))
  rw [hQ]
  exact W.iret (v := x2) hx hb hr (fun t ht hW => ⟨⟨x2, (), rfl, x2_h, by rw [ht]; exact hP, va_K.moved hW.alike hK, hD⟩, hS.F ht⟩) hS.2.2 dX11_withoutLeast_5
theorem iw_X3_isTight_X3 : ∀ w ∈ wsX30, w ∈ wsX3_isTight := fun _ h => List.mem_cons.mpr (Or.inr (List.mem_append.mpr (Or.inr h)))
set_option maxHeartbeats 4000000 in
set_option maxRecDepth 100000 in
theorem kX3_isTight_1 (l : Launch) (dC : Nat → ClassId) (dI : Nat → Nat → Nat) (cI c2 cZ : ClassId) (o1 : Nat) (o2 : Nat) (rw3 : Nat → Nat) (Gw4 : Nat → Nat → Int32) (v5 : Int32) (a1 : Int32) (a2 : Int32) (sz : Nat) (Gw4_b : Bg 13 12 0 4095 Gw4) (v5_h : Iv 0 12 v5) (a1_h : Iv 0 11 a1) (a2_h : Iv 0 11 a2) : Met l yX3_isTight wsX3_isTight ({ frames := 1, cells := 0, slots := 0, locals := 21 }) (va_Pc [.ref o1, .int a1, .int a2] (wPre (dC, dI) [(cI, .int), (c2, .array .int), (cZ, .boolean)] (([(o1, .inr (3, [.ref o2, .int v5])), (o2, .inl (c2, 13, .inr (.inr (.inr (.inr (fun i => if i < 13 then some (rw3 i) else none))))))] : va_W) ++ (gr13 rw3 cI 12 Gw4 ++ ([] : va_W))) sz)) (va_Qi (fun (r : Int32) (_ : Unit) => Iv 0 1 r) (fun _ t => wPost (dC, dI) [(cI, .int), (c2, .array .int), (cZ, .boolean)] (va_A (([(o1, .inr (3, [.ref o2, .int v5])), (o2, .inl (c2, 13, .inr (.inr (.inr (.inr (fun i => if i < 13 then some (rw3 i) else none))))))] : va_W) ++ (gr13 rw3 cI 12 Gw4 ++ ([] : va_W))) sz) (([(o1, .inr (3, [.ref o2, .int v5])), (o2, .inl (c2, 13, .inr (.inr (.inr (.inr (fun i => if i < 13 then some (rw3 i) else none))))))] : va_W) ++ (gr13 rw3 cI 12 Gw4 ++ ([] : va_W))) t) (va_A (([(o1, .inr (3, [.ref o2, .int v5])), (o2, .inl (c2, 13, .inr (.inr (.inr (.inr (fun i => if i < 13 then some (rw3 i) else none))))))] : va_W) ++ (gr13 rw3 cI 12 Gw4 ++ ([] : va_W))) sz)) 0 0 (va_A (([(o1, .inr (3, [.ref o2, .int v5])), (o2, .inl (c2, 13, .inr (.inr (.inr (.inr (fun i => if i < 13 then some (rw3 i) else none))))))] : va_W) ++ (gr13 rw3 cI 12 Gw4 ++ ([] : va_W))) sz) := by
  refine Met.ofW (cc := cX3_isTight) (maxL := 8) (ret := (some .boolean)) (by decide) rfl ?_
  intro p e s m args below meth c s₁ B hml hv
  obtain ⟨rfl, hsz, hP, hK, hD0, hN⟩ := hv
  have hx := B.exec
  have hb := B.bytes
  have hr := B.returns
  have hts := atoms_spec (ws := wsX3_isTight) B.pre
  have hown : s.vm.findClass RX3 = some m.cls := findClass_of_methodNamed B.named
  have hlocks := B.notSynchronized
  subst hsz
  have hD := hD0.self (sz := s.heap.size)
  generalize hAe : va_A (([(o1, .inr (3, [.ref o2, .int v5])), (o2, .inl (c2, 13, .inr (.inr (.inr (.inr (fun i => if i < 13 then some (rw3 i) else none))))))] : va_W) ++ (gr13 rw3 cI 12 Gw4 ++ ([] : va_W))) s.heap.size = A at hD ⊢
  have hA : ∀ q : Nat, s.heap.size ≤ q → A q := fun q h => by rw [← hAe]; exact Or.inr h
  have hS : va_S A s.heap s.heap [] := va_S.rf
  have hP : va_P (dC, dI) vwCl (([(o1, .inr (3, [.ref o2, .int v5])), (o2, .inl (c2, 13, .inr (.inr (.inr (.inr (fun i => if i < 13 then some (rw3 i) else none))))))] : va_W) ++ (gr13 rw3 cI 12 Gw4 ++ ([] : va_W))) s.heap := hP
  have hl := lv_entry ([.ref o1, .int a1, .int a2]) (n := 8) (Nat.le_of_ble_eq_true rfl)
  rw [lg_entry_eq]
  generalize (lg_sl ([.ref o1, .int a1, .int a2]) ++ List.replicate (8 - (lg_sl ([.ref o1, .int a1, .int a2])).length) Slot.unset).toArray = ls at hl ⊢
  have hl : lv_has ls 8 [(0, .ref o1), (1, .int a1), (2, .int a2)] := hl
  refine gen_Q (fun Q hQ => ?_)
  refine lv_aload_n hx hb dX3_isTight_0 rfl (lv_at hl 0 rfl) ?_
  refine va_get (D := (dC, dI)) (ci := 3) (v := .ref o2) (C := RX3) (T := TX3) (N := 2) hx hb hts iw_X3_isTight_X3 hown hK hP 0 rfl rfl 0 (by decide) (hts (.fieldLink RX3 11 "HolelessHouse$Going" "near" "[[I") hm_X3_isTight_1) (fun _ h9 => h9) rfl dX3_isTight_1 ?_
  refine lv_iload_n hx hb dX3_isTight_4 rfl (lv_at hl 1 rfl) ?_
  refine va_alda hx hb hK hP 1 1 rfl rfl (vin_iv a1_h (by decide)) dX3_isTight_5 (tk_r (v := .ref (rw3 (Int32.toNatClampNeg a1))) (gr_ref (cl_lt a1_h (by decide))) ?_)
  refine lv_astore_n (lv' := [(3, .ref (rw3 (Int32.toNatClampNeg a1))), (0, .ref o1), (1, .int a1), (2, .int a2)]) hx hb dX3_isTight_6 rfl hl (by decide) rfl (fun ls hl => ?_)
  refine lv_aload_n hx hb dX3_isTight_7 rfl (lv_at hl 0 rfl) ?_
  refine lv_iload_n hx hb dX3_isTight_8 rfl (lv_at hl 3 rfl) ?_
  refine va_iald hx hb hK hP (2 + (Int32.toNatClampNeg a1)) 0 (gr13_get (pre := ([(o1, .inr (3, [.ref o2, .int v5])), (o2, .inl (c2, 13, .inr (.inr (.inr (.inr (fun i => if i < 13 then some (rw3 i) else none))))))] : va_W)) (post := ([] : va_W)) rfl (cl_lt a1_h (by decide))) rfl (vin_iv a2_h (by decide)) dX3_isTight_9 (lv_topi (fun x1 x1_e => ?_))
  have x1_h : Iv 0 4095 x1 := iv_e x1_e (bg_at Gw4_b (cl_lt a1_h (by decide)) (vin_iv a2_h (by decide)))
  refine lv_istore (lv' := [(4, .int x1), (3, .ref (rw3 (Int32.toNatClampNeg a1))), (0, .ref o1), (1, .int a1), (2, .int a2)]) hx hb dX3_isTight_10 hl (by decide) rfl (fun ls hl => ?_)
  refine lv_iload hx hb dX3_isTight_12 (lv_at hl 0 rfl) ?_
  refine lv_istore (lv' := [(5, .int x1), (4, .int x1), (3, .ref (rw3 (Int32.toNatClampNeg a1))), (0, .ref o1), (1, .int a1), (2, .int a2)]) hx hb dX3_isTight_14 hl (by decide) rfl (fun ls hl => ?_)
  refine lv_iconst (v := 0) hx hb dX3_isTight_16 (by decide) ?_
  refine lv_istore (lv' := [(6, .int 0), (5, .int x1), (4, .int x1), (3, .ref (rw3 (Int32.toNatClampNeg a1))), (0, .ref o1), (1, .int a1), (2, .int a2)]) hx hb dX3_isTight_17 hl (by decide) rfl (fun ls hl => ?_)
  have L1 : ∀ (N : Nat) (x135 : Int32) (x136 : Int32) (H : Heap) (locs : List Loc) (ls : Array Slot), (12 - x135.toInt).toNat < N → Iv 0 12 x135 → Iv 0 4095 x136 → va_P (dC, dI) vwCl (([(o1, .inr (3, [.ref o2, .int v5])), (o2, .inl (c2, 13, .inr (.inr (.inr (.inr (fun i => if i < 13 then some (rw3 i) else none))))))] : va_W) ++ (gr13 rw3 cI 12 Gw4 ++ ([] : va_W))) H → va_D A (([(o1, .inr (3, [.ref o2, .int v5])), (o2, .inl (c2, 13, .inr (.inr (.inr (.inr (fun i => if i < 13 then some (rw3 i) else none))))))] : va_W) ++ (gr13 rw3 cI 12 Gw4 ++ ([] : va_W))) → va_S A s.heap H locs → lv_has ls 8 [(6, .int x135), (5, .int x136), (4, .int x1), (3, .ref (rw3 (Int32.toNatClampNeg a1))), (0, .ref o1), (1, .int a1), (2, .int a2)] → W p l e ({ frames := 1, cells := 0, slots := 0, locals := 21 }) s m ([.ref o1, .int a1, .int a2] : List Value).toArray below meth c H locs 0 0 Q (F0 m 19 ls []) := by
    intro N
    induction N with
    | zero =>
      intro x135 x136 H locs ls hM
      exact absurd hM (Nat.not_lt_zero _)
    | succ N ih1 =>
      intro x135 x136 H locs ls hM1 x135_h x136_h hP hD hS hl
      refine lv_iload hx hb dX3_isTight_19 (lv_at hl 0 rfl) ?_
      refine lv_aload_n hx hb dX3_isTight_21 rfl (lv_at hl 4 rfl) ?_
      refine va_get (D := (dC, dI)) (ci := 3) (v := .int v5) (C := RX3) (T := TX3) (N := 2) hx hb hts iw_X3_isTight_X3 hown hK hP 0 rfl rfl 1 (by decide) (hts (.fieldLink RX3 16 "HolelessHouse$Going" "size" "I") hm_X3_isTight_2) (fun _ h9 => h9) rfl dX3_isTight_22 ?_
      refine lv_icmp_ge (tgt := 71) hx hb dX3_isTight_25 (by decide) (fun h137 => ?_) (fun h137 => ?_)
      ·
        have qh137 := le_i h137
        refine lv_iconst (v := 1) hx hb dX3_isTight_71 (by decide) ?_
        rw [hQ]
        exact W.zret (v := 1) (ty := .boolean) hx hb hr rfl (fun t ht hW => ⟨⟨1, (), rfl, (iv_w ik_1 (by decide)), by rw [ht]; exact hP, va_K.moved hW.alike hK, hD⟩, hS.F ht⟩) hS.2.2 dX3_isTight_72
      ·
        have qh137 := nle_i h137
        have j138 : Iv 0 11 x135 := r_ltl qh137 x135_h v5_h (by decide)
        have j139 : Iv 1 12 v5 := r_ltr qh137 x135_h v5_h (by decide)
        refine lv_iload hx hb dX3_isTight_28 (lv_at hl 1 rfl) ?_
        refine lv_if_eq (tgt := 71) hx hb dX3_isTight_30 (by decide) (fun h140 => ?_) (fun h140 => ?_)
        ·
          have j141 : Iv 0 0 x136 := r_eq h140 ik_0
          refine lv_iconst (v := 1) hx hb dX3_isTight_71 (by decide) ?_
          rw [hQ]
          exact W.zret (v := 1) (ty := .boolean) hx hb hr rfl (fun t ht hW => ⟨⟨1, (), rfl, (iv_w ik_1 (by decide)), by rw [ht]; exact hP, va_K.moved hW.alike hK, hD⟩, hS.F ht⟩) hS.2.2 dX3_isTight_72
        ·
          have j142 : Iv 1 4095 x136 := r_nelo h140 x136_h ik_0 (by decide)
          refine lv_iload hx hb dX3_isTight_33 (lv_at hl 1 rfl) ?_
          refine kc_i (D := (dC, dI)) (S := Unit) (wc := []) (wr := ([(o1, .inr (3, [.ref o2, .int v5])), (o2, .inl (c2, 13, .inr (.inr (.inr (.inr (fun i => if i < 13 then some (rw3 i) else none))))))] : va_W) ++ (gr13 rw3 cI 12 Gw4 ++ ([] : va_W))) (w1 := fun _ => []) (wn := fun _ => ([(o1, .inr (3, [.ref o2, .int v5])), (o2, .inl (c2, 13, .inr (.inr (.inr (.inr (fun i => if i < 13 then some (rw3 i) else none))))))] : va_W) ++ (gr13 rw3 cI 12 Gw4 ++ ([] : va_W))) (fun hPc hDc => va_runS (As := [.int x136]) (rest := []) ⟨hx, hb, hml, hown, hts⟩ (kJ6_numberOfTrailingZeros_0f7a4_1 l dC dI cI c2 cZ x136 H.size j142) (va_cwS 1 hts gX3_isTight_J6_numberOfTrailingZeros_0f7a4 rfl rfl rfl (by decide +kernel) ⟨Nat.le_of_ble_eq_true rfl, Nat.le_of_ble_eq_true rfl⟩) (pre_S hPc hK hDc hN) rfl rfl hl.1 rfl (lv_room (Nat.le_of_ble_eq_true rfl)) dX3_isTight_35 ⟨Nat.le_of_ble_eq_true rfl, Nat.le_of_ble_eq_true rfl⟩) hP hD hS hA [] [0, 1, 2, 3, 4, 5, 6, 7, 8, 9, 10, 11, 12, 13, 14] [0, 1, 2, 3, 4, 5, 6, 7, 8, 9, 10, 11, 12, 13, 14] rfl rfl (by decide +kernel) (by decide +kernel) (by decide +kernel) (by decide +kernel) (fun _ => rfl) (fun x143 _ H locs hq hP hD hS => ?_)
          have x143_h := hq
          have hP : va_P (dC, dI) vwCl (([(o1, .inr (3, [.ref o2, .int v5])), (o2, .inl (c2, 13, .inr (.inr (.inr (.inr (fun i => if i < 13 then some (rw3 i) else none))))))] : va_W) ++ (gr13 rw3 cI 12 Gw4 ++ ([] : va_W))) H := hP
          have hD : va_D A (([(o1, .inr (3, [.ref o2, .int v5])), (o2, .inl (c2, 13, .inr (.inr (.inr (.inr (fun i => if i < 13 then some (rw3 i) else none))))))] : va_W) ++ (gr13 rw3 cI 12 Gw4 ++ ([] : va_W))) := hD
          refine lv_istore (lv' := [(7, .int x143), (6, .int x135), (5, .int x136), (4, .int x1), (3, .ref (rw3 (Int32.toNatClampNeg a1))), (0, .ref o1), (1, .int a1), (2, .int a2)]) hx hb dX3_isTight_38 hl (by decide) rfl (fun ls hl => ?_)
          refine lv_iload hx hb dX3_isTight_40 (lv_at hl 3 rfl) ?_
          refine lv_aload_n hx hb dX3_isTight_42 rfl (lv_at hl 4 rfl) ?_
          refine lv_iload hx hb dX3_isTight_43 (lv_at hl 0 rfl) ?_
          refine va_iald hx hb hK hP (2 + (Int32.toNatClampNeg a1)) 0 (gr13_get (pre := ([(o1, .inr (3, [.ref o2, .int v5])), (o2, .inl (c2, 13, .inr (.inr (.inr (.inr (fun i => if i < 13 then some (rw3 i) else none))))))] : va_W)) (post := ([] : va_W)) rfl (cl_lt a1_h (by decide))) rfl (vin_iv x143_h (by decide)) dX3_isTight_45 (lv_topi (fun x144 x144_e => ?_))
          have x144_h : Iv 0 4095 x144 := iv_e x144_e (bg_at Gw4_b (cl_lt a1_h (by decide)) (vin_iv x143_h (by decide)))
          refine lv_iconst (v := (-1)) hx hb dX3_isTight_46 (by decide) ?_
          refine lv_ixor hx hb dX3_isTight_47 (lv_topi (fun x145 x145_e => ?_))
          refine lv_iand hx hb dX3_isTight_48 (lv_topi (fun x146 x146_e => ?_))
          have x146_h : Iv 0 4095 x146 := iv_e x146_e (iv_andL _ x1_h (by decide))
          refine lv_iconst (v := 1) hx hb dX3_isTight_49 (by decide) ?_
          refine lv_iload hx hb dX3_isTight_50 (lv_at hl 0 rfl) ?_
          refine lv_ishl hx hb dX3_isTight_52 (lv_topi (fun x147 x147_e => ?_))
          have x147_h : Iv 1 2048 x147 := iv_e x147_e (iv_shl1 x143_h (by decide))
          refine lv_icmp_eq (tgt := 58) hx hb dX3_isTight_53 (by decide) (fun h148 => ?_) (fun h148 => ?_)
          ·
            have j149 : Iv 1 2048 x146 := r_eq h148 x147_h
            refine lv_iload hx hb dX3_isTight_58 (lv_at hl 2 rfl) ?_
            refine kc_i (D := (dC, dI)) (S := Unit) (wc := []) (wr := ([(o1, .inr (3, [.ref o2, .int v5])), (o2, .inl (c2, 13, .inr (.inr (.inr (.inr (fun i => if i < 13 then some (rw3 i) else none))))))] : va_W) ++ (gr13 rw3 cI 12 Gw4 ++ ([] : va_W))) (w1 := fun _ => []) (wn := fun _ => ([(o1, .inr (3, [.ref o2, .int v5])), (o2, .inl (c2, 13, .inr (.inr (.inr (.inr (fun i => if i < 13 then some (rw3 i) else none))))))] : va_W) ++ (gr13 rw3 cI 12 Gw4 ++ ([] : va_W))) (fun hPc hDc => va_runSN (As := [.int x136]) (rest := []) ⟨hx, hb, hml, hown, hts⟩ (kX11_withoutLeast_1 l dC dI cI c2 cZ x136 H.size (iv_w j142 (by decide))) ⟨va_cnB 1 hts gX3_isTight_X11_withoutLeast_n38 rfl rfl rfl (hN.1 _ ns_75) (hts (.initialized RX11) hm_X3_isTight_9) (by decide +kernel) ⟨Nat.le_of_ble_eq_true rfl, Nat.le_of_ble_eq_true rfl⟩, (hts (.static yX11_withoutLeast) hm_X3_isTight_8), trivial⟩ (pre_S hPc hK hDc hN) rfl rfl hl.1 rfl (lv_room (Nat.le_of_ble_eq_true rfl)) dX3_isTight_60 ⟨Nat.le_of_ble_eq_true rfl, Nat.le_of_ble_eq_true rfl⟩) hP hD hS hA [] [0, 1, 2, 3, 4, 5, 6, 7, 8, 9, 10, 11, 12, 13, 14] [0, 1, 2, 3, 4, 5, 6, 7, 8, 9, 10, 11, 12, 13, 14] rfl rfl (by decide +kernel) (by decide +kernel) (by decide +kernel) (by decide +kernel) (fun _ => rfl) (fun x150 _ H locs hq hP hD hS => ?_)
            have x150_h := hq
            have hP : va_P (dC, dI) vwCl (([(o1, .inr (3, [.ref o2, .int v5])), (o2, .inl (c2, 13, .inr (.inr (.inr (.inr (fun i => if i < 13 then some (rw3 i) else none))))))] : va_W) ++ (gr13 rw3 cI 12 Gw4 ++ ([] : va_W))) H := hP
            have hD : va_D A (([(o1, .inr (3, [.ref o2, .int v5])), (o2, .inl (c2, 13, .inr (.inr (.inr (.inr (fun i => if i < 13 then some (rw3 i) else none))))))] : va_W) ++ (gr13 rw3 cI 12 Gw4 ++ ([] : va_W))) := hD
            refine lv_istore (lv' := [(5, .int x150), (7, .int x143), (6, .int x135), (4, .int x1), (3, .ref (rw3 (Int32.toNatClampNeg a1))), (0, .ref o1), (1, .int a1), (2, .int a2)]) hx hb dX3_isTight_63 hl (by decide) rfl (fun ls hl => ?_)
            obtain ⟨x151, x151_e⟩ : ∃ z : Int32, z = x135 + 1 := ⟨_, rfl⟩
            have x151_h : Iv 1 12 x151 := iv_e x151_e (iv_add j138 ik_1 (by decide))
            refine lv_iinc (v := x151) (lv' := [(6, .int x151), (5, .int x150), (7, .int x143), (4, .int x1), (3, .ref (rw3 (Int32.toNatClampNeg a1))), (0, .ref o1), (1, .int a1), (2, .int a2)]) hx hb dX3_isTight_65 hl (k := 2) rfl (incN (by decide +kernel) x151_e) (by decide) rfl (fun ls hl => ?_)
            refine lv_goto (tgt := 19) hx hb dX3_isTight_68 (by decide) ?_
            exact ih1 x151 x150 _ _ _ (ms_up x151_e j138 (by decide) hM1) (iv_w x151_h (by decide)) x150_h hP hD hS (lv_sub hl [0, 1, 3, 4, 5, 6, 7] rfl)
          ·
            refine lv_iconst (v := 0) hx hb dX3_isTight_56 (by decide) ?_
            rw [hQ]
            exact W.zret (v := 0) (ty := .boolean) hx hb hr rfl (fun t ht hW => ⟨⟨0, (), rfl, (iv_w ik_0 (by decide)), by rw [ht]; exact hP, va_K.moved hW.alike hK, hD⟩, hS.F ht⟩) hS.2.2 dX3_isTight_57
  exact L1 _ 0 x1 _ _ _ (Nat.lt_succ_self _) (iv_w ik_0 (by decide)) x1_h hP hD hS hl
theorem iw_X3_leastTight_X3 : ∀ w ∈ wsX30, w ∈ wsX3_leastTight := fun _ h => List.mem_cons.mpr (Or.inr (List.mem_append.mpr (Or.inr h)))
set_option maxHeartbeats 4000000 in
set_option maxRecDepth 100000 in
theorem kX3_leastTight_1 (l : Launch) (dC : Nat → ClassId) (dI : Nat → Nat → Nat) (cI c2 cZ : ClassId) (o1 : Nat) (o2 : Nat) (rw3 : Nat → Nat) (Gw4 : Nat → Nat → Int32) (v5 : Int32) (a1 : Int32) (a2 : Int32) (sz : Nat) (Gw4_b : Bg 13 12 0 4095 Gw4) (v5_h : Iv 0 12 v5) (a1_h : Iv 0 11 a1) (a2_h : Iv 0 4095 a2) : Met l yX3_leastTight wsX3_leastTight ({ frames := 2, cells := 0, slots := 0, locals := 48 }) (va_Pc [.ref o1, .int a1, .int a2] (wPre (dC, dI) [(cI, .int), (c2, .array .int), (cZ, .boolean)] (([(o1, .inr (3, [.ref o2, .int v5])), (o2, .inl (c2, 13, .inr (.inr (.inr (.inr (fun i => if i < 13 then some (rw3 i) else none))))))] : va_W) ++ (gr13 rw3 cI 12 Gw4 ++ ([] : va_W))) sz)) (va_Qi (fun (r : Int32) (_ : Unit) => Iv (-1) 11 r) (fun _ t => wPost (dC, dI) [(cI, .int), (c2, .array .int), (cZ, .boolean)] (va_A (([(o1, .inr (3, [.ref o2, .int v5])), (o2, .inl (c2, 13, .inr (.inr (.inr (.inr (fun i => if i < 13 then some (rw3 i) else none))))))] : va_W) ++ (gr13 rw3 cI 12 Gw4 ++ ([] : va_W))) sz) (([(o1, .inr (3, [.ref o2, .int v5])), (o2, .inl (c2, 13, .inr (.inr (.inr (.inr (fun i => if i < 13 then some (rw3 i) else none))))))] : va_W) ++ (gr13 rw3 cI 12 Gw4 ++ ([] : va_W))) t) (va_A (([(o1, .inr (3, [.ref o2, .int v5])), (o2, .inl (c2, 13, .inr (.inr (.inr (.inr (fun i => if i < 13 then some (rw3 i) else none))))))] : va_W) ++ (gr13 rw3 cI 12 Gw4 ++ ([] : va_W))) sz)) 0 0 (va_A (([(o1, .inr (3, [.ref o2, .int v5])), (o2, .inl (c2, 13, .inr (.inr (.inr (.inr (fun i => if i < 13 then some (rw3 i) else none))))))] : va_W) ++ (gr13 rw3 cI 12 Gw4 ++ ([] : va_W))) sz) := by
  refine Met.ofW (cc := cX3_leastTight) (maxL := 4) (ret := (some .int)) (by decide) rfl ?_
  intro p e s m args below meth c s₁ B hml hv
  obtain ⟨rfl, hsz, hP, hK, hD0, hN⟩ := hv
  have hx := B.exec
  have hb := B.bytes
  have hr := B.returns
  have hts := atoms_spec (ws := wsX3_leastTight) B.pre
  have hown : s.vm.findClass RX3 = some m.cls := findClass_of_methodNamed B.named
  have hlocks := B.notSynchronized
  subst hsz
  have hD := hD0.self (sz := s.heap.size)
  generalize hAe : va_A (([(o1, .inr (3, [.ref o2, .int v5])), (o2, .inl (c2, 13, .inr (.inr (.inr (.inr (fun i => if i < 13 then some (rw3 i) else none))))))] : va_W) ++ (gr13 rw3 cI 12 Gw4 ++ ([] : va_W))) s.heap.size = A at hD ⊢
  have hA : ∀ q : Nat, s.heap.size ≤ q → A q := fun q h => by rw [← hAe]; exact Or.inr h
  have hS : va_S A s.heap s.heap [] := va_S.rf
  have hP : va_P (dC, dI) vwCl (([(o1, .inr (3, [.ref o2, .int v5])), (o2, .inl (c2, 13, .inr (.inr (.inr (.inr (fun i => if i < 13 then some (rw3 i) else none))))))] : va_W) ++ (gr13 rw3 cI 12 Gw4 ++ ([] : va_W))) s.heap := hP
  have hl := lv_entry ([.ref o1, .int a1, .int a2]) (n := 4) (Nat.le_of_ble_eq_true rfl)
  rw [lg_entry_eq]
  generalize (lg_sl ([.ref o1, .int a1, .int a2]) ++ List.replicate (4 - (lg_sl ([.ref o1, .int a1, .int a2])).length) Slot.unset).toArray = ls at hl ⊢
  have hl : lv_has ls 4 [(0, .ref o1), (1, .int a1), (2, .int a2)] := hl
  refine gen_Q (fun Q hQ => ?_)
  refine lv_iconst (v := 0) hx hb dX3_leastTight_0 (by decide) ?_
  refine lv_istore_n (lv' := [(3, .int 0), (0, .ref o1), (1, .int a1), (2, .int a2)]) hx hb dX3_leastTight_1 rfl hl (by decide) rfl (fun ls hl => ?_)
  have L1 : ∀ (N : Nat) (x110 : Int32) (H : Heap) (locs : List Loc) (ls : Array Slot), (12 - x110.toInt).toNat < N → Iv 0 12 x110 → va_P (dC, dI) vwCl (([(o1, .inr (3, [.ref o2, .int v5])), (o2, .inl (c2, 13, .inr (.inr (.inr (.inr (fun i => if i < 13 then some (rw3 i) else none))))))] : va_W) ++ (gr13 rw3 cI 12 Gw4 ++ ([] : va_W))) H → va_D A (([(o1, .inr (3, [.ref o2, .int v5])), (o2, .inl (c2, 13, .inr (.inr (.inr (.inr (fun i => if i < 13 then some (rw3 i) else none))))))] : va_W) ++ (gr13 rw3 cI 12 Gw4 ++ ([] : va_W))) → va_S A s.heap H locs → lv_has ls 4 [(3, .int x110), (0, .ref o1), (1, .int a1), (2, .int a2)] → W p l e ({ frames := 2, cells := 0, slots := 0, locals := 48 }) s m ([.ref o1, .int a1, .int a2] : List Value).toArray below meth c H locs 0 0 Q (F0 m 2 ls []) := by
    intro N
    induction N with
    | zero =>
      intro x110 H locs ls hM
      exact absurd hM (Nat.not_lt_zero _)
    | succ N ih1 =>
      intro x110 H locs ls hM1 x110_h hP hD hS hl
      refine lv_iload_n hx hb dX3_leastTight_2 rfl (lv_at hl 0 rfl) ?_
      refine lv_aload_n hx hb dX3_leastTight_3 rfl (lv_at hl 1 rfl) ?_
      refine va_get (D := (dC, dI)) (ci := 3) (v := .int v5) (C := RX3) (T := TX3) (N := 2) hx hb hts iw_X3_leastTight_X3 hown hK hP 0 rfl rfl 1 (by decide) (hts (.fieldLink RX3 16 "HolelessHouse$Going" "size" "I") hm_X3_leastTight_1) (fun _ h9 => h9) rfl dX3_leastTight_4 ?_
      refine lv_icmp_ge (tgt := 35) hx hb dX3_leastTight_7 (by decide) (fun h111 => ?_) (fun h111 => ?_)
      ·
        have qh111 := le_i h111
        refine lv_iconst (v := (-1)) hx hb dX3_leastTight_35 (by decide) ?_
        rw [hQ]
        exact W.iret (v := (-1)) hx hb hr (fun t ht hW => ⟨⟨(-1), (), rfl, (iv_w ikm_1 (by decide)), by rw [ht]; exact hP, va_K.moved hW.alike hK, hD⟩, hS.F ht⟩) hS.2.2 dX3_leastTight_36
      ·
        have qh111 := nle_i h111
        have j112 : Iv 0 11 x110 := r_ltl qh111 x110_h v5_h (by decide)
        have j113 : Iv 1 12 v5 := r_ltr qh111 x110_h v5_h (by decide)
        refine lv_iload_n hx hb dX3_leastTight_10 rfl (lv_at hl 3 rfl) ?_
        refine lv_iload_n hx hb dX3_leastTight_11 rfl (lv_at hl 0 rfl) ?_
        refine kc_i (D := (dC, dI)) (S := Unit) (wc := []) (wr := ([(o1, .inr (3, [.ref o2, .int v5])), (o2, .inl (c2, 13, .inr (.inr (.inr (.inr (fun i => if i < 13 then some (rw3 i) else none))))))] : va_W) ++ (gr13 rw3 cI 12 Gw4 ++ ([] : va_W))) (w1 := fun _ => []) (wn := fun _ => ([(o1, .inr (3, [.ref o2, .int v5])), (o2, .inl (c2, 13, .inr (.inr (.inr (.inr (fun i => if i < 13 then some (rw3 i) else none))))))] : va_W) ++ (gr13 rw3 cI 12 Gw4 ++ ([] : va_W))) (fun hPc hDc => va_runSN (As := [.int a2, .int x110]) (rest := []) ⟨hx, hb, hml, hown, hts⟩ (kX11_in_1 l dC dI cI c2 cZ a2 x110 H.size) ⟨va_cnB 2 hts gX3_leastTight_X11_in_n44 rfl rfl rfl (hN.1 _ ns_74) (hts (.initialized RX11) hm_X3_leastTight_3) (by decide +kernel) ⟨Nat.le_of_ble_eq_true rfl, Nat.le_of_ble_eq_true rfl⟩, (hts (.static yX11_in) hm_X3_leastTight_2), trivial⟩ (pre_S hPc hK hDc hN) rfl rfl hl.1 rfl (lv_room (Nat.le_of_ble_eq_true rfl)) dX3_leastTight_12 ⟨Nat.le_of_ble_eq_true rfl, Nat.le_of_ble_eq_true rfl⟩) hP hD hS hA [] [0, 1, 2, 3, 4, 5, 6, 7, 8, 9, 10, 11, 12, 13, 14] [0, 1, 2, 3, 4, 5, 6, 7, 8, 9, 10, 11, 12, 13, 14] rfl rfl (by decide +kernel) (by decide +kernel) (by decide +kernel) (by decide +kernel) (fun _ => rfl) (fun x114 _ H locs hq hP hD hS => ?_)
        have x114_h := hq
        have hP : va_P (dC, dI) vwCl (([(o1, .inr (3, [.ref o2, .int v5])), (o2, .inl (c2, 13, .inr (.inr (.inr (.inr (fun i => if i < 13 then some (rw3 i) else none))))))] : va_W) ++ (gr13 rw3 cI 12 Gw4 ++ ([] : va_W))) H := hP
        have hD : va_D A (([(o1, .inr (3, [.ref o2, .int v5])), (o2, .inl (c2, 13, .inr (.inr (.inr (.inr (fun i => if i < 13 then some (rw3 i) else none))))))] : va_W) ++ (gr13 rw3 cI 12 Gw4 ++ ([] : va_W))) := hD
        refine lv_if_eq (tgt := 29) hx hb dX3_leastTight_15 (by decide) (fun h115 => ?_) (fun h115 => ?_)
        ·
          have j116 : Iv 0 0 x114 := r_eq h115 ik_0
          obtain ⟨x117, x117_e⟩ : ∃ z : Int32, z = x110 + 1 := ⟨_, rfl⟩
          have x117_h : Iv 1 12 x117 := iv_e x117_e (iv_add j112 ik_1 (by decide))
          refine lv_iinc (v := x117) (lv' := [(3, .int x117), (0, .ref o1), (1, .int a1), (2, .int a2)]) hx hb dX3_leastTight_29 hl (k := 0) rfl (incN (by decide +kernel) x117_e) (by decide) rfl (fun ls hl => ?_)
          refine lv_goto (tgt := 2) hx hb dX3_leastTight_32 (by decide) ?_
          exact ih1 x117 _ _ _ (ms_up x117_e j112 (by decide) hM1) (iv_w x117_h (by decide)) hP hD hS hl
        ·
          have j118 : Iv 1 1 x114 := r_nelo h115 x114_h ik_0 (by decide)
          refine lv_aload_n hx hb dX3_leastTight_18 rfl (lv_at hl 1 rfl) ?_
          refine lv_iload_n hx hb dX3_leastTight_19 rfl (lv_at hl 2 rfl) ?_
          refine lv_iload_n hx hb dX3_leastTight_20 rfl (lv_at hl 0 rfl) ?_
          refine kc_i (D := (dC, dI)) (S := Unit) (wc := ([(o1, .inr (3, [.ref o2, .int v5])), (o2, .inl (c2, 13, .inr (.inr (.inr (.inr (fun i => if i < 13 then some (rw3 i) else none))))))] : va_W) ++ (gr13 rw3 cI 12 Gw4 ++ ([] : va_W))) (wr := []) (w1 := fun _ => ([(o1, .inr (3, [.ref o2, .int v5])), (o2, .inl (c2, 13, .inr (.inr (.inr (.inr (fun i => if i < 13 then some (rw3 i) else none))))))] : va_W) ++ (gr13 rw3 cI 12 Gw4 ++ ([] : va_W))) (wn := fun _ => ([(o1, .inr (3, [.ref o2, .int v5])), (o2, .inl (c2, 13, .inr (.inr (.inr (.inr (fun i => if i < 13 then some (rw3 i) else none))))))] : va_W) ++ (gr13 rw3 cI 12 Gw4 ++ ([] : va_W))) (fun hPc hDc => va_runV (As := [.int a1, .int x110]) (rest := []) ⟨hx, hb, hml, hown, hts⟩ (kX3_isTight_1 l dC dI cI c2 cZ o1 o2 rw3 Gw4 v5 a1 x110 H.size Gw4_b (iv_w j113 (by decide)) a1_h j112) (cwV 2 hts gX3_leastTight_X3_isTight rfl rfl rfl (by decide +kernel) ⟨Nat.le_of_ble_eq_true rfl, Nat.le_of_ble_eq_true rfl⟩) (pre_V hPc hK hDc hN (ci := 3) (q0 := 0) rfl rfl) rfl rfl hl.1 rfl (lv_room (Nat.le_of_ble_eq_true rfl)) dX3_leastTight_21 ⟨Nat.le_of_ble_eq_true rfl, Nat.le_of_ble_eq_true rfl⟩) hP hD hS hA [0, 1, 2, 3, 4, 5, 6, 7, 8, 9, 10, 11, 12, 13, 14] [] [0, 1, 2, 3, 4, 5, 6, 7, 8, 9, 10, 11, 12, 13, 14] rfl rfl (by decide +kernel) (by decide +kernel) (by decide +kernel) (by decide +kernel) (fun _ => rfl) (fun x119 _ H locs hq hP hD hS => ?_)
          have x119_h := hq
          have hP : va_P (dC, dI) vwCl (([(o1, .inr (3, [.ref o2, .int v5])), (o2, .inl (c2, 13, .inr (.inr (.inr (.inr (fun i => if i < 13 then some (rw3 i) else none))))))] : va_W) ++ (gr13 rw3 cI 12 Gw4 ++ ([] : va_W))) H := hP
          have hD : va_D A (([(o1, .inr (3, [.ref o2, .int v5])), (o2, .inl (c2, 13, .inr (.inr (.inr (.inr (fun i => if i < 13 then some (rw3 i) else none))))))] : va_W) ++ (gr13 rw3 cI 12 Gw4 ++ ([] : va_W))) := hD
          refine lv_if_eq (tgt := 29) hx hb dX3_leastTight_24 (by decide) (fun h120 => ?_) (fun h120 => ?_)
          ·
            have j121 : Iv 0 0 x119 := r_eq h120 ik_0
            obtain ⟨x122, x122_e⟩ : ∃ z : Int32, z = x110 + 1 := ⟨_, rfl⟩
            have x122_h : Iv 1 12 x122 := iv_e x122_e (iv_add j112 ik_1 (by decide))
            refine lv_iinc (v := x122) (lv' := [(3, .int x122), (0, .ref o1), (1, .int a1), (2, .int a2)]) hx hb dX3_leastTight_29 hl (k := 0) rfl (incN (by decide +kernel) x122_e) (by decide) rfl (fun ls hl => ?_)
            refine lv_goto (tgt := 2) hx hb dX3_leastTight_32 (by decide) ?_
            exact ih1 x122 _ _ _ (ms_up x122_e j112 (by decide) hM1) (iv_w x122_h (by decide)) hP hD hS hl
          ·
            have j123 : Iv 1 1 x119 := r_nelo h120 x119_h ik_0 (by decide)
            refine lv_iload_n hx hb dX3_leastTight_27 rfl (lv_at hl 0 rfl) ?_
            rw [hQ]
            exact W.iret (v := x110) hx hb hr (fun t ht hW => ⟨⟨x110, (), rfl, (iv_w j112 (by decide)), by rw [ht]; exact hP, va_K.moved hW.alike hK, hD⟩, hS.F ht⟩) hS.2.2 dX3_leastTight_28
  exact L1 _ 0 _ _ _ (Nat.lt_succ_self _) (iv_w ik_0 (by decide)) hP hD hS hl
theorem iw_X3_leave_X3 : ∀ w ∈ wsX30, w ∈ wsX3_leave := fun _ h => List.mem_cons.mpr (Or.inr (List.mem_append.mpr (Or.inr h)))
set_option maxHeartbeats 4000000 in
set_option maxRecDepth 100000 in
theorem kX3_leave_1 (l : Launch) (dC : Nat → ClassId) (dI : Nat → Nat → Nat) (cI c2 cZ : ClassId) (o1 : Nat) (o2 : Nat) (rw3 : Nat → Nat) (Gw4 : Nat → Nat → Int32) (v5 : Int32) (a1 : Int32) (a2 : Int32) (sz : Nat) (Gw4_b : Bg 13 12 0 4095 Gw4) (v5_h : Iv 0 12 v5) (a1_h : Iv 0 11 a1) (a2_h : Iv 0 11 a2) : Met l yX3_leave wsX3_leave ({ frames := 1, cells := 0, slots := 0, locals := 64 }) (va_Pc [.ref o1, .int a1, .int a2] (wPre (dC, dI) [(cI, .int), (c2, .array .int), (cZ, .boolean)] (([(o1, .inr (3, [.ref o2, .int v5])), (o2, .inl (c2, 13, .inr (.inr (.inr (.inr (fun i => if i < 13 then some (rw3 i) else none))))))] : va_W) ++ (gr13 rw3 cI 12 Gw4 ++ ([] : va_W))) sz)) (va_Qv (fun (u : (Nat → Nat → Int32)) => Bg 13 12 0 4095 u) (fun u t => wPost (dC, dI) [(cI, .int), (c2, .array .int), (cZ, .boolean)] (va_A (([(o1, .inr (3, [.ref o2, .int v5])), (o2, .inl (c2, 13, .inr (.inr (.inr (.inr (fun i => if i < 13 then some (rw3 i) else none))))))] : va_W) ++ (gr13 rw3 cI 12 Gw4 ++ ([] : va_W))) sz) (([(o1, .inr (3, [.ref o2, .int v5])), (o2, .inl (c2, 13, .inr (.inr (.inr (.inr (fun i => if i < 13 then some (rw3 i) else none))))))] : va_W) ++ (gr13 rw3 cI 12 u ++ ([] : va_W))) t) (va_A (([(o1, .inr (3, [.ref o2, .int v5])), (o2, .inl (c2, 13, .inr (.inr (.inr (.inr (fun i => if i < 13 then some (rw3 i) else none))))))] : va_W) ++ (gr13 rw3 cI 12 Gw4 ++ ([] : va_W))) sz)) 0 0 (va_A (([(o1, .inr (3, [.ref o2, .int v5])), (o2, .inl (c2, 13, .inr (.inr (.inr (.inr (fun i => if i < 13 then some (rw3 i) else none))))))] : va_W) ++ (gr13 rw3 cI 12 Gw4 ++ ([] : va_W))) sz) := by
  refine Met.ofW (cc := cX3_leave) (maxL := 8) (ret := none) (by decide) rfl ?_
  intro p e s m args below meth c s₁ B hml hv
  obtain ⟨rfl, hsz, hP, hK, hD0, hN⟩ := hv
  have hx := B.exec
  have hb := B.bytes
  have hr := B.returns
  have hts := atoms_spec (ws := wsX3_leave) B.pre
  have hown : s.vm.findClass RX3 = some m.cls := findClass_of_methodNamed B.named
  have hlocks := B.notSynchronized
  subst hsz
  have hD := hD0.self (sz := s.heap.size)
  generalize hAe : va_A (([(o1, .inr (3, [.ref o2, .int v5])), (o2, .inl (c2, 13, .inr (.inr (.inr (.inr (fun i => if i < 13 then some (rw3 i) else none))))))] : va_W) ++ (gr13 rw3 cI 12 Gw4 ++ ([] : va_W))) s.heap.size = A at hD ⊢
  have hA : ∀ q : Nat, s.heap.size ≤ q → A q := fun q h => by rw [← hAe]; exact Or.inr h
  have hS : va_S A s.heap s.heap [] := va_S.rf
  have hP : va_P (dC, dI) vwCl (([(o1, .inr (3, [.ref o2, .int v5])), (o2, .inl (c2, 13, .inr (.inr (.inr (.inr (fun i => if i < 13 then some (rw3 i) else none))))))] : va_W) ++ (gr13 rw3 cI 12 Gw4 ++ ([] : va_W))) s.heap := hP
  have hl := lv_entry ([.ref o1, .int a1, .int a2]) (n := 8) (Nat.le_of_ble_eq_true rfl)
  rw [lg_entry_eq]
  generalize (lg_sl ([.ref o1, .int a1, .int a2]) ++ List.replicate (8 - (lg_sl ([.ref o1, .int a1, .int a2])).length) Slot.unset).toArray = ls at hl ⊢
  have hl : lv_has ls 8 [(0, .ref o1), (1, .int a1), (2, .int a2)] := hl
  refine gen_Q (fun Q hQ => ?_)
  refine lv_aload_n hx hb dX3_leave_0 rfl (lv_at hl 0 rfl) ?_
  refine va_get (D := (dC, dI)) (ci := 3) (v := .ref o2) (C := RX3) (T := TX3) (N := 2) hx hb hts iw_X3_leave_X3 hown hK hP 0 rfl rfl 0 (by decide) (hts (.fieldLink RX3 11 "HolelessHouse$Going" "near" "[[I") hm_X3_leave_1) (fun _ h9 => h9) rfl dX3_leave_1 ?_
  refine lv_iload_n hx hb dX3_leave_4 rfl (lv_at hl 1 rfl) ?_
  refine va_alda hx hb hK hP 1 1 rfl rfl (vin_iv a1_h (by decide)) dX3_leave_5 (tk_r (v := .ref (rw3 (Int32.toNatClampNeg a1))) (gr_ref (cl_lt a1_h (by decide))) ?_)
  refine lv_astore_n (lv' := [(3, .ref (rw3 (Int32.toNatClampNeg a1))), (0, .ref o1), (1, .int a1), (2, .int a2)]) hx hb dX3_leave_6 rfl hl (by decide) rfl (fun ls hl => ?_)
  refine lv_aload_n hx hb dX3_leave_7 rfl (lv_at hl 1 rfl) ?_
  refine va_get (D := (dC, dI)) (ci := 3) (v := .ref o2) (C := RX3) (T := TX3) (N := 2) hx hb hts iw_X3_leave_X3 hown hK hP 0 rfl rfl 0 (by decide) (hts (.fieldLink RX3 11 "HolelessHouse$Going" "near" "[[I") hm_X3_leave_1) (fun _ h9 => h9) rfl dX3_leave_8 ?_
  refine lv_iload_n hx hb dX3_leave_11 rfl (lv_at hl 2 rfl) ?_
  refine lv_iconst (v := 1) hx hb dX3_leave_12 (by decide) ?_
  refine lv_iadd hx hb dX3_leave_13 (lv_topi (fun x1 x1_e => ?_))
  have x1_h : Iv 1 12 x1 := iv_e x1_e (iv_add a1_h ik_1 (by decide))
  refine va_alda hx hb hK hP 1 1 rfl rfl (vin_iv x1_h (by decide)) dX3_leave_14 (tk_r (v := .ref (rw3 (Int32.toNatClampNeg x1))) (gr_ref (cl_lt x1_h (by decide))) ?_)
  refine lv_astore (lv' := [(4, .ref (rw3 (Int32.toNatClampNeg x1))), (3, .ref (rw3 (Int32.toNatClampNeg a1))), (0, .ref o1), (1, .int a1), (2, .int a2)]) hx hb dX3_leave_15 hl (by decide) rfl (fun ls hl => ?_)
  refine lv_aload_n hx hb dX3_leave_17 rfl (lv_at hl 1 rfl) ?_
  refine lv_iconst (v := 0) hx hb dX3_leave_18 (by decide) ?_
  refine lv_aload hx hb dX3_leave_19 (lv_at hl 0 rfl) ?_
  refine lv_iconst (v := 0) hx hb dX3_leave_21 (by decide) ?_
  refine lv_bipush (v := 12) hx hb dX3_leave_22 (by decide) ?_
  refine k_gcpy13 (i0 := (Int32.toNatClampNeg x1)) hx hb (hml.trans hl.1.symm) hown (hts (.methodLink RX3 26 arraycopyName) hm_X3_leave_2) (hts (.native arraycopyName) hm_X3_leave_3) (hts (.static arraycopyName) hm_X3_leave_4) (hts (.initialized "java/lang/System") hm_X3_leave_5) hK (pre := ([(o1, .inr (3, [.ref o2, .int v5])), (o2, .inl (c2, 13, .inr (.inr (.inr (.inr (fun i => if i < 13 then some (rw3 i) else none))))))] : va_W)) (po := ([] : va_W)) hP hD hS rfl (cl_lt x1_h (by decide)) (2 + (Int32.toNatClampNeg a1)) 0 (gr13_get (pre := ([(o1, .inr (3, [.ref o2, .int v5])), (o2, .inl (c2, 13, .inr (.inr (.inr (.inr (fun i => if i < 13 then some (rw3 i) else none))))))] : va_W)) (post := ([] : va_W)) rfl (cl_lt a1_h (by decide))) rfl (by decide) (by decide) (by decide) (by decide +kernel) (by decide +kernel) (Nat.le_of_ble_eq_true rfl) (by decide +kernel) dX3_leave_24 (fun f2 G3 H locs f2_e G3_e hP hD hS => ?_)
  have G3_b : Bg 13 12 0 4095 G3 := bg_up G3_e Gw4_b (bd_cpy f2_e (Gw4_b _ (cl_lt a1_h (by decide))) (Gw4_b _ (cl_lt x1_h (by decide))) (by decide +kernel))
  have hP : va_P (dC, dI) vwCl (([(o1, .inr (3, [.ref o2, .int v5])), (o2, .inl (c2, 13, .inr (.inr (.inr (.inr (fun i => if i < 13 then some (rw3 i) else none))))))] : va_W) ++ (gr13 rw3 cI 12 G3 ++ ([] : va_W))) H := by simpa only [List.append_assoc] using hP
  have hD : va_D A (([(o1, .inr (3, [.ref o2, .int v5])), (o2, .inl (c2, 13, .inr (.inr (.inr (.inr (fun i => if i < 13 then some (rw3 i) else none))))))] : va_W) ++ (gr13 rw3 cI 12 G3 ++ ([] : va_W))) := by simpa only [List.append_assoc] using hD
  refine lv_aload hx hb dX3_leave_27 (lv_at hl 0 rfl) ?_
  refine lv_iload_n hx hb dX3_leave_29 rfl (lv_at hl 4 rfl) ?_
  refine lv_iconst (v := 0) hx hb dX3_leave_30 (by decide) ?_
  refine k_gast13 (i0 := (Int32.toNatClampNeg x1)) hx hb hK (pre := ([(o1, .inr (3, [.ref o2, .int v5])), (o2, .inl (c2, 13, .inr (.inr (.inr (.inr (fun i => if i < 13 then some (rw3 i) else none))))))] : va_W)) (po := ([] : va_W)) hP hD hS rfl (cl_lt x1_h (by decide)) 0 rfl (vin_iv a2_h (by decide)) dX3_leave_31 (fun f4 G5 H locs f4_e G5_e hP hD hS => ?_)
  have G5_b : Bg 13 12 0 4095 G5 := bg_up G5_e G3_b (bd_upd f4_e (G3_b _ (cl_lt x1_h (by decide))) ik_0 (by decide))
  have hP : va_P (dC, dI) vwCl (([(o1, .inr (3, [.ref o2, .int v5])), (o2, .inl (c2, 13, .inr (.inr (.inr (.inr (fun i => if i < 13 then some (rw3 i) else none))))))] : va_W) ++ (gr13 rw3 cI 12 G5 ++ ([] : va_W))) H := by simpa only [List.append_assoc] using hP
  have hD : va_D A (([(o1, .inr (3, [.ref o2, .int v5])), (o2, .inl (c2, 13, .inr (.inr (.inr (.inr (fun i => if i < 13 then some (rw3 i) else none))))))] : va_W) ++ (gr13 rw3 cI 12 G5 ++ ([] : va_W))) := by simpa only [List.append_assoc] using hD
  refine lv_aload_n hx hb dX3_leave_32 rfl (lv_at hl 1 rfl) ?_
  refine lv_iload_n hx hb dX3_leave_33 rfl (lv_at hl 4 rfl) ?_
  refine va_iald hx hb hK hP (2 + (Int32.toNatClampNeg a1)) 0 (gr13_get (pre := ([(o1, .inr (3, [.ref o2, .int v5])), (o2, .inl (c2, 13, .inr (.inr (.inr (.inr (fun i => if i < 13 then some (rw3 i) else none))))))] : va_W)) (post := ([] : va_W)) rfl (cl_lt a1_h (by decide))) rfl (vin_iv a2_h (by decide)) dX3_leave_34 (lv_topi (fun x6 x6_e => ?_))
  have x6_h : Iv 0 4095 x6 := iv_e x6_e (bg_at G5_b (cl_lt a1_h (by decide)) (vin_iv a2_h (by decide)))
  refine lv_istore (lv' := [(5, .int x6), (4, .ref (rw3 (Int32.toNatClampNeg x1))), (3, .ref (rw3 (Int32.toNatClampNeg a1))), (0, .ref o1), (1, .int a1), (2, .int a2)]) hx hb dX3_leave_35 hl (by decide) rfl (fun ls hl => ?_)
  refine lv_iconst (v := 0) hx hb dX3_leave_37 (by decide) ?_
  refine lv_istore (lv' := [(6, .int 0), (5, .int x6), (4, .ref (rw3 (Int32.toNatClampNeg x1))), (3, .ref (rw3 (Int32.toNatClampNeg a1))), (0, .ref o1), (1, .int a1), (2, .int a2)]) hx hb dX3_leave_38 hl (by decide) rfl (fun ls hl => ?_)
  have L1 : ∀ (N : Nat) (x187 : Int32) (x188 : Int32) (G189 : Nat → Nat → Int32) (H : Heap) (locs : List Loc) (ls : Array Slot), (12 - x187.toInt).toNat < N → Iv 0 12 x187 → Iv 0 4095 x188 → Bg 13 12 0 4095 G189 → va_P (dC, dI) vwCl (([(o1, .inr (3, [.ref o2, .int v5])), (o2, .inl (c2, 13, .inr (.inr (.inr (.inr (fun i => if i < 13 then some (rw3 i) else none))))))] : va_W) ++ (gr13 rw3 cI 12 G189 ++ ([] : va_W))) H → va_D A (([(o1, .inr (3, [.ref o2, .int v5])), (o2, .inl (c2, 13, .inr (.inr (.inr (.inr (fun i => if i < 13 then some (rw3 i) else none))))))] : va_W) ++ (gr13 rw3 cI 12 G189 ++ ([] : va_W))) → va_S A s.heap H locs → lv_has ls 8 [(6, .int x187), (5, .int x188), (4, .ref (rw3 (Int32.toNatClampNeg x1))), (3, .ref (rw3 (Int32.toNatClampNeg a1))), (0, .ref o1), (1, .int a1), (2, .int a2)] → W p l e ({ frames := 1, cells := 0, slots := 0, locals := 64 }) s m ([.ref o1, .int a1, .int a2] : List Value).toArray below meth c H locs 0 0 Q (F0 m 40 ls []) := by
    intro N
    induction N with
    | zero =>
      intro x187 x188 G189 H locs ls hM
      exact absurd hM (Nat.not_lt_zero _)
    | succ N ih1 =>
      intro x187 x188 G189 H locs ls hM1 x187_h x188_h G189_b hP hD hS hl
      refine lv_iload hx hb dX3_leave_40 (lv_at hl 0 rfl) ?_
      refine lv_aload_n hx hb dX3_leave_42 rfl (lv_at hl 4 rfl) ?_
      refine va_get (D := (dC, dI)) (ci := 3) (v := .int v5) (C := RX3) (T := TX3) (N := 2) hx hb hts iw_X3_leave_X3 hown hK hP 0 rfl rfl 1 (by decide) (hts (.fieldLink RX3 16 "HolelessHouse$Going" "size" "I") hm_X3_leave_6) (fun _ h9 => h9) rfl dX3_leave_43 ?_
      refine lv_icmp_ge (tgt := 100) hx hb dX3_leave_46 (by decide) (fun h190 => ?_) (fun h190 => ?_)
      ·
        have qh190 := le_i h190
        rw [hQ]
        exact W.vret hx hb hr (fun t ht hW => ⟨⟨G189, rfl, G189_b, by rw [ht]; exact hP, va_K.moved hW.alike hK, hD⟩, hS.F ht⟩) hS.2.2 dX3_leave_100
      ·
        have qh190 := nle_i h190
        have j191 : Iv 0 11 x187 := r_ltl qh190 x187_h v5_h (by decide)
        have j192 : Iv 1 12 v5 := r_ltr qh190 x187_h v5_h (by decide)
        refine lv_iload hx hb dX3_leave_49 (lv_at hl 1 rfl) ?_
        refine lv_if_eq (tgt := 100) hx hb dX3_leave_51 (by decide) (fun h193 => ?_) (fun h193 => ?_)
        ·
          have j194 : Iv 0 0 x188 := r_eq h193 ik_0
          rw [hQ]
          exact W.vret hx hb hr (fun t ht hW => ⟨⟨G189, rfl, G189_b, by rw [ht]; exact hP, va_K.moved hW.alike hK, hD⟩, hS.F ht⟩) hS.2.2 dX3_leave_100
        ·
          have j195 : Iv 1 4095 x188 := r_nelo h193 x188_h ik_0 (by decide)
          refine lv_iload hx hb dX3_leave_54 (lv_at hl 1 rfl) ?_
          refine kc_i (D := (dC, dI)) (S := Unit) (wc := []) (wr := ([(o1, .inr (3, [.ref o2, .int v5])), (o2, .inl (c2, 13, .inr (.inr (.inr (.inr (fun i => if i < 13 then some (rw3 i) else none))))))] : va_W) ++ (gr13 rw3 cI 12 G189 ++ ([] : va_W))) (w1 := fun _ => []) (wn := fun _ => ([(o1, .inr (3, [.ref o2, .int v5])), (o2, .inl (c2, 13, .inr (.inr (.inr (.inr (fun i => if i < 13 then some (rw3 i) else none))))))] : va_W) ++ (gr13 rw3 cI 12 G189 ++ ([] : va_W))) (fun hPc hDc => va_runS (As := [.int x188]) (rest := []) ⟨hx, hb, hml, hown, hts⟩ (kJ6_numberOfTrailingZeros_0f7a4_1 l dC dI cI c2 cZ x188 H.size j195) (va_cwS 1 hts gX3_leave_J6_numberOfTrailingZeros_0f7a4 rfl rfl rfl (by decide +kernel) ⟨Nat.le_of_ble_eq_true rfl, Nat.le_of_ble_eq_true rfl⟩) (pre_S hPc hK hDc hN) rfl rfl hl.1 rfl (lv_room (Nat.le_of_ble_eq_true rfl)) dX3_leave_56 ⟨Nat.le_of_ble_eq_true rfl, Nat.le_of_ble_eq_true rfl⟩) hP hD hS hA [] [0, 1, 2, 3, 4, 5, 6, 7, 8, 9, 10, 11, 12, 13, 14] [0, 1, 2, 3, 4, 5, 6, 7, 8, 9, 10, 11, 12, 13, 14] rfl rfl (by decide +kernel) (by decide +kernel) (by decide +kernel) (by decide +kernel) (fun _ => rfl) (fun x196 _ H locs hq hP hD hS => ?_)
          have x196_h := hq
          have hP : va_P (dC, dI) vwCl (([(o1, .inr (3, [.ref o2, .int v5])), (o2, .inl (c2, 13, .inr (.inr (.inr (.inr (fun i => if i < 13 then some (rw3 i) else none))))))] : va_W) ++ (gr13 rw3 cI 12 G189 ++ ([] : va_W))) H := hP
          have hD : va_D A (([(o1, .inr (3, [.ref o2, .int v5])), (o2, .inl (c2, 13, .inr (.inr (.inr (.inr (fun i => if i < 13 then some (rw3 i) else none))))))] : va_W) ++ (gr13 rw3 cI 12 G189 ++ ([] : va_W))) := hD
          refine lv_istore (lv' := [(7, .int x196), (6, .int x187), (5, .int x188), (4, .ref (rw3 (Int32.toNatClampNeg x1))), (3, .ref (rw3 (Int32.toNatClampNeg a1))), (0, .ref o1), (1, .int a1), (2, .int a2)]) hx hb dX3_leave_59 hl (by decide) rfl (fun ls hl => ?_)
          refine lv_aload hx hb dX3_leave_61 (lv_at hl 3 rfl) ?_
          refine lv_iload hx hb dX3_leave_63 (lv_at hl 0 rfl) ?_
          refine lv_aload_n hx hb dX3_leave_65 rfl (lv_at hl 4 rfl) ?_
          refine lv_iload hx hb dX3_leave_66 (lv_at hl 0 rfl) ?_
          refine va_iald hx hb hK hP (2 + (Int32.toNatClampNeg a1)) 0 (gr13_get (pre := ([(o1, .inr (3, [.ref o2, .int v5])), (o2, .inl (c2, 13, .inr (.inr (.inr (.inr (fun i => if i < 13 then some (rw3 i) else none))))))] : va_W)) (post := ([] : va_W)) rfl (cl_lt a1_h (by decide))) rfl (vin_iv x196_h (by decide)) dX3_leave_68 (lv_topi (fun x197 x197_e => ?_))
          have x197_h : Iv 0 4095 x197 := iv_e x197_e (bg_at G189_b (cl_lt a1_h (by decide)) (vin_iv x196_h (by decide)))
          refine lv_aload_n hx hb dX3_leave_69 rfl (lv_at hl 4 rfl) ?_
          refine lv_iload_n hx hb dX3_leave_70 rfl (lv_at hl 7 rfl) ?_
          refine va_iald hx hb hK hP (2 + (Int32.toNatClampNeg a1)) 0 (gr13_get (pre := ([(o1, .inr (3, [.ref o2, .int v5])), (o2, .inl (c2, 13, .inr (.inr (.inr (.inr (fun i => if i < 13 then some (rw3 i) else none))))))] : va_W)) (post := ([] : va_W)) rfl (cl_lt a1_h (by decide))) rfl (vin_iv a2_h (by decide)) dX3_leave_71 (lv_topi (fun x198 x198_e => ?_))
          have x198_h : Iv 0 4095 x198 := iv_e x198_e (bg_at G189_b (cl_lt a1_h (by decide)) (vin_iv a2_h (by decide)))
          refine lv_ior hx hb dX3_leave_72 (lv_topi (fun x199 x199_e => ?_))
          have x199_h : Iv 0 4095 x199 := iv_e x199_e (iv_or 12 x197_h x198_h (by decide))
          refine lv_iconst (v := 1) hx hb dX3_leave_73 (by decide) ?_
          refine lv_iload hx hb dX3_leave_74 (lv_at hl 0 rfl) ?_
          refine lv_ishl hx hb dX3_leave_76 (lv_topi (fun x200 x200_e => ?_))
          have x200_h : Iv 1 2048 x200 := iv_e x200_e (iv_shl1 x196_h (by decide))
          refine lv_iconst (v := (-1)) hx hb dX3_leave_77 (by decide) ?_
          refine lv_ixor hx hb dX3_leave_78 (lv_topi (fun x201 x201_e => ?_))
          refine lv_iand hx hb dX3_leave_79 (lv_topi (fun x202 x202_e => ?_))
          have x202_h : Iv 0 4095 x202 := iv_e x202_e (iv_andL _ x199_h (by decide))
          refine lv_iconst (v := 1) hx hb dX3_leave_80 (by decide) ?_
          refine lv_iload_n hx hb dX3_leave_81 rfl (lv_at hl 7 rfl) ?_
          refine lv_ishl hx hb dX3_leave_82 (lv_topi (fun x203 x203_e => ?_))
          have x203_h : Iv 1 2048 x203 := iv_e x203_e (iv_shl1 a2_h (by decide))
          refine lv_iconst (v := (-1)) hx hb dX3_leave_83 (by decide) ?_
          refine lv_ixor hx hb dX3_leave_84 (lv_topi (fun x204 x204_e => ?_))
          refine lv_iand hx hb dX3_leave_85 (lv_topi (fun x205 x205_e => ?_))
          have x205_h : Iv 0 4095 x205 := iv_e x205_e (iv_andL _ x202_h (by decide))
          refine k_gast13 (i0 := (Int32.toNatClampNeg x1)) hx hb hK (pre := ([(o1, .inr (3, [.ref o2, .int v5])), (o2, .inl (c2, 13, .inr (.inr (.inr (.inr (fun i => if i < 13 then some (rw3 i) else none))))))] : va_W)) (po := ([] : va_W)) hP hD hS rfl (cl_lt x1_h (by decide)) 0 rfl (vin_iv x196_h (by decide)) dX3_leave_86 (fun f206 G207 H locs f206_e G207_e hP hD hS => ?_)
          have G207_b : Bg 13 12 0 4095 G207 := bg_up G207_e G189_b (bd_upd f206_e (G189_b _ (cl_lt x1_h (by decide))) x205_h (by decide))
          have hP : va_P (dC, dI) vwCl (([(o1, .inr (3, [.ref o2, .int v5])), (o2, .inl (c2, 13, .inr (.inr (.inr (.inr (fun i => if i < 13 then some (rw3 i) else none))))))] : va_W) ++ (gr13 rw3 cI 12 G207 ++ ([] : va_W))) H := by simpa only [List.append_assoc] using hP
          have hD : va_D A (([(o1, .inr (3, [.ref o2, .int v5])), (o2, .inl (c2, 13, .inr (.inr (.inr (.inr (fun i => if i < 13 then some (rw3 i) else none))))))] : va_W) ++ (gr13 rw3 cI 12 G207 ++ ([] : va_W))) := by simpa only [List.append_assoc] using hD
          refine lv_iload hx hb dX3_leave_87 (lv_at hl 2 rfl) ?_
          refine kc_i (D := (dC, dI)) (S := Unit) (wc := []) (wr := ([(o1, .inr (3, [.ref o2, .int v5])), (o2, .inl (c2, 13, .inr (.inr (.inr (.inr (fun i => if i < 13 then some (rw3 i) else none))))))] : va_W) ++ (gr13 rw3 cI 12 G207 ++ ([] : va_W))) (w1 := fun _ => []) (wn := fun _ => ([(o1, .inr (3, [.ref o2, .int v5])), (o2, .inl (c2, 13, .inr (.inr (.inr (.inr (fun i => if i < 13 then some (rw3 i) else none))))))] : va_W) ++ (gr13 rw3 cI 12 G207 ++ ([] : va_W))) (fun hPc hDc => va_runSN (As := [.int x188]) (rest := []) ⟨hx, hb, hml, hown, hts⟩ (kX11_withoutLeast_1 l dC dI cI c2 cZ x188 H.size (iv_w j195 (by decide))) ⟨va_cnB 1 hts gX3_leave_X11_withoutLeast_n38 rfl rfl rfl (hN.1 _ ns_75) (hts (.initialized RX11) hm_X3_leave_13) (by decide +kernel) ⟨Nat.le_of_ble_eq_true rfl, Nat.le_of_ble_eq_true rfl⟩, (hts (.static yX11_withoutLeast) hm_X3_leave_12), trivial⟩ (pre_S hPc hK hDc hN) rfl rfl hl.1 rfl (lv_room (Nat.le_of_ble_eq_true rfl)) dX3_leave_89 ⟨Nat.le_of_ble_eq_true rfl, Nat.le_of_ble_eq_true rfl⟩) hP hD hS hA [] [0, 1, 2, 3, 4, 5, 6, 7, 8, 9, 10, 11, 12, 13, 14] [0, 1, 2, 3, 4, 5, 6, 7, 8, 9, 10, 11, 12, 13, 14] rfl rfl (by decide +kernel) (by decide +kernel) (by decide +kernel) (by decide +kernel) (fun _ => rfl) (fun x208 _ H locs hq hP hD hS => ?_)
          have x208_h := hq
          have hP : va_P (dC, dI) vwCl (([(o1, .inr (3, [.ref o2, .int v5])), (o2, .inl (c2, 13, .inr (.inr (.inr (.inr (fun i => if i < 13 then some (rw3 i) else none))))))] : va_W) ++ (gr13 rw3 cI 12 G207 ++ ([] : va_W))) H := hP
          have hD : va_D A (([(o1, .inr (3, [.ref o2, .int v5])), (o2, .inl (c2, 13, .inr (.inr (.inr (.inr (fun i => if i < 13 then some (rw3 i) else none))))))] : va_W) ++ (gr13 rw3 cI 12 G207 ++ ([] : va_W))) := hD
          refine lv_istore (lv' := [(5, .int x208), (7, .int x196), (6, .int x187), (4, .ref (rw3 (Int32.toNatClampNeg x1))), (3, .ref (rw3 (Int32.toNatClampNeg a1))), (0, .ref o1), (1, .int a1), (2, .int a2)]) hx hb dX3_leave_92 hl (by decide) rfl (fun ls hl => ?_)
          obtain ⟨x209, x209_e⟩ : ∃ z : Int32, z = x187 + 1 := ⟨_, rfl⟩
          have x209_h : Iv 1 12 x209 := iv_e x209_e (iv_add j191 ik_1 (by decide))
          refine lv_iinc (v := x209) (lv' := [(6, .int x209), (5, .int x208), (7, .int x196), (4, .ref (rw3 (Int32.toNatClampNeg x1))), (3, .ref (rw3 (Int32.toNatClampNeg a1))), (0, .ref o1), (1, .int a1), (2, .int a2)]) hx hb dX3_leave_94 hl (k := 2) rfl (incN (by decide +kernel) x209_e) (by decide) rfl (fun ls hl => ?_)
          refine lv_goto (tgt := 40) hx hb dX3_leave_97 (by decide) ?_
          exact ih1 x209 x208 G207 _ _ _ (ms_up x209_e j191 (by decide) hM1) (iv_w x209_h (by decide)) x208_h G207_b hP hD hS (lv_sub hl [0, 1, 3, 4, 5, 6, 7] rfl)
  exact L1 _ 0 x6 G5 _ _ _ (Nat.lt_succ_self _) (iv_w ik_0 (by decide)) x6_h G5_b hP hD hS hl
theorem iw_X3_goesWithoutFill_X3 : ∀ w ∈ wsX30, w ∈ wsX3_goesWithoutFill := fun _ h => List.mem_cons.mpr (Or.inr (List.mem_append.mpr (Or.inl (List.mem_append.mpr (Or.inr h)))))
set_option maxHeartbeats 4000000 in
set_option maxRecDepth 100000 in
theorem kX3_goesWithoutFill_1 (l : Launch) (dC : Nat → ClassId) (dI : Nat → Nat → Nat) (cI c2 cZ : ClassId) (o1 : Nat) (o6 : Nat) (o2 : Nat) (o7 : Nat) (rw3 : Nat → Nat) (Gw4 : Nat → Nat → Int32) (v5 : Int32) (fw8 : Nat → Int32) (v9 : Int32) (v10 : Int32) (sz : Nat) (Gw4_b : Bg 13 12 0 4095 Gw4) (v5_h : Iv 0 12 v5) (fw8_b : Bd 12 0 4095 fw8) (v9_h : Iv 0 12 v9) : Met l yX3_goesWithoutFill wsX3_goesWithoutFill ({ frames := 3, cells := 0, slots := 0, locals := 91 }) (va_Pc [.ref o1, .ref o6] (wPre (dC, dI) [(cI, .int), (c2, .array .int), (cZ, .boolean)] (([(o1, .inr (3, [.ref o2, .int v5])), (o6, .inr (4, [.ref o7, .int v9, .int v10])), (o2, .inl (c2, 13, .inr (.inr (.inr (.inr (fun i => if i < 13 then some (rw3 i) else none)))))), (o7, .inl (cI, 12, .inl fw8))] : va_W) ++ (gr13 rw3 cI 12 Gw4 ++ ([] : va_W))) sz)) (va_Qi (fun (r : Int32) (u : Int32 × (Nat → Nat → Int32)) => Iv 0 1 r ∧ Iv 0 12 u.1 ∧ Bg 13 12 0 4095 u.2) (fun u t => wPost (dC, dI) [(cI, .int), (c2, .array .int), (cZ, .boolean)] (va_A (([(o1, .inr (3, [.ref o2, .int v5])), (o6, .inr (4, [.ref o7, .int v9, .int v10])), (o2, .inl (c2, 13, .inr (.inr (.inr (.inr (fun i => if i < 13 then some (rw3 i) else none)))))), (o7, .inl (cI, 12, .inl fw8))] : va_W) ++ (gr13 rw3 cI 12 Gw4 ++ ([] : va_W))) sz) (([(o1, .inr (3, [.ref o2, .int u.1])), (o6, .inr (4, [.ref o7, .int v9, .int v10])), (o2, .inl (c2, 13, .inr (.inr (.inr (.inr (fun i => if i < 13 then some (rw3 i) else none)))))), (o7, .inl (cI, 12, .inl fw8))] : va_W) ++ (gr13 rw3 cI 12 u.2 ++ ([] : va_W))) t) (va_A (([(o1, .inr (3, [.ref o2, .int v5])), (o6, .inr (4, [.ref o7, .int v9, .int v10])), (o2, .inl (c2, 13, .inr (.inr (.inr (.inr (fun i => if i < 13 then some (rw3 i) else none)))))), (o7, .inl (cI, 12, .inl fw8))] : va_W) ++ (gr13 rw3 cI 12 Gw4 ++ ([] : va_W))) sz)) 0 0 (va_A (([(o1, .inr (3, [.ref o2, .int v5])), (o6, .inr (4, [.ref o7, .int v9, .int v10])), (o2, .inl (c2, 13, .inr (.inr (.inr (.inr (fun i => if i < 13 then some (rw3 i) else none)))))), (o7, .inl (cI, 12, .inl fw8))] : va_W) ++ (gr13 rw3 cI 12 Gw4 ++ ([] : va_W))) sz) := by
  refine Met.ofW (cc := cX3_goesWithoutFill) (maxL := 5) (ret := (some .boolean)) (by decide) rfl ?_
  intro p e s m args below meth c s₁ B hml hv
  obtain ⟨rfl, hsz, hP, hK, hD0, hN⟩ := hv
  have hx := B.exec
  have hb := B.bytes
  have hr := B.returns
  have hts := atoms_spec (ws := wsX3_goesWithoutFill) B.pre
  have hown : s.vm.findClass RX3 = some m.cls := findClass_of_methodNamed B.named
  have hlocks := B.notSynchronized
  subst hsz
  have hD := hD0.self (sz := s.heap.size)
  generalize hAe : va_A (([(o1, .inr (3, [.ref o2, .int v5])), (o6, .inr (4, [.ref o7, .int v9, .int v10])), (o2, .inl (c2, 13, .inr (.inr (.inr (.inr (fun i => if i < 13 then some (rw3 i) else none)))))), (o7, .inl (cI, 12, .inl fw8))] : va_W) ++ (gr13 rw3 cI 12 Gw4 ++ ([] : va_W))) s.heap.size = A at hD ⊢
  have hA : ∀ q : Nat, s.heap.size ≤ q → A q := fun q h => by rw [← hAe]; exact Or.inr h
  have hS : va_S A s.heap s.heap [] := va_S.rf
  have hP : va_P (dC, dI) vwCl (([(o1, .inr (3, [.ref o2, .int v5])), (o6, .inr (4, [.ref o7, .int v9, .int v10])), (o2, .inl (c2, 13, .inr (.inr (.inr (.inr (fun i => if i < 13 then some (rw3 i) else none)))))), (o7, .inl (cI, 12, .inl fw8))] : va_W) ++ (gr13 rw3 cI 12 Gw4 ++ ([] : va_W))) s.heap := hP
  have hl := lv_entry ([.ref o1, .ref o6]) (n := 5) (Nat.le_of_ble_eq_true rfl)
  rw [lg_entry_eq]
  generalize (lg_sl ([.ref o1, .ref o6]) ++ List.replicate (5 - (lg_sl ([.ref o1, .ref o6])).length) Slot.unset).toArray = ls at hl ⊢
  have hl : lv_has ls 5 [(0, .ref o1), (1, .ref o6)] := hl
  refine gen_Q (fun Q hQ => ?_)
  refine lv_aload_n hx hb dX3_goesWithoutFill_0 rfl (lv_at hl 0 rfl) ?_
  refine lv_aload_n hx hb dX3_goesWithoutFill_1 rfl (lv_at hl 1 rfl) ?_
  refine kc_v (D := (dC, dI)) (S := Int32 × (Nat → Nat → Int32)) (wc := ([(o6, .inr (4, [.ref o7, .int v9, .int v10])), (o1, .inr (3, [.ref o2, .int v5])), (o2, .inl (c2, 13, .inr (.inr (.inr (.inr (fun i => if i < 13 then some (rw3 i) else none)))))), (o7, .inl (cI, 12, .inl fw8))] : va_W) ++ (gr13 rw3 cI 12 Gw4 ++ ([] : va_W))) (wr := []) (w1 := fun u => ([(o6, .inr (4, [.ref o7, .int v9, .int v10])), (o1, .inr (3, [.ref o2, .int u.1])), (o2, .inl (c2, 13, .inr (.inr (.inr (.inr (fun i => if i < 13 then some (rw3 i) else none)))))), (o7, .inl (cI, 12, .inl fw8))] : va_W) ++ (gr13 rw3 cI 12 u.2 ++ ([] : va_W))) (wn := fun u => ([(o1, .inr (3, [.ref o2, .int u.1])), (o6, .inr (4, [.ref o7, .int v9, .int v10])), (o2, .inl (c2, 13, .inr (.inr (.inr (.inr (fun i => if i < 13 then some (rw3 i) else none)))))), (o7, .inl (cI, 12, .inl fw8))] : va_W) ++ (gr13 rw3 cI 12 u.2 ++ ([] : va_W))) (fun hPc hDc => va_runV (As := [.ref o6]) (rest := []) ⟨hx, hb, hml, hown, hts⟩ (kX3_start_1 l dC dI cI c2 cZ o1 o6 o7 o2 rw3 Gw4 v5 fw8 v9 v10 s.heap.size Gw4_b v5_h fw8_b v9_h) (cwV 1 hts gX3_goesWithoutFill_X3_start rfl rfl rfl (by decide +kernel) ⟨Nat.le_of_ble_eq_true rfl, Nat.le_of_ble_eq_true rfl⟩) (pre_V hPc hK hDc hN (ci := 3) (q0 := 1) rfl rfl) rfl rfl hl.1 rfl (lv_room (Nat.le_of_ble_eq_true rfl)) dX3_goesWithoutFill_2 ⟨Nat.le_of_ble_eq_true rfl, Nat.le_of_ble_eq_true rfl⟩) hP hD hS hA [1, 0, 2, 3, 4, 5, 6, 7, 8, 9, 10, 11, 12, 13, 14, 15, 16] [] [1, 0, 2, 3, 4, 5, 6, 7, 8, 9, 10, 11, 12, 13, 14, 15, 16] rfl rfl (by decide +kernel) (by decide +kernel) (by decide +kernel) (by decide +kernel) (fun _ => rfl) (fun u H locs hq hP hD hS => ?_)
  obtain ⟨y1, G2⟩ := u
  obtain ⟨y1_h, G2_b⟩ := hq
  have hP : va_P (dC, dI) vwCl (([(o1, .inr (3, [.ref o2, .int y1])), (o6, .inr (4, [.ref o7, .int v9, .int v10])), (o2, .inl (c2, 13, .inr (.inr (.inr (.inr (fun i => if i < 13 then some (rw3 i) else none)))))), (o7, .inl (cI, 12, .inl fw8))] : va_W) ++ (gr13 rw3 cI 12 G2 ++ ([] : va_W))) H := hP
  have hD : va_D A (([(o1, .inr (3, [.ref o2, .int y1])), (o6, .inr (4, [.ref o7, .int v9, .int v10])), (o2, .inl (c2, 13, .inr (.inr (.inr (.inr (fun i => if i < 13 then some (rw3 i) else none)))))), (o7, .inl (cI, 12, .inl fw8))] : va_W) ++ (gr13 rw3 cI 12 G2 ++ ([] : va_W))) := hD
  refine lv_aload_n hx hb dX3_goesWithoutFill_5 rfl (lv_at hl 1 rfl) ?_
  refine kc_i (D := (dC, dI)) (S := Unit) (wc := [(o6, .inr (4, [.ref o7, .int v9, .int v10]))]) (wr := ([(o1, .inr (3, [.ref o2, .int y1])), (o2, .inl (c2, 13, .inr (.inr (.inr (.inr (fun i => if i < 13 then some (rw3 i) else none)))))), (o7, .inl (cI, 12, .inl fw8))] : va_W) ++ (gr13 rw3 cI 12 G2 ++ ([] : va_W))) (w1 := fun _ => [(o6, .inr (4, [.ref o7, .int v9, .int v10]))]) (wn := fun _ => ([(o1, .inr (3, [.ref o2, .int y1])), (o6, .inr (4, [.ref o7, .int v9, .int v10])), (o2, .inl (c2, 13, .inr (.inr (.inr (.inr (fun i => if i < 13 then some (rw3 i) else none)))))), (o7, .inl (cI, 12, .inl fw8))] : va_W) ++ (gr13 rw3 cI 12 G2 ++ ([] : va_W))) (fun hPc hDc => va_runVN (As := []) (rest := []) ⟨hx, hb, hml, hown, hts⟩ (kX4_all_1 l dC dI cI c2 cZ o6 o7 v9 v10 H.size v9_h) ⟨va_cnB 0 hts gX3_goesWithoutFill_X4_all_n70 rfl rfl rfl (hN.1 _ ns_73) (hts (.initialized RX4) hm_X3_goesWithoutFill_13) (by decide +kernel) ⟨Nat.le_of_ble_eq_true rfl, Nat.le_of_ble_eq_true rfl⟩, (hts (.instanceMethod yX4_all) hm_X3_goesWithoutFill_12), (hts (.selects RX4 yX4_all yX4_all) hm_X3_goesWithoutFill_14)⟩ (pre_V hPc hK hDc hN (ci := 4) (q0 := 0) rfl rfl) rfl rfl hl.1 rfl (lv_room (Nat.le_of_ble_eq_true rfl)) dX3_goesWithoutFill_6 ⟨Nat.le_of_ble_eq_true rfl, Nat.le_of_ble_eq_true rfl⟩) hP hD hS hA [1] [0, 2, 3, 4, 5, 6, 7, 8, 9, 10, 11, 12, 13, 14, 15, 16] [0, 16, 1, 2, 3, 4, 5, 6, 7, 8, 9, 10, 11, 12, 13, 14, 15] rfl rfl (by decide +kernel) (by decide +kernel) (by decide +kernel) (by decide +kernel) (fun _ => rfl) (fun x3 _ H locs hq hP hD hS => ?_)
  have x3_h := hq
  have hP : va_P (dC, dI) vwCl (([(o1, .inr (3, [.ref o2, .int y1])), (o6, .inr (4, [.ref o7, .int v9, .int v10])), (o2, .inl (c2, 13, .inr (.inr (.inr (.inr (fun i => if i < 13 then some (rw3 i) else none)))))), (o7, .inl (cI, 12, .inl fw8))] : va_W) ++ (gr13 rw3 cI 12 G2 ++ ([] : va_W))) H := hP
  have hD : va_D A (([(o1, .inr (3, [.ref o2, .int y1])), (o6, .inr (4, [.ref o7, .int v9, .int v10])), (o2, .inl (c2, 13, .inr (.inr (.inr (.inr (fun i => if i < 13 then some (rw3 i) else none)))))), (o7, .inl (cI, 12, .inl fw8))] : va_W) ++ (gr13 rw3 cI 12 G2 ++ ([] : va_W))) := hD
  refine lv_istore_n (lv' := [(2, .int x3), (0, .ref o1), (1, .ref o6)]) hx hb dX3_goesWithoutFill_9 rfl hl (by decide) rfl (fun ls hl => ?_)
  refine lv_iconst (v := 0) hx hb dX3_goesWithoutFill_10 (by decide) ?_
  refine lv_istore_n (lv' := [(3, .int 0), (2, .int x3), (0, .ref o1), (1, .ref o6)]) hx hb dX3_goesWithoutFill_11 rfl hl (by decide) rfl (fun ls hl => ?_)
  have L1 : ∀ (N : Nat) (x120 : Int32) (x121 : Int32) (G122 : Nat → Nat → Int32) (H : Heap) (locs : List Loc) (ls : Array Slot), (12 - x120.toInt).toNat < N → Iv 0 12 x120 → Iv 0 4095 x121 → Bg 13 12 0 4095 G122 → va_P (dC, dI) vwCl (([(o1, .inr (3, [.ref o2, .int y1])), (o6, .inr (4, [.ref o7, .int v9, .int v10])), (o2, .inl (c2, 13, .inr (.inr (.inr (.inr (fun i => if i < 13 then some (rw3 i) else none)))))), (o7, .inl (cI, 12, .inl fw8))] : va_W) ++ (gr13 rw3 cI 12 G122 ++ ([] : va_W))) H → va_D A (([(o1, .inr (3, [.ref o2, .int y1])), (o6, .inr (4, [.ref o7, .int v9, .int v10])), (o2, .inl (c2, 13, .inr (.inr (.inr (.inr (fun i => if i < 13 then some (rw3 i) else none)))))), (o7, .inl (cI, 12, .inl fw8))] : va_W) ++ (gr13 rw3 cI 12 G122 ++ ([] : va_W))) → va_S A s.heap H locs → lv_has ls 5 [(3, .int x120), (2, .int x121), (0, .ref o1), (1, .ref o6)] → W p l e ({ frames := 3, cells := 0, slots := 0, locals := 91 }) s m ([.ref o1, .ref o6] : List Value).toArray below meth c H locs 0 0 Q (F0 m 12 ls []) := by
    intro N
    induction N with
    | zero =>
      intro x120 x121 G122 H locs ls hM
      exact absurd hM (Nat.not_lt_zero _)
    | succ N ih1 =>
      intro x120 x121 G122 H locs ls hM1 x120_h x121_h G122_b hP hD hS hl
      refine lv_iload_n hx hb dX3_goesWithoutFill_12 rfl (lv_at hl 0 rfl) ?_
      refine lv_aload_n hx hb dX3_goesWithoutFill_13 rfl (lv_at hl 2 rfl) ?_
      refine va_get (D := (dC, dI)) (ci := 3) (v := .int y1) (C := RX3) (T := TX3) (N := 2) hx hb hts iw_X3_goesWithoutFill_X3 hown hK hP 0 rfl rfl 1 (by decide) (hts (.fieldLink RX3 16 "HolelessHouse$Going" "size" "I") hm_X3_goesWithoutFill_1) (fun _ h9 => h9) rfl dX3_goesWithoutFill_14 ?_
      refine lv_icmp_ge (tgt := 57) hx hb dX3_goesWithoutFill_17 (by decide) (fun h123 => ?_) (fun h123 => ?_)
      ·
        have qh123 := le_i h123
        refine lv_iconst (v := 1) hx hb dX3_goesWithoutFill_57 (by decide) ?_
        rw [hQ]
        exact W.zret (v := 1) (ty := .boolean) hx hb hr rfl (fun t ht hW => ⟨⟨1, (y1, G122), rfl, ⟨(iv_w ik_1 (by decide)), y1_h, G122_b⟩, by rw [ht]; exact hP, va_K.moved hW.alike hK, hD⟩, hS.F ht⟩) hS.2.2 dX3_goesWithoutFill_58
      ·
        have qh123 := nle_i h123
        have j124 : Iv 0 11 x120 := r_ltl qh123 x120_h y1_h (by decide)
        have j125 : Iv 1 12 y1 := r_ltr qh123 x120_h y1_h (by decide)
        refine lv_aload_n hx hb dX3_goesWithoutFill_20 rfl (lv_at hl 2 rfl) ?_
        refine lv_iload_n hx hb dX3_goesWithoutFill_21 rfl (lv_at hl 0 rfl) ?_
        refine lv_iload_n hx hb dX3_goesWithoutFill_22 rfl (lv_at hl 1 rfl) ?_
        refine kc_i (D := (dC, dI)) (S := Unit) (wc := ([(o1, .inr (3, [.ref o2, .int y1])), (o2, .inl (c2, 13, .inr (.inr (.inr (.inr (fun i => if i < 13 then some (rw3 i) else none))))))] : va_W) ++ (gr13 rw3 cI 12 G122 ++ ([] : va_W))) (wr := [(o6, .inr (4, [.ref o7, .int v9, .int v10])), (o7, .inl (cI, 12, .inl fw8))]) (w1 := fun _ => ([(o1, .inr (3, [.ref o2, .int y1])), (o2, .inl (c2, 13, .inr (.inr (.inr (.inr (fun i => if i < 13 then some (rw3 i) else none))))))] : va_W) ++ (gr13 rw3 cI 12 G122 ++ ([] : va_W))) (wn := fun _ => ([(o1, .inr (3, [.ref o2, .int y1])), (o6, .inr (4, [.ref o7, .int v9, .int v10])), (o2, .inl (c2, 13, .inr (.inr (.inr (.inr (fun i => if i < 13 then some (rw3 i) else none)))))), (o7, .inl (cI, 12, .inl fw8))] : va_W) ++ (gr13 rw3 cI 12 G122 ++ ([] : va_W))) (fun hPc hDc => va_runV (As := [.int x120, .int x121]) (rest := []) ⟨hx, hb, hml, hown, hts⟩ (kX3_leastTight_1 l dC dI cI c2 cZ o1 o2 rw3 G122 y1 x120 x121 H.size G122_b (iv_w j125 (by decide)) j124 x121_h) (cwV 2 hts gX3_goesWithoutFill_X3_leastTight rfl rfl rfl (by decide +kernel) ⟨Nat.le_of_ble_eq_true rfl, Nat.le_of_ble_eq_true rfl⟩) (pre_V hPc hK hDc hN (ci := 3) (q0 := 0) rfl rfl) rfl rfl hl.1 rfl (lv_room (Nat.le_of_ble_eq_true rfl)) dX3_goesWithoutFill_23 ⟨Nat.le_of_ble_eq_true rfl, Nat.le_of_ble_eq_true rfl⟩) hP hD hS hA [0, 2, 4, 5, 6, 7, 8, 9, 10, 11, 12, 13, 14, 15, 16] [1, 3] [2, 0, 3, 1, 4, 5, 6, 7, 8, 9, 10, 11, 12, 13, 14, 15, 16] rfl rfl (by decide +kernel) (by decide +kernel) (by decide +kernel) (by decide +kernel) (fun _ => rfl) (fun x126 _ H locs hq hP hD hS => ?_)
        have x126_h := hq
        have hP : va_P (dC, dI) vwCl (([(o1, .inr (3, [.ref o2, .int y1])), (o6, .inr (4, [.ref o7, .int v9, .int v10])), (o2, .inl (c2, 13, .inr (.inr (.inr (.inr (fun i => if i < 13 then some (rw3 i) else none)))))), (o7, .inl (cI, 12, .inl fw8))] : va_W) ++ (gr13 rw3 cI 12 G122 ++ ([] : va_W))) H := hP
        have hD : va_D A (([(o1, .inr (3, [.ref o2, .int y1])), (o6, .inr (4, [.ref o7, .int v9, .int v10])), (o2, .inl (c2, 13, .inr (.inr (.inr (.inr (fun i => if i < 13 then some (rw3 i) else none)))))), (o7, .inl (cI, 12, .inl fw8))] : va_W) ++ (gr13 rw3 cI 12 G122 ++ ([] : va_W))) := hD
        refine lv_istore (lv' := [(4, .int x126), (3, .int x120), (2, .int x121), (0, .ref o1), (1, .ref o6)]) hx hb dX3_goesWithoutFill_26 hl (by decide) rfl (fun ls hl => ?_)
        refine lv_iload hx hb dX3_goesWithoutFill_28 (lv_at hl 0 rfl) ?_
        refine lv_if_ge (tgt := 35) hx hb dX3_goesWithoutFill_30 (by decide) (fun h127 => ?_) (fun h127 => ?_)
        ·
          have qh127 := le_i h127
          have j128 : Iv 0 11 x126 := r_ler qh127 ik_0 x126_h (by decide)
          refine lv_aload_n hx hb dX3_goesWithoutFill_35 rfl (lv_at hl 3 rfl) ?_
          refine lv_iload_n hx hb dX3_goesWithoutFill_36 rfl (lv_at hl 1 rfl) ?_
          refine lv_iload hx hb dX3_goesWithoutFill_37 (lv_at hl 0 rfl) ?_
          refine kc_v (D := (dC, dI)) (S := (Nat → Nat → Int32)) (wc := ([(o1, .inr (3, [.ref o2, .int y1])), (o2, .inl (c2, 13, .inr (.inr (.inr (.inr (fun i => if i < 13 then some (rw3 i) else none))))))] : va_W) ++ (gr13 rw3 cI 12 G122 ++ ([] : va_W))) (wr := [(o6, .inr (4, [.ref o7, .int v9, .int v10])), (o7, .inl (cI, 12, .inl fw8))]) (w1 := fun u => ([(o1, .inr (3, [.ref o2, .int y1])), (o2, .inl (c2, 13, .inr (.inr (.inr (.inr (fun i => if i < 13 then some (rw3 i) else none))))))] : va_W) ++ (gr13 rw3 cI 12 u ++ ([] : va_W))) (wn := fun u => ([(o1, .inr (3, [.ref o2, .int y1])), (o6, .inr (4, [.ref o7, .int v9, .int v10])), (o2, .inl (c2, 13, .inr (.inr (.inr (.inr (fun i => if i < 13 then some (rw3 i) else none)))))), (o7, .inl (cI, 12, .inl fw8))] : va_W) ++ (gr13 rw3 cI 12 u ++ ([] : va_W))) (fun hPc hDc => va_runV (As := [.int x120, .int x126]) (rest := []) ⟨hx, hb, hml, hown, hts⟩ (kX3_leave_1 l dC dI cI c2 cZ o1 o2 rw3 G122 y1 x120 x126 H.size G122_b (iv_w j125 (by decide)) j124 j128) (cwV 2 hts gX3_goesWithoutFill_X3_leave rfl rfl rfl (by decide +kernel) ⟨Nat.le_of_ble_eq_true rfl, Nat.le_of_ble_eq_true rfl⟩) (pre_V hPc hK hDc hN (ci := 3) (q0 := 0) rfl rfl) rfl rfl hl.1 rfl (lv_room (Nat.le_of_ble_eq_true rfl)) dX3_goesWithoutFill_39 ⟨Nat.le_of_ble_eq_true rfl, Nat.le_of_ble_eq_true rfl⟩) hP hD hS hA [0, 2, 4, 5, 6, 7, 8, 9, 10, 11, 12, 13, 14, 15, 16] [1, 3] [2, 0, 3, 1, 4, 5, 6, 7, 8, 9, 10, 11, 12, 13, 14, 15, 16] rfl rfl (by decide +kernel) (by decide +kernel) (by decide +kernel) (by decide +kernel) (fun _ => rfl) (fun G129 H locs hq hP hD hS => ?_)
          have G129_b := hq
          have hP : va_P (dC, dI) vwCl (([(o1, .inr (3, [.ref o2, .int y1])), (o6, .inr (4, [.ref o7, .int v9, .int v10])), (o2, .inl (c2, 13, .inr (.inr (.inr (.inr (fun i => if i < 13 then some (rw3 i) else none)))))), (o7, .inl (cI, 12, .inl fw8))] : va_W) ++ (gr13 rw3 cI 12 G129 ++ ([] : va_W))) H := hP
          have hD : va_D A (([(o1, .inr (3, [.ref o2, .int y1])), (o6, .inr (4, [.ref o7, .int v9, .int v10])), (o2, .inl (c2, 13, .inr (.inr (.inr (.inr (fun i => if i < 13 then some (rw3 i) else none)))))), (o7, .inl (cI, 12, .inl fw8))] : va_W) ++ (gr13 rw3 cI 12 G129 ++ ([] : va_W))) := hD
          refine lv_iload_n hx hb dX3_goesWithoutFill_42 rfl (lv_at hl 2 rfl) ?_
          refine lv_iconst (v := 1) hx hb dX3_goesWithoutFill_43 (by decide) ?_
          refine lv_iload hx hb dX3_goesWithoutFill_44 (lv_at hl 0 rfl) ?_
          refine lv_ishl hx hb dX3_goesWithoutFill_46 (lv_topi (fun x130 x130_e => ?_))
          have x130_h : Iv 1 2048 x130 := iv_e x130_e (iv_shl1 j128 (by decide))
          refine lv_iconst (v := (-1)) hx hb dX3_goesWithoutFill_47 (by decide) ?_
          refine lv_ixor hx hb dX3_goesWithoutFill_48 (lv_topi (fun x131 x131_e => ?_))
          refine lv_iand hx hb dX3_goesWithoutFill_49 (lv_topi (fun x132 x132_e => ?_))
          have x132_h : Iv 0 4095 x132 := iv_e x132_e (iv_andL _ x121_h (by decide))
          refine lv_istore_n (lv' := [(2, .int x132), (4, .int x126), (3, .int x120), (0, .ref o1), (1, .ref o6)]) hx hb dX3_goesWithoutFill_50 rfl hl (by decide) rfl (fun ls hl => ?_)
          obtain ⟨x133, x133_e⟩ : ∃ z : Int32, z = x120 + 1 := ⟨_, rfl⟩
          have x133_h : Iv 1 12 x133 := iv_e x133_e (iv_add j124 ik_1 (by decide))
          refine lv_iinc (v := x133) (lv' := [(3, .int x133), (2, .int x132), (4, .int x126), (0, .ref o1), (1, .ref o6)]) hx hb dX3_goesWithoutFill_51 hl (k := 2) rfl (incN (by decide +kernel) x133_e) (by decide) rfl (fun ls hl => ?_)
          refine lv_goto (tgt := 12) hx hb dX3_goesWithoutFill_54 (by decide) ?_
          exact ih1 x133 x132 G129 _ _ _ (ms_up x133_e j124 (by decide) hM1) (iv_w x133_h (by decide)) x132_h G129_b hP hD hS (lv_sub hl [0, 1, 3, 4] rfl)
        ·
          have qh127 := nle_i h127
          have j134 : Iv (-1) (-1) x126 := r_ltl qh127 x126_h ik_0 (by decide)
          refine lv_iconst (v := 0) hx hb dX3_goesWithoutFill_33 (by decide) ?_
          rw [hQ]
          exact W.zret (v := 0) (ty := .boolean) hx hb hr rfl (fun t ht hW => ⟨⟨0, (y1, G122), rfl, ⟨(iv_w ik_0 (by decide)), (iv_w j125 (by decide)), G122_b⟩, by rw [ht]; exact hP, va_K.moved hW.alike hK, hD⟩, hS.F ht⟩) hS.2.2 dX3_goesWithoutFill_34
  exact L1 _ 0 x3 G2 _ _ _ (Nat.lt_succ_self _) (iv_w ik_0 (by decide)) x3_h G2_b hP hD hS hl
set_option maxHeartbeats 4000000 in
set_option maxRecDepth 100000 in
theorem kX9_above_1 (l : Launch) (dC : Nat → ClassId) (dI : Nat → Nat → Nat) (cI c2 cZ : ClassId) (a0 : Int32) (sz : Nat) : Met l yX9_above wsX9_above ({ frames := 0, cells := 0, slots := 0, locals := 0 }) (va_Pc [.int a0] (wPre (dC, dI) [(cI, .int), (c2, .array .int), (cZ, .boolean)] ([]) sz)) (va_Qi (fun (r : Int32) (_ : Unit) => True) (fun _ t => wPost (dC, dI) [(cI, .int), (c2, .array .int), (cZ, .boolean)] (va_A ([]) sz) ([]) t) (va_A ([]) sz)) 0 0 (va_A ([]) sz) := by
  refine Met.ofW (cc := cX9_above) (maxL := 1) (ret := (some .int)) (by decide) rfl ?_
  intro p e s m args below meth c s₁ B hml hv
  obtain ⟨rfl, hsz, hP, hK, hD0, hN⟩ := hv
  have hx := B.exec
  have hb := B.bytes
  have hr := B.returns
  have hts := atoms_spec (ws := wsX9_above) B.pre
  have hown : s.vm.findClass RX9 = some m.cls := findClass_of_methodNamed B.named
  have hlocks := B.notSynchronized
  subst hsz
  have hD := hD0.self (sz := s.heap.size)
  generalize hAe : va_A ([]) s.heap.size = A at hD ⊢
  have hA : ∀ q : Nat, s.heap.size ≤ q → A q := fun q h => by rw [← hAe]; exact Or.inr h
  have hS : va_S A s.heap s.heap [] := va_S.rf
  have hP : va_P (dC, dI) vwCl ([]) s.heap := hP
  have hl := lv_entry ([.int a0]) (n := 1) (Nat.le_of_ble_eq_true rfl)
  rw [lg_entry_eq]
  generalize (lg_sl ([.int a0]) ++ List.replicate (1 - (lg_sl ([.int a0])).length) Slot.unset).toArray = ls at hl ⊢
  have hl : lv_has ls 1 [(0, .int a0)] := hl
  refine gen_Q (fun Q hQ => ?_)
  refine lv_iconst (v := 2) hx hb dX9_above_0 (by decide) ?_
  refine lv_iload_n hx hb dX9_above_1 rfl (lv_at hl 0 rfl) ?_
  refine lv_ishl hx hb dX9_above_2 (lv_topi (fun x1 x1_e => ?_))
  refine lv_iconst (v := 1) hx hb dX9_above_3 (by decide) ?_
  refine lv_isub hx hb dX9_above_4 (lv_topi (fun x2 x2_e => ?_))
  refine lv_iconst (v := (-1)) hx hb dX9_above_5 (by decide) ?_
  refine lv_ixor hx hb dX9_above_6 (lv_topi (fun x3 x3_e => ?_))
  rw [hQ]
  exact W.iret (v := x3) hx hb hr (fun t ht hW => ⟨⟨x3, (), rfl, trivial, by rw [ht]; exact hP, va_K.moved hW.alike hK, hD⟩, hS.F ht⟩) hS.2.2 dX9_above_7
theorem iw_X9_nextOnes_X4 : ∀ w ∈ wsX40, w ∈ wsX9_nextOnes := fun _ h => List.mem_cons.mpr (Or.inr (List.mem_append.mpr (Or.inr h)))
theorem iw_X9_nextOnes_X9 : ∀ w ∈ wsX90, w ∈ wsX9_nextOnes := fun _ h => List.mem_cons.mpr (Or.inr (List.mem_append.mpr (Or.inl (List.mem_append.mpr (Or.inr h)))))
set_option maxHeartbeats 4000000 in
set_option maxRecDepth 100000 in
theorem kX9_nextOnes_1 (l : Launch) (dC : Nat → ClassId) (dI : Nat → Nat → Nat) (cI c2 cZ : ClassId) (o1 : Nat) (o11 : Nat) (o2 : Nat) (o7 : Nat) (o12 : Nat) (fw8 : Nat → Int32) (v9 : Int32) (v10 : Int32) (fw13 : Nat → Int32) (v14 : Int32) (v15 : Int32) (a2 : Int32) (a3 : Int32) (sz : Nat) (fw8_b : Bd 12 0 11 fw8) (v9_h : Iv 0 12 v9) (fw13_b : Bd 12 0 4095 fw13) (v14_h : Iv 0 12 v14) (a2_h : Iv 4 12 a2) (a3_h : Iv 1 11 a3) : Met l yX9_nextOnes wsX9_nextOnes ({ frames := 1, cells := 0, slots := 0, locals := 20 }) (va_Pc [.ref o1, .ref o11, .int a2, .int a3] (wPre (dC, dI) [(cI, .int), (c2, .array .int), (cZ, .boolean)] ([(o1, .inr (9, [.ref o2, .ref o7, .int v9, .int v10])), (o7, .inl (cI, 12, .inl fw8)), (o11, .inr (4, [.ref o12, .int v14, .int v15])), (o12, .inl (cI, 12, .inl fw13))]) sz)) (va_Qi (fun (r : Int32) (_ : Unit) => Iv 0 4095 r) (fun _ t => wPost (dC, dI) [(cI, .int), (c2, .array .int), (cZ, .boolean)] (va_A ([(o1, .inr (9, [.ref o2, .ref o7, .int v9, .int v10])), (o7, .inl (cI, 12, .inl fw8)), (o11, .inr (4, [.ref o12, .int v14, .int v15])), (o12, .inl (cI, 12, .inl fw13))]) sz) ([(o1, .inr (9, [.ref o2, .ref o7, .int v9, .int v10])), (o7, .inl (cI, 12, .inl fw8)), (o11, .inr (4, [.ref o12, .int v14, .int v15])), (o12, .inl (cI, 12, .inl fw13))]) t) (va_A ([(o1, .inr (9, [.ref o2, .ref o7, .int v9, .int v10])), (o7, .inl (cI, 12, .inl fw8)), (o11, .inr (4, [.ref o12, .int v14, .int v15])), (o12, .inl (cI, 12, .inl fw13))]) sz)) 0 0 (va_A ([(o1, .inr (9, [.ref o2, .ref o7, .int v9, .int v10])), (o7, .inl (cI, 12, .inl fw8)), (o11, .inr (4, [.ref o12, .int v14, .int v15])), (o12, .inl (cI, 12, .inl fw13))]) sz) := by
  refine Met.ofW (cc := cX9_nextOnes) (maxL := 6) (ret := (some .int)) (by decide) rfl ?_
  intro p e s m args below meth c s₁ B hml hv
  obtain ⟨rfl, hsz, hP, hK, hD0, hN⟩ := hv
  have hx := B.exec
  have hb := B.bytes
  have hr := B.returns
  have hts := atoms_spec (ws := wsX9_nextOnes) B.pre
  have hown : s.vm.findClass RX9 = some m.cls := findClass_of_methodNamed B.named
  have hlocks := B.notSynchronized
  subst hsz
  have hD := hD0.self (sz := s.heap.size)
  generalize hAe : va_A ([(o1, .inr (9, [.ref o2, .ref o7, .int v9, .int v10])), (o7, .inl (cI, 12, .inl fw8)), (o11, .inr (4, [.ref o12, .int v14, .int v15])), (o12, .inl (cI, 12, .inl fw13))]) s.heap.size = A at hD ⊢
  have hA : ∀ q : Nat, s.heap.size ≤ q → A q := fun q h => by rw [← hAe]; exact Or.inr h
  have hS : va_S A s.heap s.heap [] := va_S.rf
  have hP : va_P (dC, dI) vwCl ([(o1, .inr (9, [.ref o2, .ref o7, .int v9, .int v10])), (o7, .inl (cI, 12, .inl fw8)), (o11, .inr (4, [.ref o12, .int v14, .int v15])), (o12, .inl (cI, 12, .inl fw13))]) s.heap := hP
  have hl := lv_entry ([.ref o1, .ref o11, .int a2, .int a3]) (n := 6) (Nat.le_of_ble_eq_true rfl)
  rw [lg_entry_eq]
  generalize (lg_sl ([.ref o1, .ref o11, .int a2, .int a3]) ++ List.replicate (6 - (lg_sl ([.ref o1, .ref o11, .int a2, .int a3])).length) Slot.unset).toArray = ls at hl ⊢
  have hl : lv_has ls 6 [(0, .ref o1), (1, .ref o11), (2, .int a2), (3, .int a3)] := hl
  refine gen_Q (fun Q hQ => ?_)
  refine lv_aload_n hx hb dX9_nextOnes_0 rfl (lv_at hl 0 rfl) ?_
  refine va_get (D := (dC, dI)) (ci := 9) (v := .ref o7) (C := RX9) (T := TX9) (N := 4) hx hb hts iw_X9_nextOnes_X9 hown hK hP 0 rfl rfl 1 (by decide) (hts (.fieldLink RX9 18 "HolelessHouse$Ring" "path" "[I") hm_X9_nextOnes_1) (fun _ h9 => h9) rfl dX9_nextOnes_1 ?_
  refine lv_iconst (v := 0) hx hb dX9_nextOnes_4 (by decide) ?_
  refine va_iald hx hb hK hP 1 0 rfl rfl (vin_iv ik_0 (by decide)) dX9_nextOnes_5 (lv_topi (fun x1 x1_e => ?_))
  have x1_h : Iv 0 11 x1 := iv_e x1_e (bd_at fw8_b (vin_iv ik_0 (by decide)))
  refine lv_istore (lv' := [(4, .int x1), (0, .ref o1), (1, .ref o11), (2, .int a2), (3, .int a3)]) hx hb dX9_nextOnes_6 hl (by decide) rfl (fun ls hl => ?_)
  refine lv_aload_n hx hb dX9_nextOnes_8 rfl (lv_at hl 2 rfl) ?_
  refine va_getN (D := (dC, dI)) (ci := 4) (v := .ref o12) (C := RX4) (T := TX4) (N := 3) hx hb hts iw_X9_nextOnes_X4 hown hK hP 2 rfl rfl 0 (by decide) (hN.use ns_6) (fun _ h9 => h9) rfl dX9_nextOnes_9 ?_
  refine lv_aload_n hx hb dX9_nextOnes_12 rfl (lv_at hl 1 rfl) ?_
  refine va_get (D := (dC, dI)) (ci := 9) (v := .ref o7) (C := RX9) (T := TX9) (N := 4) hx hb hts iw_X9_nextOnes_X9 hown hK hP 0 rfl rfl 1 (by decide) (hts (.fieldLink RX9 18 "HolelessHouse$Ring" "path" "[I") hm_X9_nextOnes_1) (fun _ h9 => h9) rfl dX9_nextOnes_13 ?_
  refine lv_iload_n hx hb dX9_nextOnes_16 rfl (lv_at hl 4 rfl) ?_
  refine lv_iconst (v := 1) hx hb dX9_nextOnes_17 (by decide) ?_
  refine lv_isub hx hb dX9_nextOnes_18 (lv_topi (fun x2 x2_e => ?_))
  have x2_h : Iv 0 10 x2 := iv_e x2_e (iv_sub a3_h ik_1 (by decide))
  refine va_iald hx hb hK hP 1 0 rfl rfl (vin_iv x2_h (by decide)) dX9_nextOnes_19 (lv_topi (fun x3 x3_e => ?_))
  have x3_h : Iv 0 11 x3 := iv_e x3_e (bd_at fw8_b (vin_iv x2_h (by decide)))
  refine va_iald hx hb hK hP 3 0 rfl rfl (vin_iv x3_h (by decide)) dX9_nextOnes_20 (lv_topi (fun x4 x4_e => ?_))
  have x4_h : Iv 0 4095 x4 := iv_e x4_e (bd_at fw13_b (vin_iv x3_h (by decide)))
  refine lv_iload hx hb dX9_nextOnes_21 (lv_at hl 0 rfl) ?_
  refine kc_i (D := (dC, dI)) (S := Unit) (wc := []) (wr := [(o1, .inr (9, [.ref o2, .ref o7, .int v9, .int v10])), (o7, .inl (cI, 12, .inl fw8)), (o11, .inr (4, [.ref o12, .int v14, .int v15])), (o12, .inl (cI, 12, .inl fw13))]) (w1 := fun _ => []) (wn := fun _ => [(o1, .inr (9, [.ref o2, .ref o7, .int v9, .int v10])), (o7, .inl (cI, 12, .inl fw8)), (o11, .inr (4, [.ref o12, .int v14, .int v15])), (o12, .inl (cI, 12, .inl fw13))]) (fun hPc hDc => va_runS (As := [.int x1]) (rest := [.int x4]) ⟨hx, hb, hml, hown, hts⟩ (kX9_above_1 l dC dI cI c2 cZ x1 s.heap.size) (va_cwS 1 hts gX9_nextOnes_X9_above rfl rfl rfl (by decide +kernel) ⟨Nat.le_of_ble_eq_true rfl, Nat.le_of_ble_eq_true rfl⟩) (pre_S hPc hK hDc hN) rfl rfl hl.1 rfl (lv_room (Nat.le_of_ble_eq_true rfl)) dX9_nextOnes_23 ⟨Nat.le_of_ble_eq_true rfl, Nat.le_of_ble_eq_true rfl⟩) hP hD hS hA [] [0, 1, 2, 3] [0, 1, 2, 3] rfl rfl (by decide +kernel) (by decide +kernel) (by decide +kernel) (by decide +kernel) (fun _ => rfl) (fun x5 _ H locs hq hP hD hS => ?_)
  have hP : va_P (dC, dI) vwCl ([(o1, .inr (9, [.ref o2, .ref o7, .int v9, .int v10])), (o7, .inl (cI, 12, .inl fw8)), (o11, .inr (4, [.ref o12, .int v14, .int v15])), (o12, .inl (cI, 12, .inl fw13))]) H := hP
  have hD : va_D A ([(o1, .inr (9, [.ref o2, .ref o7, .int v9, .int v10])), (o7, .inl (cI, 12, .inl fw8)), (o11, .inr (4, [.ref o12, .int v14, .int v15])), (o12, .inl (cI, 12, .inl fw13))]) := hD
  refine lv_iand hx hb dX9_nextOnes_26 (lv_topi (fun x6 x6_e => ?_))
  have x6_h : Iv 0 4095 x6 := iv_e x6_e (iv_andL _ x4_h (by decide))
  refine lv_istore (lv' := [(5, .int x6), (4, .int x1), (0, .ref o1), (1, .ref o11), (2, .int a2), (3, .int a3)]) hx hb dX9_nextOnes_27 hl (by decide) rfl (fun ls hl => ?_)
  refine lv_iload_n hx hb dX9_nextOnes_29 rfl (lv_at hl 5 rfl) ?_
  refine lv_iconst (v := 1) hx hb dX9_nextOnes_30 (by decide) ?_
  refine lv_icmp_ne (tgt := 37) hx hb dX9_nextOnes_31 (by decide) (fun h7 => ?_) (fun h7 => ?_)
  ·
    have j8 : Iv 2 11 a3 := r_nelo h7 a3_h ik_1 (by decide)
    refine lv_iload_n hx hb dX9_nextOnes_37 rfl (lv_at hl 5 rfl) ?_
    refine lv_iload_n hx hb dX9_nextOnes_38 rfl (lv_at hl 4 rfl) ?_
    refine lv_iconst (v := 1) hx hb dX9_nextOnes_39 (by decide) ?_
    refine lv_isub hx hb dX9_nextOnes_40 (lv_topi (fun x9 x9_e => ?_))
    have x9_h : Iv 3 11 x9 := iv_e x9_e (iv_sub a2_h ik_1 (by decide))
    refine lv_icmp_ne (tgt := 65) hx hb dX9_nextOnes_41 (by decide) (fun h10 => ?_) (fun h10 => ?_)
    ·
      refine lv_iload hx hb dX9_nextOnes_65 (lv_at hl 0 rfl) ?_
      refine lv_aload_n hx hb dX9_nextOnes_67 rfl (lv_at hl 3 rfl) ?_
      refine va_getN (D := (dC, dI)) (ci := 4) (v := .ref o12) (C := RX4) (T := TX4) (N := 3) hx hb hts iw_X9_nextOnes_X4 hown hK hP 2 rfl rfl 0 (by decide) (hN.use ns_6) (fun _ h9 => h9) rfl dX9_nextOnes_68 ?_
      refine lv_iload hx hb dX9_nextOnes_71 (lv_at hl 1 rfl) ?_
      refine va_iald hx hb hK hP 3 0 rfl rfl (vin_iv x1_h (by decide)) dX9_nextOnes_73 (lv_topi (fun x11 x11_e => ?_))
      have x11_h : Iv 0 4095 x11 := iv_e x11_e (bd_at fw13_b (vin_iv x1_h (by decide)))
      refine lv_iconst (v := (-1)) hx hb dX9_nextOnes_74 (by decide) ?_
      refine lv_ixor hx hb dX9_nextOnes_75 (lv_topi (fun x12 x12_e => ?_))
      refine lv_iand hx hb dX9_nextOnes_76 (lv_topi (fun x13 x13_e => ?_))
      have x13_h : Iv 0 4095 x13 := iv_e x13_e (iv_andL _ x6_h (by decide))
      rw [hQ]
      exact W.iret (v := x13) hx hb hr (fun t ht hW => ⟨⟨x13, (), rfl, x13_h, by rw [ht]; exact hP, va_K.moved hW.alike hK, hD⟩, hS.F ht⟩) hS.2.2 dX9_nextOnes_77
    ·
      have j14 : Iv 3 11 a3 := r_eq h10 x9_h
      refine lv_iload hx hb dX9_nextOnes_44 (lv_at hl 0 rfl) ?_
      refine lv_aload_n hx hb dX9_nextOnes_46 rfl (lv_at hl 3 rfl) ?_
      refine va_getN (D := (dC, dI)) (ci := 4) (v := .ref o12) (C := RX4) (T := TX4) (N := 3) hx hb hts iw_X9_nextOnes_X4 hown hK hP 2 rfl rfl 0 (by decide) (hN.use ns_6) (fun _ h9 => h9) rfl dX9_nextOnes_47 ?_
      refine lv_iload hx hb dX9_nextOnes_50 (lv_at hl 1 rfl) ?_
      refine va_iald hx hb hK hP 3 0 rfl rfl (vin_iv x1_h (by decide)) dX9_nextOnes_52 (lv_topi (fun x15 x15_e => ?_))
      have x15_h : Iv 0 4095 x15 := iv_e x15_e (bd_at fw13_b (vin_iv x1_h (by decide)))
      refine lv_iand hx hb dX9_nextOnes_53 (lv_topi (fun x16 x16_e => ?_))
      have x16_h : Iv 0 4095 x16 := iv_e x16_e (iv_andL _ x6_h (by decide))
      refine lv_aload_n hx hb dX9_nextOnes_54 rfl (lv_at hl 2 rfl) ?_
      refine va_get (D := (dC, dI)) (ci := 9) (v := .ref o7) (C := RX9) (T := TX9) (N := 4) hx hb hts iw_X9_nextOnes_X9 hown hK hP 0 rfl rfl 1 (by decide) (hts (.fieldLink RX9 18 "HolelessHouse$Ring" "path" "[I") hm_X9_nextOnes_1) (fun _ h9 => h9) rfl dX9_nextOnes_55 ?_
      refine lv_iconst (v := 1) hx hb dX9_nextOnes_58 (by decide) ?_
      refine va_iald hx hb hK hP 1 0 rfl rfl (vin_iv ik_1 (by decide)) dX9_nextOnes_59 (lv_topi (fun x17 x17_e => ?_))
      have x17_h : Iv 0 11 x17 := iv_e x17_e (bd_at fw8_b (vin_iv ik_1 (by decide)))
      refine kc_i (D := (dC, dI)) (S := Unit) (wc := []) (wr := [(o1, .inr (9, [.ref o2, .ref o7, .int v9, .int v10])), (o7, .inl (cI, 12, .inl fw8)), (o11, .inr (4, [.ref o12, .int v14, .int v15])), (o12, .inl (cI, 12, .inl fw13))]) (w1 := fun _ => []) (wn := fun _ => [(o1, .inr (9, [.ref o2, .ref o7, .int v9, .int v10])), (o7, .inl (cI, 12, .inl fw8)), (o11, .inr (4, [.ref o12, .int v14, .int v15])), (o12, .inl (cI, 12, .inl fw13))]) (fun hPc hDc => va_runS (As := [.int x17]) (rest := [.int x16]) ⟨hx, hb, hml, hown, hts⟩ (kX9_above_1 l dC dI cI c2 cZ x17 H.size) (va_cwS 1 hts gX9_nextOnes_X9_above rfl rfl rfl (by decide +kernel) ⟨Nat.le_of_ble_eq_true rfl, Nat.le_of_ble_eq_true rfl⟩) (pre_S hPc hK hDc hN) rfl rfl hl.1 rfl (lv_room (Nat.le_of_ble_eq_true rfl)) dX9_nextOnes_60 ⟨Nat.le_of_ble_eq_true rfl, Nat.le_of_ble_eq_true rfl⟩) hP hD hS hA [] [0, 1, 2, 3] [0, 1, 2, 3] rfl rfl (by decide +kernel) (by decide +kernel) (by decide +kernel) (by decide +kernel) (fun _ => rfl) (fun x18 _ H locs hq hP hD hS => ?_)
      have hP : va_P (dC, dI) vwCl ([(o1, .inr (9, [.ref o2, .ref o7, .int v9, .int v10])), (o7, .inl (cI, 12, .inl fw8)), (o11, .inr (4, [.ref o12, .int v14, .int v15])), (o12, .inl (cI, 12, .inl fw13))]) H := hP
      have hD : va_D A ([(o1, .inr (9, [.ref o2, .ref o7, .int v9, .int v10])), (o7, .inl (cI, 12, .inl fw8)), (o11, .inr (4, [.ref o12, .int v14, .int v15])), (o12, .inl (cI, 12, .inl fw13))]) := hD
      refine lv_iand hx hb dX9_nextOnes_63 (lv_topi (fun x19 x19_e => ?_))
      have x19_h : Iv 0 4095 x19 := iv_e x19_e (iv_andL _ x16_h (by decide))
      rw [hQ]
      exact W.iret (v := x19) hx hb hr (fun t ht hW => ⟨⟨x19, (), rfl, x19_h, by rw [ht]; exact hP, va_K.moved hW.alike hK, hD⟩, hS.F ht⟩) hS.2.2 dX9_nextOnes_64
  ·
    have j20 : Iv 1 1 a3 := r_eq h7 ik_1
    refine lv_iload hx hb dX9_nextOnes_34 (lv_at hl 0 rfl) ?_
    rw [hQ]
    exact W.iret (v := x6) hx hb hr (fun t ht hW => ⟨⟨x6, (), rfl, x6_h, by rw [ht]; exact hP, va_K.moved hW.alike hK, hD⟩, hS.F ht⟩) hS.2.2 dX9_nextOnes_36
set_option maxHeartbeats 4000000 in
set_option maxRecDepth 100000 in
theorem kX9_closes_1 (l : Launch) (dC : Nat → ClassId) (dI : Nat → Nat → Nat) (cI c2 cZ : ClassId) (o1 : Nat) (o11 : Nat) (a2 : Int32) (a4 : Int32) (sz : Nat) (a2_h : Iv 4 12 a2) : Met l yX9_closes wsX9_closes ({ frames := 0, cells := 0, slots := 0, locals := 0 }) (va_Pc [.ref o1, .ref o11, .int a2, .int 12, .int a4] (wPre (dC, dI) [(cI, .int), (c2, .array .int), (cZ, .boolean)] ([]) sz)) (va_Qi (fun (r : Int32) (_ : Unit) => Iv 1 1 r) (fun _ t => wPost (dC, dI) [(cI, .int), (c2, .array .int), (cZ, .boolean)] (va_A ([]) sz) ([]) t) (va_A ([]) sz)) 0 0 (va_A ([]) sz) := by
  refine Met.ofW (cc := cX9_closes) (maxL := 8) (ret := (some .boolean)) (by decide) rfl ?_
  intro p e s m args below meth c s₁ B hml hv
  obtain ⟨rfl, hsz, hP, hK, hD0, hN⟩ := hv
  have hx := B.exec
  have hb := B.bytes
  have hr := B.returns
  have hts := atoms_spec (ws := wsX9_closes) B.pre
  have hown : s.vm.findClass RX9 = some m.cls := findClass_of_methodNamed B.named
  have hlocks := B.notSynchronized
  subst hsz
  have hD := hD0.self (sz := s.heap.size)
  generalize hAe : va_A ([]) s.heap.size = A at hD ⊢
  have hA : ∀ q : Nat, s.heap.size ≤ q → A q := fun q h => by rw [← hAe]; exact Or.inr h
  have hS : va_S A s.heap s.heap [] := va_S.rf
  have hP : va_P (dC, dI) vwCl ([]) s.heap := hP
  have hl := lv_entry ([.ref o1, .ref o11, .int a2, .int 12, .int a4]) (n := 8) (Nat.le_of_ble_eq_true rfl)
  rw [lg_entry_eq]
  generalize (lg_sl ([.ref o1, .ref o11, .int a2, .int 12, .int a4]) ++ List.replicate (8 - (lg_sl ([.ref o1, .ref o11, .int a2, .int 12, .int a4])).length) Slot.unset).toArray = ls at hl ⊢
  have hl : lv_has ls 8 [(0, .ref o1), (1, .ref o11), (2, .int a2), (3, .int 12), (4, .int a4)] := hl
  refine gen_Q (fun Q hQ => ?_)
  refine lv_iload_n hx hb dX9_closes_0 rfl (lv_at hl 3 rfl) ?_
  refine lv_iload_n hx hb dX9_closes_1 rfl (lv_at hl 2 rfl) ?_
  refine lv_icmp_lt (tgt := 7) hx hb dX9_closes_2 (by decide) (fun h9 => absurd h9 (d_nlt ik_12 a2_h (by decide))) (fun _ => ?_)
  refine lv_iconst (v := 1) hx hb dX9_closes_5 (by decide) ?_
  rw [hQ]
  exact W.zret (v := 1) (ty := .boolean) hx hb hr rfl (fun t ht hW => ⟨⟨1, (), rfl, ik_1, by rw [ht]; exact hP, va_K.moved hW.alike hK, hD⟩, hS.F ht⟩) hS.2.2 dX9_closes_6
theorem iw_X9_closes_X4 : ∀ w ∈ wsX40, w ∈ wsX9_closes := fun _ h => List.mem_cons.mpr (Or.inr (List.mem_append.mpr (Or.inl (List.mem_append.mpr (Or.inr h)))))
theorem iw_X9_closes_X9 : ∀ w ∈ wsX90, w ∈ wsX9_closes := fun _ h => List.mem_cons.mpr (Or.inr (List.mem_append.mpr (Or.inr h)))
set_option maxHeartbeats 4000000 in
set_option maxRecDepth 100000 in
theorem kX9_closes_2 (l : Launch) (dC : Nat → ClassId) (dI : Nat → Nat → Nat) (cI c2 cZ : ClassId) (o1 : Nat) (o11 : Nat) (o2 : Nat) (o7 : Nat) (o12 : Nat) (fw8 : Nat → Int32) (v9 : Int32) (v10 : Int32) (fw13 : Nat → Int32) (v14 : Int32) (v15 : Int32) (a2 : Int32) (a4 : Int32) (sz : Nat) (fw8_b : Bd 12 0 11 fw8) (v9_h : Iv 0 12 v9) (fw13_b : Bd 12 0 4095 fw13) (v14_h : Iv 0 12 v14) (a2_h : Iv 4 12 a2) : Met l yX9_closes wsX9_closes ({ frames := 2, cells := 0, slots := 0, locals := 45 }) (va_Pc [.ref o1, .ref o11, .int a2, .int 11, .int a4] (wPre (dC, dI) [(cI, .int), (c2, .array .int), (cZ, .boolean)] ([(o1, .inr (9, [.ref o2, .ref o7, .int v9, .int v10])), (o7, .inl (cI, 12, .inl fw8)), (o11, .inr (4, [.ref o12, .int v14, .int v15])), (o12, .inl (cI, 12, .inl fw13))]) sz)) (va_Qi (fun (r : Int32) (u : (Nat → Int32)) => Iv 0 1 r ∧ (r = 0 → Iv 12 12 a2) ∧ Bd 12 0 11 u) (fun u t => wPost (dC, dI) [(cI, .int), (c2, .array .int), (cZ, .boolean)] (va_A ([(o1, .inr (9, [.ref o2, .ref o7, .int v9, .int v10])), (o7, .inl (cI, 12, .inl fw8)), (o11, .inr (4, [.ref o12, .int v14, .int v15])), (o12, .inl (cI, 12, .inl fw13))]) sz) ([(o1, .inr (9, [.ref o2, .ref o7, .int v9, .int v10])), (o7, .inl (cI, 12, .inl u)), (o11, .inr (4, [.ref o12, .int v14, .int v15])), (o12, .inl (cI, 12, .inl fw13))]) t) (va_A ([(o1, .inr (9, [.ref o2, .ref o7, .int v9, .int v10])), (o7, .inl (cI, 12, .inl fw8)), (o11, .inr (4, [.ref o12, .int v14, .int v15])), (o12, .inl (cI, 12, .inl fw13))]) sz)) 0 0 (va_A ([(o1, .inr (9, [.ref o2, .ref o7, .int v9, .int v10])), (o7, .inl (cI, 12, .inl fw8)), (o11, .inr (4, [.ref o12, .int v14, .int v15])), (o12, .inl (cI, 12, .inl fw13))]) sz) := by
  refine Met.ofW (cc := cX9_closes) (maxL := 8) (ret := (some .boolean)) (by decide) rfl ?_
  intro p e s m args below meth c s₁ B hml hv
  obtain ⟨rfl, hsz, hP, hK, hD0, hN⟩ := hv
  have hx := B.exec
  have hb := B.bytes
  have hr := B.returns
  have hts := atoms_spec (ws := wsX9_closes) B.pre
  have hown : s.vm.findClass RX9 = some m.cls := findClass_of_methodNamed B.named
  have hlocks := B.notSynchronized
  subst hsz
  have hD := hD0.self (sz := s.heap.size)
  generalize hAe : va_A ([(o1, .inr (9, [.ref o2, .ref o7, .int v9, .int v10])), (o7, .inl (cI, 12, .inl fw8)), (o11, .inr (4, [.ref o12, .int v14, .int v15])), (o12, .inl (cI, 12, .inl fw13))]) s.heap.size = A at hD ⊢
  have hA : ∀ q : Nat, s.heap.size ≤ q → A q := fun q h => by rw [← hAe]; exact Or.inr h
  have hS : va_S A s.heap s.heap [] := va_S.rf
  have hP : va_P (dC, dI) vwCl ([(o1, .inr (9, [.ref o2, .ref o7, .int v9, .int v10])), (o7, .inl (cI, 12, .inl fw8)), (o11, .inr (4, [.ref o12, .int v14, .int v15])), (o12, .inl (cI, 12, .inl fw13))]) s.heap := hP
  have hl := lv_entry ([.ref o1, .ref o11, .int a2, .int 11, .int a4]) (n := 8) (Nat.le_of_ble_eq_true rfl)
  rw [lg_entry_eq]
  generalize (lg_sl ([.ref o1, .ref o11, .int a2, .int 11, .int a4]) ++ List.replicate (8 - (lg_sl ([.ref o1, .ref o11, .int a2, .int 11, .int a4])).length) Slot.unset).toArray = ls at hl ⊢
  have hl : lv_has ls 8 [(0, .ref o1), (1, .ref o11), (2, .int a2), (3, .int 11), (4, .int a4)] := hl
  refine gen_Q (fun Q hQ => ?_)
  refine lv_iload_n hx hb dX9_closes_0 rfl (lv_at hl 3 rfl) ?_
  refine lv_iload_n hx hb dX9_closes_1 rfl (lv_at hl 2 rfl) ?_
  refine lv_icmp_lt (tgt := 7) hx hb dX9_closes_2 (by decide) (fun h1 => ?_) (fun h1 => ?_)
  ·
    have qh1 := lt_i h1
    have j2 : Iv 12 12 a2 := r_ltr qh1 ik_11 a2_h (by decide)
    refine lv_aload_n hx hb dX9_closes_7 rfl (lv_at hl 0 rfl) ?_
    refine lv_aload_n hx hb dX9_closes_8 rfl (lv_at hl 1 rfl) ?_
    refine lv_iload_n hx hb dX9_closes_9 rfl (lv_at hl 2 rfl) ?_
    refine lv_iload_n hx hb dX9_closes_10 rfl (lv_at hl 3 rfl) ?_
    refine kc_i (D := (dC, dI)) (S := Unit) (wc := [(o1, .inr (9, [.ref o2, .ref o7, .int v9, .int v10])), (o7, .inl (cI, 12, .inl fw8)), (o11, .inr (4, [.ref o12, .int v14, .int v15])), (o12, .inl (cI, 12, .inl fw13))]) (wr := []) (w1 := fun _ => [(o1, .inr (9, [.ref o2, .ref o7, .int v9, .int v10])), (o7, .inl (cI, 12, .inl fw8)), (o11, .inr (4, [.ref o12, .int v14, .int v15])), (o12, .inl (cI, 12, .inl fw13))]) (wn := fun _ => [(o1, .inr (9, [.ref o2, .ref o7, .int v9, .int v10])), (o7, .inl (cI, 12, .inl fw8)), (o11, .inr (4, [.ref o12, .int v14, .int v15])), (o12, .inl (cI, 12, .inl fw13))]) (fun hPc hDc => va_runV (As := [.ref o11, .int a2, .int 11]) (rest := []) ⟨hx, hb, hml, hown, hts⟩ (kX9_nextOnes_1 l dC dI cI c2 cZ o1 o11 o2 o7 o12 fw8 v9 v10 fw13 v14 v15 a2 11 s.heap.size fw8_b v9_h fw13_b v14_h (iv_w j2 (by decide)) (iv_w ik_11 (by decide))) (cwV 3 hts gX9_closes_X9_nextOnes rfl rfl rfl (by decide +kernel) ⟨Nat.le_of_ble_eq_true rfl, Nat.le_of_ble_eq_true rfl⟩) (pre_V hPc hK hDc hN (ci := 9) (q0 := 0) rfl rfl) rfl rfl hl.1 rfl (lv_room (Nat.le_of_ble_eq_true rfl)) dX9_closes_11 ⟨Nat.le_of_ble_eq_true rfl, Nat.le_of_ble_eq_true rfl⟩) hP hD hS hA [0, 1, 2, 3] [] [0, 1, 2, 3] rfl rfl (by decide +kernel) (by decide +kernel) (by decide +kernel) (by decide +kernel) (fun _ => rfl) (fun x3 _ H locs hq hP hD hS => ?_)
    have x3_h := hq
    have hP : va_P (dC, dI) vwCl ([(o1, .inr (9, [.ref o2, .ref o7, .int v9, .int v10])), (o7, .inl (cI, 12, .inl fw8)), (o11, .inr (4, [.ref o12, .int v14, .int v15])), (o12, .inl (cI, 12, .inl fw13))]) H := hP
    have hD : va_D A ([(o1, .inr (9, [.ref o2, .ref o7, .int v9, .int v10])), (o7, .inl (cI, 12, .inl fw8)), (o11, .inr (4, [.ref o12, .int v14, .int v15])), (o12, .inl (cI, 12, .inl fw13))]) := hD
    refine lv_iload hx hb dX9_closes_14 (lv_at hl 4 rfl) ?_
    refine lv_iconst (v := (-1)) hx hb dX9_closes_16 (by decide) ?_
    refine lv_ixor hx hb dX9_closes_17 (lv_topi (fun x4 x4_e => ?_))
    refine lv_iand hx hb dX9_closes_18 (lv_topi (fun x5 x5_e => ?_))
    have x5_h : Iv 0 4095 x5 := iv_e x5_e (iv_andL _ x3_h (by decide))
    refine lv_istore (lv' := [(5, .int x5), (0, .ref o1), (1, .ref o11), (2, .int a2), (3, .int 11), (4, .int a4)]) hx hb dX9_closes_19 hl (by decide) rfl (fun ls hl => ?_)
    refine lv_iload_n hx hb dX9_closes_21 rfl (lv_at hl 4 rfl) ?_
    refine lv_iconst (v := 1) hx hb dX9_closes_22 (by decide) ?_
    refine lv_icmp_ne (tgt := 30) hx hb dX9_closes_23 (by decide) (fun _ => ?_) (fun h9 => absurd h9 (by decide +kernel))
    refine lv_aload_n hx hb dX9_closes_30 rfl (lv_at hl 2 rfl) ?_
    refine va_getN (D := (dC, dI)) (ci := 4) (v := .ref o12) (C := RX4) (T := TX4) (N := 3) hx hb hts iw_X9_closes_X4 hown hK hP 2 rfl rfl 0 (by decide) (hN.use ns_6) (fun _ h9 => h9) rfl dX9_closes_31 ?_
    refine lv_aload_n hx hb dX9_closes_34 rfl (lv_at hl 1 rfl) ?_
    refine va_get (D := (dC, dI)) (ci := 9) (v := .ref o7) (C := RX9) (T := TX9) (N := 4) hx hb hts iw_X9_closes_X9 hown hK hP 0 rfl rfl 1 (by decide) (hts (.fieldLink RX9 18 "HolelessHouse$Ring" "path" "[I") hm_X9_closes_1) (fun _ h9 => h9) rfl dX9_closes_35 ?_
    refine lv_iload_n hx hb dX9_closes_38 rfl (lv_at hl 4 rfl) ?_
    refine lv_iconst (v := 1) hx hb dX9_closes_39 (by decide) ?_
    refine lv_isub hx hb dX9_closes_40 (tk_i (v := 10) (by decide +kernel) ?_)
    refine va_iald hx hb hK hP 1 0 rfl rfl (vin_iv ik_10 (by decide)) dX9_closes_41 (lv_topi (fun x6 x6_e => ?_))
    have x6_h : Iv 0 11 x6 := iv_e x6_e (bd_at fw8_b (vin_iv ik_10 (by decide)))
    refine va_iald hx hb hK hP 3 0 rfl rfl (vin_iv x6_h (by decide)) dX9_closes_42 (lv_topi (fun x7 x7_e => ?_))
    have x7_h : Iv 0 4095 x7 := iv_e x7_e (bd_at fw13_b (vin_iv x6_h (by decide)))
    refine lv_istore (lv' := [(6, .int x7), (5, .int x5), (0, .ref o1), (1, .ref o11), (2, .int a2), (3, .int 11), (4, .int a4)]) hx hb dX9_closes_43 hl (by decide) rfl (fun ls hl => ?_)
    refine lv_iconst (v := 0) hx hb dX9_closes_45 (by decide) ?_
    refine lv_istore (lv' := [(7, .int 0), (6, .int x7), (5, .int x5), (0, .ref o1), (1, .ref o11), (2, .int a2), (3, .int 11), (4, .int a4)]) hx hb dX9_closes_46 hl (by decide) rfl (fun ls hl => ?_)
    have L1 : ∀ (N : Nat) (x117 : Int32) (H : Heap) (locs : List Loc) (ls : Array Slot), (12 - x117.toInt).toNat < N → Iv 0 12 x117 → va_P (dC, dI) vwCl ([(o1, .inr (9, [.ref o2, .ref o7, .int v9, .int v10])), (o7, .inl (cI, 12, .inl fw8)), (o11, .inr (4, [.ref o12, .int v14, .int v15])), (o12, .inl (cI, 12, .inl fw13))]) H → va_D A ([(o1, .inr (9, [.ref o2, .ref o7, .int v9, .int v10])), (o7, .inl (cI, 12, .inl fw8)), (o11, .inr (4, [.ref o12, .int v14, .int v15])), (o12, .inl (cI, 12, .inl fw13))]) → va_S A s.heap H locs → lv_has ls 8 [(7, .int x117), (6, .int x7), (5, .int x5), (0, .ref o1), (1, .ref o11), (2, .int a2), (3, .int 11), (4, .int a4)] → W p l e ({ frames := 2, cells := 0, slots := 0, locals := 45 }) s m ([.ref o1, .ref o11, .int a2, .int 11, .int a4] : List Value).toArray below meth c H locs 0 0 Q (F0 m 48 ls []) := by
      intro N
      induction N with
      | zero =>
        intro x117 H locs ls hM
        exact absurd hM (Nat.not_lt_zero _)
      | succ N ih1 =>
        intro x117 H locs ls hM1 x117_h hP hD hS hl
        refine lv_iload hx hb dX9_closes_48 (lv_at hl 0 rfl) ?_
        refine lv_aload_n hx hb dX9_closes_50 rfl (lv_at hl 4 rfl) ?_
        refine va_getN (D := (dC, dI)) (ci := 4) (v := .int v14) (C := RX4) (T := TX4) (N := 3) hx hb hts iw_X9_closes_X4 hown hK hP 2 rfl rfl 1 (by decide) (hN.use ns_11) (fun _ h9 => h9) rfl dX9_closes_51 ?_
        refine lv_icmp_ge (tgt := 105) hx hb dX9_closes_54 (by decide) (fun h118 => ?_) (fun h118 => ?_)
        ·
          have qh118 := le_i h118
          refine lv_iconst (v := 0) hx hb dX9_closes_105 (by decide) ?_
          rw [hQ]
          exact W.zret (v := 0) (ty := .boolean) hx hb hr rfl (fun t ht hW => ⟨⟨0, fw8, rfl, ⟨(iv_w ik_0 (by decide)), (fun _ => j2), fw8_b⟩, by rw [ht]; exact hP, va_K.moved hW.alike hK, hD⟩, hS.F ht⟩) hS.2.2 dX9_closes_106
        ·
          have qh118 := nle_i h118
          have j119 : Iv 0 11 x117 := r_ltl qh118 x117_h v14_h (by decide)
          have j120 : Iv 1 12 v14 := r_ltr qh118 x117_h v14_h (by decide)
          refine lv_iload hx hb dX9_closes_57 (lv_at hl 2 rfl) ?_
          refine lv_iload hx hb dX9_closes_59 (lv_at hl 0 rfl) ?_
          refine kc_i (D := (dC, dI)) (S := Unit) (wc := []) (wr := [(o1, .inr (9, [.ref o2, .ref o7, .int v9, .int v10])), (o7, .inl (cI, 12, .inl fw8)), (o11, .inr (4, [.ref o12, .int v14, .int v15])), (o12, .inl (cI, 12, .inl fw13))]) (w1 := fun _ => []) (wn := fun _ => [(o1, .inr (9, [.ref o2, .ref o7, .int v9, .int v10])), (o7, .inl (cI, 12, .inl fw8)), (o11, .inr (4, [.ref o12, .int v14, .int v15])), (o12, .inl (cI, 12, .inl fw13))]) (fun hPc hDc => va_runSN (As := [.int x5, .int x117]) (rest := []) ⟨hx, hb, hml, hown, hts⟩ (kX11_in_1 l dC dI cI c2 cZ x5 x117 H.size) ⟨va_cnB 2 hts gX9_closes_X11_in_n56 rfl rfl rfl (hN.1 _ ns_76) (hts (.initialized RX11) hm_X9_closes_11) (by decide +kernel) ⟨Nat.le_of_ble_eq_true rfl, Nat.le_of_ble_eq_true rfl⟩, (hts (.static yX11_in) hm_X9_closes_10), trivial⟩ (pre_S hPc hK hDc hN) rfl rfl hl.1 rfl (lv_room (Nat.le_of_ble_eq_true rfl)) dX9_closes_61 ⟨Nat.le_of_ble_eq_true rfl, Nat.le_of_ble_eq_true rfl⟩) hP hD hS hA [] [0, 1, 2, 3] [0, 1, 2, 3] rfl rfl (by decide +kernel) (by decide +kernel) (by decide +kernel) (by decide +kernel) (fun _ => rfl) (fun x121 _ H locs hq hP hD hS => ?_)
          have x121_h := hq
          have hP : va_P (dC, dI) vwCl ([(o1, .inr (9, [.ref o2, .ref o7, .int v9, .int v10])), (o7, .inl (cI, 12, .inl fw8)), (o11, .inr (4, [.ref o12, .int v14, .int v15])), (o12, .inl (cI, 12, .inl fw13))]) H := hP
          have hD : va_D A ([(o1, .inr (9, [.ref o2, .ref o7, .int v9, .int v10])), (o7, .inl (cI, 12, .inl fw8)), (o11, .inr (4, [.ref o12, .int v14, .int v15])), (o12, .inl (cI, 12, .inl fw13))]) := hD
          refine lv_if_eq (tgt := 99) hx hb dX9_closes_64 (by decide) (fun h122 => ?_) (fun h122 => ?_)
          ·
            have j123 : Iv 0 0 x121 := r_eq h122 ik_0
            obtain ⟨x124, x124_e⟩ : ∃ z : Int32, z = x117 + 1 := ⟨_, rfl⟩
            have x124_h : Iv 1 12 x124 := iv_e x124_e (iv_add j119 ik_1 (by decide))
            refine lv_iinc (v := x124) (lv' := [(7, .int x124), (6, .int x7), (5, .int x5), (0, .ref o1), (1, .ref o11), (2, .int a2), (3, .int 11), (4, .int a4)]) hx hb dX9_closes_99 hl (k := 0) rfl (incN (by decide +kernel) x124_e) (by decide) rfl (fun ls hl => ?_)
            refine lv_goto (tgt := 48) hx hb dX9_closes_102 (by decide) ?_
            exact ih1 x124 _ _ _ (ms_up x124_e j119 (by decide) hM1) (iv_w x124_h (by decide)) hP hD hS hl
          ·
            have j125 : Iv 1 1 x121 := r_nelo h122 x121_h ik_0 (by decide)
            refine lv_aload_n hx hb dX9_closes_67 rfl (lv_at hl 3 rfl) ?_
            refine va_get (D := (dC, dI)) (ci := 9) (v := .ref o7) (C := RX9) (T := TX9) (N := 4) hx hb hts iw_X9_closes_X9 hown hK hP 0 rfl rfl 1 (by decide) (hts (.fieldLink RX9 18 "HolelessHouse$Ring" "path" "[I") hm_X9_closes_1) (fun _ h9 => h9) rfl dX9_closes_68 ?_
            refine lv_iload_n hx hb dX9_closes_71 rfl (lv_at hl 6 rfl) ?_
            refine lv_iload hx hb dX9_closes_72 (lv_at hl 0 rfl) ?_
            refine k_iast hx hb hK hP hD hS 1 0 rfl rfl (vin_iv ik_11 (by decide)) dX9_closes_74 (fun f126 H locs f126_e hP hD hS => ?_)
            have f126_b : Bd 12 0 11 f126 := bd_upd f126_e fw8_b j119 (by decide)
            have hP : va_P (dC, dI) vwCl ([(o1, .inr (9, [.ref o2, .ref o7, .int v9, .int v10])), (o7, .inl (cI, 12, .inl f126)), (o11, .inr (4, [.ref o12, .int v14, .int v15])), (o12, .inl (cI, 12, .inl fw13))]) H := hP
            have hD : va_D A ([(o1, .inr (9, [.ref o2, .ref o7, .int v9, .int v10])), (o7, .inl (cI, 12, .inl f126)), (o11, .inr (4, [.ref o12, .int v14, .int v15])), (o12, .inl (cI, 12, .inl fw13))]) := hD
            refine lv_aload_n hx hb dX9_closes_75 rfl (lv_at hl 3 rfl) ?_
            refine lv_aload_n hx hb dX9_closes_76 rfl (lv_at hl 4 rfl) ?_
            refine lv_iload_n hx hb dX9_closes_77 rfl (lv_at hl 5 rfl) ?_
            refine lv_iload_n hx hb dX9_closes_78 rfl (lv_at hl 6 rfl) ?_
            refine lv_iconst (v := 1) hx hb dX9_closes_79 (by decide) ?_
            refine lv_iadd hx hb dX9_closes_80 (tk_i (v := 12) (by decide +kernel) ?_)
            refine lv_iload hx hb dX9_closes_81 (lv_at hl 7 rfl) ?_
            refine lv_iload hx hb dX9_closes_83 (lv_at hl 1 rfl) ?_
            refine lv_ior hx hb dX9_closes_85 (lv_topi (fun x127 x127_e => ?_))
            refine lv_iconst (v := 1) hx hb dX9_closes_86 (by decide) ?_
            refine lv_iload hx hb dX9_closes_87 (lv_at hl 0 rfl) ?_
            refine lv_ishl hx hb dX9_closes_89 (lv_topi (fun x128 x128_e => ?_))
            have x128_h : Iv 1 2048 x128 := iv_e x128_e (iv_shl1 j119 (by decide))
            refine lv_ior hx hb dX9_closes_90 (lv_topi (fun x129 x129_e => ?_))
            refine kc_i (D := (dC, dI)) (S := Unit) (wc := []) (wr := [(o1, .inr (9, [.ref o2, .ref o7, .int v9, .int v10])), (o7, .inl (cI, 12, .inl f126)), (o11, .inr (4, [.ref o12, .int v14, .int v15])), (o12, .inl (cI, 12, .inl fw13))]) (w1 := fun _ => []) (wn := fun _ => [(o1, .inr (9, [.ref o2, .ref o7, .int v9, .int v10])), (o7, .inl (cI, 12, .inl f126)), (o11, .inr (4, [.ref o12, .int v14, .int v15])), (o12, .inl (cI, 12, .inl fw13))]) (fun hPc hDc => va_runS (As := [.ref o1, .ref o11, .int a2, .int 12, .int x129]) (rest := []) ⟨hx, hb, hml, hown, hts⟩ (kX9_closes_1 l dC dI cI c2 cZ o1 o11 a2 x129 H.size (iv_w j2 (by decide))) (va_cwS 5 hts gX9_closes_X9_closes rfl rfl rfl (by decide +kernel) ⟨Nat.le_of_ble_eq_true rfl, Nat.le_of_ble_eq_true rfl⟩) (pre_S hPc hK hDc hN) rfl rfl hl.1 rfl (lv_room (Nat.le_of_ble_eq_true rfl)) dX9_closes_91 ⟨Nat.le_of_ble_eq_true rfl, Nat.le_of_ble_eq_true rfl⟩) hP hD hS hA [] [0, 1, 2, 3] [0, 1, 2, 3] rfl rfl (by decide +kernel) (by decide +kernel) (by decide +kernel) (by decide +kernel) (fun _ => rfl) (fun x130 _ H locs hq hP hD hS => ?_)
            have x130_h := hq
            have hP : va_P (dC, dI) vwCl ([(o1, .inr (9, [.ref o2, .ref o7, .int v9, .int v10])), (o7, .inl (cI, 12, .inl f126)), (o11, .inr (4, [.ref o12, .int v14, .int v15])), (o12, .inl (cI, 12, .inl fw13))]) H := hP
            have hD : va_D A ([(o1, .inr (9, [.ref o2, .ref o7, .int v9, .int v10])), (o7, .inl (cI, 12, .inl f126)), (o11, .inr (4, [.ref o12, .int v14, .int v15])), (o12, .inl (cI, 12, .inl fw13))]) := hD
            refine lv_if_eq (tgt := 99) hx hb dX9_closes_94 (by decide) (fun h9 => absurd h9 (d_ne x130_h ik_0 (by decide))) (fun _ => ?_)
            refine lv_iconst (v := 1) hx hb dX9_closes_97 (by decide) ?_
            rw [hQ]
            exact W.zret (v := 1) (ty := .boolean) hx hb hr rfl (fun t ht hW => ⟨⟨1, f126, rfl, ⟨(iv_w ik_1 (by decide)), (fun h8 => absurd h8 (by decide +kernel)), f126_b⟩, by rw [ht]; exact hP, va_K.moved hW.alike hK, hD⟩, hS.F ht⟩) hS.2.2 dX9_closes_98
    exact L1 _ 0 _ _ _ (Nat.lt_succ_self _) (iv_w ik_0 (by decide)) hP hD hS hl
  ·
    have qh1 := nlt_i h1
    have j131 : Iv 4 11 a2 := r_lel qh1 a2_h ik_11 (by decide)
    refine lv_iconst (v := 1) hx hb dX9_closes_5 (by decide) ?_
    rw [hQ]
    exact W.zret (v := 1) (ty := .boolean) hx hb hr rfl (fun t ht hW => ⟨⟨1, fw8, rfl, ⟨(iv_w ik_1 (by decide)), (fun h8 => absurd h8 (by decide +kernel)), fw8_b⟩, by rw [ht]; exact hP, va_K.moved hW.alike hK, hD⟩, hS.F ht⟩) hS.2.2 dX9_closes_6
