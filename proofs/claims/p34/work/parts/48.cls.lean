theorem hm_X10_put_1 : (.fieldLink RX10 9 "HolelessHouse$Table" "rows" "[I" : Cond) ∈ wsX10_put := List.mem_of_getElem? (i := 1) rfl
theorem hm_X10_put_2 : (.fieldLink RX10 19 "HolelessHouse$Table" "version" "I" : Cond) ∈ wsX10_put := List.mem_of_getElem? (i := 2) rfl
theorem hm_X11_row_1 : (.fieldLink RX11 19 "HolelessHouse" "table" "LHolelessHouse$Table;" : Cond) ∈ wsX11_row := List.mem_of_getElem? (i := 1) rfl
theorem hm_X11_row_3 : (.initialized RX10 : Cond) ∈ wsX11_row := List.mem_of_getElem? (i := 3) rfl
theorem hm_X11_row_2 : (.instanceMethod yX10_hasPlace : Cond) ∈ wsX11_row := List.mem_of_getElem? (i := 2) rfl
theorem hm_X11_row_4 : (.selects RX10 yX10_hasPlace yX10_hasPlace : Cond) ∈ wsX11_row := List.mem_of_getElem? (i := 4) rfl
theorem hm_X11_row_13 : (.instanceMethod yX10_put : Cond) ∈ wsX11_row := List.mem_of_getElem? (i := 13) rfl
theorem hm_X11_row_14 : (.selects RX10 yX10_put yX10_put : Cond) ∈ wsX11_row := List.mem_of_getElem? (i := 14) rfl
theorem hm_X11_told_1 : (.fieldLink RX11 19 "HolelessHouse" "table" "LHolelessHouse$Table;" : Cond) ∈ wsX11_told := List.mem_of_getElem? (i := 1) rfl
theorem hm_X11_told_3 : (.initialized RX10 : Cond) ∈ wsX11_told := List.mem_of_getElem? (i := 3) rfl
theorem hm_X11_told_2 : (.instanceMethod yX10_hasPlace : Cond) ∈ wsX11_told := List.mem_of_getElem? (i := 2) rfl
theorem hm_X11_told_4 : (.selects RX10 yX10_hasPlace yX10_hasPlace : Cond) ∈ wsX11_told := List.mem_of_getElem? (i := 4) rfl
theorem hm_X11_tear_1 : (.fieldLink RX11 19 "HolelessHouse" "table" "LHolelessHouse$Table;" : Cond) ∈ wsX11_tear := List.mem_of_getElem? (i := 1) rfl
theorem hm_X11_tear_3 : (.initialized RX10 : Cond) ∈ wsX11_tear := List.mem_of_getElem? (i := 3) rfl
theorem hm_X11_tear_2 : (.instanceMethod yX10_hasPlace : Cond) ∈ wsX11_tear := List.mem_of_getElem? (i := 2) rfl
theorem hm_X11_tear_4 : (.selects RX10 yX10_hasPlace yX10_hasPlace : Cond) ∈ wsX11_tear := List.mem_of_getElem? (i := 4) rfl
theorem hm_X11_tear_13 : (.instanceMethod yX10_put : Cond) ∈ wsX11_tear := List.mem_of_getElem? (i := 13) rfl
theorem hm_X11_tear_14 : (.selects RX10 yX10_put yX10_put : Cond) ∈ wsX11_tear := List.mem_of_getElem? (i := 14) rfl
theorem hm_X10_move_1 : (.fieldLink RX10 9 "HolelessHouse$Table" "rows" "[I" : Cond) ∈ wsX10_move := List.mem_of_getElem? (i := 1) rfl
theorem hm_X10_move_2 : (.methodLink RX10 28 arraycopyName : Cond) ∈ wsX10_move := List.mem_of_getElem? (i := 2) rfl
theorem hm_X10_move_3 : (.native arraycopyName : Cond) ∈ wsX10_move := List.mem_of_getElem? (i := 3) rfl
theorem hm_X10_move_4 : (.static arraycopyName : Cond) ∈ wsX10_move := List.mem_of_getElem? (i := 4) rfl
theorem hm_X10_move_5 : (.initialized "java/lang/System" : Cond) ∈ wsX10_move := List.mem_of_getElem? (i := 5) rfl
theorem hm_X10_move_6 : (.fieldLink RX10 19 "HolelessHouse$Table" "version" "I" : Cond) ∈ wsX10_move := List.mem_of_getElem? (i := 6) rfl
theorem hm_X11_copy_1 : (.fieldLink RX11 19 "HolelessHouse" "table" "LHolelessHouse$Table;" : Cond) ∈ wsX11_copy := List.mem_of_getElem? (i := 1) rfl
theorem hm_X11_copy_3 : (.initialized RX10 : Cond) ∈ wsX11_copy := List.mem_of_getElem? (i := 3) rfl
theorem hm_X11_copy_2 : (.instanceMethod yX10_hasRun : Cond) ∈ wsX11_copy := List.mem_of_getElem? (i := 2) rfl
theorem hm_X11_copy_4 : (.selects RX10 yX10_hasRun yX10_hasRun : Cond) ∈ wsX11_copy := List.mem_of_getElem? (i := 4) rfl
theorem hm_X11_copy_13 : (.instanceMethod yX10_move : Cond) ∈ wsX11_copy := List.mem_of_getElem? (i := 13) rfl
theorem hm_X11_copy_14 : (.selects RX10 yX10_move yX10_move : Cond) ∈ wsX11_copy := List.mem_of_getElem? (i := 14) rfl
theorem iw_X10_put_X10 : ∀ w ∈ wsX100, w ∈ wsX10_put := fun _ h => List.mem_cons.mpr (Or.inr (List.mem_append.mpr (Or.inr h)))
set_option maxHeartbeats 4000000 in
set_option maxRecDepth 100000 in
theorem kX10_put_1 (l : Launch) (dC : Nat → ClassId) (dI : Nat → Nat → Nat) (cI c2 cZ : ClassId) (o1 : Nat) (o2 : Nat) (fw3 : Nat → Int32) (v4 : Int32) (v5 : Int32) (a1 : Int32) (a2 : Int32) (sz : Nat) (fw3_b : Bd 12 (-1) 255 fw3) (v4_h : Iv 0 8 v4) (a1_h : Iv 0 11 a1) (a2_h : Iv (-1) 255 a2) : Met l yX10_put wsX10_put ({ frames := 0, cells := 0, slots := 0, locals := 0 }) (va_Pc [.ref o1, .int a1, .int a2] (wPre (dC, dI) [(cI, .int), (c2, .array .int), (cZ, .boolean)] ([(o1, .inr (10, [.ref o2, .int v4, .int v5])), (o2, .inl (cI, 12, .inl fw3))]) sz)) (va_Qv (fun (u : Int32 × (Nat → Int32)) => Bd 12 (-1) 255 u.2) (fun u t => wPost (dC, dI) [(cI, .int), (c2, .array .int), (cZ, .boolean)] (va_A ([(o1, .inr (10, [.ref o2, .int v4, .int v5])), (o2, .inl (cI, 12, .inl fw3))]) sz) ([(o1, .inr (10, [.ref o2, .int v4, .int u.1])), (o2, .inl (cI, 12, .inl u.2))]) t) (va_A ([(o1, .inr (10, [.ref o2, .int v4, .int v5])), (o2, .inl (cI, 12, .inl fw3))]) sz)) 0 0 (va_A ([(o1, .inr (10, [.ref o2, .int v4, .int v5])), (o2, .inl (cI, 12, .inl fw3))]) sz) := by
  refine Met.ofW (cc := cX10_put) (maxL := 3) (ret := none) (by decide) rfl ?_
  intro p e s m args below meth c s₁ B hml hv
  obtain ⟨rfl, hsz, hP, hK, hD0, hN⟩ := hv
  have hx := B.exec
  have hb := B.bytes
  have hr := B.returns
  have hts := atoms_spec (ws := wsX10_put) B.pre
  have hown : s.vm.findClass RX10 = some m.cls := findClass_of_methodNamed B.named
  have hlocks := B.notSynchronized
  subst hsz
  have hD := hD0.self (sz := s.heap.size)
  generalize hAe : va_A ([(o1, .inr (10, [.ref o2, .int v4, .int v5])), (o2, .inl (cI, 12, .inl fw3))]) s.heap.size = A at hD ⊢
  have hA : ∀ q : Nat, s.heap.size ≤ q → A q := fun q h => by rw [← hAe]; exact Or.inr h
  have hS : va_S A s.heap s.heap [] := va_S.rf
  have hP : va_P (dC, dI) vwCl ([(o1, .inr (10, [.ref o2, .int v4, .int v5])), (o2, .inl (cI, 12, .inl fw3))]) s.heap := hP
  have hl := lv_entry ([.ref o1, .int a1, .int a2]) (n := 3) (Nat.le_of_ble_eq_true rfl)
  rw [lg_entry_eq]
  generalize (lg_sl ([.ref o1, .int a1, .int a2]) ++ List.replicate (3 - (lg_sl ([.ref o1, .int a1, .int a2])).length) Slot.unset).toArray = ls at hl ⊢
  have hl : lv_has ls 3 [(0, .ref o1), (1, .int a1), (2, .int a2)] := hl
  refine gen_Q (fun Q hQ => ?_)
  refine lv_aload_n hx hb dX10_put_0 rfl (lv_at hl 0 rfl) ?_
  refine va_get (D := (dC, dI)) (ci := 10) (v := .ref o2) (C := RX10) (T := TX10) (N := 3) hx hb hts iw_X10_put_X10 hown hK hP 0 rfl rfl 0 (by decide) (hts (.fieldLink RX10 9 "HolelessHouse$Table" "rows" "[I") hm_X10_put_1) (fun _ h9 => h9) rfl dX10_put_1 ?_
  refine lv_iload_n hx hb dX10_put_4 rfl (lv_at hl 1 rfl) ?_
  refine lv_iload_n hx hb dX10_put_5 rfl (lv_at hl 2 rfl) ?_
  refine k_iast hx hb hK hP hD hS 1 0 rfl rfl (vin_iv a1_h (by decide)) dX10_put_6 (fun f1 H locs f1_e hP hD hS => ?_)
  have f1_b : Bd 12 (-1) 255 f1 := bd_upd f1_e fw3_b a2_h (by decide)
  have hP : va_P (dC, dI) vwCl ([(o1, .inr (10, [.ref o2, .int v4, .int v5])), (o2, .inl (cI, 12, .inl f1))]) H := hP
  have hD : va_D A ([(o1, .inr (10, [.ref o2, .int v4, .int v5])), (o2, .inl (cI, 12, .inl f1))]) := hD
  refine lv_aload_n hx hb dX10_put_7 rfl (lv_at hl 0 rfl) ?_
  refine lv_dup hx hb dX10_put_8 rfl ?_
  refine va_get (D := (dC, dI)) (ci := 10) (v := .int v5) (C := RX10) (T := TX10) (N := 3) hx hb hts iw_X10_put_X10 hown hK hP 0 rfl rfl 2 (by decide) (hts (.fieldLink RX10 19 "HolelessHouse$Table" "version" "I") hm_X10_put_2) (fun _ h9 => h9) rfl dX10_put_9 ?_
  refine lv_iconst (v := 1) hx hb dX10_put_12 (by decide) ?_
  refine lv_iadd hx hb dX10_put_13 (lv_topi (fun x2 x2_e => ?_))
  refine va_put (D := (dC, dI)) (ci := 10) (v := .int x2) (ty := .int) (C := RX10) (T := TX10) (N := 3) hx hb hts iw_X10_put_X10 tyX10 tyX10_ok nmX10 hown hK hP hD hS 0 rfl rfl 2 (by decide) (hts (.fieldLink RX10 19 "HolelessHouse$Table" "version" "I") hm_X10_put_2) (fun _ h9 => h9) rfl (by decide +kernel) rfl rfl (Nat.le_of_ble_eq_true rfl) dX10_put_14 (fun H locs hP hD hS => ?_)
  have hP : va_P (dC, dI) vwCl ([(o1, .inr (10, [.ref o2, .int v4, .int x2])), (o2, .inl (cI, 12, .inl f1))]) H := hP
  have hD : va_D A ([(o1, .inr (10, [.ref o2, .int v4, .int x2])), (o2, .inl (cI, 12, .inl f1))]) := hD
  rw [hQ]
  exact W.vret hx hb hr (fun t ht hW => ⟨⟨(x2, f1), rfl, f1_b, by rw [ht]; exact hP, va_K.moved hW.alike hK, hD⟩, hS.F ht⟩) hS.2.2 dX10_put_17
set_option maxHeartbeats 4000000 in
set_option maxRecDepth 100000 in
theorem kX11_found_3 (l : Launch) (dC : Nat → ClassId) (dI : Nat → Nat → Nat) (cI c2 cZ : ClassId) (o1 : Nat) (o2 : Nat) (o7 : Nat) (o12 : Nat) (o41 : Nat) (o51 : Nat) (o64 : Nat) (o77 : Nat) (o84 : Nat) (o91 : Nat) (o99 : Nat) (o111 : Nat) (o123 : Nat) (fw124 : Nat → Int32) (v125 : Int32) (a1 : Int32) (sz : Nat) (a1_h : Iv 2 2 a1) : Met l yX11_found wsX11_found ({ frames := 0, cells := 0, slots := 0, locals := 0 }) (va_Pc [.ref o1, .int a1] (wPre (dC, dI) [(cI, .int), (c2, .array .int), (cZ, .boolean)] ([(o1, .inr (11, [.ref o2, .ref o7, .ref o12, .ref o41, .ref o51, .ref o64, .ref o77, .ref o84, .ref o91, .ref o99, .ref o111, .ref o123, .int v125])), (o123, .inl (cI, 5, .inl fw124))]) sz)) (va_Qi (fun (r : Int32) (u : Int32 × (Nat → Int32)) => Iv (-3) (-3) r) (fun u t => wPost (dC, dI) [(cI, .int), (c2, .array .int), (cZ, .boolean)] (va_A ([(o1, .inr (11, [.ref o2, .ref o7, .ref o12, .ref o41, .ref o51, .ref o64, .ref o77, .ref o84, .ref o91, .ref o99, .ref o111, .ref o123, .int v125])), (o123, .inl (cI, 5, .inl fw124))]) sz) ([(o1, .inr (11, [.ref o2, .ref o7, .ref o12, .ref o41, .ref o51, .ref o64, .ref o77, .ref o84, .ref o91, .ref o99, .ref o111, .ref o123, .int u.1])), (o123, .inl (cI, 5, .inl u.2))]) t) (va_A ([(o1, .inr (11, [.ref o2, .ref o7, .ref o12, .ref o41, .ref o51, .ref o64, .ref o77, .ref o84, .ref o91, .ref o99, .ref o111, .ref o123, .int v125])), (o123, .inl (cI, 5, .inl fw124))]) sz)) 0 0 (va_A ([(o1, .inr (11, [.ref o2, .ref o7, .ref o12, .ref o41, .ref o51, .ref o64, .ref o77, .ref o84, .ref o91, .ref o99, .ref o111, .ref o123, .int v125])), (o123, .inl (cI, 5, .inl fw124))]) sz) := by
  refine Met.ofW (cc := cX11_found) (maxL := 2) (ret := (some .int)) (by decide) rfl ?_
  intro p e s m args below meth c s₁ B hml hv
  obtain ⟨rfl, hsz, hP, hK, hD0, hN⟩ := hv
  have hx := B.exec
  have hb := B.bytes
  have hr := B.returns
  have hts := atoms_spec (ws := wsX11_found) B.pre
  have hown : s.vm.findClass RX11 = some m.cls := findClass_of_methodNamed B.named
  have hlocks := B.notSynchronized
  subst hsz
  have hD := hD0.self (sz := s.heap.size)
  generalize hAe : va_A ([(o1, .inr (11, [.ref o2, .ref o7, .ref o12, .ref o41, .ref o51, .ref o64, .ref o77, .ref o84, .ref o91, .ref o99, .ref o111, .ref o123, .int v125])), (o123, .inl (cI, 5, .inl fw124))]) s.heap.size = A at hD ⊢
  have hA : ∀ q : Nat, s.heap.size ≤ q → A q := fun q h => by rw [← hAe]; exact Or.inr h
  have hS : va_S A s.heap s.heap [] := va_S.rf
  have hP : va_P (dC, dI) vwCl ([(o1, .inr (11, [.ref o2, .ref o7, .ref o12, .ref o41, .ref o51, .ref o64, .ref o77, .ref o84, .ref o91, .ref o99, .ref o111, .ref o123, .int v125])), (o123, .inl (cI, 5, .inl fw124))]) s.heap := hP
  have hl := lv_entry ([.ref o1, .int a1]) (n := 2) (Nat.le_of_ble_eq_true rfl)
  rw [lg_entry_eq]
  generalize (lg_sl ([.ref o1, .int a1]) ++ List.replicate (2 - (lg_sl ([.ref o1, .int a1])).length) Slot.unset).toArray = ls at hl ⊢
  have hl : lv_has ls 2 [(0, .ref o1), (1, .int a1)] := hl
  refine gen_Q (fun Q hQ => ?_)
  refine lv_aload_n hx hb dX11_found_0 rfl (lv_at hl 0 rfl) ?_
  refine lv_iload_n hx hb dX11_found_1 rfl (lv_at hl 1 rfl) ?_
  refine va_put (D := (dC, dI)) (ci := 11) (v := .int a1) (ty := .int) (C := RX11) (T := TX11) (N := 13) hx hb hts iw_X11_found_X11 tyX11 tyX11_ok nmX11 hown hK hP hD hS 0 rfl rfl 12 (by decide) (hts (.fieldLink RX11 86 "HolelessHouse" "latest" "I") hm_X11_found_1) (fun _ h9 => h9) rfl (by decide +kernel) rfl rfl (Nat.le_of_ble_eq_true rfl) dX11_found_2 (fun H locs hP hD hS => ?_)
  have hP : va_P (dC, dI) vwCl ([(o1, .inr (11, [.ref o2, .ref o7, .ref o12, .ref o41, .ref o51, .ref o64, .ref o77, .ref o84, .ref o91, .ref o99, .ref o111, .ref o123, .int a1])), (o123, .inl (cI, 5, .inl fw124))]) H := hP
  have hD : va_D A ([(o1, .inr (11, [.ref o2, .ref o7, .ref o12, .ref o41, .ref o51, .ref o64, .ref o77, .ref o84, .ref o91, .ref o99, .ref o111, .ref o123, .int a1])), (o123, .inl (cI, 5, .inl fw124))]) := hD
  refine lv_aload_n hx hb dX11_found_5 rfl (lv_at hl 0 rfl) ?_
  refine va_get (D := (dC, dI)) (ci := 11) (v := .ref o123) (C := RX11) (T := TX11) (N := 13) hx hb hts iw_X11_found_X11 hown hK hP 0 rfl rfl 11 (by decide) (hts (.fieldLink RX11 82 "HolelessHouse" "timesFound" "[I") hm_X11_found_2) (fun _ h9 => h9) rfl dX11_found_6 ?_
  refine lv_iload_n hx hb dX11_found_9 rfl (lv_at hl 1 rfl) ?_
  refine lv_dup2_11 hx hb dX11_found_10 rfl rfl ?_
  refine va_iald hx hb hK hP 1 0 rfl rfl (vin_iv a1_h (by decide)) dX11_found_11 (lv_topi (fun x1 x1_e => ?_))
  refine lv_iconst (v := 1) hx hb dX11_found_12 (by decide) ?_
  refine lv_iadd hx hb dX11_found_13 (lv_topi (fun x2 x2_e => ?_))
  refine k_iast hx hb hK hP hD hS 1 0 rfl rfl (vin_iv a1_h (by decide)) dX11_found_14 (fun f3 H locs f3_e hP hD hS => ?_)
  have hP : va_P (dC, dI) vwCl ([(o1, .inr (11, [.ref o2, .ref o7, .ref o12, .ref o41, .ref o51, .ref o64, .ref o77, .ref o84, .ref o91, .ref o99, .ref o111, .ref o123, .int a1])), (o123, .inl (cI, 5, .inl f3))]) H := hP
  have hD : va_D A ([(o1, .inr (11, [.ref o2, .ref o7, .ref o12, .ref o41, .ref o51, .ref o64, .ref o77, .ref o84, .ref o91, .ref o99, .ref o111, .ref o123, .int a1])), (o123, .inl (cI, 5, .inl f3))]) := hD
  refine lv_bipush (v := (-3)) hx hb dX11_found_15 (by decide) ?_
  rw [hQ]
  exact W.iret (v := (-3)) hx hb hr (fun t ht hW => ⟨⟨(-3), (a1, f3), rfl, ikm_3, by rw [ht]; exact hP, va_K.moved hW.alike hK, hD⟩, hS.F ht⟩) hS.2.2 dX11_found_17
theorem iw_X11_row_X10 : ∀ w ∈ wsX100, w ∈ wsX11_row := fun _ h => List.mem_cons.mpr (Or.inr (List.mem_append.mpr (Or.inr h)))
theorem iw_X11_row_X11 : ∀ w ∈ wsX110, w ∈ wsX11_row := fun _ h => List.mem_cons.mpr (Or.inr (List.mem_append.mpr (Or.inl (List.mem_append.mpr (Or.inr h)))))
set_option maxHeartbeats 4000000 in
set_option maxRecDepth 100000 in
theorem kX11_row_1 (l : Launch) (dC : Nat → ClassId) (dI : Nat → Nat → Nat) (cI c2 cZ : ClassId) (o1 : Nat) (o2 : Nat) (o7 : Nat) (o12 : Nat) (o41 : Nat) (o51 : Nat) (o64 : Nat) (o77 : Nat) (o84 : Nat) (o91 : Nat) (o99 : Nat) (o111 : Nat) (o123 : Nat) (o8 : Nat) (fw9 : Nat → Int32) (v10 : Int32) (v11 : Int32) (fw124 : Nat → Int32) (v125 : Int32) (a1 : Int32) (a2 : Int32) (sz : Nat) (fw9_b : Bd 12 (-1) 255 fw9) (v10_h : Iv 0 8 v10) : Met l yX11_row wsX11_row ({ frames := 1, cells := 0, slots := 0, locals := 22 }) (va_Pc [.ref o1, .int a1, .int a2] (wPre (dC, dI) [(cI, .int), (c2, .array .int), (cZ, .boolean)] ([(o1, .inr (11, [.ref o2, .ref o7, .ref o12, .ref o41, .ref o51, .ref o64, .ref o77, .ref o84, .ref o91, .ref o99, .ref o111, .ref o123, .int v125])), (o7, .inr (10, [.ref o8, .int v10, .int v11])), (o8, .inl (cI, 12, .inl fw9)), (o123, .inl (cI, 5, .inl fw124))]) sz)) (va_Qi (fun (r : Int32) (u : Int32 × Int32 × (Nat → Int32) × (Nat → Int32)) => Iv (-3) 1 r ∧ Bd 12 (-1) 255 u.2.2.1) (fun u t => wPost (dC, dI) [(cI, .int), (c2, .array .int), (cZ, .boolean)] (va_A ([(o1, .inr (11, [.ref o2, .ref o7, .ref o12, .ref o41, .ref o51, .ref o64, .ref o77, .ref o84, .ref o91, .ref o99, .ref o111, .ref o123, .int v125])), (o7, .inr (10, [.ref o8, .int v10, .int v11])), (o8, .inl (cI, 12, .inl fw9)), (o123, .inl (cI, 5, .inl fw124))]) sz) ([(o1, .inr (11, [.ref o2, .ref o7, .ref o12, .ref o41, .ref o51, .ref o64, .ref o77, .ref o84, .ref o91, .ref o99, .ref o111, .ref o123, .int u.1])), (o7, .inr (10, [.ref o8, .int v10, .int u.2.1])), (o8, .inl (cI, 12, .inl u.2.2.1)), (o123, .inl (cI, 5, .inl u.2.2.2))]) t) (va_A ([(o1, .inr (11, [.ref o2, .ref o7, .ref o12, .ref o41, .ref o51, .ref o64, .ref o77, .ref o84, .ref o91, .ref o99, .ref o111, .ref o123, .int v125])), (o7, .inr (10, [.ref o8, .int v10, .int v11])), (o8, .inl (cI, 12, .inl fw9)), (o123, .inl (cI, 5, .inl fw124))]) sz)) 0 0 (va_A ([(o1, .inr (11, [.ref o2, .ref o7, .ref o12, .ref o41, .ref o51, .ref o64, .ref o77, .ref o84, .ref o91, .ref o99, .ref o111, .ref o123, .int v125])), (o7, .inr (10, [.ref o8, .int v10, .int v11])), (o8, .inl (cI, 12, .inl fw9)), (o123, .inl (cI, 5, .inl fw124))]) sz) := by
  refine Met.ofW (cc := cX11_row) (maxL := 3) (ret := (some .int)) (by decide) rfl ?_
  intro p e s m args below meth c s₁ B hml hv
  obtain ⟨rfl, hsz, hP, hK, hD0, hN⟩ := hv
  have hx := B.exec
  have hb := B.bytes
  have hr := B.returns
  have hts := atoms_spec (ws := wsX11_row) B.pre
  have hown : s.vm.findClass RX11 = some m.cls := findClass_of_methodNamed B.named
  have hlocks := B.notSynchronized
  subst hsz
  have hD := hD0.self (sz := s.heap.size)
  generalize hAe : va_A ([(o1, .inr (11, [.ref o2, .ref o7, .ref o12, .ref o41, .ref o51, .ref o64, .ref o77, .ref o84, .ref o91, .ref o99, .ref o111, .ref o123, .int v125])), (o7, .inr (10, [.ref o8, .int v10, .int v11])), (o8, .inl (cI, 12, .inl fw9)), (o123, .inl (cI, 5, .inl fw124))]) s.heap.size = A at hD ⊢
  have hA : ∀ q : Nat, s.heap.size ≤ q → A q := fun q h => by rw [← hAe]; exact Or.inr h
  have hS : va_S A s.heap s.heap [] := va_S.rf
  have hP : va_P (dC, dI) vwCl ([(o1, .inr (11, [.ref o2, .ref o7, .ref o12, .ref o41, .ref o51, .ref o64, .ref o77, .ref o84, .ref o91, .ref o99, .ref o111, .ref o123, .int v125])), (o7, .inr (10, [.ref o8, .int v10, .int v11])), (o8, .inl (cI, 12, .inl fw9)), (o123, .inl (cI, 5, .inl fw124))]) s.heap := hP
  have hl := lv_entry ([.ref o1, .int a1, .int a2]) (n := 3) (Nat.le_of_ble_eq_true rfl)
  rw [lg_entry_eq]
  generalize (lg_sl ([.ref o1, .int a1, .int a2]) ++ List.replicate (3 - (lg_sl ([.ref o1, .int a1, .int a2])).length) Slot.unset).toArray = ls at hl ⊢
  have hl : lv_has ls 3 [(0, .ref o1), (1, .int a1), (2, .int a2)] := hl
  refine gen_Q (fun Q hQ => ?_)
  refine lv_iload_n hx hb dX11_row_0 rfl (lv_at hl 2 rfl) ?_
  refine lv_if_lt (tgt := 17) hx hb dX11_row_1 (by decide) (fun h1 => ?_) (fun h1 => ?_)
  ·
    have qh1 := lt_i h1
    have j2 : Iv (-2147483648) (-1) a2 := r_ltl qh1 (iv_full a2) ik_0 (by decide)
    refine lv_iconst (v := (-1)) hx hb dX11_row_17 (by decide) ?_
    rw [hQ]
    exact W.iret (v := (-1)) hx hb hr (fun t ht hW => ⟨⟨(-1), (v125, v11, fw9, fw124), rfl, ⟨(iv_w ikm_1 (by decide)), fw9_b⟩, by rw [ht]; exact hP, va_K.moved hW.alike hK, hD⟩, hS.F ht⟩) hS.2.2 dX11_row_18
  ·
    have qh1 := nlt_i h1
    have j3 : Iv 0 2147483647 a2 := r_ler qh1 ik_0 (iv_full a2) (by decide)
    refine lv_iload_n hx hb dX11_row_4 rfl (lv_at hl 2 rfl) ?_
    refine lv_iconst (v := 1) hx hb dX11_row_5 (by decide) ?_
    refine lv_aload_n hx hb dX11_row_6 rfl (lv_at hl 0 rfl) ?_
    refine va_get (D := (dC, dI)) (ci := 11) (v := .ref o7) (C := RX11) (T := TX11) (N := 13) hx hb hts iw_X11_row_X11 hown hK hP 0 rfl rfl 1 (by decide) (hts (.fieldLink RX11 19 "HolelessHouse" "table" "LHolelessHouse$Table;") hm_X11_row_1) (fun _ h9 => h9) rfl dX11_row_7 ?_
    refine va_getN (D := (dC, dI)) (ci := 10) (v := .int v10) (C := RX10) (T := TX10) (N := 3) hx hb hts iw_X11_row_X10 hown hK hP 1 rfl rfl 1 (by decide) (hN.use ns_22) (fun _ h9 => h9) rfl dX11_row_10 ?_
    refine lv_ishl hx hb dX11_row_13 (lv_topi (fun x4 x4_e => ?_))
    have x4_h : Iv 1 256 x4 := iv_e x4_e (iv_shl1 v10_h (by decide))
    refine lv_icmp_lt (tgt := 19) hx hb dX11_row_14 (by decide) (fun h5 => ?_) (fun h5 => ?_)
    ·
      have qh5 := lt_i h5
      have j6 : Iv 0 255 a2 := r_ltl qh5 j3 x4_h (by decide)
      refine lv_aload_n hx hb dX11_row_19 rfl (lv_at hl 0 rfl) ?_
      refine va_get (D := (dC, dI)) (ci := 11) (v := .ref o7) (C := RX11) (T := TX11) (N := 13) hx hb hts iw_X11_row_X11 hown hK hP 0 rfl rfl 1 (by decide) (hts (.fieldLink RX11 19 "HolelessHouse" "table" "LHolelessHouse$Table;") hm_X11_row_1) (fun _ h9 => h9) rfl dX11_row_20 ?_
      refine lv_iload_n hx hb dX11_row_23 rfl (lv_at hl 1 rfl) ?_
      refine kc_i (D := (dC, dI)) (S := Unit) (wc := [(o7, .inr (10, [.ref o8, .int v10, .int v11]))]) (wr := [(o1, .inr (11, [.ref o2, .ref o7, .ref o12, .ref o41, .ref o51, .ref o64, .ref o77, .ref o84, .ref o91, .ref o99, .ref o111, .ref o123, .int v125])), (o8, .inl (cI, 12, .inl fw9)), (o123, .inl (cI, 5, .inl fw124))]) (w1 := fun _ => [(o7, .inr (10, [.ref o8, .int v10, .int v11]))]) (wn := fun _ => [(o1, .inr (11, [.ref o2, .ref o7, .ref o12, .ref o41, .ref o51, .ref o64, .ref o77, .ref o84, .ref o91, .ref o99, .ref o111, .ref o123, .int v125])), (o7, .inr (10, [.ref o8, .int v10, .int v11])), (o8, .inl (cI, 12, .inl fw9)), (o123, .inl (cI, 5, .inl fw124))]) (fun hPc hDc => va_runVN (As := [.int a1]) (rest := []) ⟨hx, hb, hml, hown, hts⟩ (kX10_hasPlace_1 l dC dI cI c2 cZ o7 o8 v10 v11 a1 s.heap.size v10_h) ⟨va_cnB 1 hts gX11_row_X10_hasPlace_n252 rfl rfl rfl (hN.1 _ ns_133) (hts (.initialized RX10) hm_X11_row_3) (by decide +kernel) ⟨Nat.le_of_ble_eq_true rfl, Nat.le_of_ble_eq_true rfl⟩, (hts (.instanceMethod yX10_hasPlace) hm_X11_row_2), (hts (.selects RX10 yX10_hasPlace yX10_hasPlace) hm_X11_row_4)⟩ (pre_V hPc hK hDc hN (ci := 10) (q0 := 0) rfl rfl) rfl rfl hl.1 rfl (lv_room (Nat.le_of_ble_eq_true rfl)) dX11_row_24 ⟨Nat.le_of_ble_eq_true rfl, Nat.le_of_ble_eq_true rfl⟩) hP hD hS hA [1] [0, 2, 3] [0, 3, 1, 2] rfl rfl (by decide +kernel) (by decide +kernel) (by decide +kernel) (by decide +kernel) (fun _ => rfl) (fun x7 _ H locs hq hP hD hS => ?_)
      obtain ⟨x7_h, i8⟩ := hq
      have hP : va_P (dC, dI) vwCl ([(o1, .inr (11, [.ref o2, .ref o7, .ref o12, .ref o41, .ref o51, .ref o64, .ref o77, .ref o84, .ref o91, .ref o99, .ref o111, .ref o123, .int v125])), (o7, .inr (10, [.ref o8, .int v10, .int v11])), (o8, .inl (cI, 12, .inl fw9)), (o123, .inl (cI, 5, .inl fw124))]) H := hP
      have hD : va_D A ([(o1, .inr (11, [.ref o2, .ref o7, .ref o12, .ref o41, .ref o51, .ref o64, .ref o77, .ref o84, .ref o91, .ref o99, .ref o111, .ref o123, .int v125])), (o7, .inr (10, [.ref o8, .int v10, .int v11])), (o8, .inl (cI, 12, .inl fw9)), (o123, .inl (cI, 5, .inl fw124))]) := hD
      refine lv_if_ne (tgt := 36) hx hb dX11_row_27 (by decide) (fun h9 => ?_) (fun h9 => ?_)
      ·
        have j10 : Iv 1 1 x7 := r_nelo h9 x7_h ik_0 (by decide)
        have j11 : Iv 0 11 a1 := i8 h9
        refine lv_aload_n hx hb dX11_row_36 rfl (lv_at hl 0 rfl) ?_
        refine va_get (D := (dC, dI)) (ci := 11) (v := .ref o7) (C := RX11) (T := TX11) (N := 13) hx hb hts iw_X11_row_X11 hown hK hP 0 rfl rfl 1 (by decide) (hts (.fieldLink RX11 19 "HolelessHouse" "table" "LHolelessHouse$Table;") hm_X11_row_1) (fun _ h9 => h9) rfl dX11_row_37 ?_
        refine lv_iload_n hx hb dX11_row_40 rfl (lv_at hl 1 rfl) ?_
        refine lv_iload_n hx hb dX11_row_41 rfl (lv_at hl 2 rfl) ?_
        refine kc_v (D := (dC, dI)) (S := Int32 × (Nat → Int32)) (wc := [(o7, .inr (10, [.ref o8, .int v10, .int v11])), (o8, .inl (cI, 12, .inl fw9))]) (wr := [(o1, .inr (11, [.ref o2, .ref o7, .ref o12, .ref o41, .ref o51, .ref o64, .ref o77, .ref o84, .ref o91, .ref o99, .ref o111, .ref o123, .int v125])), (o123, .inl (cI, 5, .inl fw124))]) (w1 := fun u => [(o7, .inr (10, [.ref o8, .int v10, .int u.1])), (o8, .inl (cI, 12, .inl u.2))]) (wn := fun u => [(o1, .inr (11, [.ref o2, .ref o7, .ref o12, .ref o41, .ref o51, .ref o64, .ref o77, .ref o84, .ref o91, .ref o99, .ref o111, .ref o123, .int v125])), (o7, .inr (10, [.ref o8, .int v10, .int u.1])), (o8, .inl (cI, 12, .inl u.2)), (o123, .inl (cI, 5, .inl fw124))]) (fun hPc hDc => va_runVN (As := [.int a1, .int a2]) (rest := []) ⟨hx, hb, hml, hown, hts⟩ (kX10_put_1 l dC dI cI c2 cZ o7 o8 fw9 v10 v11 a1 a2 H.size fw9_b v10_h j11 (iv_w j6 (by decide))) ⟨va_cnB 2 hts gX11_row_X10_put_n255 rfl rfl rfl (hN.1 _ ns_134) (hts (.initialized RX10) hm_X11_row_3) (by decide +kernel) ⟨Nat.le_of_ble_eq_true rfl, Nat.le_of_ble_eq_true rfl⟩, (hts (.instanceMethod yX10_put) hm_X11_row_13), (hts (.selects RX10 yX10_put yX10_put) hm_X11_row_14)⟩ (pre_V hPc hK hDc hN (ci := 10) (q0 := 0) rfl rfl) rfl rfl hl.1 rfl (lv_room (Nat.le_of_ble_eq_true rfl)) dX11_row_42 ⟨Nat.le_of_ble_eq_true rfl, Nat.le_of_ble_eq_true rfl⟩) hP hD hS hA [1, 2] [0, 3] [0, 2, 3, 1] rfl rfl (by decide +kernel) (by decide +kernel) (by decide +kernel) (by decide +kernel) (fun _ => rfl) (fun u H locs hq hP hD hS => ?_)
        obtain ⟨y12, f13⟩ := u
        have f13_b := hq
        have hP : va_P (dC, dI) vwCl ([(o1, .inr (11, [.ref o2, .ref o7, .ref o12, .ref o41, .ref o51, .ref o64, .ref o77, .ref o84, .ref o91, .ref o99, .ref o111, .ref o123, .int v125])), (o7, .inr (10, [.ref o8, .int v10, .int y12])), (o8, .inl (cI, 12, .inl f13)), (o123, .inl (cI, 5, .inl fw124))]) H := hP
        have hD : va_D A ([(o1, .inr (11, [.ref o2, .ref o7, .ref o12, .ref o41, .ref o51, .ref o64, .ref o77, .ref o84, .ref o91, .ref o99, .ref o111, .ref o123, .int v125])), (o7, .inr (10, [.ref o8, .int v10, .int y12])), (o8, .inl (cI, 12, .inl f13)), (o123, .inl (cI, 5, .inl fw124))]) := hD
        refine lv_iconst (v := 1) hx hb dX11_row_45 (by decide) ?_
        rw [hQ]
        exact W.iret (v := 1) hx hb hr (fun t ht hW => ⟨⟨1, (v125, y12, f13, fw124), rfl, ⟨(iv_w ik_1 (by decide)), f13_b⟩, by rw [ht]; exact hP, va_K.moved hW.alike hK, hD⟩, hS.F ht⟩) hS.2.2 dX11_row_46
      ·
        have j14 : Iv 0 0 x7 := r_eq h9 ik_0
        refine lv_aload_n hx hb dX11_row_30 rfl (lv_at hl 0 rfl) ?_
        refine lv_iconst (v := 2) hx hb dX11_row_31 (by decide) ?_
        refine kc_i (D := (dC, dI)) (S := Int32 × (Nat → Int32)) (wc := [(o1, .inr (11, [.ref o2, .ref o7, .ref o12, .ref o41, .ref o51, .ref o64, .ref o77, .ref o84, .ref o91, .ref o99, .ref o111, .ref o123, .int v125])), (o123, .inl (cI, 5, .inl fw124))]) (wr := [(o7, .inr (10, [.ref o8, .int v10, .int v11])), (o8, .inl (cI, 12, .inl fw9))]) (w1 := fun u => [(o1, .inr (11, [.ref o2, .ref o7, .ref o12, .ref o41, .ref o51, .ref o64, .ref o77, .ref o84, .ref o91, .ref o99, .ref o111, .ref o123, .int u.1])), (o123, .inl (cI, 5, .inl u.2))]) (wn := fun u => [(o1, .inr (11, [.ref o2, .ref o7, .ref o12, .ref o41, .ref o51, .ref o64, .ref o77, .ref o84, .ref o91, .ref o99, .ref o111, .ref o123, .int u.1])), (o7, .inr (10, [.ref o8, .int v10, .int v11])), (o8, .inl (cI, 12, .inl fw9)), (o123, .inl (cI, 5, .inl u.2))]) (fun hPc hDc => va_runV (As := [.int 2]) (rest := []) ⟨hx, hb, hml, hown, hts⟩ (kX11_found_3 l dC dI cI c2 cZ o1 o2 o7 o12 o41 o51 o64 o77 o84 o91 o99 o111 o123 fw124 v125 2 H.size ik_2) (cwV 1 hts gX11_row_X11_found rfl rfl rfl (by decide +kernel) ⟨Nat.le_of_ble_eq_true rfl, Nat.le_of_ble_eq_true rfl⟩) (pre_V hPc hK hDc hN (ci := 11) (q0 := 0) rfl rfl) rfl rfl hl.1 rfl (lv_room (Nat.le_of_ble_eq_true rfl)) dX11_row_32 ⟨Nat.le_of_ble_eq_true rfl, Nat.le_of_ble_eq_true rfl⟩) hP hD hS hA [0, 3] [1, 2] [2, 0, 1, 3] rfl rfl (by decide +kernel) (by decide +kernel) (by decide +kernel) (by decide +kernel) (fun _ => rfl) (fun x17 u H locs hq hP hD hS => ?_)
        obtain ⟨y15, f16⟩ := u
        have x17_h := hq
        have hP : va_P (dC, dI) vwCl ([(o1, .inr (11, [.ref o2, .ref o7, .ref o12, .ref o41, .ref o51, .ref o64, .ref o77, .ref o84, .ref o91, .ref o99, .ref o111, .ref o123, .int y15])), (o7, .inr (10, [.ref o8, .int v10, .int v11])), (o8, .inl (cI, 12, .inl fw9)), (o123, .inl (cI, 5, .inl f16))]) H := hP
        have hD : va_D A ([(o1, .inr (11, [.ref o2, .ref o7, .ref o12, .ref o41, .ref o51, .ref o64, .ref o77, .ref o84, .ref o91, .ref o99, .ref o111, .ref o123, .int y15])), (o7, .inr (10, [.ref o8, .int v10, .int v11])), (o8, .inl (cI, 12, .inl fw9)), (o123, .inl (cI, 5, .inl f16))]) := hD
        rw [hQ]
        exact W.iret (v := x17) hx hb hr (fun t ht hW => ⟨⟨x17, (y15, v11, fw9, f16), rfl, ⟨(iv_w x17_h (by decide)), fw9_b⟩, by rw [ht]; exact hP, va_K.moved hW.alike hK, hD⟩, hS.F ht⟩) hS.2.2 dX11_row_35
    ·
      have qh5 := nlt_i h5
      have j18 : Iv 1 2147483647 a2 := r_ler qh5 x4_h j3 (by decide)
      refine lv_iconst (v := (-1)) hx hb dX11_row_17 (by decide) ?_
      rw [hQ]
      exact W.iret (v := (-1)) hx hb hr (fun t ht hW => ⟨⟨(-1), (v125, v11, fw9, fw124), rfl, ⟨(iv_w ikm_1 (by decide)), fw9_b⟩, by rw [ht]; exact hP, va_K.moved hW.alike hK, hD⟩, hS.F ht⟩) hS.2.2 dX11_row_18
set_option maxHeartbeats 4000000 in
set_option maxRecDepth 100000 in
theorem kX11_found_4 (l : Launch) (dC : Nat → ClassId) (dI : Nat → Nat → Nat) (cI c2 cZ : ClassId) (o1 : Nat) (o2 : Nat) (o7 : Nat) (o12 : Nat) (o41 : Nat) (o51 : Nat) (o64 : Nat) (o77 : Nat) (o84 : Nat) (o91 : Nat) (o99 : Nat) (o111 : Nat) (o123 : Nat) (fw124 : Nat → Int32) (v125 : Int32) (a1 : Int32) (sz : Nat) (a1_h : Iv 1 1 a1) : Met l yX11_found wsX11_found ({ frames := 0, cells := 0, slots := 0, locals := 0 }) (va_Pc [.ref o1, .int a1] (wPre (dC, dI) [(cI, .int), (c2, .array .int), (cZ, .boolean)] ([(o1, .inr (11, [.ref o2, .ref o7, .ref o12, .ref o41, .ref o51, .ref o64, .ref o77, .ref o84, .ref o91, .ref o99, .ref o111, .ref o123, .int v125])), (o123, .inl (cI, 5, .inl fw124))]) sz)) (va_Qi (fun (r : Int32) (u : Int32 × (Nat → Int32)) => Iv (-3) (-3) r) (fun u t => wPost (dC, dI) [(cI, .int), (c2, .array .int), (cZ, .boolean)] (va_A ([(o1, .inr (11, [.ref o2, .ref o7, .ref o12, .ref o41, .ref o51, .ref o64, .ref o77, .ref o84, .ref o91, .ref o99, .ref o111, .ref o123, .int v125])), (o123, .inl (cI, 5, .inl fw124))]) sz) ([(o1, .inr (11, [.ref o2, .ref o7, .ref o12, .ref o41, .ref o51, .ref o64, .ref o77, .ref o84, .ref o91, .ref o99, .ref o111, .ref o123, .int u.1])), (o123, .inl (cI, 5, .inl u.2))]) t) (va_A ([(o1, .inr (11, [.ref o2, .ref o7, .ref o12, .ref o41, .ref o51, .ref o64, .ref o77, .ref o84, .ref o91, .ref o99, .ref o111, .ref o123, .int v125])), (o123, .inl (cI, 5, .inl fw124))]) sz)) 0 0 (va_A ([(o1, .inr (11, [.ref o2, .ref o7, .ref o12, .ref o41, .ref o51, .ref o64, .ref o77, .ref o84, .ref o91, .ref o99, .ref o111, .ref o123, .int v125])), (o123, .inl (cI, 5, .inl fw124))]) sz) := by
  refine Met.ofW (cc := cX11_found) (maxL := 2) (ret := (some .int)) (by decide) rfl ?_
  intro p e s m args below meth c s₁ B hml hv
  obtain ⟨rfl, hsz, hP, hK, hD0, hN⟩ := hv
  have hx := B.exec
  have hb := B.bytes
  have hr := B.returns
  have hts := atoms_spec (ws := wsX11_found) B.pre
  have hown : s.vm.findClass RX11 = some m.cls := findClass_of_methodNamed B.named
  have hlocks := B.notSynchronized
  subst hsz
  have hD := hD0.self (sz := s.heap.size)
  generalize hAe : va_A ([(o1, .inr (11, [.ref o2, .ref o7, .ref o12, .ref o41, .ref o51, .ref o64, .ref o77, .ref o84, .ref o91, .ref o99, .ref o111, .ref o123, .int v125])), (o123, .inl (cI, 5, .inl fw124))]) s.heap.size = A at hD ⊢
  have hA : ∀ q : Nat, s.heap.size ≤ q → A q := fun q h => by rw [← hAe]; exact Or.inr h
  have hS : va_S A s.heap s.heap [] := va_S.rf
  have hP : va_P (dC, dI) vwCl ([(o1, .inr (11, [.ref o2, .ref o7, .ref o12, .ref o41, .ref o51, .ref o64, .ref o77, .ref o84, .ref o91, .ref o99, .ref o111, .ref o123, .int v125])), (o123, .inl (cI, 5, .inl fw124))]) s.heap := hP
  have hl := lv_entry ([.ref o1, .int a1]) (n := 2) (Nat.le_of_ble_eq_true rfl)
  rw [lg_entry_eq]
  generalize (lg_sl ([.ref o1, .int a1]) ++ List.replicate (2 - (lg_sl ([.ref o1, .int a1])).length) Slot.unset).toArray = ls at hl ⊢
  have hl : lv_has ls 2 [(0, .ref o1), (1, .int a1)] := hl
  refine gen_Q (fun Q hQ => ?_)
  refine lv_aload_n hx hb dX11_found_0 rfl (lv_at hl 0 rfl) ?_
  refine lv_iload_n hx hb dX11_found_1 rfl (lv_at hl 1 rfl) ?_
  refine va_put (D := (dC, dI)) (ci := 11) (v := .int a1) (ty := .int) (C := RX11) (T := TX11) (N := 13) hx hb hts iw_X11_found_X11 tyX11 tyX11_ok nmX11 hown hK hP hD hS 0 rfl rfl 12 (by decide) (hts (.fieldLink RX11 86 "HolelessHouse" "latest" "I") hm_X11_found_1) (fun _ h9 => h9) rfl (by decide +kernel) rfl rfl (Nat.le_of_ble_eq_true rfl) dX11_found_2 (fun H locs hP hD hS => ?_)
  have hP : va_P (dC, dI) vwCl ([(o1, .inr (11, [.ref o2, .ref o7, .ref o12, .ref o41, .ref o51, .ref o64, .ref o77, .ref o84, .ref o91, .ref o99, .ref o111, .ref o123, .int a1])), (o123, .inl (cI, 5, .inl fw124))]) H := hP
  have hD : va_D A ([(o1, .inr (11, [.ref o2, .ref o7, .ref o12, .ref o41, .ref o51, .ref o64, .ref o77, .ref o84, .ref o91, .ref o99, .ref o111, .ref o123, .int a1])), (o123, .inl (cI, 5, .inl fw124))]) := hD
  refine lv_aload_n hx hb dX11_found_5 rfl (lv_at hl 0 rfl) ?_
  refine va_get (D := (dC, dI)) (ci := 11) (v := .ref o123) (C := RX11) (T := TX11) (N := 13) hx hb hts iw_X11_found_X11 hown hK hP 0 rfl rfl 11 (by decide) (hts (.fieldLink RX11 82 "HolelessHouse" "timesFound" "[I") hm_X11_found_2) (fun _ h9 => h9) rfl dX11_found_6 ?_
  refine lv_iload_n hx hb dX11_found_9 rfl (lv_at hl 1 rfl) ?_
  refine lv_dup2_11 hx hb dX11_found_10 rfl rfl ?_
  refine va_iald hx hb hK hP 1 0 rfl rfl (vin_iv a1_h (by decide)) dX11_found_11 (lv_topi (fun x1 x1_e => ?_))
  refine lv_iconst (v := 1) hx hb dX11_found_12 (by decide) ?_
  refine lv_iadd hx hb dX11_found_13 (lv_topi (fun x2 x2_e => ?_))
  refine k_iast hx hb hK hP hD hS 1 0 rfl rfl (vin_iv a1_h (by decide)) dX11_found_14 (fun f3 H locs f3_e hP hD hS => ?_)
  have hP : va_P (dC, dI) vwCl ([(o1, .inr (11, [.ref o2, .ref o7, .ref o12, .ref o41, .ref o51, .ref o64, .ref o77, .ref o84, .ref o91, .ref o99, .ref o111, .ref o123, .int a1])), (o123, .inl (cI, 5, .inl f3))]) H := hP
  have hD : va_D A ([(o1, .inr (11, [.ref o2, .ref o7, .ref o12, .ref o41, .ref o51, .ref o64, .ref o77, .ref o84, .ref o91, .ref o99, .ref o111, .ref o123, .int a1])), (o123, .inl (cI, 5, .inl f3))]) := hD
  refine lv_bipush (v := (-3)) hx hb dX11_found_15 (by decide) ?_
  rw [hQ]
  exact W.iret (v := (-3)) hx hb hr (fun t ht hW => ⟨⟨(-3), (a1, f3), rfl, ikm_3, by rw [ht]; exact hP, va_K.moved hW.alike hK, hD⟩, hS.F ht⟩) hS.2.2 dX11_found_17
theorem iw_X11_told_X10 : ∀ w ∈ wsX100, w ∈ wsX11_told := fun _ h => List.mem_cons.mpr (Or.inr (List.mem_append.mpr (Or.inr h)))
theorem iw_X11_told_X11 : ∀ w ∈ wsX110, w ∈ wsX11_told := fun _ h => List.mem_cons.mpr (Or.inr (List.mem_append.mpr (Or.inl (List.mem_append.mpr (Or.inr h)))))
set_option maxHeartbeats 4000000 in
set_option maxRecDepth 100000 in
theorem kX11_told_1 (l : Launch) (dC : Nat → ClassId) (dI : Nat → Nat → Nat) (cI c2 cZ : ClassId) (o1 : Nat) (o2 : Nat) (o7 : Nat) (o12 : Nat) (o41 : Nat) (o51 : Nat) (o64 : Nat) (o77 : Nat) (o84 : Nat) (o91 : Nat) (o99 : Nat) (o111 : Nat) (o123 : Nat) (o8 : Nat) (fw9 : Nat → Int32) (v10 : Int32) (v11 : Int32) (fw124 : Nat → Int32) (v125 : Int32) (a1 : Int32) (sz : Nat) (fw9_b : Bd 12 (-1) 255 fw9) (v10_h : Iv 0 8 v10) : Met l yX11_told wsX11_told ({ frames := 1, cells := 0, slots := 0, locals := 21 }) (va_Pc [.ref o1, .int a1] (wPre (dC, dI) [(cI, .int), (c2, .array .int), (cZ, .boolean)] ([(o1, .inr (11, [.ref o2, .ref o7, .ref o12, .ref o41, .ref o51, .ref o64, .ref o77, .ref o84, .ref o91, .ref o99, .ref o111, .ref o123, .int v125])), (o7, .inr (10, [.ref o8, .int v10, .int v11])), (o8, .inl (cI, 12, .inl fw9)), (o123, .inl (cI, 5, .inl fw124))]) sz)) (va_Qi (fun (r : Int32) (u : Int32 × (Nat → Int32)) => Iv (-3) 255 r) (fun u t => wPost (dC, dI) [(cI, .int), (c2, .array .int), (cZ, .boolean)] (va_A ([(o1, .inr (11, [.ref o2, .ref o7, .ref o12, .ref o41, .ref o51, .ref o64, .ref o77, .ref o84, .ref o91, .ref o99, .ref o111, .ref o123, .int v125])), (o7, .inr (10, [.ref o8, .int v10, .int v11])), (o8, .inl (cI, 12, .inl fw9)), (o123, .inl (cI, 5, .inl fw124))]) sz) ([(o1, .inr (11, [.ref o2, .ref o7, .ref o12, .ref o41, .ref o51, .ref o64, .ref o77, .ref o84, .ref o91, .ref o99, .ref o111, .ref o123, .int u.1])), (o7, .inr (10, [.ref o8, .int v10, .int v11])), (o8, .inl (cI, 12, .inl fw9)), (o123, .inl (cI, 5, .inl u.2))]) t) (va_A ([(o1, .inr (11, [.ref o2, .ref o7, .ref o12, .ref o41, .ref o51, .ref o64, .ref o77, .ref o84, .ref o91, .ref o99, .ref o111, .ref o123, .int v125])), (o7, .inr (10, [.ref o8, .int v10, .int v11])), (o8, .inl (cI, 12, .inl fw9)), (o123, .inl (cI, 5, .inl fw124))]) sz)) 0 0 (va_A ([(o1, .inr (11, [.ref o2, .ref o7, .ref o12, .ref o41, .ref o51, .ref o64, .ref o77, .ref o84, .ref o91, .ref o99, .ref o111, .ref o123, .int v125])), (o7, .inr (10, [.ref o8, .int v10, .int v11])), (o8, .inl (cI, 12, .inl fw9)), (o123, .inl (cI, 5, .inl fw124))]) sz) := by
  refine Met.ofW (cc := cX11_told) (maxL := 2) (ret := (some .int)) (by decide) rfl ?_
  intro p e s m args below meth c s₁ B hml hv
  obtain ⟨rfl, hsz, hP, hK, hD0, hN⟩ := hv
  have hx := B.exec
  have hb := B.bytes
  have hr := B.returns
  have hts := atoms_spec (ws := wsX11_told) B.pre
  have hown : s.vm.findClass RX11 = some m.cls := findClass_of_methodNamed B.named
  have hlocks := B.notSynchronized
  subst hsz
  have hD := hD0.self (sz := s.heap.size)
  generalize hAe : va_A ([(o1, .inr (11, [.ref o2, .ref o7, .ref o12, .ref o41, .ref o51, .ref o64, .ref o77, .ref o84, .ref o91, .ref o99, .ref o111, .ref o123, .int v125])), (o7, .inr (10, [.ref o8, .int v10, .int v11])), (o8, .inl (cI, 12, .inl fw9)), (o123, .inl (cI, 5, .inl fw124))]) s.heap.size = A at hD ⊢
  have hA : ∀ q : Nat, s.heap.size ≤ q → A q := fun q h => by rw [← hAe]; exact Or.inr h
  have hS : va_S A s.heap s.heap [] := va_S.rf
  have hP : va_P (dC, dI) vwCl ([(o1, .inr (11, [.ref o2, .ref o7, .ref o12, .ref o41, .ref o51, .ref o64, .ref o77, .ref o84, .ref o91, .ref o99, .ref o111, .ref o123, .int v125])), (o7, .inr (10, [.ref o8, .int v10, .int v11])), (o8, .inl (cI, 12, .inl fw9)), (o123, .inl (cI, 5, .inl fw124))]) s.heap := hP
  have hl := lv_entry ([.ref o1, .int a1]) (n := 2) (Nat.le_of_ble_eq_true rfl)
  rw [lg_entry_eq]
  generalize (lg_sl ([.ref o1, .int a1]) ++ List.replicate (2 - (lg_sl ([.ref o1, .int a1])).length) Slot.unset).toArray = ls at hl ⊢
  have hl : lv_has ls 2 [(0, .ref o1), (1, .int a1)] := hl
  refine gen_Q (fun Q hQ => ?_)
  refine lv_aload_n hx hb dX11_told_0 rfl (lv_at hl 0 rfl) ?_
  refine va_get (D := (dC, dI)) (ci := 11) (v := .ref o7) (C := RX11) (T := TX11) (N := 13) hx hb hts iw_X11_told_X11 hown hK hP 0 rfl rfl 1 (by decide) (hts (.fieldLink RX11 19 "HolelessHouse" "table" "LHolelessHouse$Table;") hm_X11_told_1) (fun _ h9 => h9) rfl dX11_told_1 ?_
  refine lv_iload_n hx hb dX11_told_4 rfl (lv_at hl 1 rfl) ?_
  refine kc_i (D := (dC, dI)) (S := Unit) (wc := [(o7, .inr (10, [.ref o8, .int v10, .int v11]))]) (wr := [(o1, .inr (11, [.ref o2, .ref o7, .ref o12, .ref o41, .ref o51, .ref o64, .ref o77, .ref o84, .ref o91, .ref o99, .ref o111, .ref o123, .int v125])), (o8, .inl (cI, 12, .inl fw9)), (o123, .inl (cI, 5, .inl fw124))]) (w1 := fun _ => [(o7, .inr (10, [.ref o8, .int v10, .int v11]))]) (wn := fun _ => [(o1, .inr (11, [.ref o2, .ref o7, .ref o12, .ref o41, .ref o51, .ref o64, .ref o77, .ref o84, .ref o91, .ref o99, .ref o111, .ref o123, .int v125])), (o7, .inr (10, [.ref o8, .int v10, .int v11])), (o8, .inl (cI, 12, .inl fw9)), (o123, .inl (cI, 5, .inl fw124))]) (fun hPc hDc => va_runVN (As := [.int a1]) (rest := []) ⟨hx, hb, hml, hown, hts⟩ (kX10_hasPlace_1 l dC dI cI c2 cZ o7 o8 v10 v11 a1 s.heap.size v10_h) ⟨va_cnB 1 hts gX11_told_X10_hasPlace_n252 rfl rfl rfl (hN.1 _ ns_133) (hts (.initialized RX10) hm_X11_told_3) (by decide +kernel) ⟨Nat.le_of_ble_eq_true rfl, Nat.le_of_ble_eq_true rfl⟩, (hts (.instanceMethod yX10_hasPlace) hm_X11_told_2), (hts (.selects RX10 yX10_hasPlace yX10_hasPlace) hm_X11_told_4)⟩ (pre_V hPc hK hDc hN (ci := 10) (q0 := 0) rfl rfl) rfl rfl hl.1 rfl (lv_room (Nat.le_of_ble_eq_true rfl)) dX11_told_5 ⟨Nat.le_of_ble_eq_true rfl, Nat.le_of_ble_eq_true rfl⟩) hP hD hS hA [1] [0, 2, 3] [0, 3, 1, 2] rfl rfl (by decide +kernel) (by decide +kernel) (by decide +kernel) (by decide +kernel) (fun _ => rfl) (fun x1 _ H locs hq hP hD hS => ?_)
  obtain ⟨x1_h, i2⟩ := hq
  have hP : va_P (dC, dI) vwCl ([(o1, .inr (11, [.ref o2, .ref o7, .ref o12, .ref o41, .ref o51, .ref o64, .ref o77, .ref o84, .ref o91, .ref o99, .ref o111, .ref o123, .int v125])), (o7, .inr (10, [.ref o8, .int v10, .int v11])), (o8, .inl (cI, 12, .inl fw9)), (o123, .inl (cI, 5, .inl fw124))]) H := hP
  have hD : va_D A ([(o1, .inr (11, [.ref o2, .ref o7, .ref o12, .ref o41, .ref o51, .ref o64, .ref o77, .ref o84, .ref o91, .ref o99, .ref o111, .ref o123, .int v125])), (o7, .inr (10, [.ref o8, .int v10, .int v11])), (o8, .inl (cI, 12, .inl fw9)), (o123, .inl (cI, 5, .inl fw124))]) := hD
  refine lv_if_ne (tgt := 17) hx hb dX11_told_8 (by decide) (fun h3 => ?_) (fun h3 => ?_)
  ·
    have j4 : Iv 1 1 x1 := r_nelo h3 x1_h ik_0 (by decide)
    have j5 : Iv 0 11 a1 := i2 h3
    refine lv_aload_n hx hb dX11_told_17 rfl (lv_at hl 0 rfl) ?_
    refine va_get (D := (dC, dI)) (ci := 11) (v := .ref o7) (C := RX11) (T := TX11) (N := 13) hx hb hts iw_X11_told_X11 hown hK hP 0 rfl rfl 1 (by decide) (hts (.fieldLink RX11 19 "HolelessHouse" "table" "LHolelessHouse$Table;") hm_X11_told_1) (fun _ h9 => h9) rfl dX11_told_18 ?_
    refine va_getN (D := (dC, dI)) (ci := 10) (v := .ref o8) (C := RX10) (T := TX10) (N := 3) hx hb hts iw_X11_told_X10 hown hK hP 1 rfl rfl 0 (by decide) (hN.use ns_21) (fun _ h9 => h9) rfl dX11_told_21 ?_
    refine lv_iload_n hx hb dX11_told_24 rfl (lv_at hl 1 rfl) ?_
    refine va_iald hx hb hK hP 2 0 rfl rfl (vin_iv j5 (by decide)) dX11_told_25 (lv_topi (fun x6 x6_e => ?_))
    have x6_h : Iv (-1) 255 x6 := iv_e x6_e (bd_at fw9_b (vin_iv j5 (by decide)))
    refine lv_iconst (v := (-1)) hx hb dX11_told_26 (by decide) ?_
    refine lv_icmp_ne (tgt := 38) hx hb dX11_told_27 (by decide) (fun h7 => ?_) (fun h7 => ?_)
    ·
      have j8 : Iv 0 255 x6 := r_nelo h7 x6_h ikm_1 (by decide)
      refine lv_aload_n hx hb dX11_told_38 rfl (lv_at hl 0 rfl) ?_
      refine va_get (D := (dC, dI)) (ci := 11) (v := .ref o7) (C := RX11) (T := TX11) (N := 13) hx hb hts iw_X11_told_X11 hown hK hP 0 rfl rfl 1 (by decide) (hts (.fieldLink RX11 19 "HolelessHouse" "table" "LHolelessHouse$Table;") hm_X11_told_1) (fun _ h9 => h9) rfl dX11_told_39 ?_
      refine va_getN (D := (dC, dI)) (ci := 10) (v := .ref o8) (C := RX10) (T := TX10) (N := 3) hx hb hts iw_X11_told_X10 hown hK hP 1 rfl rfl 0 (by decide) (hN.use ns_21) (fun _ h9 => h9) rfl dX11_told_42 ?_
      refine lv_iload_n hx hb dX11_told_45 rfl (lv_at hl 1 rfl) ?_
      refine va_iald hx hb hK hP 2 0 rfl rfl (vin_iv j5 (by decide)) dX11_told_46 (lv_topi (fun x9 x9_e => ?_))
      have x9_h : Iv 0 255 x9 := iv_e (x9_e.trans x6_e.symm) j8
      rw [hQ]
      exact W.iret (v := x9) hx hb hr (fun t ht hW => ⟨⟨x9, (v125, fw124), rfl, (iv_w x9_h (by decide)), by rw [ht]; exact hP, va_K.moved hW.alike hK, hD⟩, hS.F ht⟩) hS.2.2 dX11_told_47
    ·
      have j10 : Iv (-1) (-1) x6 := r_eq h7 ikm_1
      refine lv_aload_n hx hb dX11_told_30 rfl (lv_at hl 0 rfl) ?_
      refine lv_iconst (v := 1) hx hb dX11_told_31 (by decide) ?_
      refine kc_i (D := (dC, dI)) (S := Int32 × (Nat → Int32)) (wc := [(o1, .inr (11, [.ref o2, .ref o7, .ref o12, .ref o41, .ref o51, .ref o64, .ref o77, .ref o84, .ref o91, .ref o99, .ref o111, .ref o123, .int v125])), (o123, .inl (cI, 5, .inl fw124))]) (wr := [(o7, .inr (10, [.ref o8, .int v10, .int v11])), (o8, .inl (cI, 12, .inl fw9))]) (w1 := fun u => [(o1, .inr (11, [.ref o2, .ref o7, .ref o12, .ref o41, .ref o51, .ref o64, .ref o77, .ref o84, .ref o91, .ref o99, .ref o111, .ref o123, .int u.1])), (o123, .inl (cI, 5, .inl u.2))]) (wn := fun u => [(o1, .inr (11, [.ref o2, .ref o7, .ref o12, .ref o41, .ref o51, .ref o64, .ref o77, .ref o84, .ref o91, .ref o99, .ref o111, .ref o123, .int u.1])), (o7, .inr (10, [.ref o8, .int v10, .int v11])), (o8, .inl (cI, 12, .inl fw9)), (o123, .inl (cI, 5, .inl u.2))]) (fun hPc hDc => va_runV (As := [.int 1]) (rest := []) ⟨hx, hb, hml, hown, hts⟩ (kX11_found_4 l dC dI cI c2 cZ o1 o2 o7 o12 o41 o51 o64 o77 o84 o91 o99 o111 o123 fw124 v125 1 H.size ik_1) (cwV 1 hts gX11_told_X11_found rfl rfl rfl (by decide +kernel) ⟨Nat.le_of_ble_eq_true rfl, Nat.le_of_ble_eq_true rfl⟩) (pre_V hPc hK hDc hN (ci := 11) (q0 := 0) rfl rfl) rfl rfl hl.1 rfl (lv_room (Nat.le_of_ble_eq_true rfl)) dX11_told_32 ⟨Nat.le_of_ble_eq_true rfl, Nat.le_of_ble_eq_true rfl⟩) hP hD hS hA [0, 3] [1, 2] [2, 0, 1, 3] rfl rfl (by decide +kernel) (by decide +kernel) (by decide +kernel) (by decide +kernel) (fun _ => rfl) (fun x13 u H locs hq hP hD hS => ?_)
      obtain ⟨y11, f12⟩ := u
      have x13_h := hq
      have hP : va_P (dC, dI) vwCl ([(o1, .inr (11, [.ref o2, .ref o7, .ref o12, .ref o41, .ref o51, .ref o64, .ref o77, .ref o84, .ref o91, .ref o99, .ref o111, .ref o123, .int y11])), (o7, .inr (10, [.ref o8, .int v10, .int v11])), (o8, .inl (cI, 12, .inl fw9)), (o123, .inl (cI, 5, .inl f12))]) H := hP
      have hD : va_D A ([(o1, .inr (11, [.ref o2, .ref o7, .ref o12, .ref o41, .ref o51, .ref o64, .ref o77, .ref o84, .ref o91, .ref o99, .ref o111, .ref o123, .int y11])), (o7, .inr (10, [.ref o8, .int v10, .int v11])), (o8, .inl (cI, 12, .inl fw9)), (o123, .inl (cI, 5, .inl f12))]) := hD
      refine lv_goto (tgt := 47) hx hb dX11_told_35 (by decide) ?_
      rw [hQ]
      exact W.iret (v := x13) hx hb hr (fun t ht hW => ⟨⟨x13, (y11, f12), rfl, (iv_w x13_h (by decide)), by rw [ht]; exact hP, va_K.moved hW.alike hK, hD⟩, hS.F ht⟩) hS.2.2 dX11_told_47
  ·
    have j14 : Iv 0 0 x1 := r_eq h3 ik_0
    refine lv_aload_n hx hb dX11_told_11 rfl (lv_at hl 0 rfl) ?_
    refine lv_iconst (v := 2) hx hb dX11_told_12 (by decide) ?_
    refine kc_i (D := (dC, dI)) (S := Int32 × (Nat → Int32)) (wc := [(o1, .inr (11, [.ref o2, .ref o7, .ref o12, .ref o41, .ref o51, .ref o64, .ref o77, .ref o84, .ref o91, .ref o99, .ref o111, .ref o123, .int v125])), (o123, .inl (cI, 5, .inl fw124))]) (wr := [(o7, .inr (10, [.ref o8, .int v10, .int v11])), (o8, .inl (cI, 12, .inl fw9))]) (w1 := fun u => [(o1, .inr (11, [.ref o2, .ref o7, .ref o12, .ref o41, .ref o51, .ref o64, .ref o77, .ref o84, .ref o91, .ref o99, .ref o111, .ref o123, .int u.1])), (o123, .inl (cI, 5, .inl u.2))]) (wn := fun u => [(o1, .inr (11, [.ref o2, .ref o7, .ref o12, .ref o41, .ref o51, .ref o64, .ref o77, .ref o84, .ref o91, .ref o99, .ref o111, .ref o123, .int u.1])), (o7, .inr (10, [.ref o8, .int v10, .int v11])), (o8, .inl (cI, 12, .inl fw9)), (o123, .inl (cI, 5, .inl u.2))]) (fun hPc hDc => va_runV (As := [.int 2]) (rest := []) ⟨hx, hb, hml, hown, hts⟩ (kX11_found_3 l dC dI cI c2 cZ o1 o2 o7 o12 o41 o51 o64 o77 o84 o91 o99 o111 o123 fw124 v125 2 H.size ik_2) (cwV 1 hts gX11_told_X11_found rfl rfl rfl (by decide +kernel) ⟨Nat.le_of_ble_eq_true rfl, Nat.le_of_ble_eq_true rfl⟩) (pre_V hPc hK hDc hN (ci := 11) (q0 := 0) rfl rfl) rfl rfl hl.1 rfl (lv_room (Nat.le_of_ble_eq_true rfl)) dX11_told_13 ⟨Nat.le_of_ble_eq_true rfl, Nat.le_of_ble_eq_true rfl⟩) hP hD hS hA [0, 3] [1, 2] [2, 0, 1, 3] rfl rfl (by decide +kernel) (by decide +kernel) (by decide +kernel) (by decide +kernel) (fun _ => rfl) (fun x17 u H locs hq hP hD hS => ?_)
    obtain ⟨y15, f16⟩ := u
    have x17_h := hq
    have hP : va_P (dC, dI) vwCl ([(o1, .inr (11, [.ref o2, .ref o7, .ref o12, .ref o41, .ref o51, .ref o64, .ref o77, .ref o84, .ref o91, .ref o99, .ref o111, .ref o123, .int y15])), (o7, .inr (10, [.ref o8, .int v10, .int v11])), (o8, .inl (cI, 12, .inl fw9)), (o123, .inl (cI, 5, .inl f16))]) H := hP
    have hD : va_D A ([(o1, .inr (11, [.ref o2, .ref o7, .ref o12, .ref o41, .ref o51, .ref o64, .ref o77, .ref o84, .ref o91, .ref o99, .ref o111, .ref o123, .int y15])), (o7, .inr (10, [.ref o8, .int v10, .int v11])), (o8, .inl (cI, 12, .inl fw9)), (o123, .inl (cI, 5, .inl f16))]) := hD
    rw [hQ]
    exact W.iret (v := x17) hx hb hr (fun t ht hW => ⟨⟨x17, (y15, f16), rfl, (iv_w x17_h (by decide)), by rw [ht]; exact hP, va_K.moved hW.alike hK, hD⟩, hS.F ht⟩) hS.2.2 dX11_told_16
theorem iw_X11_tear_X10 : ∀ w ∈ wsX100, w ∈ wsX11_tear := fun _ h => List.mem_cons.mpr (Or.inr (List.mem_append.mpr (Or.inr h)))
theorem iw_X11_tear_X11 : ∀ w ∈ wsX110, w ∈ wsX11_tear := fun _ h => List.mem_cons.mpr (Or.inr (List.mem_append.mpr (Or.inl (List.mem_append.mpr (Or.inr h)))))
set_option maxHeartbeats 4000000 in
set_option maxRecDepth 100000 in
theorem kX11_tear_1 (l : Launch) (dC : Nat → ClassId) (dI : Nat → Nat → Nat) (cI c2 cZ : ClassId) (o1 : Nat) (o2 : Nat) (o7 : Nat) (o12 : Nat) (o41 : Nat) (o51 : Nat) (o64 : Nat) (o77 : Nat) (o84 : Nat) (o91 : Nat) (o99 : Nat) (o111 : Nat) (o123 : Nat) (o8 : Nat) (fw9 : Nat → Int32) (v10 : Int32) (v11 : Int32) (fw124 : Nat → Int32) (v125 : Int32) (a1 : Int32) (sz : Nat) (fw9_b : Bd 12 (-1) 255 fw9) (v10_h : Iv 0 8 v10) : Met l yX11_tear wsX11_tear ({ frames := 1, cells := 0, slots := 0, locals := 22 }) (va_Pc [.ref o1, .int a1] (wPre (dC, dI) [(cI, .int), (c2, .array .int), (cZ, .boolean)] ([(o1, .inr (11, [.ref o2, .ref o7, .ref o12, .ref o41, .ref o51, .ref o64, .ref o77, .ref o84, .ref o91, .ref o99, .ref o111, .ref o123, .int v125])), (o7, .inr (10, [.ref o8, .int v10, .int v11])), (o8, .inl (cI, 12, .inl fw9)), (o123, .inl (cI, 5, .inl fw124))]) sz)) (va_Qi (fun (r : Int32) (u : Int32 × Int32 × (Nat → Int32) × (Nat → Int32)) => Iv (-3) 1 r ∧ Bd 12 (-1) 255 u.2.2.1) (fun u t => wPost (dC, dI) [(cI, .int), (c2, .array .int), (cZ, .boolean)] (va_A ([(o1, .inr (11, [.ref o2, .ref o7, .ref o12, .ref o41, .ref o51, .ref o64, .ref o77, .ref o84, .ref o91, .ref o99, .ref o111, .ref o123, .int v125])), (o7, .inr (10, [.ref o8, .int v10, .int v11])), (o8, .inl (cI, 12, .inl fw9)), (o123, .inl (cI, 5, .inl fw124))]) sz) ([(o1, .inr (11, [.ref o2, .ref o7, .ref o12, .ref o41, .ref o51, .ref o64, .ref o77, .ref o84, .ref o91, .ref o99, .ref o111, .ref o123, .int u.1])), (o7, .inr (10, [.ref o8, .int v10, .int u.2.1])), (o8, .inl (cI, 12, .inl u.2.2.1)), (o123, .inl (cI, 5, .inl u.2.2.2))]) t) (va_A ([(o1, .inr (11, [.ref o2, .ref o7, .ref o12, .ref o41, .ref o51, .ref o64, .ref o77, .ref o84, .ref o91, .ref o99, .ref o111, .ref o123, .int v125])), (o7, .inr (10, [.ref o8, .int v10, .int v11])), (o8, .inl (cI, 12, .inl fw9)), (o123, .inl (cI, 5, .inl fw124))]) sz)) 0 0 (va_A ([(o1, .inr (11, [.ref o2, .ref o7, .ref o12, .ref o41, .ref o51, .ref o64, .ref o77, .ref o84, .ref o91, .ref o99, .ref o111, .ref o123, .int v125])), (o7, .inr (10, [.ref o8, .int v10, .int v11])), (o8, .inl (cI, 12, .inl fw9)), (o123, .inl (cI, 5, .inl fw124))]) sz) := by
  refine Met.ofW (cc := cX11_tear) (maxL := 2) (ret := (some .int)) (by decide) rfl ?_
  intro p e s m args below meth c s₁ B hml hv
  obtain ⟨rfl, hsz, hP, hK, hD0, hN⟩ := hv
  have hx := B.exec
  have hb := B.bytes
  have hr := B.returns
  have hts := atoms_spec (ws := wsX11_tear) B.pre
  have hown : s.vm.findClass RX11 = some m.cls := findClass_of_methodNamed B.named
  have hlocks := B.notSynchronized
  subst hsz
  have hD := hD0.self (sz := s.heap.size)
  generalize hAe : va_A ([(o1, .inr (11, [.ref o2, .ref o7, .ref o12, .ref o41, .ref o51, .ref o64, .ref o77, .ref o84, .ref o91, .ref o99, .ref o111, .ref o123, .int v125])), (o7, .inr (10, [.ref o8, .int v10, .int v11])), (o8, .inl (cI, 12, .inl fw9)), (o123, .inl (cI, 5, .inl fw124))]) s.heap.size = A at hD ⊢
  have hA : ∀ q : Nat, s.heap.size ≤ q → A q := fun q h => by rw [← hAe]; exact Or.inr h
  have hS : va_S A s.heap s.heap [] := va_S.rf
  have hP : va_P (dC, dI) vwCl ([(o1, .inr (11, [.ref o2, .ref o7, .ref o12, .ref o41, .ref o51, .ref o64, .ref o77, .ref o84, .ref o91, .ref o99, .ref o111, .ref o123, .int v125])), (o7, .inr (10, [.ref o8, .int v10, .int v11])), (o8, .inl (cI, 12, .inl fw9)), (o123, .inl (cI, 5, .inl fw124))]) s.heap := hP
  have hl := lv_entry ([.ref o1, .int a1]) (n := 2) (Nat.le_of_ble_eq_true rfl)
  rw [lg_entry_eq]
  generalize (lg_sl ([.ref o1, .int a1]) ++ List.replicate (2 - (lg_sl ([.ref o1, .int a1])).length) Slot.unset).toArray = ls at hl ⊢
  have hl : lv_has ls 2 [(0, .ref o1), (1, .int a1)] := hl
  refine gen_Q (fun Q hQ => ?_)
  refine lv_aload_n hx hb dX11_tear_0 rfl (lv_at hl 0 rfl) ?_
  refine va_get (D := (dC, dI)) (ci := 11) (v := .ref o7) (C := RX11) (T := TX11) (N := 13) hx hb hts iw_X11_tear_X11 hown hK hP 0 rfl rfl 1 (by decide) (hts (.fieldLink RX11 19 "HolelessHouse" "table" "LHolelessHouse$Table;") hm_X11_tear_1) (fun _ h9 => h9) rfl dX11_tear_1 ?_
  refine lv_iload_n hx hb dX11_tear_4 rfl (lv_at hl 1 rfl) ?_
  refine kc_i (D := (dC, dI)) (S := Unit) (wc := [(o7, .inr (10, [.ref o8, .int v10, .int v11]))]) (wr := [(o1, .inr (11, [.ref o2, .ref o7, .ref o12, .ref o41, .ref o51, .ref o64, .ref o77, .ref o84, .ref o91, .ref o99, .ref o111, .ref o123, .int v125])), (o8, .inl (cI, 12, .inl fw9)), (o123, .inl (cI, 5, .inl fw124))]) (w1 := fun _ => [(o7, .inr (10, [.ref o8, .int v10, .int v11]))]) (wn := fun _ => [(o1, .inr (11, [.ref o2, .ref o7, .ref o12, .ref o41, .ref o51, .ref o64, .ref o77, .ref o84, .ref o91, .ref o99, .ref o111, .ref o123, .int v125])), (o7, .inr (10, [.ref o8, .int v10, .int v11])), (o8, .inl (cI, 12, .inl fw9)), (o123, .inl (cI, 5, .inl fw124))]) (fun hPc hDc => va_runVN (As := [.int a1]) (rest := []) ⟨hx, hb, hml, hown, hts⟩ (kX10_hasPlace_1 l dC dI cI c2 cZ o7 o8 v10 v11 a1 s.heap.size v10_h) ⟨va_cnB 1 hts gX11_tear_X10_hasPlace_n252 rfl rfl rfl (hN.1 _ ns_133) (hts (.initialized RX10) hm_X11_tear_3) (by decide +kernel) ⟨Nat.le_of_ble_eq_true rfl, Nat.le_of_ble_eq_true rfl⟩, (hts (.instanceMethod yX10_hasPlace) hm_X11_tear_2), (hts (.selects RX10 yX10_hasPlace yX10_hasPlace) hm_X11_tear_4)⟩ (pre_V hPc hK hDc hN (ci := 10) (q0 := 0) rfl rfl) rfl rfl hl.1 rfl (lv_room (Nat.le_of_ble_eq_true rfl)) dX11_tear_5 ⟨Nat.le_of_ble_eq_true rfl, Nat.le_of_ble_eq_true rfl⟩) hP hD hS hA [1] [0, 2, 3] [0, 3, 1, 2] rfl rfl (by decide +kernel) (by decide +kernel) (by decide +kernel) (by decide +kernel) (fun _ => rfl) (fun x1 _ H locs hq hP hD hS => ?_)
  obtain ⟨x1_h, i2⟩ := hq
  have hP : va_P (dC, dI) vwCl ([(o1, .inr (11, [.ref o2, .ref o7, .ref o12, .ref o41, .ref o51, .ref o64, .ref o77, .ref o84, .ref o91, .ref o99, .ref o111, .ref o123, .int v125])), (o7, .inr (10, [.ref o8, .int v10, .int v11])), (o8, .inl (cI, 12, .inl fw9)), (o123, .inl (cI, 5, .inl fw124))]) H := hP
  have hD : va_D A ([(o1, .inr (11, [.ref o2, .ref o7, .ref o12, .ref o41, .ref o51, .ref o64, .ref o77, .ref o84, .ref o91, .ref o99, .ref o111, .ref o123, .int v125])), (o7, .inr (10, [.ref o8, .int v10, .int v11])), (o8, .inl (cI, 12, .inl fw9)), (o123, .inl (cI, 5, .inl fw124))]) := hD
  refine lv_if_ne (tgt := 17) hx hb dX11_tear_8 (by decide) (fun h3 => ?_) (fun h3 => ?_)
  ·
    have j4 : Iv 1 1 x1 := r_nelo h3 x1_h ik_0 (by decide)
    have j5 : Iv 0 11 a1 := i2 h3
    refine lv_aload_n hx hb dX11_tear_17 rfl (lv_at hl 0 rfl) ?_
    refine va_get (D := (dC, dI)) (ci := 11) (v := .ref o7) (C := RX11) (T := TX11) (N := 13) hx hb hts iw_X11_tear_X11 hown hK hP 0 rfl rfl 1 (by decide) (hts (.fieldLink RX11 19 "HolelessHouse" "table" "LHolelessHouse$Table;") hm_X11_tear_1) (fun _ h9 => h9) rfl dX11_tear_18 ?_
    refine va_getN (D := (dC, dI)) (ci := 10) (v := .ref o8) (C := RX10) (T := TX10) (N := 3) hx hb hts iw_X11_tear_X10 hown hK hP 1 rfl rfl 0 (by decide) (hN.use ns_21) (fun _ h9 => h9) rfl dX11_tear_21 ?_
    refine lv_iload_n hx hb dX11_tear_24 rfl (lv_at hl 1 rfl) ?_
    refine va_iald hx hb hK hP 2 0 rfl rfl (vin_iv j5 (by decide)) dX11_tear_25 (lv_topi (fun x6 x6_e => ?_))
    have x6_h : Iv (-1) 255 x6 := iv_e x6_e (bd_at fw9_b (vin_iv j5 (by decide)))
    refine lv_iconst (v := (-1)) hx hb dX11_tear_26 (by decide) ?_
    refine lv_icmp_ne (tgt := 36) hx hb dX11_tear_27 (by decide) (fun h7 => ?_) (fun h7 => ?_)
    ·
      have j8 : Iv 0 255 x6 := r_nelo h7 x6_h ikm_1 (by decide)
      refine lv_aload_n hx hb dX11_tear_36 rfl (lv_at hl 0 rfl) ?_
      refine va_get (D := (dC, dI)) (ci := 11) (v := .ref o7) (C := RX11) (T := TX11) (N := 13) hx hb hts iw_X11_tear_X11 hown hK hP 0 rfl rfl 1 (by decide) (hts (.fieldLink RX11 19 "HolelessHouse" "table" "LHolelessHouse$Table;") hm_X11_tear_1) (fun _ h9 => h9) rfl dX11_tear_37 ?_
      refine lv_iload_n hx hb dX11_tear_40 rfl (lv_at hl 1 rfl) ?_
      refine lv_iconst (v := (-1)) hx hb dX11_tear_41 (by decide) ?_
      refine kc_v (D := (dC, dI)) (S := Int32 × (Nat → Int32)) (wc := [(o7, .inr (10, [.ref o8, .int v10, .int v11])), (o8, .inl (cI, 12, .inl fw9))]) (wr := [(o1, .inr (11, [.ref o2, .ref o7, .ref o12, .ref o41, .ref o51, .ref o64, .ref o77, .ref o84, .ref o91, .ref o99, .ref o111, .ref o123, .int v125])), (o123, .inl (cI, 5, .inl fw124))]) (w1 := fun u => [(o7, .inr (10, [.ref o8, .int v10, .int u.1])), (o8, .inl (cI, 12, .inl u.2))]) (wn := fun u => [(o1, .inr (11, [.ref o2, .ref o7, .ref o12, .ref o41, .ref o51, .ref o64, .ref o77, .ref o84, .ref o91, .ref o99, .ref o111, .ref o123, .int v125])), (o7, .inr (10, [.ref o8, .int v10, .int u.1])), (o8, .inl (cI, 12, .inl u.2)), (o123, .inl (cI, 5, .inl fw124))]) (fun hPc hDc => va_runVN (As := [.int a1, .int (-1)]) (rest := []) ⟨hx, hb, hml, hown, hts⟩ (kX10_put_1 l dC dI cI c2 cZ o7 o8 fw9 v10 v11 a1 (-1) H.size fw9_b v10_h j5 (iv_w ikm_1 (by decide))) ⟨va_cnB 2 hts gX11_tear_X10_put_n255 rfl rfl rfl (hN.1 _ ns_134) (hts (.initialized RX10) hm_X11_tear_3) (by decide +kernel) ⟨Nat.le_of_ble_eq_true rfl, Nat.le_of_ble_eq_true rfl⟩, (hts (.instanceMethod yX10_put) hm_X11_tear_13), (hts (.selects RX10 yX10_put yX10_put) hm_X11_tear_14)⟩ (pre_V hPc hK hDc hN (ci := 10) (q0 := 0) rfl rfl) rfl rfl hl.1 rfl (lv_room (Nat.le_of_ble_eq_true rfl)) dX11_tear_42 ⟨Nat.le_of_ble_eq_true rfl, Nat.le_of_ble_eq_true rfl⟩) hP hD hS hA [1, 2] [0, 3] [0, 2, 3, 1] rfl rfl (by decide +kernel) (by decide +kernel) (by decide +kernel) (by decide +kernel) (fun _ => rfl) (fun u H locs hq hP hD hS => ?_)
      obtain ⟨y9, f10⟩ := u
      have f10_b := hq
      have hP : va_P (dC, dI) vwCl ([(o1, .inr (11, [.ref o2, .ref o7, .ref o12, .ref o41, .ref o51, .ref o64, .ref o77, .ref o84, .ref o91, .ref o99, .ref o111, .ref o123, .int v125])), (o7, .inr (10, [.ref o8, .int v10, .int y9])), (o8, .inl (cI, 12, .inl f10)), (o123, .inl (cI, 5, .inl fw124))]) H := hP
      have hD : va_D A ([(o1, .inr (11, [.ref o2, .ref o7, .ref o12, .ref o41, .ref o51, .ref o64, .ref o77, .ref o84, .ref o91, .ref o99, .ref o111, .ref o123, .int v125])), (o7, .inr (10, [.ref o8, .int v10, .int y9])), (o8, .inl (cI, 12, .inl f10)), (o123, .inl (cI, 5, .inl fw124))]) := hD
      refine lv_iconst (v := 1) hx hb dX11_tear_45 (by decide) ?_
      rw [hQ]
      exact W.iret (v := 1) hx hb hr (fun t ht hW => ⟨⟨1, (v125, y9, f10, fw124), rfl, ⟨(iv_w ik_1 (by decide)), f10_b⟩, by rw [ht]; exact hP, va_K.moved hW.alike hK, hD⟩, hS.F ht⟩) hS.2.2 dX11_tear_46
    ·
      have j11 : Iv (-1) (-1) x6 := r_eq h7 ikm_1
      refine lv_aload_n hx hb dX11_tear_30 rfl (lv_at hl 0 rfl) ?_
      refine lv_iconst (v := 1) hx hb dX11_tear_31 (by decide) ?_
      refine kc_i (D := (dC, dI)) (S := Int32 × (Nat → Int32)) (wc := [(o1, .inr (11, [.ref o2, .ref o7, .ref o12, .ref o41, .ref o51, .ref o64, .ref o77, .ref o84, .ref o91, .ref o99, .ref o111, .ref o123, .int v125])), (o123, .inl (cI, 5, .inl fw124))]) (wr := [(o7, .inr (10, [.ref o8, .int v10, .int v11])), (o8, .inl (cI, 12, .inl fw9))]) (w1 := fun u => [(o1, .inr (11, [.ref o2, .ref o7, .ref o12, .ref o41, .ref o51, .ref o64, .ref o77, .ref o84, .ref o91, .ref o99, .ref o111, .ref o123, .int u.1])), (o123, .inl (cI, 5, .inl u.2))]) (wn := fun u => [(o1, .inr (11, [.ref o2, .ref o7, .ref o12, .ref o41, .ref o51, .ref o64, .ref o77, .ref o84, .ref o91, .ref o99, .ref o111, .ref o123, .int u.1])), (o7, .inr (10, [.ref o8, .int v10, .int v11])), (o8, .inl (cI, 12, .inl fw9)), (o123, .inl (cI, 5, .inl u.2))]) (fun hPc hDc => va_runV (As := [.int 1]) (rest := []) ⟨hx, hb, hml, hown, hts⟩ (kX11_found_4 l dC dI cI c2 cZ o1 o2 o7 o12 o41 o51 o64 o77 o84 o91 o99 o111 o123 fw124 v125 1 H.size ik_1) (cwV 1 hts gX11_tear_X11_found rfl rfl rfl (by decide +kernel) ⟨Nat.le_of_ble_eq_true rfl, Nat.le_of_ble_eq_true rfl⟩) (pre_V hPc hK hDc hN (ci := 11) (q0 := 0) rfl rfl) rfl rfl hl.1 rfl (lv_room (Nat.le_of_ble_eq_true rfl)) dX11_tear_32 ⟨Nat.le_of_ble_eq_true rfl, Nat.le_of_ble_eq_true rfl⟩) hP hD hS hA [0, 3] [1, 2] [2, 0, 1, 3] rfl rfl (by decide +kernel) (by decide +kernel) (by decide +kernel) (by decide +kernel) (fun _ => rfl) (fun x14 u H locs hq hP hD hS => ?_)
      obtain ⟨y12, f13⟩ := u
      have x14_h := hq
      have hP : va_P (dC, dI) vwCl ([(o1, .inr (11, [.ref o2, .ref o7, .ref o12, .ref o41, .ref o51, .ref o64, .ref o77, .ref o84, .ref o91, .ref o99, .ref o111, .ref o123, .int y12])), (o7, .inr (10, [.ref o8, .int v10, .int v11])), (o8, .inl (cI, 12, .inl fw9)), (o123, .inl (cI, 5, .inl f13))]) H := hP
      have hD : va_D A ([(o1, .inr (11, [.ref o2, .ref o7, .ref o12, .ref o41, .ref o51, .ref o64, .ref o77, .ref o84, .ref o91, .ref o99, .ref o111, .ref o123, .int y12])), (o7, .inr (10, [.ref o8, .int v10, .int v11])), (o8, .inl (cI, 12, .inl fw9)), (o123, .inl (cI, 5, .inl f13))]) := hD
      rw [hQ]
      exact W.iret (v := x14) hx hb hr (fun t ht hW => ⟨⟨x14, (y12, v11, fw9, f13), rfl, ⟨(iv_w x14_h (by decide)), fw9_b⟩, by rw [ht]; exact hP, va_K.moved hW.alike hK, hD⟩, hS.F ht⟩) hS.2.2 dX11_tear_35
  ·
    have j15 : Iv 0 0 x1 := r_eq h3 ik_0
    refine lv_aload_n hx hb dX11_tear_11 rfl (lv_at hl 0 rfl) ?_
    refine lv_iconst (v := 2) hx hb dX11_tear_12 (by decide) ?_
    refine kc_i (D := (dC, dI)) (S := Int32 × (Nat → Int32)) (wc := [(o1, .inr (11, [.ref o2, .ref o7, .ref o12, .ref o41, .ref o51, .ref o64, .ref o77, .ref o84, .ref o91, .ref o99, .ref o111, .ref o123, .int v125])), (o123, .inl (cI, 5, .inl fw124))]) (wr := [(o7, .inr (10, [.ref o8, .int v10, .int v11])), (o8, .inl (cI, 12, .inl fw9))]) (w1 := fun u => [(o1, .inr (11, [.ref o2, .ref o7, .ref o12, .ref o41, .ref o51, .ref o64, .ref o77, .ref o84, .ref o91, .ref o99, .ref o111, .ref o123, .int u.1])), (o123, .inl (cI, 5, .inl u.2))]) (wn := fun u => [(o1, .inr (11, [.ref o2, .ref o7, .ref o12, .ref o41, .ref o51, .ref o64, .ref o77, .ref o84, .ref o91, .ref o99, .ref o111, .ref o123, .int u.1])), (o7, .inr (10, [.ref o8, .int v10, .int v11])), (o8, .inl (cI, 12, .inl fw9)), (o123, .inl (cI, 5, .inl u.2))]) (fun hPc hDc => va_runV (As := [.int 2]) (rest := []) ⟨hx, hb, hml, hown, hts⟩ (kX11_found_3 l dC dI cI c2 cZ o1 o2 o7 o12 o41 o51 o64 o77 o84 o91 o99 o111 o123 fw124 v125 2 H.size ik_2) (cwV 1 hts gX11_tear_X11_found rfl rfl rfl (by decide +kernel) ⟨Nat.le_of_ble_eq_true rfl, Nat.le_of_ble_eq_true rfl⟩) (pre_V hPc hK hDc hN (ci := 11) (q0 := 0) rfl rfl) rfl rfl hl.1 rfl (lv_room (Nat.le_of_ble_eq_true rfl)) dX11_tear_13 ⟨Nat.le_of_ble_eq_true rfl, Nat.le_of_ble_eq_true rfl⟩) hP hD hS hA [0, 3] [1, 2] [2, 0, 1, 3] rfl rfl (by decide +kernel) (by decide +kernel) (by decide +kernel) (by decide +kernel) (fun _ => rfl) (fun x18 u H locs hq hP hD hS => ?_)
    obtain ⟨y16, f17⟩ := u
    have x18_h := hq
    have hP : va_P (dC, dI) vwCl ([(o1, .inr (11, [.ref o2, .ref o7, .ref o12, .ref o41, .ref o51, .ref o64, .ref o77, .ref o84, .ref o91, .ref o99, .ref o111, .ref o123, .int y16])), (o7, .inr (10, [.ref o8, .int v10, .int v11])), (o8, .inl (cI, 12, .inl fw9)), (o123, .inl (cI, 5, .inl f17))]) H := hP
    have hD : va_D A ([(o1, .inr (11, [.ref o2, .ref o7, .ref o12, .ref o41, .ref o51, .ref o64, .ref o77, .ref o84, .ref o91, .ref o99, .ref o111, .ref o123, .int y16])), (o7, .inr (10, [.ref o8, .int v10, .int v11])), (o8, .inl (cI, 12, .inl fw9)), (o123, .inl (cI, 5, .inl f17))]) := hD
    rw [hQ]
    exact W.iret (v := x18) hx hb hr (fun t ht hW => ⟨⟨x18, (y16, v11, fw9, f17), rfl, ⟨(iv_w x18_h (by decide)), fw9_b⟩, by rw [ht]; exact hP, va_K.moved hW.alike hK, hD⟩, hS.F ht⟩) hS.2.2 dX11_tear_16
set_option maxHeartbeats 4000000 in
set_option maxRecDepth 100000 in
theorem kX10_hasRun_1 (l : Launch) (dC : Nat → ClassId) (dI : Nat → Nat → Nat) (cI c2 cZ : ClassId) (o1 : Nat) (o2 : Nat) (v4 : Int32) (v5 : Int32) (a1 : Int32) (a2 : Int32) (sz : Nat) (v4_h : Iv 0 8 v4) : Met l yX10_hasRun wsX10_hasRun ({ frames := 0, cells := 0, slots := 0, locals := 0 }) (va_Pc [.ref o1, .int a1, .int a2] (wPre (dC, dI) [(cI, .int), (c2, .array .int), (cZ, .boolean)] ([(o1, .inr (10, [.ref o2, .int v4, .int v5]))]) sz)) (va_Qi (fun (r : Int32) (_ : Unit) => Iv 0 1 r ∧ (¬ r = 0 → Iv 0 12 a1) ∧ (¬ r = 0 → Iv 0 12 a2) ∧ (¬ r = 0 → Int32.toInt a1 + Int32.toInt a2 ≤ 12)) (fun _ t => wPost (dC, dI) [(cI, .int), (c2, .array .int), (cZ, .boolean)] (va_A ([(o1, .inr (10, [.ref o2, .int v4, .int v5]))]) sz) ([(o1, .inr (10, [.ref o2, .int v4, .int v5]))]) t) (va_A ([(o1, .inr (10, [.ref o2, .int v4, .int v5]))]) sz)) 0 0 (va_A ([(o1, .inr (10, [.ref o2, .int v4, .int v5]))]) sz) := by
  refine Met.ofW (cc := cX10_hasRun) (maxL := 3) (ret := (some .boolean)) (by decide) rfl ?_
  intro p e s m args below meth c s₁ B hml hv
  obtain ⟨rfl, hsz, hP, hK, hD0, hN⟩ := hv
  have hx := B.exec
  have hb := B.bytes
  have hr := B.returns
  have hts := atoms_spec (ws := wsX10_hasRun) B.pre
  have hown : s.vm.findClass RX10 = some m.cls := findClass_of_methodNamed B.named
  have hlocks := B.notSynchronized
  subst hsz
  have hD := hD0.self (sz := s.heap.size)
  generalize hAe : va_A ([(o1, .inr (10, [.ref o2, .int v4, .int v5]))]) s.heap.size = A at hD ⊢
  have hA : ∀ q : Nat, s.heap.size ≤ q → A q := fun q h => by rw [← hAe]; exact Or.inr h
  have hS : va_S A s.heap s.heap [] := va_S.rf
  have hP : va_P (dC, dI) vwCl ([(o1, .inr (10, [.ref o2, .int v4, .int v5]))]) s.heap := hP
  have hl := lv_entry ([.ref o1, .int a1, .int a2]) (n := 3) (Nat.le_of_ble_eq_true rfl)
  rw [lg_entry_eq]
  generalize (lg_sl ([.ref o1, .int a1, .int a2]) ++ List.replicate (3 - (lg_sl ([.ref o1, .int a1, .int a2])).length) Slot.unset).toArray = ls at hl ⊢
  have hl : lv_has ls 3 [(0, .ref o1), (1, .int a1), (2, .int a2)] := hl
  refine gen_Q (fun Q hQ => ?_)
  refine lv_iload_n hx hb dX10_hasRun_0 rfl (lv_at hl 1 rfl) ?_
  refine lv_if_lt (tgt := 26) hx hb dX10_hasRun_1 (by decide) (fun h1 => ?_) (fun h1 => ?_)
  ·
    have qh1 := lt_i h1
    have j2 : Iv (-2147483648) (-1) a1 := r_ltl qh1 (iv_full a1) ik_0 (by decide)
    refine lv_iconst (v := 0) hx hb dX10_hasRun_26 (by decide) ?_
    rw [hQ]
    exact W.zret (v := 0) (ty := .boolean) hx hb hr rfl (fun t ht hW => ⟨⟨0, (), rfl, ⟨(iv_w ik_0 (by decide)), (fun h8 => absurd rfl h8), (fun h8 => absurd rfl h8), (fun h8 => absurd rfl h8)⟩, by rw [ht]; exact hP, va_K.moved hW.alike hK, hD⟩, hS.F ht⟩) hS.2.2 dX10_hasRun_27
  ·
    have qh1 := nlt_i h1
    have j3 : Iv 0 2147483647 a1 := r_ler qh1 ik_0 (iv_full a1) (by decide)
    refine lv_iload_n hx hb dX10_hasRun_4 rfl (lv_at hl 2 rfl) ?_
    refine lv_if_lt (tgt := 26) hx hb dX10_hasRun_5 (by decide) (fun h4 => ?_) (fun h4 => ?_)
    ·
      have qh4 := lt_i h4
      have j5 : Iv (-2147483648) (-1) a2 := r_ltl qh4 (iv_full a2) ik_0 (by decide)
      refine lv_iconst (v := 0) hx hb dX10_hasRun_26 (by decide) ?_
      rw [hQ]
      exact W.zret (v := 0) (ty := .boolean) hx hb hr rfl (fun t ht hW => ⟨⟨0, (), rfl, ⟨(iv_w ik_0 (by decide)), (fun h8 => absurd rfl h8), (fun h8 => absurd rfl h8), (fun h8 => absurd rfl h8)⟩, by rw [ht]; exact hP, va_K.moved hW.alike hK, hD⟩, hS.F ht⟩) hS.2.2 dX10_hasRun_27
    ·
      have qh4 := nlt_i h4
      have j6 : Iv 0 2147483647 a2 := r_ler qh4 ik_0 (iv_full a2) (by decide)
      refine lv_iload_n hx hb dX10_hasRun_8 rfl (lv_at hl 1 rfl) ?_
      refine lv_bipush (v := 12) hx hb dX10_hasRun_9 (by decide) ?_
      refine lv_icmp_gt (tgt := 26) hx hb dX10_hasRun_11 (by decide) (fun h7 => ?_) (fun h7 => ?_)
      ·
        have qh7 := lt_i h7
        have j8 : Iv 13 2147483647 a1 := r_ltr qh7 ik_12 j3 (by decide)
        refine lv_iconst (v := 0) hx hb dX10_hasRun_26 (by decide) ?_
        rw [hQ]
        exact W.zret (v := 0) (ty := .boolean) hx hb hr rfl (fun t ht hW => ⟨⟨0, (), rfl, ⟨(iv_w ik_0 (by decide)), (fun h8 => absurd rfl h8), (fun h8 => absurd rfl h8), (fun h8 => absurd rfl h8)⟩, by rw [ht]; exact hP, va_K.moved hW.alike hK, hD⟩, hS.F ht⟩) hS.2.2 dX10_hasRun_27
      ·
        have qh7 := nlt_i h7
        have j9 : Iv 0 12 a1 := r_lel qh7 j3 ik_12 (by decide)
        refine lv_iload_n hx hb dX10_hasRun_14 rfl (lv_at hl 2 rfl) ?_
        refine lv_bipush (v := 12) hx hb dX10_hasRun_15 (by decide) ?_
        refine lv_iload_n hx hb dX10_hasRun_17 rfl (lv_at hl 1 rfl) ?_
        refine lv_isub hx hb dX10_hasRun_18 (lv_topi (fun x10 x10_e => ?_))
        have x10_h : Iv 0 12 x10 := iv_e x10_e (iv_sub ik_12 j9 (by decide))
        refine lv_icmp_gt (tgt := 26) hx hb dX10_hasRun_19 (by decide) (fun h11 => ?_) (fun h11 => ?_)
        ·
          have qh11 := lt_i h11
          have j12 : Iv 1 2147483647 a2 := r_ltr qh11 x10_h j6 (by decide)
          refine lv_iconst (v := 0) hx hb dX10_hasRun_26 (by decide) ?_
          rw [hQ]
          exact W.zret (v := 0) (ty := .boolean) hx hb hr rfl (fun t ht hW => ⟨⟨0, (), rfl, ⟨(iv_w ik_0 (by decide)), (fun h8 => absurd rfl h8), (fun h8 => absurd rfl h8), (fun h8 => absurd rfl h8)⟩, by rw [ht]; exact hP, va_K.moved hW.alike hK, hD⟩, hS.F ht⟩) hS.2.2 dX10_hasRun_27
        ·
          have qh11 := nlt_i h11
          have j13 : Iv 0 12 a2 := r_lel qh11 j6 x10_h (by decide)
          refine lv_iconst (v := 1) hx hb dX10_hasRun_22 (by decide) ?_
          refine lv_goto (tgt := 27) hx hb dX10_hasRun_23 (by decide) ?_
          rw [hQ]
          exact W.zret (v := 1) (ty := .boolean) hx hb hr rfl (fun t ht hW => ⟨⟨1, (), rfl, ⟨(iv_w ik_1 (by decide)), (fun _ => j9), (fun _ => j13), (fun _ => by have h7 := ti_subc ik_12 j9 (by decide); rw [← x10_e] at h7; have h6 := qh11; have h5 : Int32.toInt 12 = 12 := (by decide +kernel); omega)⟩, by rw [ht]; exact hP, va_K.moved hW.alike hK, hD⟩, hS.F ht⟩) hS.2.2 dX10_hasRun_27
set_option maxHeartbeats 4000000 in
set_option maxRecDepth 100000 in
theorem kX10_hasRun_2 (l : Launch) (dC : Nat → ClassId) (dI : Nat → Nat → Nat) (cI c2 cZ : ClassId) (o1 : Nat) (o2 : Nat) (v4 : Int32) (v5 : Int32) (a1 : Int32) (a2 : Int32) (sz : Nat) (v4_h : Iv 0 8 v4) (a2_h : Iv 0 12 a2) : Met l yX10_hasRun wsX10_hasRun ({ frames := 0, cells := 0, slots := 0, locals := 0 }) (va_Pc [.ref o1, .int a1, .int a2] (wPre (dC, dI) [(cI, .int), (c2, .array .int), (cZ, .boolean)] ([(o1, .inr (10, [.ref o2, .int v4, .int v5]))]) sz)) (va_Qi (fun (r : Int32) (_ : Unit) => Iv 0 1 r ∧ (¬ r = 0 → Iv 0 12 a1) ∧ (¬ r = 0 → Int32.toInt a1 + Int32.toInt a2 ≤ 12)) (fun _ t => wPost (dC, dI) [(cI, .int), (c2, .array .int), (cZ, .boolean)] (va_A ([(o1, .inr (10, [.ref o2, .int v4, .int v5]))]) sz) ([(o1, .inr (10, [.ref o2, .int v4, .int v5]))]) t) (va_A ([(o1, .inr (10, [.ref o2, .int v4, .int v5]))]) sz)) 0 0 (va_A ([(o1, .inr (10, [.ref o2, .int v4, .int v5]))]) sz) := by
  refine Met.ofW (cc := cX10_hasRun) (maxL := 3) (ret := (some .boolean)) (by decide) rfl ?_
  intro p e s m args below meth c s₁ B hml hv
  obtain ⟨rfl, hsz, hP, hK, hD0, hN⟩ := hv
  have hx := B.exec
  have hb := B.bytes
  have hr := B.returns
  have hts := atoms_spec (ws := wsX10_hasRun) B.pre
  have hown : s.vm.findClass RX10 = some m.cls := findClass_of_methodNamed B.named
  have hlocks := B.notSynchronized
  subst hsz
  have hD := hD0.self (sz := s.heap.size)
  generalize hAe : va_A ([(o1, .inr (10, [.ref o2, .int v4, .int v5]))]) s.heap.size = A at hD ⊢
  have hA : ∀ q : Nat, s.heap.size ≤ q → A q := fun q h => by rw [← hAe]; exact Or.inr h
  have hS : va_S A s.heap s.heap [] := va_S.rf
  have hP : va_P (dC, dI) vwCl ([(o1, .inr (10, [.ref o2, .int v4, .int v5]))]) s.heap := hP
  have hl := lv_entry ([.ref o1, .int a1, .int a2]) (n := 3) (Nat.le_of_ble_eq_true rfl)
  rw [lg_entry_eq]
  generalize (lg_sl ([.ref o1, .int a1, .int a2]) ++ List.replicate (3 - (lg_sl ([.ref o1, .int a1, .int a2])).length) Slot.unset).toArray = ls at hl ⊢
  have hl : lv_has ls 3 [(0, .ref o1), (1, .int a1), (2, .int a2)] := hl
  refine gen_Q (fun Q hQ => ?_)
  refine lv_iload_n hx hb dX10_hasRun_0 rfl (lv_at hl 1 rfl) ?_
  refine lv_if_lt (tgt := 26) hx hb dX10_hasRun_1 (by decide) (fun h1 => ?_) (fun h1 => ?_)
  ·
    have qh1 := lt_i h1
    have j2 : Iv (-2147483648) (-1) a1 := r_ltl qh1 (iv_full a1) ik_0 (by decide)
    refine lv_iconst (v := 0) hx hb dX10_hasRun_26 (by decide) ?_
    rw [hQ]
    exact W.zret (v := 0) (ty := .boolean) hx hb hr rfl (fun t ht hW => ⟨⟨0, (), rfl, ⟨(iv_w ik_0 (by decide)), (fun h8 => absurd rfl h8), (fun h8 => absurd rfl h8)⟩, by rw [ht]; exact hP, va_K.moved hW.alike hK, hD⟩, hS.F ht⟩) hS.2.2 dX10_hasRun_27
  ·
    have qh1 := nlt_i h1
    have j3 : Iv 0 2147483647 a1 := r_ler qh1 ik_0 (iv_full a1) (by decide)
    refine lv_iload_n hx hb dX10_hasRun_4 rfl (lv_at hl 2 rfl) ?_
    refine lv_if_lt (tgt := 26) hx hb dX10_hasRun_5 (by decide) (fun h9 => absurd h9 (d_nlt a2_h ik_0 (by decide))) (fun _ => ?_)
    refine lv_iload_n hx hb dX10_hasRun_8 rfl (lv_at hl 1 rfl) ?_
    refine lv_bipush (v := 12) hx hb dX10_hasRun_9 (by decide) ?_
    refine lv_icmp_gt (tgt := 26) hx hb dX10_hasRun_11 (by decide) (fun h4 => ?_) (fun h4 => ?_)
    ·
      have qh4 := lt_i h4
      have j5 : Iv 13 2147483647 a1 := r_ltr qh4 ik_12 j3 (by decide)
      refine lv_iconst (v := 0) hx hb dX10_hasRun_26 (by decide) ?_
      rw [hQ]
      exact W.zret (v := 0) (ty := .boolean) hx hb hr rfl (fun t ht hW => ⟨⟨0, (), rfl, ⟨(iv_w ik_0 (by decide)), (fun h8 => absurd rfl h8), (fun h8 => absurd rfl h8)⟩, by rw [ht]; exact hP, va_K.moved hW.alike hK, hD⟩, hS.F ht⟩) hS.2.2 dX10_hasRun_27
    ·
      have qh4 := nlt_i h4
      have j6 : Iv 0 12 a1 := r_lel qh4 j3 ik_12 (by decide)
      refine lv_iload_n hx hb dX10_hasRun_14 rfl (lv_at hl 2 rfl) ?_
      refine lv_bipush (v := 12) hx hb dX10_hasRun_15 (by decide) ?_
      refine lv_iload_n hx hb dX10_hasRun_17 rfl (lv_at hl 1 rfl) ?_
      refine lv_isub hx hb dX10_hasRun_18 (lv_topi (fun x7 x7_e => ?_))
      have x7_h : Iv 0 12 x7 := iv_e x7_e (iv_sub ik_12 j6 (by decide))
      refine lv_icmp_gt (tgt := 26) hx hb dX10_hasRun_19 (by decide) (fun h8 => ?_) (fun h8 => ?_)
      ·
        have qh8 := lt_i h8
        have j9 : Iv 0 11 x7 := r_ltl qh8 x7_h a2_h (by decide)
        have j10 : Iv 1 12 a2 := r_ltr qh8 x7_h a2_h (by decide)
        refine lv_iconst (v := 0) hx hb dX10_hasRun_26 (by decide) ?_
        rw [hQ]
        exact W.zret (v := 0) (ty := .boolean) hx hb hr rfl (fun t ht hW => ⟨⟨0, (), rfl, ⟨(iv_w ik_0 (by decide)), (fun h8 => absurd rfl h8), (fun h8 => absurd rfl h8)⟩, by rw [ht]; exact hP, va_K.moved hW.alike hK, hD⟩, hS.F ht⟩) hS.2.2 dX10_hasRun_27
      ·
        have qh8 := nlt_i h8
        refine lv_iconst (v := 1) hx hb dX10_hasRun_22 (by decide) ?_
        refine lv_goto (tgt := 27) hx hb dX10_hasRun_23 (by decide) ?_
        rw [hQ]
        exact W.zret (v := 1) (ty := .boolean) hx hb hr rfl (fun t ht hW => ⟨⟨1, (), rfl, ⟨(iv_w ik_1 (by decide)), (fun _ => j6), (fun _ => by have h7 := ti_subc ik_12 j6 (by decide); rw [← x7_e] at h7; have h6 := qh8; have h5 : Int32.toInt 12 = 12 := (by decide +kernel); omega)⟩, by rw [ht]; exact hP, va_K.moved hW.alike hK, hD⟩, hS.F ht⟩) hS.2.2 dX10_hasRun_27
theorem iw_X10_move_X10 : ∀ w ∈ wsX100, w ∈ wsX10_move := fun _ h => List.mem_cons.mpr (Or.inr (List.mem_append.mpr (Or.inr h)))
set_option maxHeartbeats 4000000 in
set_option maxRecDepth 100000 in
theorem kX10_move_1 (l : Launch) (dC : Nat → ClassId) (dI : Nat → Nat → Nat) (cI c2 cZ : ClassId) (o1 : Nat) (o2 : Nat) (fw3 : Nat → Int32) (v4 : Int32) (v5 : Int32) (a1 : Int32) (a2 : Int32) (a3 : Int32) (sz : Nat) (fw3_b : Bd 12 (-1) 255 fw3) (v4_h : Iv 0 8 v4) (a1_h : Iv 0 12 a1) (a2_h : Iv 0 12 a2) (a3_h : Iv 0 12 a3) (pre0 : Int32.toInt a1 + Int32.toInt a3 ≤ 12) (pre1 : Int32.toInt a2 + Int32.toInt a3 ≤ 12) : Met l yX10_move wsX10_move ({ frames := 1, cells := 0, slots := 0, locals := 64 }) (va_Pc [.ref o1, .int a1, .int a2, .int a3] (wPre (dC, dI) [(cI, .int), (c2, .array .int), (cZ, .boolean)] ([(o1, .inr (10, [.ref o2, .int v4, .int v5])), (o2, .inl (cI, 12, .inl fw3))]) sz)) (va_Qv (fun (u : Int32 × (Nat → Int32)) => Bd 12 (-1) 255 u.2) (fun u t => wPost (dC, dI) [(cI, .int), (c2, .array .int), (cZ, .boolean)] (va_A ([(o1, .inr (10, [.ref o2, .int v4, .int v5])), (o2, .inl (cI, 12, .inl fw3))]) sz) ([(o1, .inr (10, [.ref o2, .int v4, .int u.1])), (o2, .inl (cI, 12, .inl u.2))]) t) (va_A ([(o1, .inr (10, [.ref o2, .int v4, .int v5])), (o2, .inl (cI, 12, .inl fw3))]) sz)) 0 0 (va_A ([(o1, .inr (10, [.ref o2, .int v4, .int v5])), (o2, .inl (cI, 12, .inl fw3))]) sz) := by
  refine Met.ofW (cc := cX10_move) (maxL := 4) (ret := none) (by decide) rfl ?_
  intro p e s m args below meth c s₁ B hml hv
  obtain ⟨rfl, hsz, hP, hK, hD0, hN⟩ := hv
  have hx := B.exec
  have hb := B.bytes
  have hr := B.returns
  have hts := atoms_spec (ws := wsX10_move) B.pre
  have hown : s.vm.findClass RX10 = some m.cls := findClass_of_methodNamed B.named
  have hlocks := B.notSynchronized
  subst hsz
  have hD := hD0.self (sz := s.heap.size)
  generalize hAe : va_A ([(o1, .inr (10, [.ref o2, .int v4, .int v5])), (o2, .inl (cI, 12, .inl fw3))]) s.heap.size = A at hD ⊢
  have hA : ∀ q : Nat, s.heap.size ≤ q → A q := fun q h => by rw [← hAe]; exact Or.inr h
  have hS : va_S A s.heap s.heap [] := va_S.rf
  have hP : va_P (dC, dI) vwCl ([(o1, .inr (10, [.ref o2, .int v4, .int v5])), (o2, .inl (cI, 12, .inl fw3))]) s.heap := hP
  have hl := lv_entry ([.ref o1, .int a1, .int a2, .int a3]) (n := 4) (Nat.le_of_ble_eq_true rfl)
  rw [lg_entry_eq]
  generalize (lg_sl ([.ref o1, .int a1, .int a2, .int a3]) ++ List.replicate (4 - (lg_sl ([.ref o1, .int a1, .int a2, .int a3])).length) Slot.unset).toArray = ls at hl ⊢
  have hl : lv_has ls 4 [(0, .ref o1), (1, .int a1), (2, .int a2), (3, .int a3)] := hl
  refine gen_Q (fun Q hQ => ?_)
  refine lv_aload_n hx hb dX10_move_0 rfl (lv_at hl 0 rfl) ?_
  refine va_get (D := (dC, dI)) (ci := 10) (v := .ref o2) (C := RX10) (T := TX10) (N := 3) hx hb hts iw_X10_move_X10 hown hK hP 0 rfl rfl 0 (by decide) (hts (.fieldLink RX10 9 "HolelessHouse$Table" "rows" "[I") hm_X10_move_1) (fun _ h9 => h9) rfl dX10_move_1 ?_
  refine lv_iload_n hx hb dX10_move_4 rfl (lv_at hl 1 rfl) ?_
  refine lv_aload_n hx hb dX10_move_5 rfl (lv_at hl 0 rfl) ?_
  refine va_get (D := (dC, dI)) (ci := 10) (v := .ref o2) (C := RX10) (T := TX10) (N := 3) hx hb hts iw_X10_move_X10 hown hK hP 0 rfl rfl 0 (by decide) (hts (.fieldLink RX10 9 "HolelessHouse$Table" "rows" "[I") hm_X10_move_1) (fun _ h9 => h9) rfl dX10_move_6 ?_
  refine lv_iload_n hx hb dX10_move_9 rfl (lv_at hl 2 rfl) ?_
  refine lv_iload_n hx hb dX10_move_10 rfl (lv_at hl 3 rfl) ?_
  refine va_copyi hx hb (hml.trans hl.1.symm) hown (hts (.methodLink RX10 28 arraycopyName) hm_X10_move_2) (hts (.native arraycopyName) hm_X10_move_3) (hts (.static arraycopyName) hm_X10_move_4) (hts (.initialized "java/lang/System") hm_X10_move_5) hK hP hD hS 1 1 0 0 rfl rfl rfl rfl rfl (nneg a1_h) (nneg a2_h) (nneg a3_h) (cp_sum a1_h a3_h pre0) (cp_sum a2_h a3_h pre1) (fun _ _ => rfl) (Nat.le_of_ble_eq_true rfl) (by decide +kernel) dX10_move_11 (fun H locs hP hD hS => ?_)
  obtain ⟨f1, f1_e⟩ : ∃ g : Nat → Int32, g = va_cpy fw3 fw3 (Int32.toNatClampNeg a1) (Int32.toNatClampNeg a2) (Int32.toNatClampNeg a3) := ⟨_, rfl⟩
  rw [← f1_e] at hP hD
  have f1_b : Bd 12 (-1) 255 f1 := bd_cpy f1_e fw3_b fw3_b (cp_sum a1_h a3_h pre0)
  have hP : va_P (dC, dI) vwCl ([(o1, .inr (10, [.ref o2, .int v4, .int v5])), (o2, .inl (cI, 12, .inl f1))]) H := hP
  have hD : va_D A ([(o1, .inr (10, [.ref o2, .int v4, .int v5])), (o2, .inl (cI, 12, .inl f1))]) := hD
  refine lv_aload_n hx hb dX10_move_14 rfl (lv_at hl 0 rfl) ?_
  refine lv_dup hx hb dX10_move_15 rfl ?_
  refine va_get (D := (dC, dI)) (ci := 10) (v := .int v5) (C := RX10) (T := TX10) (N := 3) hx hb hts iw_X10_move_X10 hown hK hP 0 rfl rfl 2 (by decide) (hts (.fieldLink RX10 19 "HolelessHouse$Table" "version" "I") hm_X10_move_6) (fun _ h9 => h9) rfl dX10_move_16 ?_
  refine lv_iconst (v := 1) hx hb dX10_move_19 (by decide) ?_
  refine lv_iadd hx hb dX10_move_20 (lv_topi (fun x2 x2_e => ?_))
  refine va_put (D := (dC, dI)) (ci := 10) (v := .int x2) (ty := .int) (C := RX10) (T := TX10) (N := 3) hx hb hts iw_X10_move_X10 tyX10 tyX10_ok nmX10 hown hK hP hD hS 0 rfl rfl 2 (by decide) (hts (.fieldLink RX10 19 "HolelessHouse$Table" "version" "I") hm_X10_move_6) (fun _ h9 => h9) rfl (by decide +kernel) rfl rfl (Nat.le_of_ble_eq_true rfl) dX10_move_21 (fun H locs hP hD hS => ?_)
  have hP : va_P (dC, dI) vwCl ([(o1, .inr (10, [.ref o2, .int v4, .int x2])), (o2, .inl (cI, 12, .inl f1))]) H := hP
  have hD : va_D A ([(o1, .inr (10, [.ref o2, .int v4, .int x2])), (o2, .inl (cI, 12, .inl f1))]) := hD
  rw [hQ]
  exact W.vret hx hb hr (fun t ht hW => ⟨⟨(x2, f1), rfl, f1_b, by rw [ht]; exact hP, va_K.moved hW.alike hK, hD⟩, hS.F ht⟩) hS.2.2 dX10_move_24
theorem iw_X11_copy_X11 : ∀ w ∈ wsX110, w ∈ wsX11_copy := fun _ h => List.mem_cons.mpr (Or.inr (List.mem_append.mpr (Or.inl (List.mem_append.mpr (Or.inr h)))))
set_option maxHeartbeats 4000000 in
set_option maxRecDepth 100000 in
theorem kX11_copy_1 (l : Launch) (dC : Nat → ClassId) (dI : Nat → Nat → Nat) (cI c2 cZ : ClassId) (o1 : Nat) (o2 : Nat) (o7 : Nat) (o12 : Nat) (o41 : Nat) (o51 : Nat) (o64 : Nat) (o77 : Nat) (o84 : Nat) (o91 : Nat) (o99 : Nat) (o111 : Nat) (o123 : Nat) (o8 : Nat) (fw9 : Nat → Int32) (v10 : Int32) (v11 : Int32) (fw124 : Nat → Int32) (v125 : Int32) (a1 : Int32) (a2 : Int32) (a3 : Int32) (sz : Nat) (fw9_b : Bd 12 (-1) 255 fw9) (v10_h : Iv 0 8 v10) : Met l yX11_copy wsX11_copy ({ frames := 2, cells := 0, slots := 0, locals := 87 }) (va_Pc [.ref o1, .int a1, .int a2, .int a3] (wPre (dC, dI) [(cI, .int), (c2, .array .int), (cZ, .boolean)] ([(o1, .inr (11, [.ref o2, .ref o7, .ref o12, .ref o41, .ref o51, .ref o64, .ref o77, .ref o84, .ref o91, .ref o99, .ref o111, .ref o123, .int v125])), (o7, .inr (10, [.ref o8, .int v10, .int v11])), (o123, .inl (cI, 5, .inl fw124)), (o8, .inl (cI, 12, .inl fw9))]) sz)) (va_Qi (fun (r : Int32) (u : Int32 × Int32 × (Nat → Int32) × (Nat → Int32)) => Iv (-3) 1 r ∧ Bd 12 (-1) 255 u.2.2.2) (fun u t => wPost (dC, dI) [(cI, .int), (c2, .array .int), (cZ, .boolean)] (va_A ([(o1, .inr (11, [.ref o2, .ref o7, .ref o12, .ref o41, .ref o51, .ref o64, .ref o77, .ref o84, .ref o91, .ref o99, .ref o111, .ref o123, .int v125])), (o7, .inr (10, [.ref o8, .int v10, .int v11])), (o123, .inl (cI, 5, .inl fw124)), (o8, .inl (cI, 12, .inl fw9))]) sz) ([(o1, .inr (11, [.ref o2, .ref o7, .ref o12, .ref o41, .ref o51, .ref o64, .ref o77, .ref o84, .ref o91, .ref o99, .ref o111, .ref o123, .int u.1])), (o7, .inr (10, [.ref o8, .int v10, .int u.2.1])), (o123, .inl (cI, 5, .inl u.2.2.1)), (o8, .inl (cI, 12, .inl u.2.2.2))]) t) (va_A ([(o1, .inr (11, [.ref o2, .ref o7, .ref o12, .ref o41, .ref o51, .ref o64, .ref o77, .ref o84, .ref o91, .ref o99, .ref o111, .ref o123, .int v125])), (o7, .inr (10, [.ref o8, .int v10, .int v11])), (o123, .inl (cI, 5, .inl fw124)), (o8, .inl (cI, 12, .inl fw9))]) sz)) 0 0 (va_A ([(o1, .inr (11, [.ref o2, .ref o7, .ref o12, .ref o41, .ref o51, .ref o64, .ref o77, .ref o84, .ref o91, .ref o99, .ref o111, .ref o123, .int v125])), (o7, .inr (10, [.ref o8, .int v10, .int v11])), (o123, .inl (cI, 5, .inl fw124)), (o8, .inl (cI, 12, .inl fw9))]) sz) := by
  refine Met.ofW (cc := cX11_copy) (maxL := 4) (ret := (some .int)) (by decide) rfl ?_
  intro p e s m args below meth c s₁ B hml hv
  obtain ⟨rfl, hsz, hP, hK, hD0, hN⟩ := hv
  have hx := B.exec
  have hb := B.bytes
  have hr := B.returns
  have hts := atoms_spec (ws := wsX11_copy) B.pre
  have hown : s.vm.findClass RX11 = some m.cls := findClass_of_methodNamed B.named
  have hlocks := B.notSynchronized
  subst hsz
  have hD := hD0.self (sz := s.heap.size)
  generalize hAe : va_A ([(o1, .inr (11, [.ref o2, .ref o7, .ref o12, .ref o41, .ref o51, .ref o64, .ref o77, .ref o84, .ref o91, .ref o99, .ref o111, .ref o123, .int v125])), (o7, .inr (10, [.ref o8, .int v10, .int v11])), (o123, .inl (cI, 5, .inl fw124)), (o8, .inl (cI, 12, .inl fw9))]) s.heap.size = A at hD ⊢
  have hA : ∀ q : Nat, s.heap.size ≤ q → A q := fun q h => by rw [← hAe]; exact Or.inr h
  have hS : va_S A s.heap s.heap [] := va_S.rf
  have hP : va_P (dC, dI) vwCl ([(o1, .inr (11, [.ref o2, .ref o7, .ref o12, .ref o41, .ref o51, .ref o64, .ref o77, .ref o84, .ref o91, .ref o99, .ref o111, .ref o123, .int v125])), (o7, .inr (10, [.ref o8, .int v10, .int v11])), (o123, .inl (cI, 5, .inl fw124)), (o8, .inl (cI, 12, .inl fw9))]) s.heap := hP
  have hl := lv_entry ([.ref o1, .int a1, .int a2, .int a3]) (n := 4) (Nat.le_of_ble_eq_true rfl)
  rw [lg_entry_eq]
  generalize (lg_sl ([.ref o1, .int a1, .int a2, .int a3]) ++ List.replicate (4 - (lg_sl ([.ref o1, .int a1, .int a2, .int a3])).length) Slot.unset).toArray = ls at hl ⊢
  have hl : lv_has ls 4 [(0, .ref o1), (1, .int a1), (2, .int a2), (3, .int a3)] := hl
  refine gen_Q (fun Q hQ => ?_)
  refine lv_aload_n hx hb dX11_copy_0 rfl (lv_at hl 0 rfl) ?_
  refine va_get (D := (dC, dI)) (ci := 11) (v := .ref o7) (C := RX11) (T := TX11) (N := 13) hx hb hts iw_X11_copy_X11 hown hK hP 0 rfl rfl 1 (by decide) (hts (.fieldLink RX11 19 "HolelessHouse" "table" "LHolelessHouse$Table;") hm_X11_copy_1) (fun _ h9 => h9) rfl dX11_copy_1 ?_
  refine lv_iload_n hx hb dX11_copy_4 rfl (lv_at hl 1 rfl) ?_
  refine lv_iload_n hx hb dX11_copy_5 rfl (lv_at hl 3 rfl) ?_
  refine kc_i (D := (dC, dI)) (S := Unit) (wc := [(o7, .inr (10, [.ref o8, .int v10, .int v11]))]) (wr := [(o1, .inr (11, [.ref o2, .ref o7, .ref o12, .ref o41, .ref o51, .ref o64, .ref o77, .ref o84, .ref o91, .ref o99, .ref o111, .ref o123, .int v125])), (o123, .inl (cI, 5, .inl fw124)), (o8, .inl (cI, 12, .inl fw9))]) (w1 := fun _ => [(o7, .inr (10, [.ref o8, .int v10, .int v11]))]) (wn := fun _ => [(o1, .inr (11, [.ref o2, .ref o7, .ref o12, .ref o41, .ref o51, .ref o64, .ref o77, .ref o84, .ref o91, .ref o99, .ref o111, .ref o123, .int v125])), (o7, .inr (10, [.ref o8, .int v10, .int v11])), (o123, .inl (cI, 5, .inl fw124)), (o8, .inl (cI, 12, .inl fw9))]) (fun hPc hDc => va_runVN (As := [.int a1, .int a3]) (rest := []) ⟨hx, hb, hml, hown, hts⟩ (kX10_hasRun_1 l dC dI cI c2 cZ o7 o8 v10 v11 a1 a3 s.heap.size v10_h) ⟨va_cnB 2 hts gX11_copy_X10_hasRun_n259 rfl rfl rfl (hN.1 _ ns_135) (hts (.initialized RX10) hm_X11_copy_3) (by decide +kernel) ⟨Nat.le_of_ble_eq_true rfl, Nat.le_of_ble_eq_true rfl⟩, (hts (.instanceMethod yX10_hasRun) hm_X11_copy_2), (hts (.selects RX10 yX10_hasRun yX10_hasRun) hm_X11_copy_4)⟩ (pre_V hPc hK hDc hN (ci := 10) (q0 := 0) rfl rfl) rfl rfl hl.1 rfl (lv_room (Nat.le_of_ble_eq_true rfl)) dX11_copy_6 ⟨Nat.le_of_ble_eq_true rfl, Nat.le_of_ble_eq_true rfl⟩) hP hD hS hA [1] [0, 2, 3] [0, 3, 1, 2] rfl rfl (by decide +kernel) (by decide +kernel) (by decide +kernel) (by decide +kernel) (fun _ => rfl) (fun x1 _ H locs hq hP hD hS => ?_)
  obtain ⟨x1_h, i2, i3, e4⟩ := hq
  have hP : va_P (dC, dI) vwCl ([(o1, .inr (11, [.ref o2, .ref o7, .ref o12, .ref o41, .ref o51, .ref o64, .ref o77, .ref o84, .ref o91, .ref o99, .ref o111, .ref o123, .int v125])), (o7, .inr (10, [.ref o8, .int v10, .int v11])), (o123, .inl (cI, 5, .inl fw124)), (o8, .inl (cI, 12, .inl fw9))]) H := hP
  have hD : va_D A ([(o1, .inr (11, [.ref o2, .ref o7, .ref o12, .ref o41, .ref o51, .ref o64, .ref o77, .ref o84, .ref o91, .ref o99, .ref o111, .ref o123, .int v125])), (o7, .inr (10, [.ref o8, .int v10, .int v11])), (o123, .inl (cI, 5, .inl fw124)), (o8, .inl (cI, 12, .inl fw9))]) := hD
  refine lv_if_eq (tgt := 24) hx hb dX11_copy_9 (by decide) (fun h5 => ?_) (fun h5 => ?_)
  ·
    have j6 : Iv 0 0 x1 := r_eq h5 ik_0
    refine lv_aload_n hx hb dX11_copy_24 rfl (lv_at hl 0 rfl) ?_
    refine lv_iconst (v := 2) hx hb dX11_copy_25 (by decide) ?_
    refine kc_i (D := (dC, dI)) (S := Int32 × (Nat → Int32)) (wc := [(o1, .inr (11, [.ref o2, .ref o7, .ref o12, .ref o41, .ref o51, .ref o64, .ref o77, .ref o84, .ref o91, .ref o99, .ref o111, .ref o123, .int v125])), (o123, .inl (cI, 5, .inl fw124))]) (wr := [(o7, .inr (10, [.ref o8, .int v10, .int v11])), (o8, .inl (cI, 12, .inl fw9))]) (w1 := fun u => [(o1, .inr (11, [.ref o2, .ref o7, .ref o12, .ref o41, .ref o51, .ref o64, .ref o77, .ref o84, .ref o91, .ref o99, .ref o111, .ref o123, .int u.1])), (o123, .inl (cI, 5, .inl u.2))]) (wn := fun u => [(o1, .inr (11, [.ref o2, .ref o7, .ref o12, .ref o41, .ref o51, .ref o64, .ref o77, .ref o84, .ref o91, .ref o99, .ref o111, .ref o123, .int u.1])), (o7, .inr (10, [.ref o8, .int v10, .int v11])), (o123, .inl (cI, 5, .inl u.2)), (o8, .inl (cI, 12, .inl fw9))]) (fun hPc hDc => va_runV (As := [.int 2]) (rest := []) ⟨hx, hb, hml, hown, hts⟩ (kX11_found_3 l dC dI cI c2 cZ o1 o2 o7 o12 o41 o51 o64 o77 o84 o91 o99 o111 o123 fw124 v125 2 H.size ik_2) (cwV 1 hts gX11_copy_X11_found rfl rfl rfl (by decide +kernel) ⟨Nat.le_of_ble_eq_true rfl, Nat.le_of_ble_eq_true rfl⟩) (pre_V hPc hK hDc hN (ci := 11) (q0 := 0) rfl rfl) rfl rfl hl.1 rfl (lv_room (Nat.le_of_ble_eq_true rfl)) dX11_copy_26 ⟨Nat.le_of_ble_eq_true rfl, Nat.le_of_ble_eq_true rfl⟩) hP hD hS hA [0, 2] [1, 3] [2, 0, 3, 1] rfl rfl (by decide +kernel) (by decide +kernel) (by decide +kernel) (by decide +kernel) (fun _ => rfl) (fun x9 u H locs hq hP hD hS => ?_)
    obtain ⟨y7, f8⟩ := u
    have x9_h := hq
    have hP : va_P (dC, dI) vwCl ([(o1, .inr (11, [.ref o2, .ref o7, .ref o12, .ref o41, .ref o51, .ref o64, .ref o77, .ref o84, .ref o91, .ref o99, .ref o111, .ref o123, .int y7])), (o7, .inr (10, [.ref o8, .int v10, .int v11])), (o123, .inl (cI, 5, .inl f8)), (o8, .inl (cI, 12, .inl fw9))]) H := hP
    have hD : va_D A ([(o1, .inr (11, [.ref o2, .ref o7, .ref o12, .ref o41, .ref o51, .ref o64, .ref o77, .ref o84, .ref o91, .ref o99, .ref o111, .ref o123, .int y7])), (o7, .inr (10, [.ref o8, .int v10, .int v11])), (o123, .inl (cI, 5, .inl f8)), (o8, .inl (cI, 12, .inl fw9))]) := hD
    rw [hQ]
    exact W.iret (v := x9) hx hb hr (fun t ht hW => ⟨⟨x9, (y7, v11, f8, fw9), rfl, ⟨(iv_w x9_h (by decide)), fw9_b⟩, by rw [ht]; exact hP, va_K.moved hW.alike hK, hD⟩, hS.F ht⟩) hS.2.2 dX11_copy_29
  ·
    have j10 : Iv 1 1 x1 := r_nelo h5 x1_h ik_0 (by decide)
    have j11 : Iv 0 12 a1 := i2 h5
    have j12 : Iv 0 12 a3 := i3 h5
    have e13 := e4 h5
    refine lv_aload_n hx hb dX11_copy_12 rfl (lv_at hl 0 rfl) ?_
    refine va_get (D := (dC, dI)) (ci := 11) (v := .ref o7) (C := RX11) (T := TX11) (N := 13) hx hb hts iw_X11_copy_X11 hown hK hP 0 rfl rfl 1 (by decide) (hts (.fieldLink RX11 19 "HolelessHouse" "table" "LHolelessHouse$Table;") hm_X11_copy_1) (fun _ h9 => h9) rfl dX11_copy_13 ?_
    refine lv_iload_n hx hb dX11_copy_16 rfl (lv_at hl 2 rfl) ?_
    refine lv_iload_n hx hb dX11_copy_17 rfl (lv_at hl 3 rfl) ?_
    refine kc_i (D := (dC, dI)) (S := Unit) (wc := [(o7, .inr (10, [.ref o8, .int v10, .int v11]))]) (wr := [(o1, .inr (11, [.ref o2, .ref o7, .ref o12, .ref o41, .ref o51, .ref o64, .ref o77, .ref o84, .ref o91, .ref o99, .ref o111, .ref o123, .int v125])), (o123, .inl (cI, 5, .inl fw124)), (o8, .inl (cI, 12, .inl fw9))]) (w1 := fun _ => [(o7, .inr (10, [.ref o8, .int v10, .int v11]))]) (wn := fun _ => [(o1, .inr (11, [.ref o2, .ref o7, .ref o12, .ref o41, .ref o51, .ref o64, .ref o77, .ref o84, .ref o91, .ref o99, .ref o111, .ref o123, .int v125])), (o7, .inr (10, [.ref o8, .int v10, .int v11])), (o123, .inl (cI, 5, .inl fw124)), (o8, .inl (cI, 12, .inl fw9))]) (fun hPc hDc => va_runVN (As := [.int a2, .int a3]) (rest := []) ⟨hx, hb, hml, hown, hts⟩ (kX10_hasRun_2 l dC dI cI c2 cZ o7 o8 v10 v11 a2 a3 H.size v10_h j12) ⟨va_cnB 2 hts gX11_copy_X10_hasRun_n259 rfl rfl rfl (hN.1 _ ns_135) (hts (.initialized RX10) hm_X11_copy_3) (by decide +kernel) ⟨Nat.le_of_ble_eq_true rfl, Nat.le_of_ble_eq_true rfl⟩, (hts (.instanceMethod yX10_hasRun) hm_X11_copy_2), (hts (.selects RX10 yX10_hasRun yX10_hasRun) hm_X11_copy_4)⟩ (pre_V hPc hK hDc hN (ci := 10) (q0 := 0) rfl rfl) rfl rfl hl.1 rfl (lv_room (Nat.le_of_ble_eq_true rfl)) dX11_copy_18 ⟨Nat.le_of_ble_eq_true rfl, Nat.le_of_ble_eq_true rfl⟩) hP hD hS hA [1] [0, 2, 3] [0, 3, 1, 2] rfl rfl (by decide +kernel) (by decide +kernel) (by decide +kernel) (by decide +kernel) (fun _ => rfl) (fun x14 _ H locs hq hP hD hS => ?_)
    obtain ⟨x14_h, i15, e16⟩ := hq
    have hP : va_P (dC, dI) vwCl ([(o1, .inr (11, [.ref o2, .ref o7, .ref o12, .ref o41, .ref o51, .ref o64, .ref o77, .ref o84, .ref o91, .ref o99, .ref o111, .ref o123, .int v125])), (o7, .inr (10, [.ref o8, .int v10, .int v11])), (o123, .inl (cI, 5, .inl fw124)), (o8, .inl (cI, 12, .inl fw9))]) H := hP
    have hD : va_D A ([(o1, .inr (11, [.ref o2, .ref o7, .ref o12, .ref o41, .ref o51, .ref o64, .ref o77, .ref o84, .ref o91, .ref o99, .ref o111, .ref o123, .int v125])), (o7, .inr (10, [.ref o8, .int v10, .int v11])), (o123, .inl (cI, 5, .inl fw124)), (o8, .inl (cI, 12, .inl fw9))]) := hD
    refine lv_if_ne (tgt := 30) hx hb dX11_copy_21 (by decide) (fun h17 => ?_) (fun h17 => ?_)
    ·
      have j18 : Iv 1 1 x14 := r_nelo h17 x14_h ik_0 (by decide)
      have j19 : Iv 0 12 a2 := i15 h17
      have e20 := e16 h17
      refine lv_aload_n hx hb dX11_copy_30 rfl (lv_at hl 0 rfl) ?_
      refine va_get (D := (dC, dI)) (ci := 11) (v := .ref o7) (C := RX11) (T := TX11) (N := 13) hx hb hts iw_X11_copy_X11 hown hK hP 0 rfl rfl 1 (by decide) (hts (.fieldLink RX11 19 "HolelessHouse" "table" "LHolelessHouse$Table;") hm_X11_copy_1) (fun _ h9 => h9) rfl dX11_copy_31 ?_
      refine lv_iload_n hx hb dX11_copy_34 rfl (lv_at hl 1 rfl) ?_
      refine lv_iload_n hx hb dX11_copy_35 rfl (lv_at hl 2 rfl) ?_
      refine lv_iload_n hx hb dX11_copy_36 rfl (lv_at hl 3 rfl) ?_
      refine kc_v (D := (dC, dI)) (S := Int32 × (Nat → Int32)) (wc := [(o7, .inr (10, [.ref o8, .int v10, .int v11])), (o8, .inl (cI, 12, .inl fw9))]) (wr := [(o1, .inr (11, [.ref o2, .ref o7, .ref o12, .ref o41, .ref o51, .ref o64, .ref o77, .ref o84, .ref o91, .ref o99, .ref o111, .ref o123, .int v125])), (o123, .inl (cI, 5, .inl fw124))]) (w1 := fun u => [(o7, .inr (10, [.ref o8, .int v10, .int u.1])), (o8, .inl (cI, 12, .inl u.2))]) (wn := fun u => [(o1, .inr (11, [.ref o2, .ref o7, .ref o12, .ref o41, .ref o51, .ref o64, .ref o77, .ref o84, .ref o91, .ref o99, .ref o111, .ref o123, .int v125])), (o7, .inr (10, [.ref o8, .int v10, .int u.1])), (o123, .inl (cI, 5, .inl fw124)), (o8, .inl (cI, 12, .inl u.2))]) (fun hPc hDc => va_runVN (As := [.int a1, .int a2, .int a3]) (rest := []) ⟨hx, hb, hml, hown, hts⟩ (kX10_move_1 l dC dI cI c2 cZ o7 o8 fw9 v10 v11 a1 a2 a3 H.size fw9_b v10_h j11 j19 j12 e13 e20) ⟨va_cnB 3 hts gX11_copy_X10_move_n262 rfl rfl rfl (hN.1 _ ns_136) (hts (.initialized RX10) hm_X11_copy_3) (by decide +kernel) ⟨Nat.le_of_ble_eq_true rfl, Nat.le_of_ble_eq_true rfl⟩, (hts (.instanceMethod yX10_move) hm_X11_copy_13), (hts (.selects RX10 yX10_move yX10_move) hm_X11_copy_14)⟩ (pre_V hPc hK hDc hN (ci := 10) (q0 := 0) rfl rfl) rfl rfl hl.1 rfl (lv_room (Nat.le_of_ble_eq_true rfl)) dX11_copy_37 ⟨Nat.le_of_ble_eq_true rfl, Nat.le_of_ble_eq_true rfl⟩) hP hD hS hA [1, 3] [0, 2] [0, 2, 1, 3] rfl rfl (by decide +kernel) (by decide +kernel) (by decide +kernel) (by decide +kernel) (fun _ => rfl) (fun u H locs hq hP hD hS => ?_)
      obtain ⟨y21, f22⟩ := u
      have f22_b := hq
      have hP : va_P (dC, dI) vwCl ([(o1, .inr (11, [.ref o2, .ref o7, .ref o12, .ref o41, .ref o51, .ref o64, .ref o77, .ref o84, .ref o91, .ref o99, .ref o111, .ref o123, .int v125])), (o7, .inr (10, [.ref o8, .int v10, .int y21])), (o123, .inl (cI, 5, .inl fw124)), (o8, .inl (cI, 12, .inl f22))]) H := hP
      have hD : va_D A ([(o1, .inr (11, [.ref o2, .ref o7, .ref o12, .ref o41, .ref o51, .ref o64, .ref o77, .ref o84, .ref o91, .ref o99, .ref o111, .ref o123, .int v125])), (o7, .inr (10, [.ref o8, .int v10, .int y21])), (o123, .inl (cI, 5, .inl fw124)), (o8, .inl (cI, 12, .inl f22))]) := hD
      refine lv_iconst (v := 1) hx hb dX11_copy_40 (by decide) ?_
      rw [hQ]
      exact W.iret (v := 1) hx hb hr (fun t ht hW => ⟨⟨1, (v125, y21, fw124, f22), rfl, ⟨(iv_w ik_1 (by decide)), f22_b⟩, by rw [ht]; exact hP, va_K.moved hW.alike hK, hD⟩, hS.F ht⟩) hS.2.2 dX11_copy_41
    ·
      have j23 : Iv 0 0 x14 := r_eq h17 ik_0
      refine lv_aload_n hx hb dX11_copy_24 rfl (lv_at hl 0 rfl) ?_
      refine lv_iconst (v := 2) hx hb dX11_copy_25 (by decide) ?_
      refine kc_i (D := (dC, dI)) (S := Int32 × (Nat → Int32)) (wc := [(o1, .inr (11, [.ref o2, .ref o7, .ref o12, .ref o41, .ref o51, .ref o64, .ref o77, .ref o84, .ref o91, .ref o99, .ref o111, .ref o123, .int v125])), (o123, .inl (cI, 5, .inl fw124))]) (wr := [(o7, .inr (10, [.ref o8, .int v10, .int v11])), (o8, .inl (cI, 12, .inl fw9))]) (w1 := fun u => [(o1, .inr (11, [.ref o2, .ref o7, .ref o12, .ref o41, .ref o51, .ref o64, .ref o77, .ref o84, .ref o91, .ref o99, .ref o111, .ref o123, .int u.1])), (o123, .inl (cI, 5, .inl u.2))]) (wn := fun u => [(o1, .inr (11, [.ref o2, .ref o7, .ref o12, .ref o41, .ref o51, .ref o64, .ref o77, .ref o84, .ref o91, .ref o99, .ref o111, .ref o123, .int u.1])), (o7, .inr (10, [.ref o8, .int v10, .int v11])), (o123, .inl (cI, 5, .inl u.2)), (o8, .inl (cI, 12, .inl fw9))]) (fun hPc hDc => va_runV (As := [.int 2]) (rest := []) ⟨hx, hb, hml, hown, hts⟩ (kX11_found_3 l dC dI cI c2 cZ o1 o2 o7 o12 o41 o51 o64 o77 o84 o91 o99 o111 o123 fw124 v125 2 H.size ik_2) (cwV 1 hts gX11_copy_X11_found rfl rfl rfl (by decide +kernel) ⟨Nat.le_of_ble_eq_true rfl, Nat.le_of_ble_eq_true rfl⟩) (pre_V hPc hK hDc hN (ci := 11) (q0 := 0) rfl rfl) rfl rfl hl.1 rfl (lv_room (Nat.le_of_ble_eq_true rfl)) dX11_copy_26 ⟨Nat.le_of_ble_eq_true rfl, Nat.le_of_ble_eq_true rfl⟩) hP hD hS hA [0, 2] [1, 3] [2, 0, 3, 1] rfl rfl (by decide +kernel) (by decide +kernel) (by decide +kernel) (by decide +kernel) (fun _ => rfl) (fun x26 u H locs hq hP hD hS => ?_)
      obtain ⟨y24, f25⟩ := u
      have x26_h := hq
      have hP : va_P (dC, dI) vwCl ([(o1, .inr (11, [.ref o2, .ref o7, .ref o12, .ref o41, .ref o51, .ref o64, .ref o77, .ref o84, .ref o91, .ref o99, .ref o111, .ref o123, .int y24])), (o7, .inr (10, [.ref o8, .int v10, .int v11])), (o123, .inl (cI, 5, .inl f25)), (o8, .inl (cI, 12, .inl fw9))]) H := hP
      have hD : va_D A ([(o1, .inr (11, [.ref o2, .ref o7, .ref o12, .ref o41, .ref o51, .ref o64, .ref o77, .ref o84, .ref o91, .ref o99, .ref o111, .ref o123, .int y24])), (o7, .inr (10, [.ref o8, .int v10, .int v11])), (o123, .inl (cI, 5, .inl f25)), (o8, .inl (cI, 12, .inl fw9))]) := hD
      rw [hQ]
      exact W.iret (v := x26) hx hb hr (fun t ht hW => ⟨⟨x26, (y24, v11, f25, fw9), rfl, ⟨(iv_w x26_h (by decide)), fw9_b⟩, by rw [ht]; exact hP, va_K.moved hW.alike hK, hD⟩, hS.F ht⟩) hS.2.2 dX11_copy_29
set_option maxHeartbeats 4000000 in
set_option maxRecDepth 100000 in
theorem kX0_restart_3 (l : Launch) (dC : Nat → ClassId) (dI : Nat → Nat → Nat) (cI c2 cZ : ClassId) (o1 : Nat) (o2 : Nat) (o4 : Nat) (o6 : Nat) (v8 : Int32) (v9 : Int32) (v10 : Int32) (v11 : Int32) (v12 : Int32) (a1 : Int32) (sz : Nat) (v8_h : Iv 0 12 v8) (v9_h : Iv 0 8 v9) (v11_h : Iv 0 1 v11) (a1_h : Iv 0 8 a1) : Met l yX0_restart wsX0_restart ({ frames := 0, cells := 0, slots := 0, locals := 0 }) (va_Pc [.ref o1, .int a1] (wPre (dC, dI) [(cI, .int), (c2, .array .int), (cZ, .boolean)] ([(o1, .inr (0, [.ref o2, .ref o4, .ref o6, .int v8, .int v9, .int v10, .int v11, .int v12]))]) sz)) (va_Qv (fun (u : Int32 × Int32) => Iv 0 12 u.1 ∧ Iv 0 8 u.2) (fun u t => wPost (dC, dI) [(cI, .int), (c2, .array .int), (cZ, .boolean)] (va_A ([(o1, .inr (0, [.ref o2, .ref o4, .ref o6, .int v8, .int v9, .int v10, .int v11, .int v12]))]) sz) ([(o1, .inr (0, [.ref o2, .ref o4, .ref o6, .int u.1, .int u.2, .int v10, .int v11, .int v12]))]) t) (va_A ([(o1, .inr (0, [.ref o2, .ref o4, .ref o6, .int v8, .int v9, .int v10, .int v11, .int v12]))]) sz)) 0 0 (va_A ([(o1, .inr (0, [.ref o2, .ref o4, .ref o6, .int v8, .int v9, .int v10, .int v11, .int v12]))]) sz) := by
  refine Met.ofW (cc := cX0_restart) (maxL := 2) (ret := none) (by decide) rfl ?_
  intro p e s m args below meth c s₁ B hml hv
  obtain ⟨rfl, hsz, hP, hK, hD0, hN⟩ := hv
  have hx := B.exec
  have hb := B.bytes
  have hr := B.returns
  have hts := atoms_spec (ws := wsX0_restart) B.pre
  have hown : s.vm.findClass RX0 = some m.cls := findClass_of_methodNamed B.named
  have hlocks := B.notSynchronized
  subst hsz
  have hD := hD0.self (sz := s.heap.size)
  generalize hAe : va_A ([(o1, .inr (0, [.ref o2, .ref o4, .ref o6, .int v8, .int v9, .int v10, .int v11, .int v12]))]) s.heap.size = A at hD ⊢
  have hA : ∀ q : Nat, s.heap.size ≤ q → A q := fun q h => by rw [← hAe]; exact Or.inr h
  have hS : va_S A s.heap s.heap [] := va_S.rf
  have hP : va_P (dC, dI) vwCl ([(o1, .inr (0, [.ref o2, .ref o4, .ref o6, .int v8, .int v9, .int v10, .int v11, .int v12]))]) s.heap := hP
  have hl := lv_entry ([.ref o1, .int a1]) (n := 2) (Nat.le_of_ble_eq_true rfl)
  rw [lg_entry_eq]
  generalize (lg_sl ([.ref o1, .int a1]) ++ List.replicate (2 - (lg_sl ([.ref o1, .int a1])).length) Slot.unset).toArray = ls at hl ⊢
  have hl : lv_has ls 2 [(0, .ref o1), (1, .int a1)] := hl
  refine gen_Q (fun Q hQ => ?_)
  refine lv_aload_n hx hb dX0_restart_0 rfl (lv_at hl 0 rfl) ?_
  refine lv_iload_n hx hb dX0_restart_1 rfl (lv_at hl 1 rfl) ?_
  refine va_put (D := (dC, dI)) (ci := 0) (v := .int a1) (ty := .int) (C := RX0) (T := TX0) (N := 8) hx hb hts iw_X0_restart_X0 tyX0 tyX0_ok nmX0 hown hK hP hD hS 0 rfl rfl 4 (by decide) (hts (.fieldLink RX0 25 "HolelessHouse$Benches" "width" "I") hm_X0_restart_1) (fun _ h9 => h9) rfl (by decide +kernel) rfl rfl (Nat.le_of_ble_eq_true rfl) dX0_restart_2 (fun H locs hP hD hS => ?_)
  have hP : va_P (dC, dI) vwCl ([(o1, .inr (0, [.ref o2, .ref o4, .ref o6, .int v8, .int a1, .int v10, .int v11, .int v12]))]) H := hP
  have hD : va_D A ([(o1, .inr (0, [.ref o2, .ref o4, .ref o6, .int v8, .int a1, .int v10, .int v11, .int v12]))]) := hD
  refine lv_aload_n hx hb dX0_restart_5 rfl (lv_at hl 0 rfl) ?_
  refine lv_iconst (v := 0) hx hb dX0_restart_6 (by decide) ?_
  refine va_put (D := (dC, dI)) (ci := 0) (v := .int 0) (ty := .int) (C := RX0) (T := TX0) (N := 8) hx hb hts iw_X0_restart_X0 tyX0 tyX0_ok nmX0 hown hK hP hD hS 0 rfl rfl 3 (by decide) (hts (.fieldLink RX0 21 "HolelessHouse$Benches" "rowCount" "I") hm_X0_restart_2) (fun _ h9 => h9) rfl (by decide +kernel) rfl rfl (Nat.le_of_ble_eq_true rfl) dX0_restart_7 (fun H locs hP hD hS => ?_)
  have hP : va_P (dC, dI) vwCl ([(o1, .inr (0, [.ref o2, .ref o4, .ref o6, .int 0, .int a1, .int v10, .int v11, .int v12]))]) H := hP
  have hD : va_D A ([(o1, .inr (0, [.ref o2, .ref o4, .ref o6, .int 0, .int a1, .int v10, .int v11, .int v12]))]) := hD
  rw [hQ]
  exact W.vret hx hb hr (fun t ht hW => ⟨⟨(0, a1), rfl, ⟨(iv_w ik_0 (by decide)), a1_h⟩, by rw [ht]; exact hP, va_K.moved hW.alike hK, hD⟩, hS.F ht⟩) hS.2.2 dX0_restart_10
set_option maxHeartbeats 4000000 in
set_option maxRecDepth 100000 in
theorem kX0_addRow_2 (l : Launch) (dC : Nat → ClassId) (dI : Nat → Nat → Nat) (cI c2 cZ : ClassId) (o1 : Nat) (o2 : Nat) (o4 : Nat) (o6 : Nat) (fw5 : Nat → Int32) (v8 : Int32) (v9 : Int32) (v10 : Int32) (v11 : Int32) (v12 : Int32) (a1 : Int32) (sz : Nat) (v8_h : Iv 0 12 v8) (v9_h : Iv 0 8 v9) (v11_h : Iv 0 1 v11) : Met l yX0_addRow wsX0_addRow ({ frames := 0, cells := 0, slots := 0, locals := 0 }) (va_Pc [.ref o1, .int a1] (wPre (dC, dI) [(cI, .int), (c2, .array .int), (cZ, .boolean)] ([(o1, .inr (0, [.ref o2, .ref o4, .ref o6, .int v8, .int v9, .int v10, .int v11, .int v12])), (o4, .inl (cI, 12, .inl fw5))]) sz)) (va_Qv (fun (u : Int32 × (Nat → Int32)) => Iv 0 12 u.1) (fun u t => wPost (dC, dI) [(cI, .int), (c2, .array .int), (cZ, .boolean)] (va_A ([(o1, .inr (0, [.ref o2, .ref o4, .ref o6, .int v8, .int v9, .int v10, .int v11, .int v12])), (o4, .inl (cI, 12, .inl fw5))]) sz) ([(o1, .inr (0, [.ref o2, .ref o4, .ref o6, .int u.1, .int v9, .int v10, .int v11, .int v12])), (o4, .inl (cI, 12, .inl u.2))]) t) (va_A ([(o1, .inr (0, [.ref o2, .ref o4, .ref o6, .int v8, .int v9, .int v10, .int v11, .int v12])), (o4, .inl (cI, 12, .inl fw5))]) sz)) 0 0 (va_A ([(o1, .inr (0, [.ref o2, .ref o4, .ref o6, .int v8, .int v9, .int v10, .int v11, .int v12])), (o4, .inl (cI, 12, .inl fw5))]) sz) := by
  refine Met.ofW (cc := cX0_addRow) (maxL := 2) (ret := none) (by decide) rfl ?_
  intro p e s m args below meth c s₁ B hml hv
  obtain ⟨rfl, hsz, hP, hK, hD0, hN⟩ := hv
  have hx := B.exec
  have hb := B.bytes
  have hr := B.returns
  have hts := atoms_spec (ws := wsX0_addRow) B.pre
  have hown : s.vm.findClass RX0 = some m.cls := findClass_of_methodNamed B.named
  have hlocks := B.notSynchronized
  subst hsz
  have hD := hD0.self (sz := s.heap.size)
  generalize hAe : va_A ([(o1, .inr (0, [.ref o2, .ref o4, .ref o6, .int v8, .int v9, .int v10, .int v11, .int v12])), (o4, .inl (cI, 12, .inl fw5))]) s.heap.size = A at hD ⊢
  have hA : ∀ q : Nat, s.heap.size ≤ q → A q := fun q h => by rw [← hAe]; exact Or.inr h
  have hS : va_S A s.heap s.heap [] := va_S.rf
  have hP : va_P (dC, dI) vwCl ([(o1, .inr (0, [.ref o2, .ref o4, .ref o6, .int v8, .int v9, .int v10, .int v11, .int v12])), (o4, .inl (cI, 12, .inl fw5))]) s.heap := hP
  have hl := lv_entry ([.ref o1, .int a1]) (n := 2) (Nat.le_of_ble_eq_true rfl)
  rw [lg_entry_eq]
  generalize (lg_sl ([.ref o1, .int a1]) ++ List.replicate (2 - (lg_sl ([.ref o1, .int a1])).length) Slot.unset).toArray = ls at hl ⊢
  have hl : lv_has ls 2 [(0, .ref o1), (1, .int a1)] := hl
  refine gen_Q (fun Q hQ => ?_)
  refine lv_aload_n hx hb dX0_addRow_0 rfl (lv_at hl 0 rfl) ?_
  refine va_get (D := (dC, dI)) (ci := 0) (v := .int v8) (C := RX0) (T := TX0) (N := 8) hx hb hts iw_X0_addRow_X0 hown hK hP 0 rfl rfl 3 (by decide) (hts (.fieldLink RX0 21 "HolelessHouse$Benches" "rowCount" "I") hm_X0_addRow_1) (fun _ h9 => h9) rfl dX0_addRow_1 ?_
  refine lv_aload_n hx hb dX0_addRow_4 rfl (lv_at hl 0 rfl) ?_
  refine va_get (D := (dC, dI)) (ci := 0) (v := .ref o4) (C := RX0) (T := TX0) (N := 8) hx hb hts iw_X0_addRow_X0 hown hK hP 0 rfl rfl 1 (by decide) (hts (.fieldLink RX0 15 "HolelessHouse$Benches" "rows" "[I") hm_X0_addRow_2) (fun _ h9 => h9) rfl dX0_addRow_5 ?_
  refine va_alen (v := 12) hx hb hK hP 1 0 rfl rfl (by show Int32.ofNat 12 = 12; decide +kernel) dX0_addRow_8 ?_
  refine lv_icmp_ge (tgt := 32) hx hb dX0_addRow_9 (by decide) (fun h1 => ?_) (fun h1 => ?_)
  ·
    have qh1 := le_i h1
    have j2 : Iv 12 12 v8 := r_ler qh1 ik_12 v8_h (by decide)
    rw [hQ]
    exact W.vret hx hb hr (fun t ht hW => ⟨⟨(v8, fw5), rfl, (iv_w j2 (by decide)), by rw [ht]; exact hP, va_K.moved hW.alike hK, hD⟩, hS.F ht⟩) hS.2.2 dX0_addRow_32
  ·
    have qh1 := nle_i h1
    have j3 : Iv 0 11 v8 := r_ltl qh1 v8_h ik_12 (by decide)
    refine lv_aload_n hx hb dX0_addRow_12 rfl (lv_at hl 0 rfl) ?_
    refine va_get (D := (dC, dI)) (ci := 0) (v := .ref o4) (C := RX0) (T := TX0) (N := 8) hx hb hts iw_X0_addRow_X0 hown hK hP 0 rfl rfl 1 (by decide) (hts (.fieldLink RX0 15 "HolelessHouse$Benches" "rows" "[I") hm_X0_addRow_2) (fun _ h9 => h9) rfl dX0_addRow_13 ?_
    refine lv_aload_n hx hb dX0_addRow_16 rfl (lv_at hl 0 rfl) ?_
    refine va_get (D := (dC, dI)) (ci := 0) (v := .int v8) (C := RX0) (T := TX0) (N := 8) hx hb hts iw_X0_addRow_X0 hown hK hP 0 rfl rfl 3 (by decide) (hts (.fieldLink RX0 21 "HolelessHouse$Benches" "rowCount" "I") hm_X0_addRow_1) (fun _ h9 => h9) rfl dX0_addRow_17 ?_
    refine lv_iload_n hx hb dX0_addRow_20 rfl (lv_at hl 1 rfl) ?_
    refine k_iast hx hb hK hP hD hS 1 0 rfl rfl (vin_iv j3 (by decide)) dX0_addRow_21 (fun f4 H locs f4_e hP hD hS => ?_)
    have hP : va_P (dC, dI) vwCl ([(o1, .inr (0, [.ref o2, .ref o4, .ref o6, .int v8, .int v9, .int v10, .int v11, .int v12])), (o4, .inl (cI, 12, .inl f4))]) H := hP
    have hD : va_D A ([(o1, .inr (0, [.ref o2, .ref o4, .ref o6, .int v8, .int v9, .int v10, .int v11, .int v12])), (o4, .inl (cI, 12, .inl f4))]) := hD
    refine lv_aload_n hx hb dX0_addRow_22 rfl (lv_at hl 0 rfl) ?_
    refine lv_dup hx hb dX0_addRow_23 rfl ?_
    refine va_get (D := (dC, dI)) (ci := 0) (v := .int v8) (C := RX0) (T := TX0) (N := 8) hx hb hts iw_X0_addRow_X0 hown hK hP 0 rfl rfl 3 (by decide) (hts (.fieldLink RX0 21 "HolelessHouse$Benches" "rowCount" "I") hm_X0_addRow_1) (fun _ h9 => h9) rfl dX0_addRow_24 ?_
    refine lv_iconst (v := 1) hx hb dX0_addRow_27 (by decide) ?_
    refine lv_iadd hx hb dX0_addRow_28 (lv_topi (fun x5 x5_e => ?_))
    have x5_h : Iv 1 12 x5 := iv_e x5_e (iv_add j3 ik_1 (by decide))
    refine va_put (D := (dC, dI)) (ci := 0) (v := .int x5) (ty := .int) (C := RX0) (T := TX0) (N := 8) hx hb hts iw_X0_addRow_X0 tyX0 tyX0_ok nmX0 hown hK hP hD hS 0 rfl rfl 3 (by decide) (hts (.fieldLink RX0 21 "HolelessHouse$Benches" "rowCount" "I") hm_X0_addRow_1) (fun _ h9 => h9) rfl (by decide +kernel) rfl rfl (Nat.le_of_ble_eq_true rfl) dX0_addRow_29 (fun H locs hP hD hS => ?_)
    have hP : va_P (dC, dI) vwCl ([(o1, .inr (0, [.ref o2, .ref o4, .ref o6, .int x5, .int v9, .int v10, .int v11, .int v12])), (o4, .inl (cI, 12, .inl f4))]) H := hP
    have hD : va_D A ([(o1, .inr (0, [.ref o2, .ref o4, .ref o6, .int x5, .int v9, .int v10, .int v11, .int v12])), (o4, .inl (cI, 12, .inl f4))]) := hD
    rw [hQ]
    exact W.vret hx hb hr (fun t ht hW => ⟨⟨(x5, f4), rfl, (iv_w x5_h (by decide)), by rw [ht]; exact hP, va_K.moved hW.alike hK, hD⟩, hS.F ht⟩) hS.2.2 dX0_addRow_32
set_option maxHeartbeats 4000000 in
set_option maxRecDepth 100000 in
theorem kJ7_rangeCheck_23922_2 (l : Launch) (dC : Nat → ClassId) (dI : Nat → Nat → Nat) (cI c2 cZ : ClassId) (a0 : Int32) (a1 : Int32) (a2 : Int32) (sz : Nat) (a0_h : Iv 256 256 a0) (a1_h : Iv 0 0 a1) (a2_h : Iv 1 256 a2) : Met l yJ7_rangeCheck_23922 wsJ7_rangeCheck_23922 ({ frames := 0, cells := 0, slots := 0, locals := 0 }) (va_Pc [.int a0, .int a1, .int a2] (wPre (dC, dI) [(cI, .int), (c2, .array .int), (cZ, .boolean)] ([]) sz)) (va_Qv (fun (_ : Unit) => True) (fun _ t => wPost (dC, dI) [(cI, .int), (c2, .array .int), (cZ, .boolean)] (va_A ([]) sz) ([]) t) (va_A ([]) sz)) 0 0 (va_A ([]) sz) := by
  refine Met.ofW (cc := cJ7_rangeCheck_23922) (maxL := 3) (ret := none) (by decide) rfl ?_
  intro p e s m args below meth c s₁ B hml hv
  obtain ⟨rfl, hsz, hP, hK, hD0, hN⟩ := hv
  have hx := B.exec
  have hb := B.bytes
  have hr := B.returns
  have hts := atoms_spec (ws := wsJ7_rangeCheck_23922) B.pre
  have hown : s.vm.findClass RJ7 = some m.cls := findClass_of_methodNamed B.named
  have hlocks := B.notSynchronized
  subst hsz
  have hD := hD0.self (sz := s.heap.size)
  generalize hAe : va_A ([]) s.heap.size = A at hD ⊢
  have hA : ∀ q : Nat, s.heap.size ≤ q → A q := fun q h => by rw [← hAe]; exact Or.inr h
  have hS : va_S A s.heap s.heap [] := va_S.rf
  have hP : va_P (dC, dI) vwCl ([]) s.heap := hP
  have hl := lv_entry ([.int a0, .int a1, .int a2]) (n := 3) (Nat.le_of_ble_eq_true rfl)
  rw [lg_entry_eq]
  generalize (lg_sl ([.int a0, .int a1, .int a2]) ++ List.replicate (3 - (lg_sl ([.int a0, .int a1, .int a2])).length) Slot.unset).toArray = ls at hl ⊢
  have hl : lv_has ls 3 [(0, .int a0), (1, .int a1), (2, .int a2)] := hl
  refine gen_Q (fun Q hQ => ?_)
  refine lv_iload_n hx hb dJ7_rangeCheck_23922_0 rfl (lv_at hl 1 rfl) ?_
  refine lv_iload_n hx hb dJ7_rangeCheck_23922_1 rfl (lv_at hl 2 rfl) ?_
  refine lv_icmp_le (tgt := 46) hx hb dJ7_rangeCheck_23922_2 (by decide) (fun _ => ?_) (fun h9 => absurd (d_le a1_h a2_h (by decide)) h9)
  refine lv_iload_n hx hb dJ7_rangeCheck_23922_46 rfl (lv_at hl 1 rfl) ?_
  refine lv_if_ge (tgt := 59) hx hb dJ7_rangeCheck_23922_47 (by decide) (fun _ => ?_) (fun h9 => absurd (d_le ik_0 a1_h (by decide)) h9)
  refine lv_iload_n hx hb dJ7_rangeCheck_23922_59 rfl (lv_at hl 2 rfl) ?_
  refine lv_iload_n hx hb dJ7_rangeCheck_23922_60 rfl (lv_at hl 0 rfl) ?_
  refine lv_icmp_le (tgt := 73) hx hb dJ7_rangeCheck_23922_61 (by decide) (fun _ => ?_) (fun h9 => absurd (d_le a2_h a0_h (by decide)) h9)
  rw [hQ]
  exact W.vret hx hb hr (fun t ht hW => ⟨⟨(), rfl, trivial, by rw [ht]; exact hP, va_K.moved hW.alike hK, hD⟩, hS.F ht⟩) hS.2.2 dJ7_rangeCheck_23922_73
set_option maxHeartbeats 4000000 in
set_option maxRecDepth 100000 in
theorem kJ7_fill_fda19_3 (l : Launch) (dC : Nat → ClassId) (dI : Nat → Nat → Nat) (cI c2 cZ : ClassId) (o1 : Nat) (fw2 : Nat → Int32) (a1 : Int32) (a2 : Int32) (a3 : Int32) (sz : Nat) (a1_h : Iv 0 0 a1) (a2_h : Iv 1 256 a2) (a3_h : Iv 0 0 a3) : Met l yJ7_fill_fda19 wsJ7_fill_fda19 ({ frames := 1, cells := 0, slots := 0, locals := 22 }) (va_Pc [.ref o1, .int a1, .int a2, .int a3] (wPre (dC, dI) [(cI, .int), (c2, .array .int), (cZ, .boolean)] ([(o1, .inl (cI, 256, .inl fw2))]) sz)) (va_Qv (fun (u : (Nat → Int32)) => True) (fun u t => wPost (dC, dI) [(cI, .int), (c2, .array .int), (cZ, .boolean)] (va_A ([(o1, .inl (cI, 256, .inl fw2))]) sz) ([(o1, .inl (cI, 256, .inl u))]) t) (va_A ([(o1, .inl (cI, 256, .inl fw2))]) sz)) 0 0 (va_A ([(o1, .inl (cI, 256, .inl fw2))]) sz) := by
  refine Met.ofW (cc := cJ7_fill_fda19) (maxL := 5) (ret := none) (by decide) rfl ?_
  intro p e s m args below meth c s₁ B hml hv
  obtain ⟨rfl, hsz, hP, hK, hD0, hN⟩ := hv
  have hx := B.exec
  have hb := B.bytes
  have hr := B.returns
  have hts := atoms_spec (ws := wsJ7_fill_fda19) B.pre
  have hown : s.vm.findClass RJ7 = some m.cls := findClass_of_methodNamed B.named
  have hlocks := B.notSynchronized
  subst hsz
  have hD := hD0.self (sz := s.heap.size)
  generalize hAe : va_A ([(o1, .inl (cI, 256, .inl fw2))]) s.heap.size = A at hD ⊢
  have hA : ∀ q : Nat, s.heap.size ≤ q → A q := fun q h => by rw [← hAe]; exact Or.inr h
  have hS : va_S A s.heap s.heap [] := va_S.rf
  have hP : va_P (dC, dI) vwCl ([(o1, .inl (cI, 256, .inl fw2))]) s.heap := hP
  have hl := lv_entry ([.ref o1, .int a1, .int a2, .int a3]) (n := 5) (Nat.le_of_ble_eq_true rfl)
  rw [lg_entry_eq]
  generalize (lg_sl ([.ref o1, .int a1, .int a2, .int a3]) ++ List.replicate (5 - (lg_sl ([.ref o1, .int a1, .int a2, .int a3])).length) Slot.unset).toArray = ls at hl ⊢
  have hl : lv_has ls 5 [(0, .ref o1), (1, .int a1), (2, .int a2), (3, .int a3)] := hl
  refine gen_Q (fun Q hQ => ?_)
  refine lv_aload_n hx hb dJ7_fill_fda19_0 rfl (lv_at hl 0 rfl) ?_
  refine va_alen (v := 256) hx hb hK hP 0 0 rfl rfl (by show Int32.ofNat 256 = 256; decide +kernel) dJ7_fill_fda19_1 ?_
  refine lv_iload_n hx hb dJ7_fill_fda19_2 rfl (lv_at hl 1 rfl) ?_
  refine lv_iload_n hx hb dJ7_fill_fda19_3 rfl (lv_at hl 2 rfl) ?_
  refine kc_v (D := (dC, dI)) (S := Unit) (wc := []) (wr := [(o1, .inl (cI, 256, .inl fw2))]) (w1 := fun _ => []) (wn := fun _ => [(o1, .inl (cI, 256, .inl fw2))]) (fun hPc hDc => va_runS (As := [.int 256, .int a1, .int a2]) (rest := []) ⟨hx, hb, hml, hown, hts⟩ (kJ7_rangeCheck_23922_2 l dC dI cI c2 cZ 256 a1 a2 s.heap.size ik_256 a1_h a2_h) (va_cwS 3 hts gJ7_fill_fda19_J7_rangeCheck_23922 rfl rfl rfl (by decide +kernel) ⟨Nat.le_of_ble_eq_true rfl, Nat.le_of_ble_eq_true rfl⟩) (pre_S hPc hK hDc hN) rfl rfl hl.1 rfl (lv_room (Nat.le_of_ble_eq_true rfl)) dJ7_fill_fda19_4 ⟨Nat.le_of_ble_eq_true rfl, Nat.le_of_ble_eq_true rfl⟩) hP hD hS hA [] [0] [0] rfl rfl (by decide +kernel) (by decide +kernel) (by decide +kernel) (by decide +kernel) (fun _ => rfl) (fun _ H locs hq hP hD hS => ?_)
  have hP : va_P (dC, dI) vwCl ([(o1, .inl (cI, 256, .inl fw2))]) H := hP
  have hD : va_D A ([(o1, .inl (cI, 256, .inl fw2))]) := hD
  refine lv_iload_n hx hb dJ7_fill_fda19_7 rfl (lv_at hl 1 rfl) ?_
  refine lv_istore (lv' := [(4, .int a1), (0, .ref o1), (1, .int a1), (2, .int a2), (3, .int a3)]) hx hb dJ7_fill_fda19_8 hl (by decide) rfl (fun ls hl => ?_)
  have L1 : ∀ (N : Nat) (x136 : Int32) (f137 : Nat → Int32) (H : Heap) (locs : List Loc) (ls : Array Slot), (256 - x136.toInt).toNat < N → Iv 0 256 x136 → va_P (dC, dI) vwCl ([(o1, .inl (cI, 256, .inl f137))]) H → va_D A ([(o1, .inl (cI, 256, .inl f137))]) → va_S A s.heap H locs → lv_has ls 5 [(4, .int x136), (0, .ref o1), (1, .int a1), (2, .int a2), (3, .int a3)] → W p l e ({ frames := 1, cells := 0, slots := 0, locals := 22 }) s m ([.ref o1, .int a1, .int a2, .int a3] : List Value).toArray below meth c H locs 0 0 Q (F0 m 10 ls []) := by
    intro N
    induction N with
    | zero =>
      intro x136 f137 H locs ls hM
      exact absurd hM (Nat.not_lt_zero _)
    | succ N ih1 =>
      intro x136 f137 H locs ls hM1 x136_h hP hD hS hl
      refine lv_iload hx hb dJ7_fill_fda19_10 (lv_at hl 0 rfl) ?_
      refine lv_iload_n hx hb dJ7_fill_fda19_12 rfl (lv_at hl 3 rfl) ?_
      refine lv_icmp_ge (tgt := 27) hx hb dJ7_fill_fda19_13 (by decide) (fun h138 => ?_) (fun h138 => ?_)
      ·
        have qh138 := le_i h138
        have j139 : Iv 1 256 x136 := r_ler qh138 a2_h x136_h (by decide)
        rw [hQ]
        exact W.vret hx hb hr (fun t ht hW => ⟨⟨f137, rfl, trivial, by rw [ht]; exact hP, va_K.moved hW.alike hK, hD⟩, hS.F ht⟩) hS.2.2 dJ7_fill_fda19_27
      ·
        have qh138 := nle_i h138
        have j140 : Iv 0 255 x136 := r_ltl qh138 x136_h a2_h (by decide)
        refine lv_aload_n hx hb dJ7_fill_fda19_16 rfl (lv_at hl 1 rfl) ?_
        refine lv_iload hx hb dJ7_fill_fda19_17 (lv_at hl 0 rfl) ?_
        refine lv_iload_n hx hb dJ7_fill_fda19_19 rfl (lv_at hl 4 rfl) ?_
        refine k_iast hx hb hK hP hD hS 0 0 rfl rfl (vin_iv j140 (by decide)) dJ7_fill_fda19_20 (fun f141 H locs f141_e hP hD hS => ?_)
        have hP : va_P (dC, dI) vwCl ([(o1, .inl (cI, 256, .inl f141))]) H := hP
        have hD : va_D A ([(o1, .inl (cI, 256, .inl f141))]) := hD
        obtain ⟨x142, x142_e⟩ : ∃ z : Int32, z = x136 + 1 := ⟨_, rfl⟩
        have x142_h : Iv 1 256 x142 := iv_e x142_e (iv_add j140 ik_1 (by decide))
        refine lv_iinc (v := x142) (lv' := [(4, .int x142), (0, .ref o1), (1, .int a1), (2, .int a2), (3, .int a3)]) hx hb dJ7_fill_fda19_21 hl (k := 0) rfl (incN (by decide +kernel) x142_e) (by decide) rfl (fun ls hl => ?_)
        refine lv_goto (tgt := 10) hx hb dJ7_fill_fda19_24 (by decide) ?_
        exact ih1 x142 f141 _ _ _ (ms_up x142_e j140 (by decide) hM1) (iv_w x142_h (by decide)) hP hD hS hl
  exact L1 _ a1 fw2 _ _ _ (Nat.lt_succ_self _) (iv_w a1_h (by decide)) hP hD hS hl
set_option maxHeartbeats 4000000 in
set_option maxRecDepth 100000 in
theorem kX0_mayCome_2 (l : Launch) (dC : Nat → ClassId) (dI : Nat → Nat → Nat) (cI c2 cZ : ClassId) (o1 : Nat) (o2 : Nat) (o4 : Nat) (o6 : Nat) (fw5 : Nat → Int32) (v8 : Int32) (v9 : Int32) (v10 : Int32) (v11 : Int32) (v12 : Int32) (a1 : Int32) (sz : Nat) (v8_h : Iv 0 12 v8) (v9_h : Iv 0 8 v9) (v11_h : Iv 0 1 v11) (a1_h : Iv 0 255 a1) : Met l yX0_mayCome wsX0_mayCome ({ frames := 0, cells := 0, slots := 0, locals := 0 }) (va_Pc [.ref o1, .int a1] (wPre (dC, dI) [(cI, .int), (c2, .array .int), (cZ, .boolean)] ([(o1, .inr (0, [.ref o2, .ref o4, .ref o6, .int v8, .int v9, .int v10, .int v11, .int v12])), (o4, .inl (cI, 12, .inl fw5))]) sz)) (va_Qi (fun (r : Int32) (_ : Unit) => Iv 0 255 r) (fun _ t => wPost (dC, dI) [(cI, .int), (c2, .array .int), (cZ, .boolean)] (va_A ([(o1, .inr (0, [.ref o2, .ref o4, .ref o6, .int v8, .int v9, .int v10, .int v11, .int v12])), (o4, .inl (cI, 12, .inl fw5))]) sz) ([(o1, .inr (0, [.ref o2, .ref o4, .ref o6, .int v8, .int v9, .int v10, .int v11, .int v12])), (o4, .inl (cI, 12, .inl fw5))]) t) (va_A ([(o1, .inr (0, [.ref o2, .ref o4, .ref o6, .int v8, .int v9, .int v10, .int v11, .int v12])), (o4, .inl (cI, 12, .inl fw5))]) sz)) 0 0 (va_A ([(o1, .inr (0, [.ref o2, .ref o4, .ref o6, .int v8, .int v9, .int v10, .int v11, .int v12])), (o4, .inl (cI, 12, .inl fw5))]) sz) := by
  refine Met.ofW (cc := cX0_mayCome) (maxL := 4) (ret := (some .int)) (by decide) rfl ?_
  intro p e s m args below meth c s₁ B hml hv
  obtain ⟨rfl, hsz, hP, hK, hD0, hN⟩ := hv
  have hx := B.exec
  have hb := B.bytes
  have hr := B.returns
  have hts := atoms_spec (ws := wsX0_mayCome) B.pre
  have hown : s.vm.findClass RX0 = some m.cls := findClass_of_methodNamed B.named
  have hlocks := B.notSynchronized
  subst hsz
  have hD := hD0.self (sz := s.heap.size)
  generalize hAe : va_A ([(o1, .inr (0, [.ref o2, .ref o4, .ref o6, .int v8, .int v9, .int v10, .int v11, .int v12])), (o4, .inl (cI, 12, .inl fw5))]) s.heap.size = A at hD ⊢
  have hA : ∀ q : Nat, s.heap.size ≤ q → A q := fun q h => by rw [← hAe]; exact Or.inr h
  have hS : va_S A s.heap s.heap [] := va_S.rf
  have hP : va_P (dC, dI) vwCl ([(o1, .inr (0, [.ref o2, .ref o4, .ref o6, .int v8, .int v9, .int v10, .int v11, .int v12])), (o4, .inl (cI, 12, .inl fw5))]) s.heap := hP
  have hl := lv_entry ([.ref o1, .int a1]) (n := 4) (Nat.le_of_ble_eq_true rfl)
  rw [lg_entry_eq]
  generalize (lg_sl ([.ref o1, .int a1]) ++ List.replicate (4 - (lg_sl ([.ref o1, .int a1])).length) Slot.unset).toArray = ls at hl ⊢
  have hl : lv_has ls 4 [(0, .ref o1), (1, .int a1)] := hl
  refine gen_Q (fun Q hQ => ?_)
  refine lv_iconst (v := 1) hx hb dX0_mayCome_0 (by decide) ?_
  refine lv_aload_n hx hb dX0_mayCome_1 rfl (lv_at hl 0 rfl) ?_
  refine va_get (D := (dC, dI)) (ci := 0) (v := .int v9) (C := RX0) (T := TX0) (N := 8) hx hb hts iw_X0_mayCome_X0 hown hK hP 0 rfl rfl 4 (by decide) (hts (.fieldLink RX0 25 "HolelessHouse$Benches" "width" "I") hm_X0_mayCome_1) (fun _ h9 => h9) rfl dX0_mayCome_2 ?_
  refine lv_ishl hx hb dX0_mayCome_5 (lv_topi (fun x1 x1_e => ?_))
  have x1_h : Iv 1 256 x1 := iv_e x1_e (iv_shl1 v9_h (by decide))
  refine lv_iconst (v := 1) hx hb dX0_mayCome_6 (by decide) ?_
  refine lv_isub hx hb dX0_mayCome_7 (lv_topi (fun x2 x2_e => ?_))
  have x2_h : Iv 0 255 x2 := iv_e x2_e (iv_sub x1_h ik_1 (by decide))
  refine lv_iload_n hx hb dX0_mayCome_8 rfl (lv_at hl 1 rfl) ?_
  refine lv_iconst (v := (-1)) hx hb dX0_mayCome_9 (by decide) ?_
  refine lv_ixor hx hb dX0_mayCome_10 (lv_topi (fun x3 x3_e => ?_))
  refine lv_iand hx hb dX0_mayCome_11 (lv_topi (fun x4 x4_e => ?_))
  have x4_h : Iv 0 255 x4 := iv_e x4_e (iv_andL _ x2_h (by decide))
  refine lv_istore_n (lv' := [(2, .int x4), (0, .ref o1), (1, .int a1)]) hx hb dX0_mayCome_12 rfl hl (by decide) rfl (fun ls hl => ?_)
  refine lv_iconst (v := 0) hx hb dX0_mayCome_13 (by decide) ?_
  refine lv_istore_n (lv' := [(3, .int 0), (2, .int x4), (0, .ref o1), (1, .int a1)]) hx hb dX0_mayCome_14 rfl hl (by decide) rfl (fun ls hl => ?_)
  have L1 : ∀ (N : Nat) (x160 : Int32) (x161 : Int32) (H : Heap) (locs : List Loc) (ls : Array Slot), (12 - x160.toInt).toNat < N → Iv 0 12 x160 → Iv 0 255 x161 → va_P (dC, dI) vwCl ([(o1, .inr (0, [.ref o2, .ref o4, .ref o6, .int v8, .int v9, .int v10, .int v11, .int v12])), (o4, .inl (cI, 12, .inl fw5))]) H → va_D A ([(o1, .inr (0, [.ref o2, .ref o4, .ref o6, .int v8, .int v9, .int v10, .int v11, .int v12])), (o4, .inl (cI, 12, .inl fw5))]) → va_S A s.heap H locs → lv_has ls 4 [(3, .int x160), (2, .int x161), (0, .ref o1), (1, .int a1)] → W p l e ({ frames := 0, cells := 0, slots := 0, locals := 0 }) s m ([.ref o1, .int a1] : List Value).toArray below meth c H locs 0 0 Q (F0 m 15 ls []) := by
    intro N
    induction N with
    | zero =>
      intro x160 x161 H locs ls hM
      exact absurd hM (Nat.not_lt_zero _)
    | succ N ih1 =>
      intro x160 x161 H locs ls hM1 x160_h x161_h hP hD hS hl
      refine lv_iload_n hx hb dX0_mayCome_15 rfl (lv_at hl 0 rfl) ?_
      refine lv_aload_n hx hb dX0_mayCome_16 rfl (lv_at hl 2 rfl) ?_
      refine va_get (D := (dC, dI)) (ci := 0) (v := .int v8) (C := RX0) (T := TX0) (N := 8) hx hb hts iw_X0_mayCome_X0 hown hK hP 0 rfl rfl 3 (by decide) (hts (.fieldLink RX0 21 "HolelessHouse$Benches" "rowCount" "I") hm_X0_mayCome_2) (fun _ h9 => h9) rfl dX0_mayCome_17 ?_
      refine lv_icmp_ge (tgt := 62) hx hb dX0_mayCome_20 (by decide) (fun h162 => ?_) (fun h162 => ?_)
      ·
        have qh162 := le_i h162
        refine lv_iload_n hx hb dX0_mayCome_62 rfl (lv_at hl 1 rfl) ?_
        rw [hQ]
        exact W.iret (v := x161) hx hb hr (fun t ht hW => ⟨⟨x161, (), rfl, x161_h, by rw [ht]; exact hP, va_K.moved hW.alike hK, hD⟩, hS.F ht⟩) hS.2.2 dX0_mayCome_63
      ·
        have qh162 := nle_i h162
        have j163 : Iv 0 11 x160 := r_ltl qh162 x160_h v8_h (by decide)
        have j164 : Iv 1 12 v8 := r_ltr qh162 x160_h v8_h (by decide)
        refine lv_aload_n hx hb dX0_mayCome_23 rfl (lv_at hl 2 rfl) ?_
        refine va_get (D := (dC, dI)) (ci := 0) (v := .ref o4) (C := RX0) (T := TX0) (N := 8) hx hb hts iw_X0_mayCome_X0 hown hK hP 0 rfl rfl 1 (by decide) (hts (.fieldLink RX0 15 "HolelessHouse$Benches" "rows" "[I") hm_X0_mayCome_3) (fun _ h9 => h9) rfl dX0_mayCome_24 ?_
        refine lv_iload_n hx hb dX0_mayCome_27 rfl (lv_at hl 0 rfl) ?_
        refine va_iald hx hb hK hP 1 0 rfl rfl (vin_iv j163 (by decide)) dX0_mayCome_28 (lv_topi (fun x165 x165_e => ?_))
        refine lv_iload_n hx hb dX0_mayCome_29 rfl (lv_at hl 3 rfl) ?_
        refine lv_iand hx hb dX0_mayCome_30 (lv_topi (fun x166 x166_e => ?_))
        have x166_h : Iv 0 255 x166 := iv_e x166_e (iv_andR _ a1_h (by decide))
        refine lv_if_eq (tgt := 56) hx hb dX0_mayCome_31 (by decide) (fun h167 => ?_) (fun h167 => ?_)
        ·
          have j168 : Iv 0 0 x166 := r_eq h167 ik_0
          obtain ⟨x169, x169_e⟩ : ∃ z : Int32, z = x160 + 1 := ⟨_, rfl⟩
          have x169_h : Iv 1 12 x169 := iv_e x169_e (iv_add j163 ik_1 (by decide))
          refine lv_iinc (v := x169) (lv' := [(3, .int x169), (2, .int x161), (0, .ref o1), (1, .int a1)]) hx hb dX0_mayCome_56 hl (k := 0) rfl (incN (by decide +kernel) x169_e) (by decide) rfl (fun ls hl => ?_)
          refine lv_goto (tgt := 15) hx hb dX0_mayCome_59 (by decide) ?_
          exact ih1 x169 x161 _ _ _ (ms_up x169_e j163 (by decide) hM1) (iv_w x169_h (by decide)) x161_h hP hD hS hl
        ·
          have j170 : Iv 1 255 x166 := r_nelo h167 x166_h ik_0 (by decide)
          refine lv_aload_n hx hb dX0_mayCome_34 rfl (lv_at hl 2 rfl) ?_
          refine va_get (D := (dC, dI)) (ci := 0) (v := .ref o4) (C := RX0) (T := TX0) (N := 8) hx hb hts iw_X0_mayCome_X0 hown hK hP 0 rfl rfl 1 (by decide) (hts (.fieldLink RX0 15 "HolelessHouse$Benches" "rows" "[I") hm_X0_mayCome_3) (fun _ h9 => h9) rfl dX0_mayCome_35 ?_
          refine lv_iload_n hx hb dX0_mayCome_38 rfl (lv_at hl 0 rfl) ?_
          refine va_iald hx hb hK hP 1 0 rfl rfl (vin_iv j163 (by decide)) dX0_mayCome_39 (lv_topi (fun x171 x171_e => ?_))
          refine lv_iload_n hx hb dX0_mayCome_40 rfl (lv_at hl 3 rfl) ?_
          refine lv_iconst (v := (-1)) hx hb dX0_mayCome_41 (by decide) ?_
          refine lv_ixor hx hb dX0_mayCome_42 (lv_topi (fun x172 x172_e => ?_))
          refine lv_iand hx hb dX0_mayCome_43 (lv_topi (fun x173 x173_e => ?_))
          refine lv_if_eq (tgt := 56) hx hb dX0_mayCome_44 (by decide) (fun h174 => ?_) (fun h174 => ?_)
          ·
            have j175 : Iv 0 0 x173 := r_eq h174 ik_0
            obtain ⟨x176, x176_e⟩ : ∃ z : Int32, z = x160 + 1 := ⟨_, rfl⟩
            have x176_h : Iv 1 12 x176 := iv_e x176_e (iv_add j163 ik_1 (by decide))
            refine lv_iinc (v := x176) (lv' := [(3, .int x176), (2, .int x161), (0, .ref o1), (1, .int a1)]) hx hb dX0_mayCome_56 hl (k := 0) rfl (incN (by decide +kernel) x176_e) (by decide) rfl (fun ls hl => ?_)
            refine lv_goto (tgt := 15) hx hb dX0_mayCome_59 (by decide) ?_
            exact ih1 x176 x161 _ _ _ (ms_up x176_e j163 (by decide) hM1) (iv_w x176_h (by decide)) x161_h hP hD hS hl
          ·
            refine lv_iload_n hx hb dX0_mayCome_47 rfl (lv_at hl 1 rfl) ?_
            refine lv_aload_n hx hb dX0_mayCome_48 rfl (lv_at hl 2 rfl) ?_
            refine va_get (D := (dC, dI)) (ci := 0) (v := .ref o4) (C := RX0) (T := TX0) (N := 8) hx hb hts iw_X0_mayCome_X0 hown hK hP 0 rfl rfl 1 (by decide) (hts (.fieldLink RX0 15 "HolelessHouse$Benches" "rows" "[I") hm_X0_mayCome_3) (fun _ h9 => h9) rfl dX0_mayCome_49 ?_
            refine lv_iload_n hx hb dX0_mayCome_52 rfl (lv_at hl 0 rfl) ?_
            refine va_iald hx hb hK hP 1 0 rfl rfl (vin_iv j163 (by decide)) dX0_mayCome_53 (lv_topi (fun x177 x177_e => ?_))
            refine lv_iand hx hb dX0_mayCome_54 (lv_topi (fun x178 x178_e => ?_))
            have x178_h : Iv 0 255 x178 := iv_e x178_e (iv_andL _ x161_h (by decide))
            refine lv_istore_n (lv' := [(2, .int x178), (3, .int x160), (0, .ref o1), (1, .int a1)]) hx hb dX0_mayCome_55 rfl hl (by decide) rfl (fun ls hl => ?_)
            obtain ⟨x179, x179_e⟩ : ∃ z : Int32, z = x160 + 1 := ⟨_, rfl⟩
            have x179_h : Iv 1 12 x179 := iv_e x179_e (iv_add j163 ik_1 (by decide))
            refine lv_iinc (v := x179) (lv' := [(3, .int x179), (2, .int x178), (0, .ref o1), (1, .int a1)]) hx hb dX0_mayCome_56 hl (k := 1) rfl (incN (by decide +kernel) x179_e) (by decide) rfl (fun ls hl => ?_)
            refine lv_goto (tgt := 15) hx hb dX0_mayCome_59 (by decide) ?_
            exact ih1 x179 x178 _ _ _ (ms_up x179_e j163 (by decide) hM1) (iv_w x179_h (by decide)) x178_h hP hD hS hl
  exact L1 _ 0 x4 _ _ _ (Nat.lt_succ_self _) (iv_w ik_0 (by decide)) x4_h hP hD hS hl
set_option maxHeartbeats 4000000 in
set_option maxRecDepth 100000 in
theorem kX0_seatsRest_14 (l : Launch) (dC : Nat → ClassId) (dI : Nat → Nat → Nat) (cI c2 cZ : ClassId) (o1 : Nat) (o2 : Nat) (o4 : Nat) (o6 : Nat) (v8 : Int32) (v9 : Int32) (v10 : Int32) (v11 : Int32) (v12 : Int32) (a1 : Int32) (sz : Nat) (v8_h : Iv 0 12 v8) (v9_h : Iv 0 8 v9) (v11_h : Iv 0 1 v11) (a1_h : Iv 0 255 a1) : Met l yX0_seatsRest wsX0_seatsRest ({ frames := 0, cells := 0, slots := 0, locals := 0 }) (va_Pc [.ref o1, .int a1, .int 8] (wPre (dC, dI) [(cI, .int), (c2, .array .int), (cZ, .boolean)] ([(o1, .inr (0, [.ref o2, .ref o4, .ref o6, .int v8, .int v9, .int v10, .int v11, .int v12]))]) sz)) (va_Qi (fun (r : Int32) (_ : Unit) => Iv 1 1 r) (fun _ t => wPost (dC, dI) [(cI, .int), (c2, .array .int), (cZ, .boolean)] (va_A ([(o1, .inr (0, [.ref o2, .ref o4, .ref o6, .int v8, .int v9, .int v10, .int v11, .int v12]))]) sz) ([(o1, .inr (0, [.ref o2, .ref o4, .ref o6, .int v8, .int v9, .int v10, .int v11, .int v12]))]) t) (va_A ([(o1, .inr (0, [.ref o2, .ref o4, .ref o6, .int v8, .int v9, .int v10, .int v11, .int v12]))]) sz)) 0 0 (va_A ([(o1, .inr (0, [.ref o2, .ref o4, .ref o6, .int v8, .int v9, .int v10, .int v11, .int v12]))]) sz) := by
  refine Met.ofW (cc := cX0_seatsRest) (maxL := 5) (ret := (some .boolean)) (by decide) rfl ?_
  intro p e s m args below meth c s₁ B hml hv
  obtain ⟨rfl, hsz, hP, hK, hD0, hN⟩ := hv
  have hx := B.exec
  have hb := B.bytes
  have hr := B.returns
  have hts := atoms_spec (ws := wsX0_seatsRest) B.pre
  have hown : s.vm.findClass RX0 = some m.cls := findClass_of_methodNamed B.named
  have hlocks := B.notSynchronized
  subst hsz
  have hD := hD0.self (sz := s.heap.size)
  generalize hAe : va_A ([(o1, .inr (0, [.ref o2, .ref o4, .ref o6, .int v8, .int v9, .int v10, .int v11, .int v12]))]) s.heap.size = A at hD ⊢
  have hA : ∀ q : Nat, s.heap.size ≤ q → A q := fun q h => by rw [← hAe]; exact Or.inr h
  have hS : va_S A s.heap s.heap [] := va_S.rf
  have hP : va_P (dC, dI) vwCl ([(o1, .inr (0, [.ref o2, .ref o4, .ref o6, .int v8, .int v9, .int v10, .int v11, .int v12]))]) s.heap := hP
  have hl := lv_entry ([.ref o1, .int a1, .int 8]) (n := 5) (Nat.le_of_ble_eq_true rfl)
  rw [lg_entry_eq]
  generalize (lg_sl ([.ref o1, .int a1, .int 8]) ++ List.replicate (5 - (lg_sl ([.ref o1, .int a1, .int 8])).length) Slot.unset).toArray = ls at hl ⊢
  have hl : lv_has ls 5 [(0, .ref o1), (1, .int a1), (2, .int 8)] := hl
  refine gen_Q (fun Q hQ => ?_)
  refine lv_iload_n hx hb dX0_seatsRest_0 rfl (lv_at hl 2 rfl) ?_
  refine lv_aload_n hx hb dX0_seatsRest_1 rfl (lv_at hl 0 rfl) ?_
  refine va_get (D := (dC, dI)) (ci := 0) (v := .int v9) (C := RX0) (T := TX0) (N := 8) hx hb hts iw_X0_seatsRest_X0 hown hK hP 0 rfl rfl 4 (by decide) (hts (.fieldLink RX0 25 "HolelessHouse$Benches" "width" "I") hm_X0_seatsRest_1) (fun _ h9 => h9) rfl dX0_seatsRest_2 ?_
  refine lv_icmp_lt (tgt := 10) hx hb dX0_seatsRest_5 (by decide) (fun h9 => absurd h9 (d_nlt ik_8 v9_h (by decide))) (fun _ => ?_)
  refine lv_iconst (v := 1) hx hb dX0_seatsRest_8 (by decide) ?_
  rw [hQ]
  exact W.zret (v := 1) (ty := .boolean) hx hb hr rfl (fun t ht hW => ⟨⟨1, (), rfl, ik_1, by rw [ht]; exact hP, va_K.moved hW.alike hK, hD⟩, hS.F ht⟩) hS.2.2 dX0_seatsRest_9
set_option maxHeartbeats 4000000 in
set_option maxRecDepth 100000 in
theorem kX0_seatsRest_15 (l : Launch) (dC : Nat → ClassId) (dI : Nat → Nat → Nat) (cI c2 cZ : ClassId) (o1 : Nat) (o2 : Nat) (o4 : Nat) (o6 : Nat) (fw3 : Nat → Int32) (fw5 : Nat → Int32) (fw7 : Nat → Int32) (v8 : Int32) (v9 : Int32) (v10 : Int32) (v11 : Int32) (v12 : Int32) (a1 : Int32) (sz : Nat) (v8_h : Iv 0 12 v8) (v9_h : Iv 0 8 v9) (v11_h : Iv 0 1 v11) (a1_h : Iv 0 255 a1) : Met l yX0_seatsRest wsX0_seatsRest ({ frames := 1, cells := 0, slots := 0, locals := 24 }) (va_Pc [.ref o1, .int a1, .int 7] (wPre (dC, dI) [(cI, .int), (c2, .array .int), (cZ, .boolean)] ([(o1, .inr (0, [.ref o2, .ref o4, .ref o6, .int v8, .int v9, .int v10, .int v11, .int v12])), (o2, .inl (cI, 256, .inl fw3)), (o4, .inl (cI, 12, .inl fw5)), (o6, .inl (cI, 8, .inl fw7))]) sz)) (va_Qi (fun (r : Int32) (u : (Nat → Int32) × (Nat → Int32)) => Iv 0 1 r) (fun u t => wPost (dC, dI) [(cI, .int), (c2, .array .int), (cZ, .boolean)] (va_A ([(o1, .inr (0, [.ref o2, .ref o4, .ref o6, .int v8, .int v9, .int v10, .int v11, .int v12])), (o2, .inl (cI, 256, .inl fw3)), (o4, .inl (cI, 12, .inl fw5)), (o6, .inl (cI, 8, .inl fw7))]) sz) ([(o1, .inr (0, [.ref o2, .ref o4, .ref o6, .int v8, .int v9, .int v10, .int v11, .int v12])), (o2, .inl (cI, 256, .inl u.1)), (o4, .inl (cI, 12, .inl fw5)), (o6, .inl (cI, 8, .inl u.2))]) t) (va_A ([(o1, .inr (0, [.ref o2, .ref o4, .ref o6, .int v8, .int v9, .int v10, .int v11, .int v12])), (o2, .inl (cI, 256, .inl fw3)), (o4, .inl (cI, 12, .inl fw5)), (o6, .inl (cI, 8, .inl fw7))]) sz)) 0 0 (va_A ([(o1, .inr (0, [.ref o2, .ref o4, .ref o6, .int v8, .int v9, .int v10, .int v11, .int v12])), (o2, .inl (cI, 256, .inl fw3)), (o4, .inl (cI, 12, .inl fw5)), (o6, .inl (cI, 8, .inl fw7))]) sz) := by
  refine Met.ofW (cc := cX0_seatsRest) (maxL := 5) (ret := (some .boolean)) (by decide) rfl ?_
  intro p e s m args below meth c s₁ B hml hv
  obtain ⟨rfl, hsz, hP, hK, hD0, hN⟩ := hv
  have hx := B.exec
  have hb := B.bytes
  have hr := B.returns
  have hts := atoms_spec (ws := wsX0_seatsRest) B.pre
  have hown : s.vm.findClass RX0 = some m.cls := findClass_of_methodNamed B.named
  have hlocks := B.notSynchronized
  subst hsz
  have hD := hD0.self (sz := s.heap.size)
  generalize hAe : va_A ([(o1, .inr (0, [.ref o2, .ref o4, .ref o6, .int v8, .int v9, .int v10, .int v11, .int v12])), (o2, .inl (cI, 256, .inl fw3)), (o4, .inl (cI, 12, .inl fw5)), (o6, .inl (cI, 8, .inl fw7))]) s.heap.size = A at hD ⊢
  have hA : ∀ q : Nat, s.heap.size ≤ q → A q := fun q h => by rw [← hAe]; exact Or.inr h
  have hS : va_S A s.heap s.heap [] := va_S.rf
  have hP : va_P (dC, dI) vwCl ([(o1, .inr (0, [.ref o2, .ref o4, .ref o6, .int v8, .int v9, .int v10, .int v11, .int v12])), (o2, .inl (cI, 256, .inl fw3)), (o4, .inl (cI, 12, .inl fw5)), (o6, .inl (cI, 8, .inl fw7))]) s.heap := hP
  have hl := lv_entry ([.ref o1, .int a1, .int 7]) (n := 5) (Nat.le_of_ble_eq_true rfl)
  rw [lg_entry_eq]
  generalize (lg_sl ([.ref o1, .int a1, .int 7]) ++ List.replicate (5 - (lg_sl ([.ref o1, .int a1, .int 7])).length) Slot.unset).toArray = ls at hl ⊢
  have hl : lv_has ls 5 [(0, .ref o1), (1, .int a1), (2, .int 7)] := hl
  refine gen_Q (fun Q hQ => ?_)
  refine lv_iload_n hx hb dX0_seatsRest_0 rfl (lv_at hl 2 rfl) ?_
  refine lv_aload_n hx hb dX0_seatsRest_1 rfl (lv_at hl 0 rfl) ?_
  refine va_get (D := (dC, dI)) (ci := 0) (v := .int v9) (C := RX0) (T := TX0) (N := 8) hx hb hts iw_X0_seatsRest_X0 hown hK hP 0 rfl rfl 4 (by decide) (hts (.fieldLink RX0 25 "HolelessHouse$Benches" "width" "I") hm_X0_seatsRest_1) (fun _ h9 => h9) rfl dX0_seatsRest_2 ?_
  refine lv_icmp_lt (tgt := 10) hx hb dX0_seatsRest_5 (by decide) (fun h1 => ?_) (fun h1 => ?_)
  ·
    have qh1 := lt_i h1
    have j2 : Iv 8 8 v9 := r_ltr qh1 ik_7 v9_h (by decide)
    refine lv_aload_n hx hb dX0_seatsRest_10 rfl (lv_at hl 0 rfl) ?_
    refine va_get (D := (dC, dI)) (ci := 0) (v := .ref o2) (C := RX0) (T := TX0) (N := 8) hx hb hts iw_X0_seatsRest_X0 hown hK hP 0 rfl rfl 0 (by decide) (hts (.fieldLink RX0 38 "HolelessHouse$Benches" "notes" "[I") hm_X0_seatsRest_2) (fun _ h9 => h9) rfl dX0_seatsRest_11 ?_
    refine lv_iload_n hx hb dX0_seatsRest_14 rfl (lv_at hl 1 rfl) ?_
    refine va_iald hx hb hK hP 1 0 rfl rfl (vin_iv a1_h (by decide)) dX0_seatsRest_15 (lv_topi (fun x3 x3_e => ?_))
    refine lv_iconst (v := 1) hx hb dX0_seatsRest_16 (by decide) ?_
    refine lv_icmp_ne (tgt := 22) hx hb dX0_seatsRest_17 (by decide) (fun h4 => ?_) (fun h4 => ?_)
    ·
      refine lv_aload_n hx hb dX0_seatsRest_22 rfl (lv_at hl 0 rfl) ?_
      refine lv_iload_n hx hb dX0_seatsRest_23 rfl (lv_at hl 1 rfl) ?_
      refine kc_i (D := (dC, dI)) (S := Unit) (wc := [(o1, .inr (0, [.ref o2, .ref o4, .ref o6, .int v8, .int v9, .int v10, .int v11, .int v12])), (o4, .inl (cI, 12, .inl fw5))]) (wr := [(o2, .inl (cI, 256, .inl fw3)), (o6, .inl (cI, 8, .inl fw7))]) (w1 := fun _ => [(o1, .inr (0, [.ref o2, .ref o4, .ref o6, .int v8, .int v9, .int v10, .int v11, .int v12])), (o4, .inl (cI, 12, .inl fw5))]) (wn := fun _ => [(o1, .inr (0, [.ref o2, .ref o4, .ref o6, .int v8, .int v9, .int v10, .int v11, .int v12])), (o2, .inl (cI, 256, .inl fw3)), (o4, .inl (cI, 12, .inl fw5)), (o6, .inl (cI, 8, .inl fw7))]) (fun hPc hDc => va_runV (As := [.int a1]) (rest := []) ⟨hx, hb, hml, hown, hts⟩ (kX0_mayCome_2 l dC dI cI c2 cZ o1 o2 o4 o6 fw5 v8 v9 v10 v11 v12 a1 s.heap.size v8_h (iv_w j2 (by decide)) v11_h a1_h) (cwV 1 hts gX0_seatsRest_X0_mayCome rfl rfl rfl (by decide +kernel) ⟨Nat.le_of_ble_eq_true rfl, Nat.le_of_ble_eq_true rfl⟩) (pre_V hPc hK hDc hN (ci := 0) (q0 := 0) rfl rfl) rfl rfl hl.1 rfl (lv_room (Nat.le_of_ble_eq_true rfl)) dX0_seatsRest_24 ⟨Nat.le_of_ble_eq_true rfl, Nat.le_of_ble_eq_true rfl⟩) hP hD hS hA [0, 2] [1, 3] [2, 0, 3, 1] rfl rfl (by decide +kernel) (by decide +kernel) (by decide +kernel) (by decide +kernel) (fun _ => rfl) (fun x5 _ H locs hq hP hD hS => ?_)
      have x5_h := hq
      have hP : va_P (dC, dI) vwCl ([(o1, .inr (0, [.ref o2, .ref o4, .ref o6, .int v8, .int v9, .int v10, .int v11, .int v12])), (o2, .inl (cI, 256, .inl fw3)), (o4, .inl (cI, 12, .inl fw5)), (o6, .inl (cI, 8, .inl fw7))]) H := hP
      have hD : va_D A ([(o1, .inr (0, [.ref o2, .ref o4, .ref o6, .int v8, .int v9, .int v10, .int v11, .int v12])), (o2, .inl (cI, 256, .inl fw3)), (o4, .inl (cI, 12, .inl fw5)), (o6, .inl (cI, 8, .inl fw7))]) := hD
      refine lv_istore_n (lv' := [(3, .int x5), (0, .ref o1), (1, .int a1), (2, .int 7)]) hx hb dX0_seatsRest_27 rfl hl (by decide) rfl (fun ls hl => ?_)
      refine lv_iconst (v := 0) hx hb dX0_seatsRest_28 (by decide) ?_
      refine lv_istore (lv' := [(4, .int 0), (3, .int x5), (0, .ref o1), (1, .int a1), (2, .int 7)]) hx hb dX0_seatsRest_29 hl (by decide) rfl (fun ls hl => ?_)
      have L1 : ∀ (N : Nat) (x66 : Int32) (H : Heap) (locs : List Loc) (ls : Array Slot), (8 - x66.toInt).toNat < N → Iv 0 8 x66 → va_P (dC, dI) vwCl ([(o1, .inr (0, [.ref o2, .ref o4, .ref o6, .int v8, .int v9, .int v10, .int v11, .int v12])), (o2, .inl (cI, 256, .inl fw3)), (o4, .inl (cI, 12, .inl fw5)), (o6, .inl (cI, 8, .inl fw7))]) H → va_D A ([(o1, .inr (0, [.ref o2, .ref o4, .ref o6, .int v8, .int v9, .int v10, .int v11, .int v12])), (o2, .inl (cI, 256, .inl fw3)), (o4, .inl (cI, 12, .inl fw5)), (o6, .inl (cI, 8, .inl fw7))]) → va_S A s.heap H locs → lv_has ls 5 [(4, .int x66), (3, .int x5), (0, .ref o1), (1, .int a1), (2, .int 7)] → W p l e ({ frames := 1, cells := 0, slots := 0, locals := 24 }) s m ([.ref o1, .int a1, .int 7] : List Value).toArray below meth c H locs 0 0 Q (F0 m 31 ls []) := by
        intro N
        induction N with
        | zero =>
          intro x66 H locs ls hM
          exact absurd hM (Nat.not_lt_zero _)
        | succ N ih1 =>
          intro x66 H locs ls hM1 x66_h hP hD hS hl
          refine lv_iload hx hb dX0_seatsRest_31 (lv_at hl 0 rfl) ?_
          refine lv_aload_n hx hb dX0_seatsRest_33 rfl (lv_at hl 2 rfl) ?_
          refine va_get (D := (dC, dI)) (ci := 0) (v := .int v9) (C := RX0) (T := TX0) (N := 8) hx hb hts iw_X0_seatsRest_X0 hown hK hP 0 rfl rfl 4 (by decide) (hts (.fieldLink RX0 25 "HolelessHouse$Benches" "width" "I") hm_X0_seatsRest_1) (fun _ h9 => h9) rfl dX0_seatsRest_34 ?_
          refine lv_icmp_ge (tgt := 81) hx hb dX0_seatsRest_37 (by decide) (fun h67 => ?_) (fun h67 => ?_)
          ·
            have qh67 := le_i h67
            have j68 : Iv 8 8 x66 := r_ler qh67 j2 x66_h (by decide)
            refine lv_aload_n hx hb dX0_seatsRest_81 rfl (lv_at hl 2 rfl) ?_
            refine va_get (D := (dC, dI)) (ci := 0) (v := .ref o2) (C := RX0) (T := TX0) (N := 8) hx hb hts iw_X0_seatsRest_X0 hown hK hP 0 rfl rfl 0 (by decide) (hts (.fieldLink RX0 38 "HolelessHouse$Benches" "notes" "[I") hm_X0_seatsRest_2) (fun _ h9 => h9) rfl dX0_seatsRest_82 ?_
            refine lv_iload_n hx hb dX0_seatsRest_85 rfl (lv_at hl 3 rfl) ?_
            refine lv_iconst (v := 1) hx hb dX0_seatsRest_86 (by decide) ?_
            refine k_iast hx hb hK hP hD hS 1 0 rfl rfl (vin_iv a1_h (by decide)) dX0_seatsRest_87 (fun f69 H locs f69_e hP hD hS => ?_)
            have hP : va_P (dC, dI) vwCl ([(o1, .inr (0, [.ref o2, .ref o4, .ref o6, .int v8, .int v9, .int v10, .int v11, .int v12])), (o2, .inl (cI, 256, .inl f69)), (o4, .inl (cI, 12, .inl fw5)), (o6, .inl (cI, 8, .inl fw7))]) H := hP
            have hD : va_D A ([(o1, .inr (0, [.ref o2, .ref o4, .ref o6, .int v8, .int v9, .int v10, .int v11, .int v12])), (o2, .inl (cI, 256, .inl f69)), (o4, .inl (cI, 12, .inl fw5)), (o6, .inl (cI, 8, .inl fw7))]) := hD
            refine lv_iconst (v := 0) hx hb dX0_seatsRest_88 (by decide) ?_
            rw [hQ]
            exact W.zret (v := 0) (ty := .boolean) hx hb hr rfl (fun t ht hW => ⟨⟨0, (f69, fw7), rfl, (iv_w ik_0 (by decide)), by rw [ht]; exact hP, va_K.moved hW.alike hK, hD⟩, hS.F ht⟩) hS.2.2 dX0_seatsRest_89
          ·
            have qh67 := nle_i h67
            have j70 : Iv 0 7 x66 := r_ltl qh67 x66_h j2 (by decide)
            refine lv_iload_n hx hb dX0_seatsRest_40 rfl (lv_at hl 1 rfl) ?_
            refine lv_iload hx hb dX0_seatsRest_41 (lv_at hl 0 rfl) ?_
            refine kc_i (D := (dC, dI)) (S := Unit) (wc := []) (wr := [(o1, .inr (0, [.ref o2, .ref o4, .ref o6, .int v8, .int v9, .int v10, .int v11, .int v12])), (o2, .inl (cI, 256, .inl fw3)), (o4, .inl (cI, 12, .inl fw5)), (o6, .inl (cI, 8, .inl fw7))]) (w1 := fun _ => []) (wn := fun _ => [(o1, .inr (0, [.ref o2, .ref o4, .ref o6, .int v8, .int v9, .int v10, .int v11, .int v12])), (o2, .inl (cI, 256, .inl fw3)), (o4, .inl (cI, 12, .inl fw5)), (o6, .inl (cI, 8, .inl fw7))]) (fun hPc hDc => va_runSN (As := [.int x5, .int x66]) (rest := []) ⟨hx, hb, hml, hown, hts⟩ (kX11_in_1 l dC dI cI c2 cZ x5 x66 H.size) ⟨va_cnB 2 hts gX0_seatsRest_X11_in_n62 rfl rfl rfl (hN.1 _ ns_125) (hts (.initialized RX11) hm_X0_seatsRest_12) (by decide +kernel) ⟨Nat.le_of_ble_eq_true rfl, Nat.le_of_ble_eq_true rfl⟩, (hts (.static yX11_in) hm_X0_seatsRest_11), trivial⟩ (pre_S hPc hK hDc hN) rfl rfl hl.1 rfl (lv_room (Nat.le_of_ble_eq_true rfl)) dX0_seatsRest_43 ⟨Nat.le_of_ble_eq_true rfl, Nat.le_of_ble_eq_true rfl⟩) hP hD hS hA [] [0, 1, 2, 3] [0, 1, 2, 3] rfl rfl (by decide +kernel) (by decide +kernel) (by decide +kernel) (by decide +kernel) (fun _ => rfl) (fun x71 _ H locs hq hP hD hS => ?_)
            have x71_h := hq
            have hP : va_P (dC, dI) vwCl ([(o1, .inr (0, [.ref o2, .ref o4, .ref o6, .int v8, .int v9, .int v10, .int v11, .int v12])), (o2, .inl (cI, 256, .inl fw3)), (o4, .inl (cI, 12, .inl fw5)), (o6, .inl (cI, 8, .inl fw7))]) H := hP
            have hD : va_D A ([(o1, .inr (0, [.ref o2, .ref o4, .ref o6, .int v8, .int v9, .int v10, .int v11, .int v12])), (o2, .inl (cI, 256, .inl fw3)), (o4, .inl (cI, 12, .inl fw5)), (o6, .inl (cI, 8, .inl fw7))]) := hD
            refine lv_if_eq (tgt := 75) hx hb dX0_seatsRest_46 (by decide) (fun h72 => ?_) (fun h72 => ?_)
            ·
              have j73 : Iv 0 0 x71 := r_eq h72 ik_0
              obtain ⟨x74, x74_e⟩ : ∃ z : Int32, z = x66 + 1 := ⟨_, rfl⟩
              have x74_h : Iv 1 8 x74 := iv_e x74_e (iv_add j70 ik_1 (by decide))
              refine lv_iinc (v := x74) (lv' := [(4, .int x74), (3, .int x5), (0, .ref o1), (1, .int a1), (2, .int 7)]) hx hb dX0_seatsRest_75 hl (k := 0) rfl (incN (by decide +kernel) x74_e) (by decide) rfl (fun ls hl => ?_)
              refine lv_goto (tgt := 31) hx hb dX0_seatsRest_78 (by decide) ?_
              exact ih1 x74 _ _ _ (ms_up x74_e j70 (by decide) hM1) (iv_w x74_h (by decide)) hP hD hS hl
            ·
              have j75 : Iv 1 1 x71 := r_nelo h72 x71_h ik_0 (by decide)
              refine lv_aload_n hx hb dX0_seatsRest_49 rfl (lv_at hl 2 rfl) ?_
              refine va_get (D := (dC, dI)) (ci := 0) (v := .ref o6) (C := RX0) (T := TX0) (N := 8) hx hb hts iw_X0_seatsRest_X0 hown hK hP 0 rfl rfl 2 (by decide) (hts (.fieldLink RX0 41 "HolelessHouse$Benches" "places" "[I") hm_X0_seatsRest_3) (fun _ h9 => h9) rfl dX0_seatsRest_50 ?_
              refine lv_iload_n hx hb dX0_seatsRest_53 rfl (lv_at hl 4 rfl) ?_
              refine lv_iload hx hb dX0_seatsRest_54 (lv_at hl 0 rfl) ?_
              refine k_iast hx hb hK hP hD hS 3 0 rfl rfl (vin_iv ik_7 (by decide)) dX0_seatsRest_56 (fun f76 H locs f76_e hP hD hS => ?_)
              have hP : va_P (dC, dI) vwCl ([(o1, .inr (0, [.ref o2, .ref o4, .ref o6, .int v8, .int v9, .int v10, .int v11, .int v12])), (o2, .inl (cI, 256, .inl fw3)), (o4, .inl (cI, 12, .inl fw5)), (o6, .inl (cI, 8, .inl f76))]) H := hP
              have hD : va_D A ([(o1, .inr (0, [.ref o2, .ref o4, .ref o6, .int v8, .int v9, .int v10, .int v11, .int v12])), (o2, .inl (cI, 256, .inl fw3)), (o4, .inl (cI, 12, .inl fw5)), (o6, .inl (cI, 8, .inl f76))]) := hD
              refine lv_aload_n hx hb dX0_seatsRest_57 rfl (lv_at hl 2 rfl) ?_
              refine lv_iload_n hx hb dX0_seatsRest_58 rfl (lv_at hl 3 rfl) ?_
              refine lv_iconst (v := 1) hx hb dX0_seatsRest_59 (by decide) ?_
              refine lv_iload hx hb dX0_seatsRest_60 (lv_at hl 0 rfl) ?_
              refine lv_ishl hx hb dX0_seatsRest_62 (lv_topi (fun x77 x77_e => ?_))
              have x77_h : Iv 1 128 x77 := iv_e x77_e (iv_shl1 j70 (by decide))
              refine lv_ior hx hb dX0_seatsRest_63 (lv_topi (fun x78 x78_e => ?_))
              have x78_h : Iv 0 255 x78 := iv_e x78_e (iv_or 8 a1_h x77_h (by decide))
              refine lv_iload_n hx hb dX0_seatsRest_64 rfl (lv_at hl 4 rfl) ?_
              refine lv_iconst (v := 1) hx hb dX0_seatsRest_65 (by decide) ?_
              refine lv_iadd hx hb dX0_seatsRest_66 (tk_i (v := 8) (by decide +kernel) ?_)
              refine kc_i (D := (dC, dI)) (S := Unit) (wc := [(o1, .inr (0, [.ref o2, .ref o4, .ref o6, .int v8, .int v9, .int v10, .int v11, .int v12]))]) (wr := [(o2, .inl (cI, 256, .inl fw3)), (o4, .inl (cI, 12, .inl fw5)), (o6, .inl (cI, 8, .inl f76))]) (w1 := fun _ => [(o1, .inr (0, [.ref o2, .ref o4, .ref o6, .int v8, .int v9, .int v10, .int v11, .int v12]))]) (wn := fun _ => [(o1, .inr (0, [.ref o2, .ref o4, .ref o6, .int v8, .int v9, .int v10, .int v11, .int v12])), (o2, .inl (cI, 256, .inl fw3)), (o4, .inl (cI, 12, .inl fw5)), (o6, .inl (cI, 8, .inl f76))]) (fun hPc hDc => va_runS (As := [.ref o1, .int x78, .int 8]) (rest := []) ⟨hx, hb, hml, hown, hts⟩ (kX0_seatsRest_14 l dC dI cI c2 cZ o1 o2 o4 o6 v8 v9 v10 v11 v12 x78 H.size v8_h (iv_w j2 (by decide)) v11_h x78_h) (va_cwS 3 hts gX0_seatsRest_X0_seatsRest rfl rfl rfl (by decide +kernel) ⟨Nat.le_of_ble_eq_true rfl, Nat.le_of_ble_eq_true rfl⟩) (pre_S hPc hK hDc hN) rfl rfl hl.1 rfl (lv_room (Nat.le_of_ble_eq_true rfl)) dX0_seatsRest_67 ⟨Nat.le_of_ble_eq_true rfl, Nat.le_of_ble_eq_true rfl⟩) hP hD hS hA [0] [1, 2, 3] [3, 0, 1, 2] rfl rfl (by decide +kernel) (by decide +kernel) (by decide +kernel) (by decide +kernel) (fun _ => rfl) (fun x79 _ H locs hq hP hD hS => ?_)
              have x79_h := hq
              have hP : va_P (dC, dI) vwCl ([(o1, .inr (0, [.ref o2, .ref o4, .ref o6, .int v8, .int v9, .int v10, .int v11, .int v12])), (o2, .inl (cI, 256, .inl fw3)), (o4, .inl (cI, 12, .inl fw5)), (o6, .inl (cI, 8, .inl f76))]) H := hP
              have hD : va_D A ([(o1, .inr (0, [.ref o2, .ref o4, .ref o6, .int v8, .int v9, .int v10, .int v11, .int v12])), (o2, .inl (cI, 256, .inl fw3)), (o4, .inl (cI, 12, .inl fw5)), (o6, .inl (cI, 8, .inl f76))]) := hD
              refine lv_if_eq (tgt := 75) hx hb dX0_seatsRest_70 (by decide) (fun h9 => absurd h9 (d_ne x79_h ik_0 (by decide))) (fun _ => ?_)
              refine lv_iconst (v := 1) hx hb dX0_seatsRest_73 (by decide) ?_
              rw [hQ]
              exact W.zret (v := 1) (ty := .boolean) hx hb hr rfl (fun t ht hW => ⟨⟨1, (fw3, f76), rfl, (iv_w ik_1 (by decide)), by rw [ht]; exact hP, va_K.moved hW.alike hK, hD⟩, hS.F ht⟩) hS.2.2 dX0_seatsRest_74
      exact L1 _ 0 _ _ _ (Nat.lt_succ_self _) (iv_w ik_0 (by decide)) hP hD hS hl
    ·
      have j80 : Iv 1 1 x3 := r_eq h4 ik_1
      refine lv_iconst (v := 0) hx hb dX0_seatsRest_20 (by decide) ?_
      rw [hQ]
      exact W.zret (v := 0) (ty := .boolean) hx hb hr rfl (fun t ht hW => ⟨⟨0, (fw3, fw7), rfl, (iv_w ik_0 (by decide)), by rw [ht]; exact hP, va_K.moved hW.alike hK, hD⟩, hS.F ht⟩) hS.2.2 dX0_seatsRest_21
  ·
    have qh1 := nlt_i h1
    have j81 : Iv 0 7 v9 := r_lel qh1 v9_h ik_7 (by decide)
    refine lv_iconst (v := 1) hx hb dX0_seatsRest_8 (by decide) ?_
    rw [hQ]
    exact W.zret (v := 1) (ty := .boolean) hx hb hr rfl (fun t ht hW => ⟨⟨1, (fw3, fw7), rfl, (iv_w ik_1 (by decide)), by rw [ht]; exact hP, va_K.moved hW.alike hK, hD⟩, hS.F ht⟩) hS.2.2 dX0_seatsRest_9
set_option maxHeartbeats 4000000 in
set_option maxRecDepth 100000 in
theorem kX0_seatsRest_16 (l : Launch) (dC : Nat → ClassId) (dI : Nat → Nat → Nat) (cI c2 cZ : ClassId) (o1 : Nat) (o2 : Nat) (o4 : Nat) (o6 : Nat) (fw3 : Nat → Int32) (fw5 : Nat → Int32) (fw7 : Nat → Int32) (v8 : Int32) (v9 : Int32) (v10 : Int32) (v11 : Int32) (v12 : Int32) (a1 : Int32) (sz : Nat) (v8_h : Iv 0 12 v8) (v9_h : Iv 0 8 v9) (v11_h : Iv 0 1 v11) (a1_h : Iv 0 255 a1) : Met l yX0_seatsRest wsX0_seatsRest ({ frames := 2, cells := 0, slots := 0, locals := 48 }) (va_Pc [.ref o1, .int a1, .int 6] (wPre (dC, dI) [(cI, .int), (c2, .array .int), (cZ, .boolean)] ([(o1, .inr (0, [.ref o2, .ref o4, .ref o6, .int v8, .int v9, .int v10, .int v11, .int v12])), (o2, .inl (cI, 256, .inl fw3)), (o4, .inl (cI, 12, .inl fw5)), (o6, .inl (cI, 8, .inl fw7))]) sz)) (va_Qi (fun (r : Int32) (u : (Nat → Int32) × (Nat → Int32)) => Iv 0 1 r) (fun u t => wPost (dC, dI) [(cI, .int), (c2, .array .int), (cZ, .boolean)] (va_A ([(o1, .inr (0, [.ref o2, .ref o4, .ref o6, .int v8, .int v9, .int v10, .int v11, .int v12])), (o2, .inl (cI, 256, .inl fw3)), (o4, .inl (cI, 12, .inl fw5)), (o6, .inl (cI, 8, .inl fw7))]) sz) ([(o1, .inr (0, [.ref o2, .ref o4, .ref o6, .int v8, .int v9, .int v10, .int v11, .int v12])), (o2, .inl (cI, 256, .inl u.1)), (o4, .inl (cI, 12, .inl fw5)), (o6, .inl (cI, 8, .inl u.2))]) t) (va_A ([(o1, .inr (0, [.ref o2, .ref o4, .ref o6, .int v8, .int v9, .int v10, .int v11, .int v12])), (o2, .inl (cI, 256, .inl fw3)), (o4, .inl (cI, 12, .inl fw5)), (o6, .inl (cI, 8, .inl fw7))]) sz)) 0 0 (va_A ([(o1, .inr (0, [.ref o2, .ref o4, .ref o6, .int v8, .int v9, .int v10, .int v11, .int v12])), (o2, .inl (cI, 256, .inl fw3)), (o4, .inl (cI, 12, .inl fw5)), (o6, .inl (cI, 8, .inl fw7))]) sz) := by
  refine Met.ofW (cc := cX0_seatsRest) (maxL := 5) (ret := (some .boolean)) (by decide) rfl ?_
  intro p e s m args below meth c s₁ B hml hv
  obtain ⟨rfl, hsz, hP, hK, hD0, hN⟩ := hv
  have hx := B.exec
  have hb := B.bytes
  have hr := B.returns
  have hts := atoms_spec (ws := wsX0_seatsRest) B.pre
  have hown : s.vm.findClass RX0 = some m.cls := findClass_of_methodNamed B.named
  have hlocks := B.notSynchronized
  subst hsz
  have hD := hD0.self (sz := s.heap.size)
  generalize hAe : va_A ([(o1, .inr (0, [.ref o2, .ref o4, .ref o6, .int v8, .int v9, .int v10, .int v11, .int v12])), (o2, .inl (cI, 256, .inl fw3)), (o4, .inl (cI, 12, .inl fw5)), (o6, .inl (cI, 8, .inl fw7))]) s.heap.size = A at hD ⊢
  have hA : ∀ q : Nat, s.heap.size ≤ q → A q := fun q h => by rw [← hAe]; exact Or.inr h
  have hS : va_S A s.heap s.heap [] := va_S.rf
  have hP : va_P (dC, dI) vwCl ([(o1, .inr (0, [.ref o2, .ref o4, .ref o6, .int v8, .int v9, .int v10, .int v11, .int v12])), (o2, .inl (cI, 256, .inl fw3)), (o4, .inl (cI, 12, .inl fw5)), (o6, .inl (cI, 8, .inl fw7))]) s.heap := hP
  have hl := lv_entry ([.ref o1, .int a1, .int 6]) (n := 5) (Nat.le_of_ble_eq_true rfl)
  rw [lg_entry_eq]
  generalize (lg_sl ([.ref o1, .int a1, .int 6]) ++ List.replicate (5 - (lg_sl ([.ref o1, .int a1, .int 6])).length) Slot.unset).toArray = ls at hl ⊢
  have hl : lv_has ls 5 [(0, .ref o1), (1, .int a1), (2, .int 6)] := hl
  refine gen_Q (fun Q hQ => ?_)
  refine lv_iload_n hx hb dX0_seatsRest_0 rfl (lv_at hl 2 rfl) ?_
  refine lv_aload_n hx hb dX0_seatsRest_1 rfl (lv_at hl 0 rfl) ?_
  refine va_get (D := (dC, dI)) (ci := 0) (v := .int v9) (C := RX0) (T := TX0) (N := 8) hx hb hts iw_X0_seatsRest_X0 hown hK hP 0 rfl rfl 4 (by decide) (hts (.fieldLink RX0 25 "HolelessHouse$Benches" "width" "I") hm_X0_seatsRest_1) (fun _ h9 => h9) rfl dX0_seatsRest_2 ?_
  refine lv_icmp_lt (tgt := 10) hx hb dX0_seatsRest_5 (by decide) (fun h1 => ?_) (fun h1 => ?_)
  ·
    have qh1 := lt_i h1
    have j2 : Iv 7 8 v9 := r_ltr qh1 ik_6 v9_h (by decide)
    refine lv_aload_n hx hb dX0_seatsRest_10 rfl (lv_at hl 0 rfl) ?_
    refine va_get (D := (dC, dI)) (ci := 0) (v := .ref o2) (C := RX0) (T := TX0) (N := 8) hx hb hts iw_X0_seatsRest_X0 hown hK hP 0 rfl rfl 0 (by decide) (hts (.fieldLink RX0 38 "HolelessHouse$Benches" "notes" "[I") hm_X0_seatsRest_2) (fun _ h9 => h9) rfl dX0_seatsRest_11 ?_
    refine lv_iload_n hx hb dX0_seatsRest_14 rfl (lv_at hl 1 rfl) ?_
    refine va_iald hx hb hK hP 1 0 rfl rfl (vin_iv a1_h (by decide)) dX0_seatsRest_15 (lv_topi (fun x3 x3_e => ?_))
    refine lv_iconst (v := 1) hx hb dX0_seatsRest_16 (by decide) ?_
    refine lv_icmp_ne (tgt := 22) hx hb dX0_seatsRest_17 (by decide) (fun h4 => ?_) (fun h4 => ?_)
    ·
      refine lv_aload_n hx hb dX0_seatsRest_22 rfl (lv_at hl 0 rfl) ?_
      refine lv_iload_n hx hb dX0_seatsRest_23 rfl (lv_at hl 1 rfl) ?_
      refine kc_i (D := (dC, dI)) (S := Unit) (wc := [(o1, .inr (0, [.ref o2, .ref o4, .ref o6, .int v8, .int v9, .int v10, .int v11, .int v12])), (o4, .inl (cI, 12, .inl fw5))]) (wr := [(o2, .inl (cI, 256, .inl fw3)), (o6, .inl (cI, 8, .inl fw7))]) (w1 := fun _ => [(o1, .inr (0, [.ref o2, .ref o4, .ref o6, .int v8, .int v9, .int v10, .int v11, .int v12])), (o4, .inl (cI, 12, .inl fw5))]) (wn := fun _ => [(o1, .inr (0, [.ref o2, .ref o4, .ref o6, .int v8, .int v9, .int v10, .int v11, .int v12])), (o2, .inl (cI, 256, .inl fw3)), (o4, .inl (cI, 12, .inl fw5)), (o6, .inl (cI, 8, .inl fw7))]) (fun hPc hDc => va_runV (As := [.int a1]) (rest := []) ⟨hx, hb, hml, hown, hts⟩ (kX0_mayCome_2 l dC dI cI c2 cZ o1 o2 o4 o6 fw5 v8 v9 v10 v11 v12 a1 s.heap.size v8_h (iv_w j2 (by decide)) v11_h a1_h) (cwV 1 hts gX0_seatsRest_X0_mayCome rfl rfl rfl (by decide +kernel) ⟨Nat.le_of_ble_eq_true rfl, Nat.le_of_ble_eq_true rfl⟩) (pre_V hPc hK hDc hN (ci := 0) (q0 := 0) rfl rfl) rfl rfl hl.1 rfl (lv_room (Nat.le_of_ble_eq_true rfl)) dX0_seatsRest_24 ⟨Nat.le_of_ble_eq_true rfl, Nat.le_of_ble_eq_true rfl⟩) hP hD hS hA [0, 2] [1, 3] [2, 0, 3, 1] rfl rfl (by decide +kernel) (by decide +kernel) (by decide +kernel) (by decide +kernel) (fun _ => rfl) (fun x5 _ H locs hq hP hD hS => ?_)
      have x5_h := hq
      have hP : va_P (dC, dI) vwCl ([(o1, .inr (0, [.ref o2, .ref o4, .ref o6, .int v8, .int v9, .int v10, .int v11, .int v12])), (o2, .inl (cI, 256, .inl fw3)), (o4, .inl (cI, 12, .inl fw5)), (o6, .inl (cI, 8, .inl fw7))]) H := hP
      have hD : va_D A ([(o1, .inr (0, [.ref o2, .ref o4, .ref o6, .int v8, .int v9, .int v10, .int v11, .int v12])), (o2, .inl (cI, 256, .inl fw3)), (o4, .inl (cI, 12, .inl fw5)), (o6, .inl (cI, 8, .inl fw7))]) := hD
      refine lv_istore_n (lv' := [(3, .int x5), (0, .ref o1), (1, .int a1), (2, .int 6)]) hx hb dX0_seatsRest_27 rfl hl (by decide) rfl (fun ls hl => ?_)
      refine lv_iconst (v := 0) hx hb dX0_seatsRest_28 (by decide) ?_
      refine lv_istore (lv' := [(4, .int 0), (3, .int x5), (0, .ref o1), (1, .int a1), (2, .int 6)]) hx hb dX0_seatsRest_29 hl (by decide) rfl (fun ls hl => ?_)
      have L1 : ∀ (N : Nat) (x111 : Int32) (f112 : Nat → Int32) (f113 : Nat → Int32) (H : Heap) (locs : List Loc) (ls : Array Slot), (8 - x111.toInt).toNat < N → Iv 0 8 x111 → va_P (dC, dI) vwCl ([(o1, .inr (0, [.ref o2, .ref o4, .ref o6, .int v8, .int v9, .int v10, .int v11, .int v12])), (o2, .inl (cI, 256, .inl f112)), (o4, .inl (cI, 12, .inl fw5)), (o6, .inl (cI, 8, .inl f113))]) H → va_D A ([(o1, .inr (0, [.ref o2, .ref o4, .ref o6, .int v8, .int v9, .int v10, .int v11, .int v12])), (o2, .inl (cI, 256, .inl f112)), (o4, .inl (cI, 12, .inl fw5)), (o6, .inl (cI, 8, .inl f113))]) → va_S A s.heap H locs → lv_has ls 5 [(4, .int x111), (3, .int x5), (0, .ref o1), (1, .int a1), (2, .int 6)] → W p l e ({ frames := 2, cells := 0, slots := 0, locals := 48 }) s m ([.ref o1, .int a1, .int 6] : List Value).toArray below meth c H locs 0 0 Q (F0 m 31 ls []) := by
        intro N
        induction N with
        | zero =>
          intro x111 f112 f113 H locs ls hM
          exact absurd hM (Nat.not_lt_zero _)
        | succ N ih1 =>
          intro x111 f112 f113 H locs ls hM1 x111_h hP hD hS hl
          refine lv_iload hx hb dX0_seatsRest_31 (lv_at hl 0 rfl) ?_
          refine lv_aload_n hx hb dX0_seatsRest_33 rfl (lv_at hl 2 rfl) ?_
          refine va_get (D := (dC, dI)) (ci := 0) (v := .int v9) (C := RX0) (T := TX0) (N := 8) hx hb hts iw_X0_seatsRest_X0 hown hK hP 0 rfl rfl 4 (by decide) (hts (.fieldLink RX0 25 "HolelessHouse$Benches" "width" "I") hm_X0_seatsRest_1) (fun _ h9 => h9) rfl dX0_seatsRest_34 ?_
          refine lv_icmp_ge (tgt := 81) hx hb dX0_seatsRest_37 (by decide) (fun h114 => ?_) (fun h114 => ?_)
          ·
            have qh114 := le_i h114
            have j115 : Iv 7 8 x111 := r_ler qh114 j2 x111_h (by decide)
            refine lv_aload_n hx hb dX0_seatsRest_81 rfl (lv_at hl 2 rfl) ?_
            refine va_get (D := (dC, dI)) (ci := 0) (v := .ref o2) (C := RX0) (T := TX0) (N := 8) hx hb hts iw_X0_seatsRest_X0 hown hK hP 0 rfl rfl 0 (by decide) (hts (.fieldLink RX0 38 "HolelessHouse$Benches" "notes" "[I") hm_X0_seatsRest_2) (fun _ h9 => h9) rfl dX0_seatsRest_82 ?_
            refine lv_iload_n hx hb dX0_seatsRest_85 rfl (lv_at hl 3 rfl) ?_
            refine lv_iconst (v := 1) hx hb dX0_seatsRest_86 (by decide) ?_
            refine k_iast hx hb hK hP hD hS 1 0 rfl rfl (vin_iv a1_h (by decide)) dX0_seatsRest_87 (fun f116 H locs f116_e hP hD hS => ?_)
            have hP : va_P (dC, dI) vwCl ([(o1, .inr (0, [.ref o2, .ref o4, .ref o6, .int v8, .int v9, .int v10, .int v11, .int v12])), (o2, .inl (cI, 256, .inl f116)), (o4, .inl (cI, 12, .inl fw5)), (o6, .inl (cI, 8, .inl f113))]) H := hP
            have hD : va_D A ([(o1, .inr (0, [.ref o2, .ref o4, .ref o6, .int v8, .int v9, .int v10, .int v11, .int v12])), (o2, .inl (cI, 256, .inl f116)), (o4, .inl (cI, 12, .inl fw5)), (o6, .inl (cI, 8, .inl f113))]) := hD
            refine lv_iconst (v := 0) hx hb dX0_seatsRest_88 (by decide) ?_
            rw [hQ]
            exact W.zret (v := 0) (ty := .boolean) hx hb hr rfl (fun t ht hW => ⟨⟨0, (f116, f113), rfl, (iv_w ik_0 (by decide)), by rw [ht]; exact hP, va_K.moved hW.alike hK, hD⟩, hS.F ht⟩) hS.2.2 dX0_seatsRest_89
          ·
            have qh114 := nle_i h114
            have j117 : Iv 0 7 x111 := r_ltl qh114 x111_h j2 (by decide)
            refine lv_iload_n hx hb dX0_seatsRest_40 rfl (lv_at hl 1 rfl) ?_
            refine lv_iload hx hb dX0_seatsRest_41 (lv_at hl 0 rfl) ?_
            refine kc_i (D := (dC, dI)) (S := Unit) (wc := []) (wr := [(o1, .inr (0, [.ref o2, .ref o4, .ref o6, .int v8, .int v9, .int v10, .int v11, .int v12])), (o2, .inl (cI, 256, .inl f112)), (o4, .inl (cI, 12, .inl fw5)), (o6, .inl (cI, 8, .inl f113))]) (w1 := fun _ => []) (wn := fun _ => [(o1, .inr (0, [.ref o2, .ref o4, .ref o6, .int v8, .int v9, .int v10, .int v11, .int v12])), (o2, .inl (cI, 256, .inl f112)), (o4, .inl (cI, 12, .inl fw5)), (o6, .inl (cI, 8, .inl f113))]) (fun hPc hDc => va_runSN (As := [.int x5, .int x111]) (rest := []) ⟨hx, hb, hml, hown, hts⟩ (kX11_in_1 l dC dI cI c2 cZ x5 x111 H.size) ⟨va_cnB 2 hts gX0_seatsRest_X11_in_n62 rfl rfl rfl (hN.1 _ ns_125) (hts (.initialized RX11) hm_X0_seatsRest_12) (by decide +kernel) ⟨Nat.le_of_ble_eq_true rfl, Nat.le_of_ble_eq_true rfl⟩, (hts (.static yX11_in) hm_X0_seatsRest_11), trivial⟩ (pre_S hPc hK hDc hN) rfl rfl hl.1 rfl (lv_room (Nat.le_of_ble_eq_true rfl)) dX0_seatsRest_43 ⟨Nat.le_of_ble_eq_true rfl, Nat.le_of_ble_eq_true rfl⟩) hP hD hS hA [] [0, 1, 2, 3] [0, 1, 2, 3] rfl rfl (by decide +kernel) (by decide +kernel) (by decide +kernel) (by decide +kernel) (fun _ => rfl) (fun x118 _ H locs hq hP hD hS => ?_)
            have x118_h := hq
            have hP : va_P (dC, dI) vwCl ([(o1, .inr (0, [.ref o2, .ref o4, .ref o6, .int v8, .int v9, .int v10, .int v11, .int v12])), (o2, .inl (cI, 256, .inl f112)), (o4, .inl (cI, 12, .inl fw5)), (o6, .inl (cI, 8, .inl f113))]) H := hP
            have hD : va_D A ([(o1, .inr (0, [.ref o2, .ref o4, .ref o6, .int v8, .int v9, .int v10, .int v11, .int v12])), (o2, .inl (cI, 256, .inl f112)), (o4, .inl (cI, 12, .inl fw5)), (o6, .inl (cI, 8, .inl f113))]) := hD
            refine lv_if_eq (tgt := 75) hx hb dX0_seatsRest_46 (by decide) (fun h119 => ?_) (fun h119 => ?_)
            ·
              have j120 : Iv 0 0 x118 := r_eq h119 ik_0
              obtain ⟨x121, x121_e⟩ : ∃ z : Int32, z = x111 + 1 := ⟨_, rfl⟩
              have x121_h : Iv 1 8 x121 := iv_e x121_e (iv_add j117 ik_1 (by decide))
              refine lv_iinc (v := x121) (lv' := [(4, .int x121), (3, .int x5), (0, .ref o1), (1, .int a1), (2, .int 6)]) hx hb dX0_seatsRest_75 hl (k := 0) rfl (incN (by decide +kernel) x121_e) (by decide) rfl (fun ls hl => ?_)
              refine lv_goto (tgt := 31) hx hb dX0_seatsRest_78 (by decide) ?_
              exact ih1 x121 f112 f113 _ _ _ (ms_up x121_e j117 (by decide) hM1) (iv_w x121_h (by decide)) hP hD hS hl
            ·
              have j122 : Iv 1 1 x118 := r_nelo h119 x118_h ik_0 (by decide)
              refine lv_aload_n hx hb dX0_seatsRest_49 rfl (lv_at hl 2 rfl) ?_
              refine va_get (D := (dC, dI)) (ci := 0) (v := .ref o6) (C := RX0) (T := TX0) (N := 8) hx hb hts iw_X0_seatsRest_X0 hown hK hP 0 rfl rfl 2 (by decide) (hts (.fieldLink RX0 41 "HolelessHouse$Benches" "places" "[I") hm_X0_seatsRest_3) (fun _ h9 => h9) rfl dX0_seatsRest_50 ?_
              refine lv_iload_n hx hb dX0_seatsRest_53 rfl (lv_at hl 4 rfl) ?_
              refine lv_iload hx hb dX0_seatsRest_54 (lv_at hl 0 rfl) ?_
              refine k_iast hx hb hK hP hD hS 3 0 rfl rfl (vin_iv ik_6 (by decide)) dX0_seatsRest_56 (fun f123 H locs f123_e hP hD hS => ?_)
              have hP : va_P (dC, dI) vwCl ([(o1, .inr (0, [.ref o2, .ref o4, .ref o6, .int v8, .int v9, .int v10, .int v11, .int v12])), (o2, .inl (cI, 256, .inl f112)), (o4, .inl (cI, 12, .inl fw5)), (o6, .inl (cI, 8, .inl f123))]) H := hP
              have hD : va_D A ([(o1, .inr (0, [.ref o2, .ref o4, .ref o6, .int v8, .int v9, .int v10, .int v11, .int v12])), (o2, .inl (cI, 256, .inl f112)), (o4, .inl (cI, 12, .inl fw5)), (o6, .inl (cI, 8, .inl f123))]) := hD
              refine lv_aload_n hx hb dX0_seatsRest_57 rfl (lv_at hl 2 rfl) ?_
              refine lv_iload_n hx hb dX0_seatsRest_58 rfl (lv_at hl 3 rfl) ?_
              refine lv_iconst (v := 1) hx hb dX0_seatsRest_59 (by decide) ?_
              refine lv_iload hx hb dX0_seatsRest_60 (lv_at hl 0 rfl) ?_
              refine lv_ishl hx hb dX0_seatsRest_62 (lv_topi (fun x124 x124_e => ?_))
              have x124_h : Iv 1 128 x124 := iv_e x124_e (iv_shl1 j117 (by decide))
              refine lv_ior hx hb dX0_seatsRest_63 (lv_topi (fun x125 x125_e => ?_))
              have x125_h : Iv 0 255 x125 := iv_e x125_e (iv_or 8 a1_h x124_h (by decide))
              refine lv_iload_n hx hb dX0_seatsRest_64 rfl (lv_at hl 4 rfl) ?_
              refine lv_iconst (v := 1) hx hb dX0_seatsRest_65 (by decide) ?_
              refine lv_iadd hx hb dX0_seatsRest_66 (tk_i (v := 7) (by decide +kernel) ?_)
              refine kc_i (D := (dC, dI)) (S := (Nat → Int32) × (Nat → Int32)) (wc := [(o1, .inr (0, [.ref o2, .ref o4, .ref o6, .int v8, .int v9, .int v10, .int v11, .int v12])), (o2, .inl (cI, 256, .inl f112)), (o4, .inl (cI, 12, .inl fw5)), (o6, .inl (cI, 8, .inl f123))]) (wr := []) (w1 := fun u => [(o1, .inr (0, [.ref o2, .ref o4, .ref o6, .int v8, .int v9, .int v10, .int v11, .int v12])), (o2, .inl (cI, 256, .inl u.1)), (o4, .inl (cI, 12, .inl fw5)), (o6, .inl (cI, 8, .inl u.2))]) (wn := fun u => [(o1, .inr (0, [.ref o2, .ref o4, .ref o6, .int v8, .int v9, .int v10, .int v11, .int v12])), (o2, .inl (cI, 256, .inl u.1)), (o4, .inl (cI, 12, .inl fw5)), (o6, .inl (cI, 8, .inl u.2))]) (fun hPc hDc => va_runS (As := [.ref o1, .int x125, .int 7]) (rest := []) ⟨hx, hb, hml, hown, hts⟩ (kX0_seatsRest_15 l dC dI cI c2 cZ o1 o2 o4 o6 f112 fw5 f123 v8 v9 v10 v11 v12 x125 H.size v8_h (iv_w j2 (by decide)) v11_h x125_h) (va_cwS 3 hts gX0_seatsRest_X0_seatsRest rfl rfl rfl (by decide +kernel) ⟨Nat.le_of_ble_eq_true rfl, Nat.le_of_ble_eq_true rfl⟩) (pre_S hPc hK hDc hN) rfl rfl hl.1 rfl (lv_room (Nat.le_of_ble_eq_true rfl)) dX0_seatsRest_67 ⟨Nat.le_of_ble_eq_true rfl, Nat.le_of_ble_eq_true rfl⟩) hP hD hS hA [0, 1, 2, 3] [] [0, 1, 2, 3] rfl rfl (by decide +kernel) (by decide +kernel) (by decide +kernel) (by decide +kernel) (fun _ => rfl) (fun x128 u H locs hq hP hD hS => ?_)
              obtain ⟨f126, f127⟩ := u
              have x128_h := hq
              have hP : va_P (dC, dI) vwCl ([(o1, .inr (0, [.ref o2, .ref o4, .ref o6, .int v8, .int v9, .int v10, .int v11, .int v12])), (o2, .inl (cI, 256, .inl f126)), (o4, .inl (cI, 12, .inl fw5)), (o6, .inl (cI, 8, .inl f127))]) H := hP
              have hD : va_D A ([(o1, .inr (0, [.ref o2, .ref o4, .ref o6, .int v8, .int v9, .int v10, .int v11, .int v12])), (o2, .inl (cI, 256, .inl f126)), (o4, .inl (cI, 12, .inl fw5)), (o6, .inl (cI, 8, .inl f127))]) := hD
              refine lv_if_eq (tgt := 75) hx hb dX0_seatsRest_70 (by decide) (fun h129 => ?_) (fun h129 => ?_)
              ·
                have j130 : Iv 0 0 x128 := r_eq h129 ik_0
                obtain ⟨x131, x131_e⟩ : ∃ z : Int32, z = x111 + 1 := ⟨_, rfl⟩
                have x131_h : Iv 1 8 x131 := iv_e x131_e (iv_add j117 ik_1 (by decide))
                refine lv_iinc (v := x131) (lv' := [(4, .int x131), (3, .int x5), (0, .ref o1), (1, .int a1), (2, .int 6)]) hx hb dX0_seatsRest_75 hl (k := 0) rfl (incN (by decide +kernel) x131_e) (by decide) rfl (fun ls hl => ?_)
                refine lv_goto (tgt := 31) hx hb dX0_seatsRest_78 (by decide) ?_
                exact ih1 x131 f126 f127 _ _ _ (ms_up x131_e j117 (by decide) hM1) (iv_w x131_h (by decide)) hP hD hS hl
              ·
                have j132 : Iv 1 1 x128 := r_nelo h129 x128_h ik_0 (by decide)
                refine lv_iconst (v := 1) hx hb dX0_seatsRest_73 (by decide) ?_
                rw [hQ]
                exact W.zret (v := 1) (ty := .boolean) hx hb hr rfl (fun t ht hW => ⟨⟨1, (f126, f127), rfl, (iv_w ik_1 (by decide)), by rw [ht]; exact hP, va_K.moved hW.alike hK, hD⟩, hS.F ht⟩) hS.2.2 dX0_seatsRest_74
      exact L1 _ 0 fw3 fw7 _ _ _ (Nat.lt_succ_self _) (iv_w ik_0 (by decide)) hP hD hS hl
    ·
      have j133 : Iv 1 1 x3 := r_eq h4 ik_1
      refine lv_iconst (v := 0) hx hb dX0_seatsRest_20 (by decide) ?_
      rw [hQ]
      exact W.zret (v := 0) (ty := .boolean) hx hb hr rfl (fun t ht hW => ⟨⟨0, (fw3, fw7), rfl, (iv_w ik_0 (by decide)), by rw [ht]; exact hP, va_K.moved hW.alike hK, hD⟩, hS.F ht⟩) hS.2.2 dX0_seatsRest_21
  ·
    have qh1 := nlt_i h1
    have j134 : Iv 0 6 v9 := r_lel qh1 v9_h ik_6 (by decide)
    refine lv_iconst (v := 1) hx hb dX0_seatsRest_8 (by decide) ?_
    rw [hQ]
    exact W.zret (v := 1) (ty := .boolean) hx hb hr rfl (fun t ht hW => ⟨⟨1, (fw3, fw7), rfl, (iv_w ik_1 (by decide)), by rw [ht]; exact hP, va_K.moved hW.alike hK, hD⟩, hS.F ht⟩) hS.2.2 dX0_seatsRest_9
