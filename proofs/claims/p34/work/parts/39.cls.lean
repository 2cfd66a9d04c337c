theorem hm_X11_least_1 : (.fieldLink RX11 26 "HolelessHouse" "ordering" "LHolelessHouse$Ordering;" : Cond) ∈ wsX11_least := List.mem_of_getElem? (i := 1) rfl
theorem hm_X11_least_2 : (.fieldLink RX11 10 "HolelessHouse" "graph" "LHolelessHouse$Graph;" : Cond) ∈ wsX11_least := List.mem_of_getElem? (i := 2) rfl
theorem hm_X11_least_4 : (.initialized RX6 : Cond) ∈ wsX11_least := List.mem_of_getElem? (i := 4) rfl
theorem hm_X11_least_3 : (.instanceMethod yX6_followLeast : Cond) ∈ wsX11_least := List.mem_of_getElem? (i := 3) rfl
theorem hm_X11_least_5 : (.selects RX6 yX6_followLeast yX6_followLeast : Cond) ∈ wsX11_least := List.mem_of_getElem? (i := 5) rfl
theorem hm_X6_length_1 : (.fieldLink RX6 39 "HolelessHouse$Ordering" "there" "Z" : Cond) ∈ wsX6_length := List.mem_of_getElem? (i := 1) rfl
theorem hm_X6_length_2 : (.fieldLink RX6 36 "HolelessHouse$Ordering" "size" "I" : Cond) ∈ wsX6_length := List.mem_of_getElem? (i := 2) rfl
theorem hm_X11_order_1 : (.fieldLink RX11 26 "HolelessHouse" "ordering" "LHolelessHouse$Ordering;" : Cond) ∈ wsX11_order := List.mem_of_getElem? (i := 1) rfl
theorem hm_X11_order_3 : (.initialized RX6 : Cond) ∈ wsX11_order := List.mem_of_getElem? (i := 3) rfl
theorem hm_X11_order_2 : (.instanceMethod yX6_length : Cond) ∈ wsX11_order := List.mem_of_getElem? (i := 2) rfl
theorem hm_X11_order_4 : (.selects RX6 yX6_length yX6_length : Cond) ∈ wsX11_order := List.mem_of_getElem? (i := 4) rfl
theorem hm_X11_about_1 : (.fieldLink RX11 26 "HolelessHouse" "ordering" "LHolelessHouse$Ordering;" : Cond) ∈ wsX11_about := List.mem_of_getElem? (i := 1) rfl
theorem hm_X6_fillIn_1 : (.fieldLink RX6 12 "HolelessHouse$Ordering" "going" "LHolelessHouse$Going;" : Cond) ∈ wsX6_fillIn := List.mem_of_getElem? (i := 1) rfl
theorem hm_X6_fillIn_5 : (.initialized RX3 : Cond) ∈ wsX6_fillIn := List.mem_of_getElem? (i := 5) rfl
theorem hm_X6_fillIn_4 : (.instanceMethod yX3_start : Cond) ∈ wsX6_fillIn := List.mem_of_getElem? (i := 4) rfl
theorem hm_X6_fillIn_6 : (.selects RX3 yX3_start yX3_start : Cond) ∈ wsX6_fillIn := List.mem_of_getElem? (i := 6) rfl
theorem hm_X6_fillIn_2 : (.fieldLink RX6 36 "HolelessHouse$Ordering" "size" "I" : Cond) ∈ wsX6_fillIn := List.mem_of_getElem? (i := 2) rfl
theorem hm_X6_fillIn_3 : (.fieldLink RX6 25 "HolelessHouse$Ordering" "places" "[I" : Cond) ∈ wsX6_fillIn := List.mem_of_getElem? (i := 3) rfl
theorem hm_X6_fillIn_15 : (.initialized RX4 : Cond) ∈ wsX6_fillIn := List.mem_of_getElem? (i := 15) rfl
theorem hm_X6_fillIn_14 : (.instanceMethod yX4_joinAll : Cond) ∈ wsX6_fillIn := List.mem_of_getElem? (i := 14) rfl
theorem hm_X6_fillIn_16 : (.selects RX4 yX4_joinAll yX4_joinAll : Cond) ∈ wsX6_fillIn := List.mem_of_getElem? (i := 16) rfl
theorem hm_X6_fillIn_24 : (.instanceMethod yX3_leave : Cond) ∈ wsX6_fillIn := List.mem_of_getElem? (i := 24) rfl
theorem hm_X6_fillIn_25 : (.selects RX3 yX3_leave yX3_leave : Cond) ∈ wsX6_fillIn := List.mem_of_getElem? (i := 25) rfl
theorem hm_X11_fill_1 : (.fieldLink RX11 26 "HolelessHouse" "ordering" "LHolelessHouse$Ordering;" : Cond) ∈ wsX11_fill := List.mem_of_getElem? (i := 1) rfl
theorem hm_X11_fill_2 : (.fieldLink RX11 10 "HolelessHouse" "graph" "LHolelessHouse$Graph;" : Cond) ∈ wsX11_fill := List.mem_of_getElem? (i := 2) rfl
theorem hm_X11_fill_4 : (.initialized RX6 : Cond) ∈ wsX11_fill := List.mem_of_getElem? (i := 4) rfl
theorem hm_X11_fill_3 : (.instanceMethod yX6_fillIn : Cond) ∈ wsX11_fill := List.mem_of_getElem? (i := 3) rfl
theorem hm_X11_fill_5 : (.selects RX6 yX6_fillIn yX6_fillIn : Cond) ∈ wsX11_fill := List.mem_of_getElem? (i := 5) rfl
theorem hm_X11_fill_40 : (.instanceMethod yX6_drop : Cond) ∈ wsX11_fill := List.mem_of_getElem? (i := 40) rfl
theorem hm_X11_fill_41 : (.selects RX6 yX6_drop yX6_drop : Cond) ∈ wsX11_fill := List.mem_of_getElem? (i := 41) rfl
theorem hm_X1_canNotBeGreat_3 : (.initialized RX11 : Cond) ∈ wsX1_canNotBeGreat := List.mem_of_getElem? (i := 3) rfl
theorem hm_X1_canNotBeGreat_2 : (.static yX11_in : Cond) ∈ wsX1_canNotBeGreat := List.mem_of_getElem? (i := 2) rfl
theorem hm_X1_canNotBeGreat_1 : (.fieldLink RX1 9 "HolelessHouse$Cliques" "near" "[I" : Cond) ∈ wsX1_canNotBeGreat := List.mem_of_getElem? (i := 1) rfl
theorem hm_J6_numberOfLeadingZeros_0f7a4_1 : (.constant RJ6 264 (65536) : Cond) ∈ wsJ6_numberOfLeadingZeros_0f7a4 := List.mem_of_getElem? (i := 1) rfl
theorem hm_X1_keep_1 : (.fieldLink RX1 24 "HolelessHouse$Cliques" "size" "I" : Cond) ∈ wsX1_keep := List.mem_of_getElem? (i := 1) rfl
theorem hm_X1_keep_2 : (.fieldLink RX1 15 "HolelessHouse$Cliques" "sets" "[I" : Cond) ∈ wsX1_keep := List.mem_of_getElem? (i := 2) rfl
theorem hm_X1_gather_1 : (.fieldLink RX1 9 "HolelessHouse$Cliques" "near" "[I" : Cond) ∈ wsX1_gather := List.mem_of_getElem? (i := 1) rfl
theorem iw_X11_least_X11 : ∀ w ∈ wsX110, w ∈ wsX11_least := fun _ h => List.mem_cons.mpr (Or.inr (List.mem_append.mpr (Or.inl (List.mem_append.mpr (Or.inl (List.mem_append.mpr (Or.inl (List.mem_append.mpr (Or.inl (List.mem_append.mpr (Or.inr h)))))))))))
theorem iw_X11_least_X6 : ∀ w ∈ wsX60, w ∈ wsX11_least := fun _ h => List.mem_cons.mpr (Or.inr (List.mem_append.mpr (Or.inl (List.mem_append.mpr (Or.inl (List.mem_append.mpr (Or.inl (List.mem_append.mpr (Or.inr h)))))))))
set_option maxHeartbeats 4000000 in
set_option maxRecDepth 100000 in
theorem kX11_least_1 (l : Launch) (dC : Nat → ClassId) (dI : Nat → Nat → Nat) (cI c2 cZ : ClassId) (o1 : Nat) (o2 : Nat) (o7 : Nat) (o12 : Nat) (o41 : Nat) (o51 : Nat) (o64 : Nat) (o77 : Nat) (o84 : Nat) (o91 : Nat) (o99 : Nat) (o111 : Nat) (o123 : Nat) (o13 : Nat) (o18 : Nat) (o32 : Nat) (o34 : Nat) (o14 : Nat) (o3 : Nat) (o19 : Nat) (o24 : Nat) (o26 : Nat) (o20 : Nat) (fw4 : Nat → Int32) (v5 : Int32) (v6 : Int32) (rw15 : Nat → Nat) (Gw16 : Nat → Nat → Int32) (v17 : Int32) (rw21 : Nat → Nat) (Gw22 : Nat → Nat → Int32) (v23 : Int32) (fw25 : Nat → Int32) (rw27 : Nat → Nat) (Gw28 : Nat → Nat → Int32) (v29 : Int32) (v30 : Int32) (v31 : Int32) (fw33 : Nat → Int32) (v36 : Int32) (v37 : Int32) (v38 : Int32) (v39 : Int32) (v40 : Int32) (v125 : Int32) (a1 : Int32) (sz : Nat) (fw4_b : Bd 12 0 4095 fw4) (v5_h : Iv 0 12 v5) (Gw16_b : Bg 13 12 0 4095 Gw16) (v17_h : Iv 0 12 v17) (Gw22_b : Bg 13 12 0 4095 Gw22) (v23_h : Iv 0 12 v23) (v30_h : Iv 0 4095 v30) (v31_h : Iv 0 12 v31) (fw33_b : Bd 12 0 11 fw33) (v36_h : Iv 0 12 v36) (v37_h : Iv 0 12 v37) (v38_h : Iv 0 1 v38) : Met l yX11_least wsX11_least ({ frames := 18, cells := 0, slots := 0, locals := 532 }) (va_Pc [.ref o1, .int a1] (wPre (dC, dI) [(cI, .int), (c2, .array .int), (cZ, .boolean)] (([(o1, .inr (11, [.ref o2, .ref o7, .ref o12, .ref o41, .ref o51, .ref o64, .ref o77, .ref o84, .ref o91, .ref o99, .ref o111, .ref o123, .int v125])), (o12, .inr (6, [.ref o13, .ref o18, .ref o32, .ref o34, .int v36, .int v37, .int v38, .int v39, .int v40])), (o13, .inr (3, [.ref o14, .int v17])), (o2, .inr (4, [.ref o3, .int v5, .int v6])), (o14, .inl (c2, 13, .inr (.inr (.inr (.inr (fun i => if i < 13 then some (rw15 i) else none)))))), (o3, .inl (cI, 12, .inl fw4)), (o18, .inr (5, [.ref o19, .ref o24, .ref o26, .int v29, .int v30, .int v31])), (o19, .inr (3, [.ref o20, .int v23])), (o20, .inl (c2, 13, .inr (.inr (.inr (.inr (fun i => if i < 13 then some (rw21 i) else none)))))), (o24, .inl (cI, 4096, .inl fw25)), (o26, .inl (c2, 12, .inr (.inr (.inr (.inr (fun i => if i < 12 then some (rw27 i) else none)))))), (o32, .inl (cI, 12, .inl fw33))] : va_W) ++ (gr13 rw15 cI 12 Gw16 ++ (gr13 rw21 cI 12 Gw22 ++ (gr12 rw27 cI 12 Gw28 ++ ([] : va_W))))) sz)) (va_Qi (fun (r : Int32) (u : Int32 × Int32 × Int32 × Int32 × Int32 × (Nat → Nat → Int32) × Int32 × Int32 × Int32 × Int32 × (Nat → Nat → Int32) × (Nat → Int32) × (Nat → Nat → Int32) × (Nat → Int32)) => Iv 0 12 u.1 ∧ Iv 0 1 u.2.1 ∧ Iv 0 12 u.2.2.2.2.1 ∧ Bg 13 12 0 4095 u.2.2.2.2.2.1 ∧ Iv 0 4095 u.2.2.2.2.2.2.2.1 ∧ Iv 0 12 u.2.2.2.2.2.2.2.2.1 ∧ Iv 0 12 u.2.2.2.2.2.2.2.2.2.1 ∧ Bg 13 12 0 4095 u.2.2.2.2.2.2.2.2.2.2.1 ∧ Bd 12 0 11 u.2.2.2.2.2.2.2.2.2.2.2.2.2) (fun u t => wPost (dC, dI) [(cI, .int), (c2, .array .int), (cZ, .boolean)] (va_A (([(o1, .inr (11, [.ref o2, .ref o7, .ref o12, .ref o41, .ref o51, .ref o64, .ref o77, .ref o84, .ref o91, .ref o99, .ref o111, .ref o123, .int v125])), (o12, .inr (6, [.ref o13, .ref o18, .ref o32, .ref o34, .int v36, .int v37, .int v38, .int v39, .int v40])), (o13, .inr (3, [.ref o14, .int v17])), (o2, .inr (4, [.ref o3, .int v5, .int v6])), (o14, .inl (c2, 13, .inr (.inr (.inr (.inr (fun i => if i < 13 then some (rw15 i) else none)))))), (o3, .inl (cI, 12, .inl fw4)), (o18, .inr (5, [.ref o19, .ref o24, .ref o26, .int v29, .int v30, .int v31])), (o19, .inr (3, [.ref o20, .int v23])), (o20, .inl (c2, 13, .inr (.inr (.inr (.inr (fun i => if i < 13 then some (rw21 i) else none)))))), (o24, .inl (cI, 4096, .inl fw25)), (o26, .inl (c2, 12, .inr (.inr (.inr (.inr (fun i => if i < 12 then some (rw27 i) else none)))))), (o32, .inl (cI, 12, .inl fw33))] : va_W) ++ (gr13 rw15 cI 12 Gw16 ++ (gr13 rw21 cI 12 Gw22 ++ (gr12 rw27 cI 12 Gw28 ++ ([] : va_W))))) sz) (([(o1, .inr (11, [.ref o2, .ref o7, .ref o12, .ref o41, .ref o51, .ref o64, .ref o77, .ref o84, .ref o91, .ref o99, .ref o111, .ref o123, .int v125])), (o12, .inr (6, [.ref o13, .ref o18, .ref o32, .ref o34, .int v36, .int u.1, .int u.2.1, .int u.2.2.1, .int u.2.2.2.1])), (o13, .inr (3, [.ref o14, .int u.2.2.2.2.1])), (o2, .inr (4, [.ref o3, .int v5, .int v6])), (o14, .inl (c2, 13, .inr (.inr (.inr (.inr (fun i => if i < 13 then some (rw15 i) else none)))))), (o3, .inl (cI, 12, .inl fw4)), (o18, .inr (5, [.ref o19, .ref o24, .ref o26, .int u.2.2.2.2.2.2.1, .int u.2.2.2.2.2.2.2.1, .int u.2.2.2.2.2.2.2.2.1])), (o19, .inr (3, [.ref o20, .int u.2.2.2.2.2.2.2.2.2.1])), (o20, .inl (c2, 13, .inr (.inr (.inr (.inr (fun i => if i < 13 then some (rw21 i) else none)))))), (o24, .inl (cI, 4096, .inl u.2.2.2.2.2.2.2.2.2.2.2.1)), (o26, .inl (c2, 12, .inr (.inr (.inr (.inr (fun i => if i < 12 then some (rw27 i) else none)))))), (o32, .inl (cI, 12, .inl u.2.2.2.2.2.2.2.2.2.2.2.2.2))] : va_W) ++ (gr13 rw15 cI 12 u.2.2.2.2.2.1 ++ (gr13 rw21 cI 12 u.2.2.2.2.2.2.2.2.2.2.1 ++ (gr12 rw27 cI 12 u.2.2.2.2.2.2.2.2.2.2.2.2.1 ++ ([] : va_W))))) t) (va_A (([(o1, .inr (11, [.ref o2, .ref o7, .ref o12, .ref o41, .ref o51, .ref o64, .ref o77, .ref o84, .ref o91, .ref o99, .ref o111, .ref o123, .int v125])), (o12, .inr (6, [.ref o13, .ref o18, .ref o32, .ref o34, .int v36, .int v37, .int v38, .int v39, .int v40])), (o13, .inr (3, [.ref o14, .int v17])), (o2, .inr (4, [.ref o3, .int v5, .int v6])), (o14, .inl (c2, 13, .inr (.inr (.inr (.inr (fun i => if i < 13 then some (rw15 i) else none)))))), (o3, .inl (cI, 12, .inl fw4)), (o18, .inr (5, [.ref o19, .ref o24, .ref o26, .int v29, .int v30, .int v31])), (o19, .inr (3, [.ref o20, .int v23])), (o20, .inl (c2, 13, .inr (.inr (.inr (.inr (fun i => if i < 13 then some (rw21 i) else none)))))), (o24, .inl (cI, 4096, .inl fw25)), (o26, .inl (c2, 12, .inr (.inr (.inr (.inr (fun i => if i < 12 then some (rw27 i) else none)))))), (o32, .inl (cI, 12, .inl fw33))] : va_W) ++ (gr13 rw15 cI 12 Gw16 ++ (gr13 rw21 cI 12 Gw22 ++ (gr12 rw27 cI 12 Gw28 ++ ([] : va_W))))) sz)) 0 0 (va_A (([(o1, .inr (11, [.ref o2, .ref o7, .ref o12, .ref o41, .ref o51, .ref o64, .ref o77, .ref o84, .ref o91, .ref o99, .ref o111, .ref o123, .int v125])), (o12, .inr (6, [.ref o13, .ref o18, .ref o32, .ref o34, .int v36, .int v37, .int v38, .int v39, .int v40])), (o13, .inr (3, [.ref o14, .int v17])), (o2, .inr (4, [.ref o3, .int v5, .int v6])), (o14, .inl (c2, 13, .inr (.inr (.inr (.inr (fun i => if i < 13 then some (rw15 i) else none)))))), (o3, .inl (cI, 12, .inl fw4)), (o18, .inr (5, [.ref o19, .ref o24, .ref o26, .int v29, .int v30, .int v31])), (o19, .inr (3, [.ref o20, .int v23])), (o20, .inl (c2, 13, .inr (.inr (.inr (.inr (fun i => if i < 13 then some (rw21 i) else none)))))), (o24, .inl (cI, 4096, .inl fw25)), (o26, .inl (c2, 12, .inr (.inr (.inr (.inr (fun i => if i < 12 then some (rw27 i) else none)))))), (o32, .inl (cI, 12, .inl fw33))] : va_W) ++ (gr13 rw15 cI 12 Gw16 ++ (gr13 rw21 cI 12 Gw22 ++ (gr12 rw27 cI 12 Gw28 ++ ([] : va_W))))) sz) := by
  refine Met.ofW (cc := cX11_least) (maxL := 2) (ret := (some .int)) (by decide) rfl ?_
  intro p e s m args below meth c s₁ B hml hv
  obtain ⟨rfl, hsz, hP, hK, hD0, hN⟩ := hv
  have hx := B.exec
  have hb := B.bytes
  have hr := B.returns
  have hts := atoms_spec (ws := wsX11_least) B.pre
  have hown : s.vm.findClass RX11 = some m.cls := findClass_of_methodNamed B.named
  have hlocks := B.notSynchronized
  subst hsz
  have hD := hD0.self (sz := s.heap.size)
  generalize hAe : va_A (([(o1, .inr (11, [.ref o2, .ref o7, .ref o12, .ref o41, .ref o51, .ref o64, .ref o77, .ref o84, .ref o91, .ref o99, .ref o111, .ref o123, .int v125])), (o12, .inr (6, [.ref o13, .ref o18, .ref o32, .ref o34, .int v36, .int v37, .int v38, .int v39, .int v40])), (o13, .inr (3, [.ref o14, .int v17])), (o2, .inr (4, [.ref o3, .int v5, .int v6])), (o14, .inl (c2, 13, .inr (.inr (.inr (.inr (fun i => if i < 13 then some (rw15 i) else none)))))), (o3, .inl (cI, 12, .inl fw4)), (o18, .inr (5, [.ref o19, .ref o24, .ref o26, .int v29, .int v30, .int v31])), (o19, .inr (3, [.ref o20, .int v23])), (o20, .inl (c2, 13, .inr (.inr (.inr (.inr (fun i => if i < 13 then some (rw21 i) else none)))))), (o24, .inl (cI, 4096, .inl fw25)), (o26, .inl (c2, 12, .inr (.inr (.inr (.inr (fun i => if i < 12 then some (rw27 i) else none)))))), (o32, .inl (cI, 12, .inl fw33))] : va_W) ++ (gr13 rw15 cI 12 Gw16 ++ (gr13 rw21 cI 12 Gw22 ++ (gr12 rw27 cI 12 Gw28 ++ ([] : va_W))))) s.heap.size = A at hD ⊢
  have hA : ∀ q : Nat, s.heap.size ≤ q → A q := fun q h => by rw [← hAe]; exact Or.inr h
  have hS : va_S A s.heap s.heap [] := va_S.rf
  have hP : va_P (dC, dI) vwCl (([(o1, .inr (11, [.ref o2, .ref o7, .ref o12, .ref o41, .ref o51, .ref o64, .ref o77, .ref o84, .ref o91, .ref o99, .ref o111, .ref o123, .int v125])), (o12, .inr (6, [.ref o13, .ref o18, .ref o32, .ref o34, .int v36, .int v37, .int v38, .int v39, .int v40])), (o13, .inr (3, [.ref o14, .int v17])), (o2, .inr (4, [.ref o3, .int v5, .int v6])), (o14, .inl (c2, 13, .inr (.inr (.inr (.inr (fun i => if i < 13 then some (rw15 i) else none)))))), (o3, .inl (cI, 12, .inl fw4)), (o18, .inr (5, [.ref o19, .ref o24, .ref o26, .int v29, .int v30, .int v31])), (o19, .inr (3, [.ref o20, .int v23])), (o20, .inl (c2, 13, .inr (.inr (.inr (.inr (fun i => if i < 13 then some (rw21 i) else none)))))), (o24, .inl (cI, 4096, .inl fw25)), (o26, .inl (c2, 12, .inr (.inr (.inr (.inr (fun i => if i < 12 then some (rw27 i) else none)))))), (o32, .inl (cI, 12, .inl fw33))] : va_W) ++ (gr13 rw15 cI 12 Gw16 ++ (gr13 rw21 cI 12 Gw22 ++ (gr12 rw27 cI 12 Gw28 ++ ([] : va_W))))) s.heap := hP
  have hl := lv_entry ([.ref o1, .int a1]) (n := 2) (Nat.le_of_ble_eq_true rfl)
  rw [lg_entry_eq]
  generalize (lg_sl ([.ref o1, .int a1]) ++ List.replicate (2 - (lg_sl ([.ref o1, .int a1])).length) Slot.unset).toArray = ls at hl ⊢
  have hl : lv_has ls 2 [(0, .ref o1), (1, .int a1)] := hl
  refine gen_Q (fun Q hQ => ?_)
  refine lv_iload_n hx hb dX11_least_0 rfl (lv_at hl 1 rfl) ?_
  refine lv_if_eq (tgt := 11) hx hb dX11_least_1 (by decide) (fun h1 => ?_) (fun h1 => ?_)
  ·
    have j2 : Iv 0 0 a1 := r_eq h1 ik_0
    refine lv_aload_n hx hb dX11_least_11 rfl (lv_at hl 0 rfl) ?_
    refine va_get (D := (dC, dI)) (ci := 11) (v := .ref o12) (C := RX11) (T := TX11) (N := 13) hx hb hts iw_X11_least_X11 hown hK hP 0 rfl rfl 2 (by decide) (hts (.fieldLink RX11 26 "HolelessHouse" "ordering" "LHolelessHouse$Ordering;") hm_X11_least_1) (fun _ h9 => h9) rfl dX11_least_12 ?_
    refine lv_aload_n hx hb dX11_least_15 rfl (lv_at hl 0 rfl) ?_
    refine va_get (D := (dC, dI)) (ci := 11) (v := .ref o2) (C := RX11) (T := TX11) (N := 13) hx hb hts iw_X11_least_X11 hown hK hP 0 rfl rfl 0 (by decide) (hts (.fieldLink RX11 10 "HolelessHouse" "graph" "LHolelessHouse$Graph;") hm_X11_least_2) (fun _ h9 => h9) rfl dX11_least_16 ?_
    refine lv_iload_n hx hb dX11_least_19 rfl (lv_at hl 1 rfl) ?_
    refine kc_v (D := (dC, dI)) (S := Int32 × Int32 × Int32 × Int32 × Int32 × (Nat → Nat → Int32) × Int32 × Int32 × Int32 × Int32 × (Nat → Nat → Int32) × (Nat → Int32) × (Nat → Nat → Int32) × (Nat → Int32)) (wc := ([(o12, .inr (6, [.ref o13, .ref o18, .ref o32, .ref o34, .int v36, .int v37, .int v38, .int v39, .int v40])), (o13, .inr (3, [.ref o14, .int v17])), (o2, .inr (4, [.ref o3, .int v5, .int v6])), (o14, .inl (c2, 13, .inr (.inr (.inr (.inr (fun i => if i < 13 then some (rw15 i) else none)))))), (o3, .inl (cI, 12, .inl fw4)), (o18, .inr (5, [.ref o19, .ref o24, .ref o26, .int v29, .int v30, .int v31])), (o19, .inr (3, [.ref o20, .int v23])), (o20, .inl (c2, 13, .inr (.inr (.inr (.inr (fun i => if i < 13 then some (rw21 i) else none)))))), (o24, .inl (cI, 4096, .inl fw25)), (o26, .inl (c2, 12, .inr (.inr (.inr (.inr (fun i => if i < 12 then some (rw27 i) else none)))))), (o32, .inl (cI, 12, .inl fw33))] : va_W) ++ (gr13 rw15 cI 12 Gw16 ++ (gr13 rw21 cI 12 Gw22 ++ (gr12 rw27 cI 12 Gw28 ++ ([] : va_W))))) (wr := [(o1, .inr (11, [.ref o2, .ref o7, .ref o12, .ref o41, .ref o51, .ref o64, .ref o77, .ref o84, .ref o91, .ref o99, .ref o111, .ref o123, .int v125]))]) (w1 := fun u => ([(o12, .inr (6, [.ref o13, .ref o18, .ref o32, .ref o34, .int v36, .int u.1, .int u.2.1, .int u.2.2.1, .int u.2.2.2.1])), (o13, .inr (3, [.ref o14, .int u.2.2.2.2.1])), (o2, .inr (4, [.ref o3, .int v5, .int v6])), (o14, .inl (c2, 13, .inr (.inr (.inr (.inr (fun i => if i < 13 then some (rw15 i) else none)))))), (o3, .inl (cI, 12, .inl fw4)), (o18, .inr (5, [.ref o19, .ref o24, .ref o26, .int u.2.2.2.2.2.2.1, .int u.2.2.2.2.2.2.2.1, .int u.2.2.2.2.2.2.2.2.1])), (o19, .inr (3, [.ref o20, .int u.2.2.2.2.2.2.2.2.2.1])), (o20, .inl (c2, 13, .inr (.inr (.inr (.inr (fun i => if i < 13 then some (rw21 i) else none)))))), (o24, .inl (cI, 4096, .inl u.2.2.2.2.2.2.2.2.2.2.2.1)), (o26, .inl (c2, 12, .inr (.inr (.inr (.inr (fun i => if i < 12 then some (rw27 i) else none)))))), (o32, .inl (cI, 12, .inl u.2.2.2.2.2.2.2.2.2.2.2.2.2))] : va_W) ++ (gr13 rw15 cI 12 u.2.2.2.2.2.1 ++ (gr13 rw21 cI 12 u.2.2.2.2.2.2.2.2.2.2.1 ++ (gr12 rw27 cI 12 u.2.2.2.2.2.2.2.2.2.2.2.2.1 ++ ([] : va_W))))) (wn := fun u => ([(o1, .inr (11, [.ref o2, .ref o7, .ref o12, .ref o41, .ref o51, .ref o64, .ref o77, .ref o84, .ref o91, .ref o99, .ref o111, .ref o123, .int v125])), (o12, .inr (6, [.ref o13, .ref o18, .ref o32, .ref o34, .int v36, .int u.1, .int u.2.1, .int u.2.2.1, .int u.2.2.2.1])), (o13, .inr (3, [.ref o14, .int u.2.2.2.2.1])), (o2, .inr (4, [.ref o3, .int v5, .int v6])), (o14, .inl (c2, 13, .inr (.inr (.inr (.inr (fun i => if i < 13 then some (rw15 i) else none)))))), (o3, .inl (cI, 12, .inl fw4)), (o18, .inr (5, [.ref o19, .ref o24, .ref o26, .int u.2.2.2.2.2.2.1, .int u.2.2.2.2.2.2.2.1, .int u.2.2.2.2.2.2.2.2.1])), (o19, .inr (3, [.ref o20, .int u.2.2.2.2.2.2.2.2.2.1])), (o20, .inl (c2, 13, .inr (.inr (.inr (.inr (fun i => if i < 13 then some (rw21 i) else none)))))), (o24, .inl (cI, 4096, .inl u.2.2.2.2.2.2.2.2.2.2.2.1)), (o26, .inl (c2, 12, .inr (.inr (.inr (.inr (fun i => if i < 12 then some (rw27 i) else none)))))), (o32, .inl (cI, 12, .inl u.2.2.2.2.2.2.2.2.2.2.2.2.2))] : va_W) ++ (gr13 rw15 cI 12 u.2.2.2.2.2.1 ++ (gr13 rw21 cI 12 u.2.2.2.2.2.2.2.2.2.2.1 ++ (gr12 rw27 cI 12 u.2.2.2.2.2.2.2.2.2.2.2.2.1 ++ ([] : va_W))))) (fun hPc hDc => va_runVN (As := [.ref o2, .int a1]) (rest := []) ⟨hx, hb, hml, hown, hts⟩ (kX6_followLeast_1 l dC dI cI c2 cZ o12 o2 o13 o18 o32 o34 o14 o3 o19 o24 o26 o20 rw15 Gw16 v17 rw21 Gw22 v23 fw25 rw27 Gw28 v29 v30 v31 fw33 v36 v37 v38 v39 v40 fw4 v5 v6 a1 s.heap.size Gw16_b v17_h Gw22_b v23_h v30_h v31_h fw33_b v36_h v37_h v38_h fw4_b v5_h (iv_w j2 (by decide))) ⟨va_cnB 2 hts gX11_least_X6_followLeast_n177 rfl rfl rfl (hN.1 _ ns_91) (hts (.initialized RX6) hm_X11_least_4) (by decide +kernel) ⟨Nat.le_of_ble_eq_true rfl, Nat.le_of_ble_eq_true rfl⟩, (hts (.instanceMethod yX6_followLeast) hm_X11_least_3), (hts (.selects RX6 yX6_followLeast yX6_followLeast) hm_X11_least_5)⟩ (pre_V hPc hK hDc hN (ci := 6) (q0 := 0) rfl rfl) rfl rfl hl.1 rfl (lv_room (Nat.le_of_ble_eq_true rfl)) dX11_least_20 ⟨Nat.le_of_ble_eq_true rfl, Nat.le_of_ble_eq_true rfl⟩) hP hD hS hA [1, 2, 3, 4, 5, 6, 7, 8, 9, 10, 11, 12, 13, 14, 15, 16, 17, 18, 19, 20, 21, 22, 23, 24, 25, 26, 27, 28, 29, 30, 31, 32, 33, 34, 35, 36, 37, 38, 39, 40, 41, 42, 43, 44, 45, 46, 47, 48, 49] [0] [0, 1, 2, 3, 4, 5, 6, 7, 8, 9, 10, 11, 12, 13, 14, 15, 16, 17, 18, 19, 20, 21, 22, 23, 24, 25, 26, 27, 28, 29, 30, 31, 32, 33, 34, 35, 36, 37, 38, 39, 40, 41, 42, 43, 44, 45, 46, 47, 48, 49] rfl rfl (by decide +kernel) (by decide +kernel) (by decide +kernel) (by decide +kernel) (fun _ => rfl) (fun u H locs hq hP hD hS => ?_)
    obtain ⟨y3, y4, y5, y6, y7, G8, y9, y10, y11, y12, G13, f14, G15, f16⟩ := u
    obtain ⟨y3_h, y4_h, y7_h, G8_b, y10_h, y11_h, y12_h, G13_b, f16_b⟩ := hq
    have hP : va_P (dC, dI) vwCl (([(o1, .inr (11, [.ref o2, .ref o7, .ref o12, .ref o41, .ref o51, .ref o64, .ref o77, .ref o84, .ref o91, .ref o99, .ref o111, .ref o123, .int v125])), (o12, .inr (6, [.ref o13, .ref o18, .ref o32, .ref o34, .int v36, .int y3, .int y4, .int y5, .int y6])), (o13, .inr (3, [.ref o14, .int y7])), (o2, .inr (4, [.ref o3, .int v5, .int v6])), (o14, .inl (c2, 13, .inr (.inr (.inr (.inr (fun i => if i < 13 then some (rw15 i) else none)))))), (o3, .inl (cI, 12, .inl fw4)), (o18, .inr (5, [.ref o19, .ref o24, .ref o26, .int y9, .int y10, .int y11])), (o19, .inr (3, [.ref o20, .int y12])), (o20, .inl (c2, 13, .inr (.inr (.inr (.inr (fun i => if i < 13 then some (rw21 i) else none)))))), (o24, .inl (cI, 4096, .inl f14)), (o26, .inl (c2, 12, .inr (.inr (.inr (.inr (fun i => if i < 12 then some (rw27 i) else none)))))), (o32, .inl (cI, 12, .inl f16))] : va_W) ++ (gr13 rw15 cI 12 G8 ++ (gr13 rw21 cI 12 G13 ++ (gr12 rw27 cI 12 G15 ++ ([] : va_W))))) H := hP
    have hD : va_D A (([(o1, .inr (11, [.ref o2, .ref o7, .ref o12, .ref o41, .ref o51, .ref o64, .ref o77, .ref o84, .ref o91, .ref o99, .ref o111, .ref o123, .int v125])), (o12, .inr (6, [.ref o13, .ref o18, .ref o32, .ref o34, .int v36, .int y3, .int y4, .int y5, .int y6])), (o13, .inr (3, [.ref o14, .int y7])), (o2, .inr (4, [.ref o3, .int v5, .int v6])), (o14, .inl (c2, 13, .inr (.inr (.inr (.inr (fun i => if i < 13 then some (rw15 i) else none)))))), (o3, .inl (cI, 12, .inl fw4)), (o18, .inr (5, [.ref o19, .ref o24, .ref o26, .int y9, .int y10, .int y11])), (o19, .inr (3, [.ref o20, .int y12])), (o20, .inl (c2, 13, .inr (.inr (.inr (.inr (fun i => if i < 13 then some (rw21 i) else none)))))), (o24, .inl (cI, 4096, .inl f14)), (o26, .inl (c2, 12, .inr (.inr (.inr (.inr (fun i => if i < 12 then some (rw27 i) else none)))))), (o32, .inl (cI, 12, .inl f16))] : va_W) ++ (gr13 rw15 cI 12 G8 ++ (gr13 rw21 cI 12 G13 ++ (gr12 rw27 cI 12 G15 ++ ([] : va_W))))) := hD
    refine lv_iload_n hx hb dX11_least_23 rfl (lv_at hl 1 rfl) ?_
    refine lv_if_ne (tgt := 37) hx hb dX11_least_24 (by decide) (fun h9 => absurd (d_eq j2 ik_0) h9) (fun _ => ?_)
    refine lv_aload_n hx hb dX11_least_27 rfl (lv_at hl 0 rfl) ?_
    refine va_get (D := (dC, dI)) (ci := 11) (v := .ref o12) (C := RX11) (T := TX11) (N := 13) hx hb hts iw_X11_least_X11 hown hK hP 0 rfl rfl 2 (by decide) (hts (.fieldLink RX11 26 "HolelessHouse" "ordering" "LHolelessHouse$Ordering;") hm_X11_least_1) (fun _ h9 => h9) rfl dX11_least_28 ?_
    refine va_getN (D := (dC, dI)) (ci := 6) (v := .int y5) (C := RX6) (T := TX6) (N := 9) hx hb hts iw_X11_least_X6 hown hK hP 1 rfl rfl 7 (by decide) (hN.use ns_29) (fun _ h9 => h9) rfl dX11_least_31 ?_
    refine lv_goto (tgt := 44) hx hb dX11_least_34 (by decide) ?_
    rw [hQ]
    exact W.iret (v := y5) hx hb hr (fun t ht hW => ⟨⟨y5, (y3, y4, y5, y6, y7, G8, y9, y10, y11, y12, G13, f14, G15, f16), rfl, ⟨y3_h, y4_h, y7_h, G8_b, y10_h, y11_h, y12_h, G13_b, f16_b⟩, by rw [ht]; exact hP, va_K.moved hW.alike hK, hD⟩, hS.F ht⟩) hS.2.2 dX11_least_44
  ·
    refine lv_iload_n hx hb dX11_least_4 rfl (lv_at hl 1 rfl) ?_
    refine lv_iconst (v := 1) hx hb dX11_least_5 (by decide) ?_
    refine lv_icmp_eq (tgt := 11) hx hb dX11_least_6 (by decide) (fun h17 => ?_) (fun h17 => ?_)
    ·
      have j18 : Iv 1 1 a1 := r_eq h17 ik_1
      refine lv_aload_n hx hb dX11_least_11 rfl (lv_at hl 0 rfl) ?_
      refine va_get (D := (dC, dI)) (ci := 11) (v := .ref o12) (C := RX11) (T := TX11) (N := 13) hx hb hts iw_X11_least_X11 hown hK hP 0 rfl rfl 2 (by decide) (hts (.fieldLink RX11 26 "HolelessHouse" "ordering" "LHolelessHouse$Ordering;") hm_X11_least_1) (fun _ h9 => h9) rfl dX11_least_12 ?_
      refine lv_aload_n hx hb dX11_least_15 rfl (lv_at hl 0 rfl) ?_
      refine va_get (D := (dC, dI)) (ci := 11) (v := .ref o2) (C := RX11) (T := TX11) (N := 13) hx hb hts iw_X11_least_X11 hown hK hP 0 rfl rfl 0 (by decide) (hts (.fieldLink RX11 10 "HolelessHouse" "graph" "LHolelessHouse$Graph;") hm_X11_least_2) (fun _ h9 => h9) rfl dX11_least_16 ?_
      refine lv_iload_n hx hb dX11_least_19 rfl (lv_at hl 1 rfl) ?_
      refine kc_v (D := (dC, dI)) (S := Int32 × Int32 × Int32 × Int32 × Int32 × (Nat → Nat → Int32) × Int32 × Int32 × Int32 × Int32 × (Nat → Nat → Int32) × (Nat → Int32) × (Nat → Nat → Int32) × (Nat → Int32)) (wc := ([(o12, .inr (6, [.ref o13, .ref o18, .ref o32, .ref o34, .int v36, .int v37, .int v38, .int v39, .int v40])), (o13, .inr (3, [.ref o14, .int v17])), (o2, .inr (4, [.ref o3, .int v5, .int v6])), (o14, .inl (c2, 13, .inr (.inr (.inr (.inr (fun i => if i < 13 then some (rw15 i) else none)))))), (o3, .inl (cI, 12, .inl fw4)), (o18, .inr (5, [.ref o19, .ref o24, .ref o26, .int v29, .int v30, .int v31])), (o19, .inr (3, [.ref o20, .int v23])), (o20, .inl (c2, 13, .inr (.inr (.inr (.inr (fun i => if i < 13 then some (rw21 i) else none)))))), (o24, .inl (cI, 4096, .inl fw25)), (o26, .inl (c2, 12, .inr (.inr (.inr (.inr (fun i => if i < 12 then some (rw27 i) else none)))))), (o32, .inl (cI, 12, .inl fw33))] : va_W) ++ (gr13 rw15 cI 12 Gw16 ++ (gr13 rw21 cI 12 Gw22 ++ (gr12 rw27 cI 12 Gw28 ++ ([] : va_W))))) (wr := [(o1, .inr (11, [.ref o2, .ref o7, .ref o12, .ref o41, .ref o51, .ref o64, .ref o77, .ref o84, .ref o91, .ref o99, .ref o111, .ref o123, .int v125]))]) (w1 := fun u => ([(o12, .inr (6, [.ref o13, .ref o18, .ref o32, .ref o34, .int v36, .int u.1, .int u.2.1, .int u.2.2.1, .int u.2.2.2.1])), (o13, .inr (3, [.ref o14, .int u.2.2.2.2.1])), (o2, .inr (4, [.ref o3, .int v5, .int v6])), (o14, .inl (c2, 13, .inr (.inr (.inr (.inr (fun i => if i < 13 then some (rw15 i) else none)))))), (o3, .inl (cI, 12, .inl fw4)), (o18, .inr (5, [.ref o19, .ref o24, .ref o26, .int u.2.2.2.2.2.2.1, .int u.2.2.2.2.2.2.2.1, .int u.2.2.2.2.2.2.2.2.1])), (o19, .inr (3, [.ref o20, .int u.2.2.2.2.2.2.2.2.2.1])), (o20, .inl (c2, 13, .inr (.inr (.inr (.inr (fun i => if i < 13 then some (rw21 i) else none)))))), (o24, .inl (cI, 4096, .inl u.2.2.2.2.2.2.2.2.2.2.2.1)), (o26, .inl (c2, 12, .inr (.inr (.inr (.inr (fun i => if i < 12 then some (rw27 i) else none)))))), (o32, .inl (cI, 12, .inl u.2.2.2.2.2.2.2.2.2.2.2.2.2))] : va_W) ++ (gr13 rw15 cI 12 u.2.2.2.2.2.1 ++ (gr13 rw21 cI 12 u.2.2.2.2.2.2.2.2.2.2.1 ++ (gr12 rw27 cI 12 u.2.2.2.2.2.2.2.2.2.2.2.2.1 ++ ([] : va_W))))) (wn := fun u => ([(o1, .inr (11, [.ref o2, .ref o7, .ref o12, .ref o41, .ref o51, .ref o64, .ref o77, .ref o84, .ref o91, .ref o99, .ref o111, .ref o123, .int v125])), (o12, .inr (6, [.ref o13, .ref o18, .ref o32, .ref o34, .int v36, .int u.1, .int u.2.1, .int u.2.2.1, .int u.2.2.2.1])), (o13, .inr (3, [.ref o14, .int u.2.2.2.2.1])), (o2, .inr (4, [.ref o3, .int v5, .int v6])), (o14, .inl (c2, 13, .inr (.inr (.inr (.inr (fun i => if i < 13 then some (rw15 i) else none)))))), (o3, .inl (cI, 12, .inl fw4)), (o18, .inr (5, [.ref o19, .ref o24, .ref o26, .int u.2.2.2.2.2.2.1, .int u.2.2.2.2.2.2.2.1, .int u.2.2.2.2.2.2.2.2.1])), (o19, .inr (3, [.ref o20, .int u.2.2.2.2.2.2.2.2.2.1])), (o20, .inl (c2, 13, .inr (.inr (.inr (.inr (fun i => if i < 13 then some (rw21 i) else none)))))), (o24, .inl (cI, 4096, .inl u.2.2.2.2.2.2.2.2.2.2.2.1)), (o26, .inl (c2, 12, .inr (.inr (.inr (.inr (fun i => if i < 12 then some (rw27 i) else none)))))), (o32, .inl (cI, 12, .inl u.2.2.2.2.2.2.2.2.2.2.2.2.2))] : va_W) ++ (gr13 rw15 cI 12 u.2.2.2.2.2.1 ++ (gr13 rw21 cI 12 u.2.2.2.2.2.2.2.2.2.2.1 ++ (gr12 rw27 cI 12 u.2.2.2.2.2.2.2.2.2.2.2.2.1 ++ ([] : va_W))))) (fun hPc hDc => va_runVN (As := [.ref o2, .int a1]) (rest := []) ⟨hx, hb, hml, hown, hts⟩ (kX6_followLeast_1 l dC dI cI c2 cZ o12 o2 o13 o18 o32 o34 o14 o3 o19 o24 o26 o20 rw15 Gw16 v17 rw21 Gw22 v23 fw25 rw27 Gw28 v29 v30 v31 fw33 v36 v37 v38 v39 v40 fw4 v5 v6 a1 s.heap.size Gw16_b v17_h Gw22_b v23_h v30_h v31_h fw33_b v36_h v37_h v38_h fw4_b v5_h (iv_w j18 (by decide))) ⟨va_cnB 2 hts gX11_least_X6_followLeast_n177 rfl rfl rfl (hN.1 _ ns_91) (hts (.initialized RX6) hm_X11_least_4) (by decide +kernel) ⟨Nat.le_of_ble_eq_true rfl, Nat.le_of_ble_eq_true rfl⟩, (hts (.instanceMethod yX6_followLeast) hm_X11_least_3), (hts (.selects RX6 yX6_followLeast yX6_followLeast) hm_X11_least_5)⟩ (pre_V hPc hK hDc hN (ci := 6) (q0 := 0) rfl rfl) rfl rfl hl.1 rfl (lv_room (Nat.le_of_ble_eq_true rfl)) dX11_least_20 ⟨Nat.le_of_ble_eq_true rfl, Nat.le_of_ble_eq_true rfl⟩) hP hD hS hA [1, 2, 3, 4, 5, 6, 7, 8, 9, 10, 11, 12, 13, 14, 15, 16, 17, 18, 19, 20, 21, 22, 23, 24, 25, 26, 27, 28, 29, 30, 31, 32, 33, 34, 35, 36, 37, 38, 39, 40, 41, 42, 43, 44, 45, 46, 47, 48, 49] [0] [0, 1, 2, 3, 4, 5, 6, 7, 8, 9, 10, 11, 12, 13, 14, 15, 16, 17, 18, 19, 20, 21, 22, 23, 24, 25, 26, 27, 28, 29, 30, 31, 32, 33, 34, 35, 36, 37, 38, 39, 40, 41, 42, 43, 44, 45, 46, 47, 48, 49] rfl rfl (by decide +kernel) (by decide +kernel) (by decide +kernel) (by decide +kernel) (fun _ => rfl) (fun u H locs hq hP hD hS => ?_)
      obtain ⟨y19, y20, y21, y22, y23, G24, y25, y26, y27, y28, G29, f30, G31, f32⟩ := u
      obtain ⟨y19_h, y20_h, y23_h, G24_b, y26_h, y27_h, y28_h, G29_b, f32_b⟩ := hq
      have hP : va_P (dC, dI) vwCl (([(o1, .inr (11, [.ref o2, .ref o7, .ref o12, .ref o41, .ref o51, .ref o64, .ref o77, .ref o84, .ref o91, .ref o99, .ref o111, .ref o123, .int v125])), (o12, .inr (6, [.ref o13, .ref o18, .ref o32, .ref o34, .int v36, .int y19, .int y20, .int y21, .int y22])), (o13, .inr (3, [.ref o14, .int y23])), (o2, .inr (4, [.ref o3, .int v5, .int v6])), (o14, .inl (c2, 13, .inr (.inr (.inr (.inr (fun i => if i < 13 then some (rw15 i) else none)))))), (o3, .inl (cI, 12, .inl fw4)), (o18, .inr (5, [.ref o19, .ref o24, .ref o26, .int y25, .int y26, .int y27])), (o19, .inr (3, [.ref o20, .int y28])), (o20, .inl (c2, 13, .inr (.inr (.inr (.inr (fun i => if i < 13 then some (rw21 i) else none)))))), (o24, .inl (cI, 4096, .inl f30)), (o26, .inl (c2, 12, .inr (.inr (.inr (.inr (fun i => if i < 12 then some (rw27 i) else none)))))), (o32, .inl (cI, 12, .inl f32))] : va_W) ++ (gr13 rw15 cI 12 G24 ++ (gr13 rw21 cI 12 G29 ++ (gr12 rw27 cI 12 G31 ++ ([] : va_W))))) H := hP
      have hD : va_D A (([(o1, .inr (11, [.ref o2, .ref o7, .ref o12, .ref o41, .ref o51, .ref o64, .ref o77, .ref o84, .ref o91, .ref o99, .ref o111, .ref o123, .int v125])), (o12, .inr (6, [.ref o13, .ref o18, .ref o32, .ref o34, .int v36, .int y19, .int y20, .int y21, .int y22])), (o13, .inr (3, [.ref o14, .int y23])), (o2, .inr (4, [.ref o3, .int v5, .int v6])), (o14, .inl (c2, 13, .inr (.inr (.inr (.inr (fun i => if i < 13 then some (rw15 i) else none)))))), (o3, .inl (cI, 12, .inl fw4)), (o18, .inr (5, [.ref o19, .ref o24, .ref o26, .int y25, .int y26, .int y27])), (o19, .inr (3, [.ref o20, .int y28])), (o20, .inl (c2, 13, .inr (.inr (.inr (.inr (fun i => if i < 13 then some (rw21 i) else none)))))), (o24, .inl (cI, 4096, .inl f30)), (o26, .inl (c2, 12, .inr (.inr (.inr (.inr (fun i => if i < 12 then some (rw27 i) else none)))))), (o32, .inl (cI, 12, .inl f32))] : va_W) ++ (gr13 rw15 cI 12 G24 ++ (gr13 rw21 cI 12 G29 ++ (gr12 rw27 cI 12 G31 ++ ([] : va_W))))) := hD
      refine lv_iload_n hx hb dX11_least_23 rfl (lv_at hl 1 rfl) ?_
      refine lv_if_ne (tgt := 37) hx hb dX11_least_24 (by decide) (fun _ => ?_) (fun h9 => absurd h9 (d_ne j18 ik_0 (by decide)))
      refine lv_aload_n hx hb dX11_least_37 rfl (lv_at hl 0 rfl) ?_
      refine va_get (D := (dC, dI)) (ci := 11) (v := .ref o12) (C := RX11) (T := TX11) (N := 13) hx hb hts iw_X11_least_X11 hown hK hP 0 rfl rfl 2 (by decide) (hts (.fieldLink RX11 26 "HolelessHouse" "ordering" "LHolelessHouse$Ordering;") hm_X11_least_1) (fun _ h9 => h9) rfl dX11_least_38 ?_
      refine va_getN (D := (dC, dI)) (ci := 6) (v := .int y22) (C := RX6) (T := TX6) (N := 9) hx hb hts iw_X11_least_X6 hown hK hP 1 rfl rfl 8 (by decide) (hN.use ns_30) (fun _ h9 => h9) rfl dX11_least_41 ?_
      rw [hQ]
      exact W.iret (v := y22) hx hb hr (fun t ht hW => ⟨⟨y22, (y19, y20, y21, y22, y23, G24, y25, y26, y27, y28, G29, f30, G31, f32), rfl, ⟨y19_h, y20_h, y23_h, G24_b, y26_h, y27_h, y28_h, G29_b, f32_b⟩, by rw [ht]; exact hP, va_K.moved hW.alike hK, hD⟩, hS.F ht⟩) hS.2.2 dX11_least_44
    ·
      refine lv_iconst (v := (-1)) hx hb dX11_least_9 (by decide) ?_
      rw [hQ]
      exact W.iret (v := (-1)) hx hb hr (fun t ht hW => ⟨⟨(-1), (v37, v38, v39, v40, v17, Gw16, v29, v30, v31, v23, Gw22, fw25, Gw28, fw33), rfl, ⟨v37_h, v38_h, v17_h, Gw16_b, v30_h, v31_h, v23_h, Gw22_b, fw33_b⟩, by rw [ht]; exact hP, va_K.moved hW.alike hK, hD⟩, hS.F ht⟩) hS.2.2 dX11_least_10
theorem iw_X6_length_X6 : ∀ w ∈ wsX60, w ∈ wsX6_length := fun _ h => List.mem_cons.mpr (Or.inr (List.mem_append.mpr (Or.inr h)))
set_option maxHeartbeats 4000000 in
set_option maxRecDepth 100000 in
theorem kX6_length_1 (l : Launch) (dC : Nat → ClassId) (dI : Nat → Nat → Nat) (cI c2 cZ : ClassId) (o1 : Nat) (o2 : Nat) (o7 : Nat) (o21 : Nat) (o23 : Nat) (v25 : Int32) (v26 : Int32) (v27 : Int32) (v28 : Int32) (v29 : Int32) (sz : Nat) (v25_h : Iv 0 12 v25) (v26_h : Iv 0 12 v26) (v27_h : Iv 0 1 v27) : Met l yX6_length wsX6_length ({ frames := 0, cells := 0, slots := 0, locals := 0 }) (va_Pc [.ref o1] (wPre (dC, dI) [(cI, .int), (c2, .array .int), (cZ, .boolean)] ([(o1, .inr (6, [.ref o2, .ref o7, .ref o21, .ref o23, .int v25, .int v26, .int v27, .int v28, .int v29]))]) sz)) (va_Qi (fun (r : Int32) (_ : Unit) => Iv 0 12 r) (fun _ t => wPost (dC, dI) [(cI, .int), (c2, .array .int), (cZ, .boolean)] (va_A ([(o1, .inr (6, [.ref o2, .ref o7, .ref o21, .ref o23, .int v25, .int v26, .int v27, .int v28, .int v29]))]) sz) ([(o1, .inr (6, [.ref o2, .ref o7, .ref o21, .ref o23, .int v25, .int v26, .int v27, .int v28, .int v29]))]) t) (va_A ([(o1, .inr (6, [.ref o2, .ref o7, .ref o21, .ref o23, .int v25, .int v26, .int v27, .int v28, .int v29]))]) sz)) 0 0 (va_A ([(o1, .inr (6, [.ref o2, .ref o7, .ref o21, .ref o23, .int v25, .int v26, .int v27, .int v28, .int v29]))]) sz) := by
  refine Met.ofW (cc := cX6_length) (maxL := 1) (ret := (some .int)) (by decide) rfl ?_
  intro p e s m args below meth c s₁ B hml hv
  obtain ⟨rfl, hsz, hP, hK, hD0, hN⟩ := hv
  have hx := B.exec
  have hb := B.bytes
  have hr := B.returns
  have hts := atoms_spec (ws := wsX6_length) B.pre
  have hown : s.vm.findClass RX6 = some m.cls := findClass_of_methodNamed B.named
  have hlocks := B.notSynchronized
  subst hsz
  have hD := hD0.self (sz := s.heap.size)
  generalize hAe : va_A ([(o1, .inr (6, [.ref o2, .ref o7, .ref o21, .ref o23, .int v25, .int v26, .int v27, .int v28, .int v29]))]) s.heap.size = A at hD ⊢
  have hA : ∀ q : Nat, s.heap.size ≤ q → A q := fun q h => by rw [← hAe]; exact Or.inr h
  have hS : va_S A s.heap s.heap [] := va_S.rf
  have hP : va_P (dC, dI) vwCl ([(o1, .inr (6, [.ref o2, .ref o7, .ref o21, .ref o23, .int v25, .int v26, .int v27, .int v28, .int v29]))]) s.heap := hP
  have hl := lv_entry ([.ref o1]) (n := 1) (Nat.le_of_ble_eq_true rfl)
  rw [lg_entry_eq]
  generalize (lg_sl ([.ref o1]) ++ List.replicate (1 - (lg_sl ([.ref o1])).length) Slot.unset).toArray = ls at hl ⊢
  have hl : lv_has ls 1 [(0, .ref o1)] := hl
  refine gen_Q (fun Q hQ => ?_)
  refine lv_aload_n hx hb dX6_length_0 rfl (lv_at hl 0 rfl) ?_
  refine va_get (D := (dC, dI)) (ci := 6) (v := .int v27) (C := RX6) (T := TX6) (N := 9) hx hb hts iw_X6_length_X6 hown hK hP 0 rfl rfl 6 (by decide) (hts (.fieldLink RX6 39 "HolelessHouse$Ordering" "there" "Z") hm_X6_length_1) (fun _ h9 => h9) rfl dX6_length_1 ?_
  refine lv_if_eq (tgt := 14) hx hb dX6_length_4 (by decide) (fun h1 => ?_) (fun h1 => ?_)
  ·
    have j2 : Iv 0 0 v27 := r_eq h1 ik_0
    refine lv_iconst (v := 0) hx hb dX6_length_14 (by decide) ?_
    rw [hQ]
    exact W.iret (v := 0) hx hb hr (fun t ht hW => ⟨⟨0, (), rfl, (iv_w ik_0 (by decide)), by rw [ht]; exact hP, va_K.moved hW.alike hK, hD⟩, hS.F ht⟩) hS.2.2 dX6_length_15
  ·
    have j3 : Iv 1 1 v27 := r_nelo h1 v27_h ik_0 (by decide)
    refine lv_aload_n hx hb dX6_length_7 rfl (lv_at hl 0 rfl) ?_
    refine va_get (D := (dC, dI)) (ci := 6) (v := .int v26) (C := RX6) (T := TX6) (N := 9) hx hb hts iw_X6_length_X6 hown hK hP 0 rfl rfl 5 (by decide) (hts (.fieldLink RX6 36 "HolelessHouse$Ordering" "size" "I") hm_X6_length_2) (fun _ h9 => h9) rfl dX6_length_8 ?_
    refine lv_goto (tgt := 15) hx hb dX6_length_11 (by decide) ?_
    rw [hQ]
    exact W.iret (v := v26) hx hb hr (fun t ht hW => ⟨⟨v26, (), rfl, v26_h, by rw [ht]; exact hP, va_K.moved hW.alike hK, hD⟩, hS.F ht⟩) hS.2.2 dX6_length_15
theorem iw_X11_order_X11 : ∀ w ∈ wsX110, w ∈ wsX11_order := fun _ h => List.mem_cons.mpr (Or.inr (List.mem_append.mpr (Or.inl (List.mem_append.mpr (Or.inr h)))))
theorem iw_X11_order_X6 : ∀ w ∈ wsX60, w ∈ wsX11_order := fun _ h => List.mem_cons.mpr (Or.inr (List.mem_append.mpr (Or.inr h)))
set_option maxHeartbeats 4000000 in
set_option maxRecDepth 100000 in
theorem kX11_order_1 (l : Launch) (dC : Nat → ClassId) (dI : Nat → Nat → Nat) (cI c2 cZ : ClassId) (o1 : Nat) (o2 : Nat) (o7 : Nat) (o12 : Nat) (o41 : Nat) (o51 : Nat) (o64 : Nat) (o77 : Nat) (o84 : Nat) (o91 : Nat) (o99 : Nat) (o111 : Nat) (o123 : Nat) (o13 : Nat) (o18 : Nat) (o32 : Nat) (o34 : Nat) (fw33 : Nat → Int32) (v36 : Int32) (v37 : Int32) (v38 : Int32) (v39 : Int32) (v40 : Int32) (v125 : Int32) (a1 : Int32) (sz : Nat) (fw33_b : Bd 12 0 11 fw33) (v36_h : Iv 0 12 v36) (v37_h : Iv 0 12 v37) (v38_h : Iv 0 1 v38) : Met l yX11_order wsX11_order ({ frames := 1, cells := 0, slots := 0, locals := 20 }) (va_Pc [.ref o1, .int a1] (wPre (dC, dI) [(cI, .int), (c2, .array .int), (cZ, .boolean)] ([(o1, .inr (11, [.ref o2, .ref o7, .ref o12, .ref o41, .ref o51, .ref o64, .ref o77, .ref o84, .ref o91, .ref o99, .ref o111, .ref o123, .int v125])), (o12, .inr (6, [.ref o13, .ref o18, .ref o32, .ref o34, .int v36, .int v37, .int v38, .int v39, .int v40])), (o32, .inl (cI, 12, .inl fw33))]) sz)) (va_Qi (fun (r : Int32) (_ : Unit) => Iv (-9) 11 r) (fun _ t => wPost (dC, dI) [(cI, .int), (c2, .array .int), (cZ, .boolean)] (va_A ([(o1, .inr (11, [.ref o2, .ref o7, .ref o12, .ref o41, .ref o51, .ref o64, .ref o77, .ref o84, .ref o91, .ref o99, .ref o111, .ref o123, .int v125])), (o12, .inr (6, [.ref o13, .ref o18, .ref o32, .ref o34, .int v36, .int v37, .int v38, .int v39, .int v40])), (o32, .inl (cI, 12, .inl fw33))]) sz) ([(o1, .inr (11, [.ref o2, .ref o7, .ref o12, .ref o41, .ref o51, .ref o64, .ref o77, .ref o84, .ref o91, .ref o99, .ref o111, .ref o123, .int v125])), (o12, .inr (6, [.ref o13, .ref o18, .ref o32, .ref o34, .int v36, .int v37, .int v38, .int v39, .int v40])), (o32, .inl (cI, 12, .inl fw33))]) t) (va_A ([(o1, .inr (11, [.ref o2, .ref o7, .ref o12, .ref o41, .ref o51, .ref o64, .ref o77, .ref o84, .ref o91, .ref o99, .ref o111, .ref o123, .int v125])), (o12, .inr (6, [.ref o13, .ref o18, .ref o32, .ref o34, .int v36, .int v37, .int v38, .int v39, .int v40])), (o32, .inl (cI, 12, .inl fw33))]) sz)) 0 0 (va_A ([(o1, .inr (11, [.ref o2, .ref o7, .ref o12, .ref o41, .ref o51, .ref o64, .ref o77, .ref o84, .ref o91, .ref o99, .ref o111, .ref o123, .int v125])), (o12, .inr (6, [.ref o13, .ref o18, .ref o32, .ref o34, .int v36, .int v37, .int v38, .int v39, .int v40])), (o32, .inl (cI, 12, .inl fw33))]) sz) := by
  refine Met.ofW (cc := cX11_order) (maxL := 2) (ret := (some .int)) (by decide) rfl ?_
  intro p e s m args below meth c s₁ B hml hv
  obtain ⟨rfl, hsz, hP, hK, hD0, hN⟩ := hv
  have hx := B.exec
  have hb := B.bytes
  have hr := B.returns
  have hts := atoms_spec (ws := wsX11_order) B.pre
  have hown : s.vm.findClass RX11 = some m.cls := findClass_of_methodNamed B.named
  have hlocks := B.notSynchronized
  subst hsz
  have hD := hD0.self (sz := s.heap.size)
  generalize hAe : va_A ([(o1, .inr (11, [.ref o2, .ref o7, .ref o12, .ref o41, .ref o51, .ref o64, .ref o77, .ref o84, .ref o91, .ref o99, .ref o111, .ref o123, .int v125])), (o12, .inr (6, [.ref o13, .ref o18, .ref o32, .ref o34, .int v36, .int v37, .int v38, .int v39, .int v40])), (o32, .inl (cI, 12, .inl fw33))]) s.heap.size = A at hD ⊢
  have hA : ∀ q : Nat, s.heap.size ≤ q → A q := fun q h => by rw [← hAe]; exact Or.inr h
  have hS : va_S A s.heap s.heap [] := va_S.rf
  have hP : va_P (dC, dI) vwCl ([(o1, .inr (11, [.ref o2, .ref o7, .ref o12, .ref o41, .ref o51, .ref o64, .ref o77, .ref o84, .ref o91, .ref o99, .ref o111, .ref o123, .int v125])), (o12, .inr (6, [.ref o13, .ref o18, .ref o32, .ref o34, .int v36, .int v37, .int v38, .int v39, .int v40])), (o32, .inl (cI, 12, .inl fw33))]) s.heap := hP
  have hl := lv_entry ([.ref o1, .int a1]) (n := 2) (Nat.le_of_ble_eq_true rfl)
  rw [lg_entry_eq]
  generalize (lg_sl ([.ref o1, .int a1]) ++ List.replicate (2 - (lg_sl ([.ref o1, .int a1])).length) Slot.unset).toArray = ls at hl ⊢
  have hl : lv_has ls 2 [(0, .ref o1), (1, .int a1)] := hl
  refine gen_Q (fun Q hQ => ?_)
  refine lv_iload_n hx hb dX11_order_0 rfl (lv_at hl 1 rfl) ?_
  refine lv_if_lt (tgt := 27) hx hb dX11_order_1 (by decide) (fun h1 => ?_) (fun h1 => ?_)
  ·
    have qh1 := lt_i h1
    have j2 : Iv (-2147483648) (-1) a1 := r_ltl qh1 (iv_full a1) ik_0 (by decide)
    refine lv_bipush (v := (-9)) hx hb dX11_order_27 (by decide) ?_
    rw [hQ]
    exact W.iret (v := (-9)) hx hb hr (fun t ht hW => ⟨⟨(-9), (), rfl, (iv_w ikm_9 (by decide)), by rw [ht]; exact hP, va_K.moved hW.alike hK, hD⟩, hS.F ht⟩) hS.2.2 dX11_order_29
  ·
    have qh1 := nlt_i h1
    have j3 : Iv 0 2147483647 a1 := r_ler qh1 ik_0 (iv_full a1) (by decide)
    refine lv_iload_n hx hb dX11_order_4 rfl (lv_at hl 1 rfl) ?_
    refine lv_aload_n hx hb dX11_order_5 rfl (lv_at hl 0 rfl) ?_
    refine va_get (D := (dC, dI)) (ci := 11) (v := .ref o12) (C := RX11) (T := TX11) (N := 13) hx hb hts iw_X11_order_X11 hown hK hP 0 rfl rfl 2 (by decide) (hts (.fieldLink RX11 26 "HolelessHouse" "ordering" "LHolelessHouse$Ordering;") hm_X11_order_1) (fun _ h9 => h9) rfl dX11_order_6 ?_
    refine kc_i (D := (dC, dI)) (S := Unit) (wc := [(o12, .inr (6, [.ref o13, .ref o18, .ref o32, .ref o34, .int v36, .int v37, .int v38, .int v39, .int v40]))]) (wr := [(o1, .inr (11, [.ref o2, .ref o7, .ref o12, .ref o41, .ref o51, .ref o64, .ref o77, .ref o84, .ref o91, .ref o99, .ref o111, .ref o123, .int v125])), (o32, .inl (cI, 12, .inl fw33))]) (w1 := fun _ => [(o12, .inr (6, [.ref o13, .ref o18, .ref o32, .ref o34, .int v36, .int v37, .int v38, .int v39, .int v40]))]) (wn := fun _ => [(o1, .inr (11, [.ref o2, .ref o7, .ref o12, .ref o41, .ref o51, .ref o64, .ref o77, .ref o84, .ref o91, .ref o99, .ref o111, .ref o123, .int v125])), (o12, .inr (6, [.ref o13, .ref o18, .ref o32, .ref o34, .int v36, .int v37, .int v38, .int v39, .int v40])), (o32, .inl (cI, 12, .inl fw33))]) (fun hPc hDc => va_runVN (As := []) (rest := [.int a1]) ⟨hx, hb, hml, hown, hts⟩ (kX6_length_1 l dC dI cI c2 cZ o12 o13 o18 o32 o34 v36 v37 v38 v39 v40 s.heap.size v36_h v37_h v38_h) ⟨va_cnB 0 hts gX11_order_X6_length_n181 rfl rfl rfl (hN.1 _ ns_102) (hts (.initialized RX6) hm_X11_order_3) (by decide +kernel) ⟨Nat.le_of_ble_eq_true rfl, Nat.le_of_ble_eq_true rfl⟩, (hts (.instanceMethod yX6_length) hm_X11_order_2), (hts (.selects RX6 yX6_length yX6_length) hm_X11_order_4)⟩ (pre_V hPc hK hDc hN (ci := 6) (q0 := 0) rfl rfl) rfl rfl hl.1 rfl (lv_room (Nat.le_of_ble_eq_true rfl)) dX11_order_9 ⟨Nat.le_of_ble_eq_true rfl, Nat.le_of_ble_eq_true rfl⟩) hP hD hS hA [1] [0, 2] [0, 2, 1] rfl rfl (by decide +kernel) (by decide +kernel) (by decide +kernel) (by decide +kernel) (fun _ => rfl) (fun x4 _ H locs hq hP hD hS => ?_)
    have x4_h := hq
    have hP : va_P (dC, dI) vwCl ([(o1, .inr (11, [.ref o2, .ref o7, .ref o12, .ref o41, .ref o51, .ref o64, .ref o77, .ref o84, .ref o91, .ref o99, .ref o111, .ref o123, .int v125])), (o12, .inr (6, [.ref o13, .ref o18, .ref o32, .ref o34, .int v36, .int v37, .int v38, .int v39, .int v40])), (o32, .inl (cI, 12, .inl fw33))]) H := hP
    have hD : va_D A ([(o1, .inr (11, [.ref o2, .ref o7, .ref o12, .ref o41, .ref o51, .ref o64, .ref o77, .ref o84, .ref o91, .ref o99, .ref o111, .ref o123, .int v125])), (o12, .inr (6, [.ref o13, .ref o18, .ref o32, .ref o34, .int v36, .int v37, .int v38, .int v39, .int v40])), (o32, .inl (cI, 12, .inl fw33))]) := hD
    refine lv_icmp_ge (tgt := 27) hx hb dX11_order_12 (by decide) (fun h5 => ?_) (fun h5 => ?_)
    ·
      have qh5 := le_i h5
      refine lv_bipush (v := (-9)) hx hb dX11_order_27 (by decide) ?_
      rw [hQ]
      exact W.iret (v := (-9)) hx hb hr (fun t ht hW => ⟨⟨(-9), (), rfl, (iv_w ikm_9 (by decide)), by rw [ht]; exact hP, va_K.moved hW.alike hK, hD⟩, hS.F ht⟩) hS.2.2 dX11_order_29
    ·
      have qh5 := nle_i h5
      have j6 : Iv 0 11 a1 := r_ltl qh5 j3 x4_h (by decide)
      have j7 : Iv 1 12 x4 := r_ltr qh5 j3 x4_h (by decide)
      refine lv_aload_n hx hb dX11_order_15 rfl (lv_at hl 0 rfl) ?_
      refine va_get (D := (dC, dI)) (ci := 11) (v := .ref o12) (C := RX11) (T := TX11) (N := 13) hx hb hts iw_X11_order_X11 hown hK hP 0 rfl rfl 2 (by decide) (hts (.fieldLink RX11 26 "HolelessHouse" "ordering" "LHolelessHouse$Ordering;") hm_X11_order_1) (fun _ h9 => h9) rfl dX11_order_16 ?_
      refine va_getN (D := (dC, dI)) (ci := 6) (v := .ref o32) (C := RX6) (T := TX6) (N := 9) hx hb hts iw_X11_order_X6 hown hK hP 1 rfl rfl 2 (by decide) (hN.use ns_25) (fun _ h9 => h9) rfl dX11_order_19 ?_
      refine lv_iload_n hx hb dX11_order_22 rfl (lv_at hl 1 rfl) ?_
      refine va_iald hx hb hK hP 2 0 rfl rfl (vin_iv j6 (by decide)) dX11_order_23 (lv_topi (fun x8 x8_e => ?_))
      have x8_h : Iv 0 11 x8 := iv_e x8_e (bd_at fw33_b (vin_iv j6 (by decide)))
      refine lv_goto (tgt := 29) hx hb dX11_order_24 (by decide) ?_
      rw [hQ]
      exact W.iret (v := x8) hx hb hr (fun t ht hW => ⟨⟨x8, (), rfl, (iv_w x8_h (by decide)), by rw [ht]; exact hP, va_K.moved hW.alike hK, hD⟩, hS.F ht⟩) hS.2.2 dX11_order_29
theorem iw_X11_about_X11 : ∀ w ∈ wsX110, w ∈ wsX11_about := fun _ h => List.mem_cons.mpr (Or.inr (List.mem_append.mpr (Or.inl (List.mem_append.mpr (Or.inr h)))))
theorem iw_X11_about_X6 : ∀ w ∈ wsX60, w ∈ wsX11_about := fun _ h => List.mem_cons.mpr (Or.inr (List.mem_append.mpr (Or.inr h)))
set_option maxHeartbeats 4000000 in
set_option maxRecDepth 100000 in
theorem kX11_about_1 (l : Launch) (dC : Nat → ClassId) (dI : Nat → Nat → Nat) (cI c2 cZ : ClassId) (o1 : Nat) (o2 : Nat) (o7 : Nat) (o12 : Nat) (o41 : Nat) (o51 : Nat) (o64 : Nat) (o77 : Nat) (o84 : Nat) (o91 : Nat) (o99 : Nat) (o111 : Nat) (o123 : Nat) (o13 : Nat) (o18 : Nat) (o32 : Nat) (o34 : Nat) (v36 : Int32) (v37 : Int32) (v38 : Int32) (v39 : Int32) (v40 : Int32) (v125 : Int32) (a1 : Int32) (sz : Nat) (v36_h : Iv 0 12 v36) (v37_h : Iv 0 12 v37) (v38_h : Iv 0 1 v38) : Met l yX11_about wsX11_about ({ frames := 0, cells := 0, slots := 0, locals := 0 }) (va_Pc [.ref o1, .int a1] (wPre (dC, dI) [(cI, .int), (c2, .array .int), (cZ, .boolean)] ([(o1, .inr (11, [.ref o2, .ref o7, .ref o12, .ref o41, .ref o51, .ref o64, .ref o77, .ref o84, .ref o91, .ref o99, .ref o111, .ref o123, .int v125])), (o12, .inr (6, [.ref o13, .ref o18, .ref o32, .ref o34, .int v36, .int v37, .int v38, .int v39, .int v40]))]) sz)) (va_Qi (fun (r : Int32) (_ : Unit) => True) (fun _ t => wPost (dC, dI) [(cI, .int), (c2, .array .int), (cZ, .boolean)] (va_A ([(o1, .inr (11, [.ref o2, .ref o7, .ref o12, .ref o41, .ref o51, .ref o64, .ref o77, .ref o84, .ref o91, .ref o99, .ref o111, .ref o123, .int v125])), (o12, .inr (6, [.ref o13, .ref o18, .ref o32, .ref o34, .int v36, .int v37, .int v38, .int v39, .int v40]))]) sz) ([(o1, .inr (11, [.ref o2, .ref o7, .ref o12, .ref o41, .ref o51, .ref o64, .ref o77, .ref o84, .ref o91, .ref o99, .ref o111, .ref o123, .int v125])), (o12, .inr (6, [.ref o13, .ref o18, .ref o32, .ref o34, .int v36, .int v37, .int v38, .int v39, .int v40]))]) t) (va_A ([(o1, .inr (11, [.ref o2, .ref o7, .ref o12, .ref o41, .ref o51, .ref o64, .ref o77, .ref o84, .ref o91, .ref o99, .ref o111, .ref o123, .int v125])), (o12, .inr (6, [.ref o13, .ref o18, .ref o32, .ref o34, .int v36, .int v37, .int v38, .int v39, .int v40]))]) sz)) 0 0 (va_A ([(o1, .inr (11, [.ref o2, .ref o7, .ref o12, .ref o41, .ref o51, .ref o64, .ref o77, .ref o84, .ref o91, .ref o99, .ref o111, .ref o123, .int v125])), (o12, .inr (6, [.ref o13, .ref o18, .ref o32, .ref o34, .int v36, .int v37, .int v38, .int v39, .int v40]))]) sz) := by
  refine Met.ofW (cc := cX11_about) (maxL := 2) (ret := (some .int)) (by decide) rfl ?_
  intro p e s m args below meth c s₁ B hml hv
  obtain ⟨rfl, hsz, hP, hK, hD0, hN⟩ := hv
  have hx := B.exec
  have hb := B.bytes
  have hr := B.returns
  have hts := atoms_spec (ws := wsX11_about) B.pre
  have hown : s.vm.findClass RX11 = some m.cls := findClass_of_methodNamed B.named
  have hlocks := B.notSynchronized
  subst hsz
  have hD := hD0.self (sz := s.heap.size)
  generalize hAe : va_A ([(o1, .inr (11, [.ref o2, .ref o7, .ref o12, .ref o41, .ref o51, .ref o64, .ref o77, .ref o84, .ref o91, .ref o99, .ref o111, .ref o123, .int v125])), (o12, .inr (6, [.ref o13, .ref o18, .ref o32, .ref o34, .int v36, .int v37, .int v38, .int v39, .int v40]))]) s.heap.size = A at hD ⊢
  have hA : ∀ q : Nat, s.heap.size ≤ q → A q := fun q h => by rw [← hAe]; exact Or.inr h
  have hS : va_S A s.heap s.heap [] := va_S.rf
  have hP : va_P (dC, dI) vwCl ([(o1, .inr (11, [.ref o2, .ref o7, .ref o12, .ref o41, .ref o51, .ref o64, .ref o77, .ref o84, .ref o91, .ref o99, .ref o111, .ref o123, .int v125])), (o12, .inr (6, [.ref o13, .ref o18, .ref o32, .ref o34, .int v36, .int v37, .int v38, .int v39, .int v40]))]) s.heap := hP
  have hl := lv_entry ([.ref o1, .int a1]) (n := 2) (Nat.le_of_ble_eq_true rfl)
  rw [lg_entry_eq]
  generalize (lg_sl ([.ref o1, .int a1]) ++ List.replicate (2 - (lg_sl ([.ref o1, .int a1])).length) Slot.unset).toArray = ls at hl ⊢
  have hl : lv_has ls 2 [(0, .ref o1), (1, .int a1)] := hl
  refine gen_Q (fun Q hQ => ?_)
  refine lv_iload_n hx hb dX11_about_0 rfl (lv_at hl 1 rfl) ?_
  refine lv_if_lt (tgt := 9) hx hb dX11_about_1 (by decide) (fun h1 => ?_) (fun h1 => ?_)
  ·
    have qh1 := lt_i h1
    have j2 : Iv (-2147483648) (-1) a1 := r_ltl qh1 (iv_full a1) ik_0 (by decide)
    refine lv_iconst (v := (-1)) hx hb dX11_about_9 (by decide) ?_
    rw [hQ]
    exact W.iret (v := (-1)) hx hb hr (fun t ht hW => ⟨⟨(-1), (), rfl, trivial, by rw [ht]; exact hP, va_K.moved hW.alike hK, hD⟩, hS.F ht⟩) hS.2.2 dX11_about_10
  ·
    have qh1 := nlt_i h1
    have j3 : Iv 0 2147483647 a1 := r_ler qh1 ik_0 (iv_full a1) (by decide)
    refine lv_iload_n hx hb dX11_about_4 rfl (lv_at hl 1 rfl) ?_
    refine lv_iconst (v := 2) hx hb dX11_about_5 (by decide) ?_
    refine lv_icmp_le (tgt := 11) hx hb dX11_about_6 (by decide) (fun h4 => ?_) (fun h4 => ?_)
    ·
      have qh4 := le_i h4
      have j5 : Iv 0 2 a1 := r_lel qh4 j3 ik_2 (by decide)
      refine lv_aload_n hx hb dX11_about_11 rfl (lv_at hl 0 rfl) ?_
      refine va_get (D := (dC, dI)) (ci := 11) (v := .ref o12) (C := RX11) (T := TX11) (N := 13) hx hb hts iw_X11_about_X11 hown hK hP 0 rfl rfl 2 (by decide) (hts (.fieldLink RX11 26 "HolelessHouse" "ordering" "LHolelessHouse$Ordering;") hm_X11_about_1) (fun _ h9 => h9) rfl dX11_about_12 ?_
      refine va_getN (D := (dC, dI)) (ci := 6) (v := .int v38) (C := RX6) (T := TX6) (N := 9) hx hb hts iw_X11_about_X6 hown hK hP 1 rfl rfl 6 (by decide) (hN.use ns_28) (fun _ h9 => h9) rfl dX11_about_15 ?_
      refine lv_if_ne (tgt := 24) hx hb dX11_about_18 (by decide) (fun h6 => ?_) (fun h6 => ?_)
      ·
        have j7 : Iv 1 1 v38 := r_nelo h6 v38_h ik_0 (by decide)
        refine lv_iload_n hx hb dX11_about_24 rfl (lv_at hl 1 rfl) ?_
        refine lv_if_ne (tgt := 36) hx hb dX11_about_25 (by decide) (fun h8 => ?_) (fun h8 => ?_)
        ·
          have j9 : Iv 1 2 a1 := r_nelo h8 j5 ik_0 (by decide)
          refine lv_iload_n hx hb dX11_about_36 rfl (lv_at hl 1 rfl) ?_
          refine lv_iconst (v := 1) hx hb dX11_about_37 (by decide) ?_
          refine lv_icmp_ne (tgt := 49) hx hb dX11_about_38 (by decide) (fun h10 => ?_) (fun h10 => ?_)
          ·
            have j11 : Iv 2 2 a1 := r_nelo h10 j9 ik_1 (by decide)
            refine lv_aload_n hx hb dX11_about_49 rfl (lv_at hl 0 rfl) ?_
            refine va_get (D := (dC, dI)) (ci := 11) (v := .ref o12) (C := RX11) (T := TX11) (N := 13) hx hb hts iw_X11_about_X11 hown hK hP 0 rfl rfl 2 (by decide) (hts (.fieldLink RX11 26 "HolelessHouse" "ordering" "LHolelessHouse$Ordering;") hm_X11_about_1) (fun _ h9 => h9) rfl dX11_about_50 ?_
            refine va_getN (D := (dC, dI)) (ci := 6) (v := .int v39) (C := RX6) (T := TX6) (N := 9) hx hb hts iw_X11_about_X6 hown hK hP 1 rfl rfl 7 (by decide) (hN.use ns_29) (fun _ h9 => h9) rfl dX11_about_53 ?_
            refine lv_if_ne (tgt := 63) hx hb dX11_about_56 (by decide) (fun h12 => ?_) (fun h12 => ?_)
            ·
              refine lv_iconst (v := 0) hx hb dX11_about_63 (by decide) ?_
              rw [hQ]
              exact W.iret (v := 0) hx hb hr (fun t ht hW => ⟨⟨0, (), rfl, trivial, by rw [ht]; exact hP, va_K.moved hW.alike hK, hD⟩, hS.F ht⟩) hS.2.2 dX11_about_64
            ·
              have j13 : Iv 0 0 v39 := r_eq h12 ik_0
              refine lv_iconst (v := 1) hx hb dX11_about_59 (by decide) ?_
              refine lv_goto (tgt := 64) hx hb dX11_about_60 (by decide) ?_
              rw [hQ]
              exact W.iret (v := 1) hx hb hr (fun t ht hW => ⟨⟨1, (), rfl, trivial, by rw [ht]; exact hP, va_K.moved hW.alike hK, hD⟩, hS.F ht⟩) hS.2.2 dX11_about_64
          ·
            have j14 : Iv 1 1 a1 := r_eq h10 ik_1
            refine lv_aload_n hx hb dX11_about_41 rfl (lv_at hl 0 rfl) ?_
            refine va_get (D := (dC, dI)) (ci := 11) (v := .ref o12) (C := RX11) (T := TX11) (N := 13) hx hb hts iw_X11_about_X11 hown hK hP 0 rfl rfl 2 (by decide) (hts (.fieldLink RX11 26 "HolelessHouse" "ordering" "LHolelessHouse$Ordering;") hm_X11_about_1) (fun _ h9 => h9) rfl dX11_about_42 ?_
            refine va_getN (D := (dC, dI)) (ci := 6) (v := .int v40) (C := RX6) (T := TX6) (N := 9) hx hb hts iw_X11_about_X6 hown hK hP 1 rfl rfl 8 (by decide) (hN.use ns_30) (fun _ h9 => h9) rfl dX11_about_45 ?_
            rw [hQ]
            exact W.iret (v := v40) hx hb hr (fun t ht hW => ⟨⟨v40, (), rfl, trivial, by rw [ht]; exact hP, va_K.moved hW.alike hK, hD⟩, hS.F ht⟩) hS.2.2 dX11_about_48
        ·
          have j15 : Iv 0 0 a1 := r_eq h8 ik_0
          refine lv_aload_n hx hb dX11_about_28 rfl (lv_at hl 0 rfl) ?_
          refine va_get (D := (dC, dI)) (ci := 11) (v := .ref o12) (C := RX11) (T := TX11) (N := 13) hx hb hts iw_X11_about_X11 hown hK hP 0 rfl rfl 2 (by decide) (hts (.fieldLink RX11 26 "HolelessHouse" "ordering" "LHolelessHouse$Ordering;") hm_X11_about_1) (fun _ h9 => h9) rfl dX11_about_29 ?_
          refine va_getN (D := (dC, dI)) (ci := 6) (v := .int v39) (C := RX6) (T := TX6) (N := 9) hx hb hts iw_X11_about_X6 hown hK hP 1 rfl rfl 7 (by decide) (hN.use ns_29) (fun _ h9 => h9) rfl dX11_about_32 ?_
          rw [hQ]
          exact W.iret (v := v39) hx hb hr (fun t ht hW => ⟨⟨v39, (), rfl, trivial, by rw [ht]; exact hP, va_K.moved hW.alike hK, hD⟩, hS.F ht⟩) hS.2.2 dX11_about_35
      ·
        have j16 : Iv 0 0 v38 := r_eq h6 ik_0
        refine lv_bipush (v := (-9)) hx hb dX11_about_21 (by decide) ?_
        rw [hQ]
        exact W.iret (v := (-9)) hx hb hr (fun t ht hW => ⟨⟨(-9), (), rfl, trivial, by rw [ht]; exact hP, va_K.moved hW.alike hK, hD⟩, hS.F ht⟩) hS.2.2 dX11_about_23
    ·
      have qh4 := nle_i h4
      have j17 : Iv 3 2147483647 a1 := r_ltr qh4 ik_2 j3 (by decide)
      refine lv_iconst (v := (-1)) hx hb dX11_about_9 (by decide) ?_
      rw [hQ]
      exact W.iret (v := (-1)) hx hb hr (fun t ht hW => ⟨⟨(-1), (), rfl, trivial, by rw [ht]; exact hP, va_K.moved hW.alike hK, hD⟩, hS.F ht⟩) hS.2.2 dX11_about_10
theorem iw_X6_fillIn_X3 : ∀ w ∈ wsX30, w ∈ wsX6_fillIn := fun _ h => List.mem_cons.mpr (Or.inr (List.mem_append.mpr (Or.inl (List.mem_append.mpr (Or.inr h)))))
theorem iw_X6_fillIn_X6 : ∀ w ∈ wsX60, w ∈ wsX6_fillIn := fun _ h => List.mem_cons.mpr (Or.inr (List.mem_append.mpr (Or.inl (List.mem_append.mpr (Or.inl (List.mem_append.mpr (Or.inr h)))))))
set_option maxHeartbeats 4000000 in
set_option maxRecDepth 100000 in
theorem kX6_fillIn_1 (l : Launch) (dC : Nat → ClassId) (dI : Nat → Nat → Nat) (cI c2 cZ : ClassId) (o1 : Nat) (o30 : Nat) (o2 : Nat) (o7 : Nat) (o21 : Nat) (o23 : Nat) (o3 : Nat) (o31 : Nat) (rw4 : Nat → Nat) (Gw5 : Nat → Nat → Int32) (v6 : Int32) (fw22 : Nat → Int32) (v25 : Int32) (v26 : Int32) (v27 : Int32) (v28 : Int32) (v29 : Int32) (fw32 : Nat → Int32) (v33 : Int32) (v34 : Int32) (sz : Nat) (Gw5_b : Bg 13 12 0 4095 Gw5) (v6_h : Iv 0 12 v6) (fw22_b : Bd 12 0 11 fw22) (v25_h : Iv 0 12 v25) (v26_h : Iv 0 12 v26) (v27_h : Iv 0 1 v27) (fw32_b : Bd 12 0 4095 fw32) (v33_h : Iv 0 12 v33) : Met l yX6_fillIn wsX6_fillIn ({ frames := 2, cells := 0, slots := 0, locals := 91 }) (va_Pc [.ref o1, .ref o30] (wPre (dC, dI) [(cI, .int), (c2, .array .int), (cZ, .boolean)] (([(o1, .inr (6, [.ref o2, .ref o7, .ref o21, .ref o23, .int v25, .int v26, .int v27, .int v28, .int v29])), (o2, .inr (3, [.ref o3, .int v6])), (o30, .inr (4, [.ref o31, .int v33, .int v34])), (o3, .inl (c2, 13, .inr (.inr (.inr (.inr (fun i => if i < 13 then some (rw4 i) else none)))))), (o31, .inl (cI, 12, .inl fw32)), (o21, .inl (cI, 12, .inl fw22))] : va_W) ++ (gr13 rw4 cI 12 Gw5 ++ ([] : va_W))) sz)) (va_Qv (fun (u : Int32 × Int32 × (Nat → Nat → Int32) × (Nat → Int32)) => Iv 0 12 u.1 ∧ Bg 13 12 0 4095 u.2.2.1 ∧ Bd 12 0 4095 u.2.2.2) (fun u t => wPost (dC, dI) [(cI, .int), (c2, .array .int), (cZ, .boolean)] (va_A (([(o1, .inr (6, [.ref o2, .ref o7, .ref o21, .ref o23, .int v25, .int v26, .int v27, .int v28, .int v29])), (o2, .inr (3, [.ref o3, .int v6])), (o30, .inr (4, [.ref o31, .int v33, .int v34])), (o3, .inl (c2, 13, .inr (.inr (.inr (.inr (fun i => if i < 13 then some (rw4 i) else none)))))), (o31, .inl (cI, 12, .inl fw32)), (o21, .inl (cI, 12, .inl fw22))] : va_W) ++ (gr13 rw4 cI 12 Gw5 ++ ([] : va_W))) sz) (([(o1, .inr (6, [.ref o2, .ref o7, .ref o21, .ref o23, .int v25, .int v26, .int v27, .int v28, .int v29])), (o2, .inr (3, [.ref o3, .int u.1])), (o30, .inr (4, [.ref o31, .int v33, .int u.2.1])), (o3, .inl (c2, 13, .inr (.inr (.inr (.inr (fun i => if i < 13 then some (rw4 i) else none)))))), (o31, .inl (cI, 12, .inl u.2.2.2)), (o21, .inl (cI, 12, .inl fw22))] : va_W) ++ (gr13 rw4 cI 12 u.2.2.1 ++ ([] : va_W))) t) (va_A (([(o1, .inr (6, [.ref o2, .ref o7, .ref o21, .ref o23, .int v25, .int v26, .int v27, .int v28, .int v29])), (o2, .inr (3, [.ref o3, .int v6])), (o30, .inr (4, [.ref o31, .int v33, .int v34])), (o3, .inl (c2, 13, .inr (.inr (.inr (.inr (fun i => if i < 13 then some (rw4 i) else none)))))), (o31, .inl (cI, 12, .inl fw32)), (o21, .inl (cI, 12, .inl fw22))] : va_W) ++ (gr13 rw4 cI 12 Gw5 ++ ([] : va_W))) sz)) 0 0 (va_A (([(o1, .inr (6, [.ref o2, .ref o7, .ref o21, .ref o23, .int v25, .int v26, .int v27, .int v28, .int v29])), (o2, .inr (3, [.ref o3, .int v6])), (o30, .inr (4, [.ref o31, .int v33, .int v34])), (o3, .inl (c2, 13, .inr (.inr (.inr (.inr (fun i => if i < 13 then some (rw4 i) else none)))))), (o31, .inl (cI, 12, .inl fw32)), (o21, .inl (cI, 12, .inl fw22))] : va_W) ++ (gr13 rw4 cI 12 Gw5 ++ ([] : va_W))) sz) := by
  refine Met.ofW (cc := cX6_fillIn) (maxL := 3) (ret := none) (by decide) rfl ?_
  intro p e s m args below meth c s₁ B hml hv
  obtain ⟨rfl, hsz, hP, hK, hD0, hN⟩ := hv
  have hx := B.exec
  have hb := B.bytes
  have hr := B.returns
  have hts := atoms_spec (ws := wsX6_fillIn) B.pre
  have hown : s.vm.findClass RX6 = some m.cls := findClass_of_methodNamed B.named
  have hlocks := B.notSynchronized
  subst hsz
  have hD := hD0.self (sz := s.heap.size)
  generalize hAe : va_A (([(o1, .inr (6, [.ref o2, .ref o7, .ref o21, .ref o23, .int v25, .int v26, .int v27, .int v28, .int v29])), (o2, .inr (3, [.ref o3, .int v6])), (o30, .inr (4, [.ref o31, .int v33, .int v34])), (o3, .inl (c2, 13, .inr (.inr (.inr (.inr (fun i => if i < 13 then some (rw4 i) else none)))))), (o31, .inl (cI, 12, .inl fw32)), (o21, .inl (cI, 12, .inl fw22))] : va_W) ++ (gr13 rw4 cI 12 Gw5 ++ ([] : va_W))) s.heap.size = A at hD ⊢
  have hA : ∀ q : Nat, s.heap.size ≤ q → A q := fun q h => by rw [← hAe]; exact Or.inr h
  have hS : va_S A s.heap s.heap [] := va_S.rf
  have hP : va_P (dC, dI) vwCl (([(o1, .inr (6, [.ref o2, .ref o7, .ref o21, .ref o23, .int v25, .int v26, .int v27, .int v28, .int v29])), (o2, .inr (3, [.ref o3, .int v6])), (o30, .inr (4, [.ref o31, .int v33, .int v34])), (o3, .inl (c2, 13, .inr (.inr (.inr (.inr (fun i => if i < 13 then some (rw4 i) else none)))))), (o31, .inl (cI, 12, .inl fw32)), (o21, .inl (cI, 12, .inl fw22))] : va_W) ++ (gr13 rw4 cI 12 Gw5 ++ ([] : va_W))) s.heap := hP
  have hl := lv_entry ([.ref o1, .ref o30]) (n := 3) (Nat.le_of_ble_eq_true rfl)
  rw [lg_entry_eq]
  generalize (lg_sl ([.ref o1, .ref o30]) ++ List.replicate (3 - (lg_sl ([.ref o1, .ref o30])).length) Slot.unset).toArray = ls at hl ⊢
  have hl : lv_has ls 3 [(0, .ref o1), (1, .ref o30)] := hl
  refine gen_Q (fun Q hQ => ?_)
  refine lv_aload_n hx hb dX6_fillIn_0 rfl (lv_at hl 0 rfl) ?_
  refine va_get (D := (dC, dI)) (ci := 6) (v := .ref o2) (C := RX6) (T := TX6) (N := 9) hx hb hts iw_X6_fillIn_X6 hown hK hP 0 rfl rfl 0 (by decide) (hts (.fieldLink RX6 12 "HolelessHouse$Ordering" "going" "LHolelessHouse$Going;") hm_X6_fillIn_1) (fun _ h9 => h9) rfl dX6_fillIn_1 ?_
  refine lv_aload_n hx hb dX6_fillIn_4 rfl (lv_at hl 1 rfl) ?_
  refine kc_v (D := (dC, dI)) (S := Int32 × (Nat → Nat → Int32)) (wc := ([(o30, .inr (4, [.ref o31, .int v33, .int v34])), (o2, .inr (3, [.ref o3, .int v6])), (o3, .inl (c2, 13, .inr (.inr (.inr (.inr (fun i => if i < 13 then some (rw4 i) else none)))))), (o31, .inl (cI, 12, .inl fw32))] : va_W) ++ (gr13 rw4 cI 12 Gw5 ++ ([] : va_W))) (wr := [(o1, .inr (6, [.ref o2, .ref o7, .ref o21, .ref o23, .int v25, .int v26, .int v27, .int v28, .int v29])), (o21, .inl (cI, 12, .inl fw22))]) (w1 := fun u => ([(o30, .inr (4, [.ref o31, .int v33, .int v34])), (o2, .inr (3, [.ref o3, .int u.1])), (o3, .inl (c2, 13, .inr (.inr (.inr (.inr (fun i => if i < 13 then some (rw4 i) else none)))))), (o31, .inl (cI, 12, .inl fw32))] : va_W) ++ (gr13 rw4 cI 12 u.2 ++ ([] : va_W))) (wn := fun u => ([(o1, .inr (6, [.ref o2, .ref o7, .ref o21, .ref o23, .int v25, .int v26, .int v27, .int v28, .int v29])), (o2, .inr (3, [.ref o3, .int u.1])), (o30, .inr (4, [.ref o31, .int v33, .int v34])), (o3, .inl (c2, 13, .inr (.inr (.inr (.inr (fun i => if i < 13 then some (rw4 i) else none)))))), (o31, .inl (cI, 12, .inl fw32)), (o21, .inl (cI, 12, .inl fw22))] : va_W) ++ (gr13 rw4 cI 12 u.2 ++ ([] : va_W))) (fun hPc hDc => va_runVN (As := [.ref o30]) (rest := []) ⟨hx, hb, hml, hown, hts⟩ (kX3_start_1 l dC dI cI c2 cZ o2 o30 o31 o3 rw4 Gw5 v6 fw32 v33 v34 s.heap.size Gw5_b v6_h fw32_b v33_h) ⟨va_cnB 1 hts gX6_fillIn_X3_start_n57 rfl rfl rfl (hN.1 _ ns_84) (hts (.initialized RX3) hm_X6_fillIn_5) (by decide +kernel) ⟨Nat.le_of_ble_eq_true rfl, Nat.le_of_ble_eq_true rfl⟩, (hts (.instanceMethod yX3_start) hm_X6_fillIn_4), (hts (.selects RX3 yX3_start yX3_start) hm_X6_fillIn_6)⟩ (pre_V hPc hK hDc hN (ci := 3) (q0 := 1) rfl rfl) rfl rfl hl.1 rfl (lv_room (Nat.le_of_ble_eq_true rfl)) dX6_fillIn_5 ⟨Nat.le_of_ble_eq_true rfl, Nat.le_of_ble_eq_true rfl⟩) hP hD hS hA [2, 1, 3, 4, 6, 7, 8, 9, 10, 11, 12, 13, 14, 15, 16, 17, 18] [0, 5] [0, 3, 2, 4, 5, 1, 6, 7, 8, 9, 10, 11, 12, 13, 14, 15, 16, 17, 18] rfl rfl (by decide +kernel) (by decide +kernel) (by decide +kernel) (by decide +kernel) (fun _ => rfl) (fun u H locs hq hP hD hS => ?_)
  obtain ⟨y1, G2⟩ := u
  obtain ⟨y1_h, G2_b⟩ := hq
  have hP : va_P (dC, dI) vwCl (([(o1, .inr (6, [.ref o2, .ref o7, .ref o21, .ref o23, .int v25, .int v26, .int v27, .int v28, .int v29])), (o2, .inr (3, [.ref o3, .int y1])), (o30, .inr (4, [.ref o31, .int v33, .int v34])), (o3, .inl (c2, 13, .inr (.inr (.inr (.inr (fun i => if i < 13 then some (rw4 i) else none)))))), (o31, .inl (cI, 12, .inl fw32)), (o21, .inl (cI, 12, .inl fw22))] : va_W) ++ (gr13 rw4 cI 12 G2 ++ ([] : va_W))) H := hP
  have hD : va_D A (([(o1, .inr (6, [.ref o2, .ref o7, .ref o21, .ref o23, .int v25, .int v26, .int v27, .int v28, .int v29])), (o2, .inr (3, [.ref o3, .int y1])), (o30, .inr (4, [.ref o31, .int v33, .int v34])), (o3, .inl (c2, 13, .inr (.inr (.inr (.inr (fun i => if i < 13 then some (rw4 i) else none)))))), (o31, .inl (cI, 12, .inl fw32)), (o21, .inl (cI, 12, .inl fw22))] : va_W) ++ (gr13 rw4 cI 12 G2 ++ ([] : va_W))) := hD
  refine lv_iconst (v := 0) hx hb dX6_fillIn_8 (by decide) ?_
  refine lv_istore_n (lv' := [(2, .int 0), (0, .ref o1), (1, .ref o30)]) hx hb dX6_fillIn_9 rfl hl (by decide) rfl (fun ls hl => ?_)
  have L1 : ∀ (N : Nat) (x110 : Int32) (G111 : Nat → Nat → Int32) (f112 : Nat → Int32) (x113 : Int32) (H : Heap) (locs : List Loc) (ls : Array Slot), (12 - x110.toInt).toNat < N → Iv 0 12 x110 → Bg 13 12 0 4095 G111 → Bd 12 0 4095 f112 → va_P (dC, dI) vwCl (([(o1, .inr (6, [.ref o2, .ref o7, .ref o21, .ref o23, .int v25, .int v26, .int v27, .int v28, .int v29])), (o2, .inr (3, [.ref o3, .int y1])), (o30, .inr (4, [.ref o31, .int v33, .int x113])), (o3, .inl (c2, 13, .inr (.inr (.inr (.inr (fun i => if i < 13 then some (rw4 i) else none)))))), (o31, .inl (cI, 12, .inl f112)), (o21, .inl (cI, 12, .inl fw22))] : va_W) ++ (gr13 rw4 cI 12 G111 ++ ([] : va_W))) H → va_D A (([(o1, .inr (6, [.ref o2, .ref o7, .ref o21, .ref o23, .int v25, .int v26, .int v27, .int v28, .int v29])), (o2, .inr (3, [.ref o3, .int y1])), (o30, .inr (4, [.ref o31, .int v33, .int x113])), (o3, .inl (c2, 13, .inr (.inr (.inr (.inr (fun i => if i < 13 then some (rw4 i) else none)))))), (o31, .inl (cI, 12, .inl f112)), (o21, .inl (cI, 12, .inl fw22))] : va_W) ++ (gr13 rw4 cI 12 G111 ++ ([] : va_W))) → va_S A s.heap H locs → lv_has ls 3 [(2, .int x110), (0, .ref o1), (1, .ref o30)] → W p l e ({ frames := 2, cells := 0, slots := 0, locals := 91 }) s m ([.ref o1, .ref o30] : List Value).toArray below meth c H locs 0 0 Q (F0 m 10 ls []) := by
    intro N
    induction N with
    | zero =>
      intro x110 G111 f112 x113 H locs ls hM
      exact absurd hM (Nat.not_lt_zero _)
    | succ N ih1 =>
      intro x110 G111 f112 x113 H locs ls hM1 x110_h G111_b f112_b hP hD hS hl
      refine lv_iload_n hx hb dX6_fillIn_10 rfl (lv_at hl 0 rfl) ?_
      refine lv_aload_n hx hb dX6_fillIn_11 rfl (lv_at hl 1 rfl) ?_
      refine va_get (D := (dC, dI)) (ci := 6) (v := .int v26) (C := RX6) (T := TX6) (N := 9) hx hb hts iw_X6_fillIn_X6 hown hK hP 0 rfl rfl 5 (by decide) (hts (.fieldLink RX6 36 "HolelessHouse$Ordering" "size" "I") hm_X6_fillIn_2) (fun _ h9 => h9) rfl dX6_fillIn_12 ?_
      refine lv_icmp_ge (tgt := 58) hx hb dX6_fillIn_15 (by decide) (fun h114 => ?_) (fun h114 => ?_)
      ·
        have qh114 := le_i h114
        rw [hQ]
        exact W.vret hx hb hr (fun t ht hW => ⟨⟨(y1, x113, G111, f112), rfl, ⟨y1_h, G111_b, f112_b⟩, by rw [ht]; exact hP, va_K.moved hW.alike hK, hD⟩, hS.F ht⟩) hS.2.2 dX6_fillIn_58
      ·
        have qh114 := nle_i h114
        have j115 : Iv 0 11 x110 := r_ltl qh114 x110_h v26_h (by decide)
        have j116 : Iv 1 12 v26 := r_ltr qh114 x110_h v26_h (by decide)
        refine lv_aload_n hx hb dX6_fillIn_18 rfl (lv_at hl 2 rfl) ?_
        refine lv_aload_n hx hb dX6_fillIn_19 rfl (lv_at hl 1 rfl) ?_
        refine va_get (D := (dC, dI)) (ci := 6) (v := .ref o2) (C := RX6) (T := TX6) (N := 9) hx hb hts iw_X6_fillIn_X6 hown hK hP 0 rfl rfl 0 (by decide) (hts (.fieldLink RX6 12 "HolelessHouse$Ordering" "going" "LHolelessHouse$Going;") hm_X6_fillIn_1) (fun _ h9 => h9) rfl dX6_fillIn_20 ?_
        refine va_getN (D := (dC, dI)) (ci := 3) (v := .ref o3) (C := RX3) (T := TX3) (N := 2) hx hb hts iw_X6_fillIn_X3 hown hK hP 1 rfl rfl 0 (by decide) (hN.use ns_24) (fun _ h9 => h9) rfl dX6_fillIn_23 ?_
        refine lv_iload_n hx hb dX6_fillIn_26 rfl (lv_at hl 0 rfl) ?_
        refine va_alda hx hb hK hP 3 1 rfl rfl (vin_iv j115 (by decide)) dX6_fillIn_27 (tk_r (v := .ref (rw4 (Int32.toNatClampNeg x110))) (gr_ref (cl_lt j115 (by decide))) ?_)
        refine lv_aload_n hx hb dX6_fillIn_28 rfl (lv_at hl 1 rfl) ?_
        refine va_get (D := (dC, dI)) (ci := 6) (v := .ref o21) (C := RX6) (T := TX6) (N := 9) hx hb hts iw_X6_fillIn_X6 hown hK hP 0 rfl rfl 2 (by decide) (hts (.fieldLink RX6 25 "HolelessHouse$Ordering" "places" "[I") hm_X6_fillIn_3) (fun _ h9 => h9) rfl dX6_fillIn_29 ?_
        refine lv_iload_n hx hb dX6_fillIn_32 rfl (lv_at hl 0 rfl) ?_
        refine va_iald hx hb hK hP 5 0 rfl rfl (vin_iv j115 (by decide)) dX6_fillIn_33 (lv_topi (fun x117 x117_e => ?_))
        have x117_h : Iv 0 11 x117 := iv_e x117_e (bd_at fw22_b (vin_iv j115 (by decide)))
        refine va_iald hx hb hK hP (6 + (Int32.toNatClampNeg x110)) 0 (gr13_get (pre := ([(o1, .inr (6, [.ref o2, .ref o7, .ref o21, .ref o23, .int v25, .int v26, .int v27, .int v28, .int v29])), (o2, .inr (3, [.ref o3, .int y1])), (o30, .inr (4, [.ref o31, .int v33, .int x113])), (o3, .inl (c2, 13, .inr (.inr (.inr (.inr (fun i => if i < 13 then some (rw4 i) else none)))))), (o31, .inl (cI, 12, .inl f112)), (o21, .inl (cI, 12, .inl fw22))] : va_W)) (post := ([] : va_W)) rfl (cl_lt j115 (by decide))) rfl (vin_iv x117_h (by decide)) dX6_fillIn_34 (lv_topi (fun x118 x118_e => ?_))
        have x118_h : Iv 0 4095 x118 := iv_e x118_e (bg_at G111_b (cl_lt j115 (by decide)) (vin_iv x117_h (by decide)))
        refine kc_v (D := (dC, dI)) (S := Int32 × (Nat → Int32)) (wc := [(o30, .inr (4, [.ref o31, .int v33, .int x113])), (o31, .inl (cI, 12, .inl f112))]) (wr := ([(o1, .inr (6, [.ref o2, .ref o7, .ref o21, .ref o23, .int v25, .int v26, .int v27, .int v28, .int v29])), (o2, .inr (3, [.ref o3, .int y1])), (o3, .inl (c2, 13, .inr (.inr (.inr (.inr (fun i => if i < 13 then some (rw4 i) else none)))))), (o21, .inl (cI, 12, .inl fw22))] : va_W) ++ (gr13 rw4 cI 12 G111 ++ ([] : va_W))) (w1 := fun u => [(o30, .inr (4, [.ref o31, .int v33, .int u.1])), (o31, .inl (cI, 12, .inl u.2))]) (wn := fun u => ([(o1, .inr (6, [.ref o2, .ref o7, .ref o21, .ref o23, .int v25, .int v26, .int v27, .int v28, .int v29])), (o2, .inr (3, [.ref o3, .int y1])), (o30, .inr (4, [.ref o31, .int v33, .int u.1])), (o3, .inl (c2, 13, .inr (.inr (.inr (.inr (fun i => if i < 13 then some (rw4 i) else none)))))), (o31, .inl (cI, 12, .inl u.2)), (o21, .inl (cI, 12, .inl fw22))] : va_W) ++ (gr13 rw4 cI 12 G111 ++ ([] : va_W))) (fun hPc hDc => va_runVN (As := [.int x118]) (rest := []) ⟨hx, hb, hml, hown, hts⟩ (kX4_joinAll_1 l dC dI cI c2 cZ o30 o31 f112 v33 x113 x118 H.size f112_b v33_h x118_h) ⟨va_cnB 1 hts gX6_fillIn_X4_joinAll_n102 rfl rfl rfl (hN.1 _ ns_104) (hts (.initialized RX4) hm_X6_fillIn_15) (by decide +kernel) ⟨Nat.le_of_ble_eq_true rfl, Nat.le_of_ble_eq_true rfl⟩, (hts (.instanceMethod yX4_joinAll) hm_X6_fillIn_14), (hts (.selects RX4 yX4_joinAll yX4_joinAll) hm_X6_fillIn_16)⟩ (pre_V hPc hK hDc hN (ci := 4) (q0 := 0) rfl rfl) rfl rfl hl.1 rfl (lv_room (Nat.le_of_ble_eq_true rfl)) dX6_fillIn_35 ⟨Nat.le_of_ble_eq_true rfl, Nat.le_of_ble_eq_true rfl⟩) hP hD hS hA [2, 4] [0, 1, 3, 5, 6, 7, 8, 9, 10, 11, 12, 13, 14, 15, 16, 17, 18] [0, 1, 17, 2, 18, 3, 4, 5, 6, 7, 8, 9, 10, 11, 12, 13, 14, 15, 16] rfl rfl (by decide +kernel) (by decide +kernel) (by decide +kernel) (by decide +kernel) (fun _ => rfl) (fun u H locs hq hP hD hS => ?_)
        obtain ⟨y119, f120⟩ := u
        have f120_b := hq
        have hP : va_P (dC, dI) vwCl (([(o1, .inr (6, [.ref o2, .ref o7, .ref o21, .ref o23, .int v25, .int v26, .int v27, .int v28, .int v29])), (o2, .inr (3, [.ref o3, .int y1])), (o30, .inr (4, [.ref o31, .int v33, .int y119])), (o3, .inl (c2, 13, .inr (.inr (.inr (.inr (fun i => if i < 13 then some (rw4 i) else none)))))), (o31, .inl (cI, 12, .inl f120)), (o21, .inl (cI, 12, .inl fw22))] : va_W) ++ (gr13 rw4 cI 12 G111 ++ ([] : va_W))) H := hP
        have hD : va_D A (([(o1, .inr (6, [.ref o2, .ref o7, .ref o21, .ref o23, .int v25, .int v26, .int v27, .int v28, .int v29])), (o2, .inr (3, [.ref o3, .int y1])), (o30, .inr (4, [.ref o31, .int v33, .int y119])), (o3, .inl (c2, 13, .inr (.inr (.inr (.inr (fun i => if i < 13 then some (rw4 i) else none)))))), (o31, .inl (cI, 12, .inl f120)), (o21, .inl (cI, 12, .inl fw22))] : va_W) ++ (gr13 rw4 cI 12 G111 ++ ([] : va_W))) := hD
        refine lv_aload_n hx hb dX6_fillIn_38 rfl (lv_at hl 1 rfl) ?_
        refine va_get (D := (dC, dI)) (ci := 6) (v := .ref o2) (C := RX6) (T := TX6) (N := 9) hx hb hts iw_X6_fillIn_X6 hown hK hP 0 rfl rfl 0 (by decide) (hts (.fieldLink RX6 12 "HolelessHouse$Ordering" "going" "LHolelessHouse$Going;") hm_X6_fillIn_1) (fun _ h9 => h9) rfl dX6_fillIn_39 ?_
        refine lv_iload_n hx hb dX6_fillIn_42 rfl (lv_at hl 0 rfl) ?_
        refine lv_aload_n hx hb dX6_fillIn_43 rfl (lv_at hl 1 rfl) ?_
        refine va_get (D := (dC, dI)) (ci := 6) (v := .ref o21) (C := RX6) (T := TX6) (N := 9) hx hb hts iw_X6_fillIn_X6 hown hK hP 0 rfl rfl 2 (by decide) (hts (.fieldLink RX6 25 "HolelessHouse$Ordering" "places" "[I") hm_X6_fillIn_3) (fun _ h9 => h9) rfl dX6_fillIn_44 ?_
        refine lv_iload_n hx hb dX6_fillIn_47 rfl (lv_at hl 0 rfl) ?_
        refine va_iald hx hb hK hP 5 0 rfl rfl (vin_iv j115 (by decide)) dX6_fillIn_48 (lv_topi (fun x121 x121_e => ?_))
        have x121_h : Iv 0 11 x121 := iv_e x121_e (bd_at fw22_b (vin_iv j115 (by decide)))
        refine kc_v (D := (dC, dI)) (S := (Nat → Nat → Int32)) (wc := ([(o2, .inr (3, [.ref o3, .int y1])), (o3, .inl (c2, 13, .inr (.inr (.inr (.inr (fun i => if i < 13 then some (rw4 i) else none))))))] : va_W) ++ (gr13 rw4 cI 12 G111 ++ ([] : va_W))) (wr := [(o1, .inr (6, [.ref o2, .ref o7, .ref o21, .ref o23, .int v25, .int v26, .int v27, .int v28, .int v29])), (o30, .inr (4, [.ref o31, .int v33, .int y119])), (o31, .inl (cI, 12, .inl f120)), (o21, .inl (cI, 12, .inl fw22))]) (w1 := fun u => ([(o2, .inr (3, [.ref o3, .int y1])), (o3, .inl (c2, 13, .inr (.inr (.inr (.inr (fun i => if i < 13 then some (rw4 i) else none))))))] : va_W) ++ (gr13 rw4 cI 12 u ++ ([] : va_W))) (wn := fun u => ([(o1, .inr (6, [.ref o2, .ref o7, .ref o21, .ref o23, .int v25, .int v26, .int v27, .int v28, .int v29])), (o2, .inr (3, [.ref o3, .int y1])), (o30, .inr (4, [.ref o31, .int v33, .int y119])), (o3, .inl (c2, 13, .inr (.inr (.inr (.inr (fun i => if i < 13 then some (rw4 i) else none)))))), (o31, .inl (cI, 12, .inl f120)), (o21, .inl (cI, 12, .inl fw22))] : va_W) ++ (gr13 rw4 cI 12 u ++ ([] : va_W))) (fun hPc hDc => va_runVN (As := [.int x110, .int x121]) (rest := []) ⟨hx, hb, hml, hown, hts⟩ (kX3_leave_1 l dC dI cI c2 cZ o2 o3 rw4 G111 y1 x110 x121 H.size G111_b y1_h j115 x121_h) ⟨va_cnB 2 hts gX6_fillIn_X3_leave_n75 rfl rfl rfl (hN.1 _ ns_87) (hts (.initialized RX3) hm_X6_fillIn_5) (by decide +kernel) ⟨Nat.le_of_ble_eq_true rfl, Nat.le_of_ble_eq_true rfl⟩, (hts (.instanceMethod yX3_leave) hm_X6_fillIn_24), (hts (.selects RX3 yX3_leave yX3_leave) hm_X6_fillIn_25)⟩ (pre_V hPc hK hDc hN (ci := 3) (q0 := 0) rfl rfl) rfl rfl hl.1 rfl (lv_room (Nat.le_of_ble_eq_true rfl)) dX6_fillIn_49 ⟨Nat.le_of_ble_eq_true rfl, Nat.le_of_ble_eq_true rfl⟩) hP hD hS hA [1, 3, 6, 7, 8, 9, 10, 11, 12, 13, 14, 15, 16, 17, 18] [0, 2, 4, 5] [0, 4, 1, 5, 2, 3, 6, 7, 8, 9, 10, 11, 12, 13, 14, 15, 16, 17, 18] rfl rfl (by decide +kernel) (by decide +kernel) (by decide +kernel) (by decide +kernel) (fun _ => rfl) (fun G122 H locs hq hP hD hS => ?_)
        have G122_b := hq
        have hP : va_P (dC, dI) vwCl (([(o1, .inr (6, [.ref o2, .ref o7, .ref o21, .ref o23, .int v25, .int v26, .int v27, .int v28, .int v29])), (o2, .inr (3, [.ref o3, .int y1])), (o30, .inr (4, [.ref o31, .int v33, .int y119])), (o3, .inl (c2, 13, .inr (.inr (.inr (.inr (fun i => if i < 13 then some (rw4 i) else none)))))), (o31, .inl (cI, 12, .inl f120)), (o21, .inl (cI, 12, .inl fw22))] : va_W) ++ (gr13 rw4 cI 12 G122 ++ ([] : va_W))) H := hP
        have hD : va_D A (([(o1, .inr (6, [.ref o2, .ref o7, .ref o21, .ref o23, .int v25, .int v26, .int v27, .int v28, .int v29])), (o2, .inr (3, [.ref o3, .int y1])), (o30, .inr (4, [.ref o31, .int v33, .int y119])), (o3, .inl (c2, 13, .inr (.inr (.inr (.inr (fun i => if i < 13 then some (rw4 i) else none)))))), (o31, .inl (cI, 12, .inl f120)), (o21, .inl (cI, 12, .inl fw22))] : va_W) ++ (gr13 rw4 cI 12 G122 ++ ([] : va_W))) := hD
        obtain ⟨x123, x123_e⟩ : ∃ z : Int32, z = x110 + 1 := ⟨_, rfl⟩
        have x123_h : Iv 1 12 x123 := iv_e x123_e (iv_add j115 ik_1 (by decide))
        refine lv_iinc (v := x123) (lv' := [(2, .int x123), (0, .ref o1), (1, .ref o30)]) hx hb dX6_fillIn_52 hl (k := 0) rfl (incN (by decide +kernel) x123_e) (by decide) rfl (fun ls hl => ?_)
        refine lv_goto (tgt := 10) hx hb dX6_fillIn_55 (by decide) ?_
        exact ih1 x123 G122 f120 y119 _ _ _ (ms_up x123_e j115 (by decide) hM1) (iv_w x123_h (by decide)) G122_b f120_b hP hD hS hl
  exact L1 _ 0 G2 fw32 v34 _ _ _ (Nat.lt_succ_self _) (iv_w ik_0 (by decide)) G2_b fw32_b hP hD hS hl
theorem iw_X11_fill_X11 : ∀ w ∈ wsX110, w ∈ wsX11_fill := fun _ h => List.mem_cons.mpr (Or.inr (List.mem_append.mpr (Or.inl (List.mem_append.mpr (Or.inl (List.mem_append.mpr (Or.inl (List.mem_append.mpr (Or.inr h)))))))))
theorem iw_X11_fill_X6 : ∀ w ∈ wsX60, w ∈ wsX11_fill := fun _ h => List.mem_cons.mpr (Or.inr (List.mem_append.mpr (Or.inl (List.mem_append.mpr (Or.inl (List.mem_append.mpr (Or.inr h)))))))
set_option maxHeartbeats 4000000 in
set_option maxRecDepth 100000 in
theorem kX11_fill_1 (l : Launch) (dC : Nat → ClassId) (dI : Nat → Nat → Nat) (cI c2 cZ : ClassId) (o1 : Nat) (o2 : Nat) (o7 : Nat) (o12 : Nat) (o41 : Nat) (o51 : Nat) (o64 : Nat) (o77 : Nat) (o84 : Nat) (o91 : Nat) (o99 : Nat) (o111 : Nat) (o123 : Nat) (o13 : Nat) (o18 : Nat) (o32 : Nat) (o34 : Nat) (o14 : Nat) (o3 : Nat) (fw4 : Nat → Int32) (v5 : Int32) (v6 : Int32) (rw15 : Nat → Nat) (Gw16 : Nat → Nat → Int32) (v17 : Int32) (fw33 : Nat → Int32) (v36 : Int32) (v37 : Int32) (v38 : Int32) (v39 : Int32) (v40 : Int32) (v125 : Int32) (sz : Nat) (fw4_b : Bd 12 0 4095 fw4) (v5_h : Iv 0 12 v5) (Gw16_b : Bg 13 12 0 4095 Gw16) (v17_h : Iv 0 12 v17) (fw33_b : Bd 12 0 11 fw33) (v36_h : Iv 0 12 v36) (v37_h : Iv 0 12 v37) (v38_h : Iv 0 1 v38) : Met l yX11_fill wsX11_fill ({ frames := 3, cells := 0, slots := 0, locals := 113 }) (va_Pc [.ref o1] (wPre (dC, dI) [(cI, .int), (c2, .array .int), (cZ, .boolean)] (([(o1, .inr (11, [.ref o2, .ref o7, .ref o12, .ref o41, .ref o51, .ref o64, .ref o77, .ref o84, .ref o91, .ref o99, .ref o111, .ref o123, .int v125])), (o12, .inr (6, [.ref o13, .ref o18, .ref o32, .ref o34, .int v36, .int v37, .int v38, .int v39, .int v40])), (o13, .inr (3, [.ref o14, .int v17])), (o2, .inr (4, [.ref o3, .int v5, .int v6])), (o14, .inl (c2, 13, .inr (.inr (.inr (.inr (fun i => if i < 13 then some (rw15 i) else none)))))), (o3, .inl (cI, 12, .inl fw4)), (o32, .inl (cI, 12, .inl fw33))] : va_W) ++ (gr13 rw15 cI 12 Gw16 ++ ([] : va_W))) sz)) (va_Qi (fun (r : Int32) (u : Int32 × Int32 × Int32 × (Nat → Nat → Int32) × (Nat → Int32)) => Iv 0 1 u.1 ∧ Iv 0 12 u.2.1 ∧ Bg 13 12 0 4095 u.2.2.2.1 ∧ Bd 12 0 4095 u.2.2.2.2) (fun u t => wPost (dC, dI) [(cI, .int), (c2, .array .int), (cZ, .boolean)] (va_A (([(o1, .inr (11, [.ref o2, .ref o7, .ref o12, .ref o41, .ref o51, .ref o64, .ref o77, .ref o84, .ref o91, .ref o99, .ref o111, .ref o123, .int v125])), (o12, .inr (6, [.ref o13, .ref o18, .ref o32, .ref o34, .int v36, .int v37, .int v38, .int v39, .int v40])), (o13, .inr (3, [.ref o14, .int v17])), (o2, .inr (4, [.ref o3, .int v5, .int v6])), (o14, .inl (c2, 13, .inr (.inr (.inr (.inr (fun i => if i < 13 then some (rw15 i) else none)))))), (o3, .inl (cI, 12, .inl fw4)), (o32, .inl (cI, 12, .inl fw33))] : va_W) ++ (gr13 rw15 cI 12 Gw16 ++ ([] : va_W))) sz) (([(o1, .inr (11, [.ref o2, .ref o7, .ref o12, .ref o41, .ref o51, .ref o64, .ref o77, .ref o84, .ref o91, .ref o99, .ref o111, .ref o123, .int v125])), (o12, .inr (6, [.ref o13, .ref o18, .ref o32, .ref o34, .int v36, .int v37, .int u.1, .int v39, .int v40])), (o13, .inr (3, [.ref o14, .int u.2.1])), (o2, .inr (4, [.ref o3, .int v5, .int u.2.2.1])), (o14, .inl (c2, 13, .inr (.inr (.inr (.inr (fun i => if i < 13 then some (rw15 i) else none)))))), (o3, .inl (cI, 12, .inl u.2.2.2.2)), (o32, .inl (cI, 12, .inl fw33))] : va_W) ++ (gr13 rw15 cI 12 u.2.2.2.1 ++ ([] : va_W))) t) (va_A (([(o1, .inr (11, [.ref o2, .ref o7, .ref o12, .ref o41, .ref o51, .ref o64, .ref o77, .ref o84, .ref o91, .ref o99, .ref o111, .ref o123, .int v125])), (o12, .inr (6, [.ref o13, .ref o18, .ref o32, .ref o34, .int v36, .int v37, .int v38, .int v39, .int v40])), (o13, .inr (3, [.ref o14, .int v17])), (o2, .inr (4, [.ref o3, .int v5, .int v6])), (o14, .inl (c2, 13, .inr (.inr (.inr (.inr (fun i => if i < 13 then some (rw15 i) else none)))))), (o3, .inl (cI, 12, .inl fw4)), (o32, .inl (cI, 12, .inl fw33))] : va_W) ++ (gr13 rw15 cI 12 Gw16 ++ ([] : va_W))) sz)) 0 0 (va_A (([(o1, .inr (11, [.ref o2, .ref o7, .ref o12, .ref o41, .ref o51, .ref o64, .ref o77, .ref o84, .ref o91, .ref o99, .ref o111, .ref o123, .int v125])), (o12, .inr (6, [.ref o13, .ref o18, .ref o32, .ref o34, .int v36, .int v37, .int v38, .int v39, .int v40])), (o13, .inr (3, [.ref o14, .int v17])), (o2, .inr (4, [.ref o3, .int v5, .int v6])), (o14, .inl (c2, 13, .inr (.inr (.inr (.inr (fun i => if i < 13 then some (rw15 i) else none)))))), (o3, .inl (cI, 12, .inl fw4)), (o32, .inl (cI, 12, .inl fw33))] : va_W) ++ (gr13 rw15 cI 12 Gw16 ++ ([] : va_W))) sz) := by
  refine Met.ofW (cc := cX11_fill) (maxL := 1) (ret := (some .int)) (by decide) rfl ?_
  intro p e s m args below meth c s₁ B hml hv
  obtain ⟨rfl, hsz, hP, hK, hD0, hN⟩ := hv
  have hx := B.exec
  have hb := B.bytes
  have hr := B.returns
  have hts := atoms_spec (ws := wsX11_fill) B.pre
  have hown : s.vm.findClass RX11 = some m.cls := findClass_of_methodNamed B.named
  have hlocks := B.notSynchronized
  subst hsz
  have hD := hD0.self (sz := s.heap.size)
  generalize hAe : va_A (([(o1, .inr (11, [.ref o2, .ref o7, .ref o12, .ref o41, .ref o51, .ref o64, .ref o77, .ref o84, .ref o91, .ref o99, .ref o111, .ref o123, .int v125])), (o12, .inr (6, [.ref o13, .ref o18, .ref o32, .ref o34, .int v36, .int v37, .int v38, .int v39, .int v40])), (o13, .inr (3, [.ref o14, .int v17])), (o2, .inr (4, [.ref o3, .int v5, .int v6])), (o14, .inl (c2, 13, .inr (.inr (.inr (.inr (fun i => if i < 13 then some (rw15 i) else none)))))), (o3, .inl (cI, 12, .inl fw4)), (o32, .inl (cI, 12, .inl fw33))] : va_W) ++ (gr13 rw15 cI 12 Gw16 ++ ([] : va_W))) s.heap.size = A at hD ⊢
  have hA : ∀ q : Nat, s.heap.size ≤ q → A q := fun q h => by rw [← hAe]; exact Or.inr h
  have hS : va_S A s.heap s.heap [] := va_S.rf
  have hP : va_P (dC, dI) vwCl (([(o1, .inr (11, [.ref o2, .ref o7, .ref o12, .ref o41, .ref o51, .ref o64, .ref o77, .ref o84, .ref o91, .ref o99, .ref o111, .ref o123, .int v125])), (o12, .inr (6, [.ref o13, .ref o18, .ref o32, .ref o34, .int v36, .int v37, .int v38, .int v39, .int v40])), (o13, .inr (3, [.ref o14, .int v17])), (o2, .inr (4, [.ref o3, .int v5, .int v6])), (o14, .inl (c2, 13, .inr (.inr (.inr (.inr (fun i => if i < 13 then some (rw15 i) else none)))))), (o3, .inl (cI, 12, .inl fw4)), (o32, .inl (cI, 12, .inl fw33))] : va_W) ++ (gr13 rw15 cI 12 Gw16 ++ ([] : va_W))) s.heap := hP
  have hl := lv_entry ([.ref o1]) (n := 1) (Nat.le_of_ble_eq_true rfl)
  rw [lg_entry_eq]
  generalize (lg_sl ([.ref o1]) ++ List.replicate (1 - (lg_sl ([.ref o1])).length) Slot.unset).toArray = ls at hl ⊢
  have hl : lv_has ls 1 [(0, .ref o1)] := hl
  refine gen_Q (fun Q hQ => ?_)
  refine lv_aload_n hx hb dX11_fill_0 rfl (lv_at hl 0 rfl) ?_
  refine va_get (D := (dC, dI)) (ci := 11) (v := .ref o12) (C := RX11) (T := TX11) (N := 13) hx hb hts iw_X11_fill_X11 hown hK hP 0 rfl rfl 2 (by decide) (hts (.fieldLink RX11 26 "HolelessHouse" "ordering" "LHolelessHouse$Ordering;") hm_X11_fill_1) (fun _ h9 => h9) rfl dX11_fill_1 ?_
  refine va_getN (D := (dC, dI)) (ci := 6) (v := .int v38) (C := RX6) (T := TX6) (N := 9) hx hb hts iw_X11_fill_X6 hown hK hP 1 rfl rfl 6 (by decide) (hN.use ns_28) (fun _ h9 => h9) rfl dX11_fill_4 ?_
  refine lv_if_ne (tgt := 13) hx hb dX11_fill_7 (by decide) (fun h1 => ?_) (fun h1 => ?_)
  ·
    have j2 : Iv 1 1 v38 := r_nelo h1 v38_h ik_0 (by decide)
    refine lv_aload_n hx hb dX11_fill_13 rfl (lv_at hl 0 rfl) ?_
    refine va_get (D := (dC, dI)) (ci := 11) (v := .ref o12) (C := RX11) (T := TX11) (N := 13) hx hb hts iw_X11_fill_X11 hown hK hP 0 rfl rfl 2 (by decide) (hts (.fieldLink RX11 26 "HolelessHouse" "ordering" "LHolelessHouse$Ordering;") hm_X11_fill_1) (fun _ h9 => h9) rfl dX11_fill_14 ?_
    refine lv_aload_n hx hb dX11_fill_17 rfl (lv_at hl 0 rfl) ?_
    refine va_get (D := (dC, dI)) (ci := 11) (v := .ref o2) (C := RX11) (T := TX11) (N := 13) hx hb hts iw_X11_fill_X11 hown hK hP 0 rfl rfl 0 (by decide) (hts (.fieldLink RX11 10 "HolelessHouse" "graph" "LHolelessHouse$Graph;") hm_X11_fill_2) (fun _ h9 => h9) rfl dX11_fill_18 ?_
    refine kc_v (D := (dC, dI)) (S := Int32 × Int32 × (Nat → Nat → Int32) × (Nat → Int32)) (wc := ([(o12, .inr (6, [.ref o13, .ref o18, .ref o32, .ref o34, .int v36, .int v37, .int v38, .int v39, .int v40])), (o13, .inr (3, [.ref o14, .int v17])), (o2, .inr (4, [.ref o3, .int v5, .int v6])), (o14, .inl (c2, 13, .inr (.inr (.inr (.inr (fun i => if i < 13 then some (rw15 i) else none)))))), (o3, .inl (cI, 12, .inl fw4)), (o32, .inl (cI, 12, .inl fw33))] : va_W) ++ (gr13 rw15 cI 12 Gw16 ++ ([] : va_W))) (wr := [(o1, .inr (11, [.ref o2, .ref o7, .ref o12, .ref o41, .ref o51, .ref o64, .ref o77, .ref o84, .ref o91, .ref o99, .ref o111, .ref o123, .int v125]))]) (w1 := fun u => ([(o12, .inr (6, [.ref o13, .ref o18, .ref o32, .ref o34, .int v36, .int v37, .int v38, .int v39, .int v40])), (o13, .inr (3, [.ref o14, .int u.1])), (o2, .inr (4, [.ref o3, .int v5, .int u.2.1])), (o14, .inl (c2, 13, .inr (.inr (.inr (.inr (fun i => if i < 13 then some (rw15 i) else none)))))), (o3, .inl (cI, 12, .inl u.2.2.2)), (o32, .inl (cI, 12, .inl fw33))] : va_W) ++ (gr13 rw15 cI 12 u.2.2.1 ++ ([] : va_W))) (wn := fun u => ([(o1, .inr (11, [.ref o2, .ref o7, .ref o12, .ref o41, .ref o51, .ref o64, .ref o77, .ref o84, .ref o91, .ref o99, .ref o111, .ref o123, .int v125])), (o12, .inr (6, [.ref o13, .ref o18, .ref o32, .ref o34, .int v36, .int v37, .int v38, .int v39, .int v40])), (o13, .inr (3, [.ref o14, .int u.1])), (o2, .inr (4, [.ref o3, .int v5, .int u.2.1])), (o14, .inl (c2, 13, .inr (.inr (.inr (.inr (fun i => if i < 13 then some (rw15 i) else none)))))), (o3, .inl (cI, 12, .inl u.2.2.2)), (o32, .inl (cI, 12, .inl fw33))] : va_W) ++ (gr13 rw15 cI 12 u.2.2.1 ++ ([] : va_W))) (fun hPc hDc => va_runVN (As := [.ref o2]) (rest := []) ⟨hx, hb, hml, hown, hts⟩ (kX6_fillIn_1 l dC dI cI c2 cZ o12 o2 o13 o18 o32 o34 o14 o3 rw15 Gw16 v17 fw33 v36 v37 v38 v39 v40 fw4 v5 v6 s.heap.size Gw16_b v17_h fw33_b v36_h v37_h (iv_w j2 (by decide)) fw4_b v5_h) ⟨va_cnB 1 hts gX11_fill_X6_fillIn_n190 rfl rfl rfl (hN.1 _ ns_103) (hts (.initialized RX6) hm_X11_fill_4) (by decide +kernel) ⟨Nat.le_of_ble_eq_true rfl, Nat.le_of_ble_eq_true rfl⟩, (hts (.instanceMethod yX6_fillIn) hm_X11_fill_3), (hts (.selects RX6 yX6_fillIn yX6_fillIn) hm_X11_fill_5)⟩ (pre_V hPc hK hDc hN (ci := 6) (q0 := 0) rfl rfl) rfl rfl hl.1 rfl (lv_room (Nat.le_of_ble_eq_true rfl)) dX11_fill_21 ⟨Nat.le_of_ble_eq_true rfl, Nat.le_of_ble_eq_true rfl⟩) hP hD hS hA [1, 2, 3, 4, 5, 6, 7, 8, 9, 10, 11, 12, 13, 14, 15, 16, 17, 18, 19] [0] [0, 1, 2, 3, 4, 5, 6, 7, 8, 9, 10, 11, 12, 13, 14, 15, 16, 17, 18, 19] rfl rfl (by decide +kernel) (by decide +kernel) (by decide +kernel) (by decide +kernel) (fun _ => rfl) (fun u H locs hq hP hD hS => ?_)
    obtain ⟨y3, y4, G5, f6⟩ := u
    obtain ⟨y3_h, G5_b, f6_b⟩ := hq
    have hP : va_P (dC, dI) vwCl (([(o1, .inr (11, [.ref o2, .ref o7, .ref o12, .ref o41, .ref o51, .ref o64, .ref o77, .ref o84, .ref o91, .ref o99, .ref o111, .ref o123, .int v125])), (o12, .inr (6, [.ref o13, .ref o18, .ref o32, .ref o34, .int v36, .int v37, .int v38, .int v39, .int v40])), (o13, .inr (3, [.ref o14, .int y3])), (o2, .inr (4, [.ref o3, .int v5, .int y4])), (o14, .inl (c2, 13, .inr (.inr (.inr (.inr (fun i => if i < 13 then some (rw15 i) else none)))))), (o3, .inl (cI, 12, .inl f6)), (o32, .inl (cI, 12, .inl fw33))] : va_W) ++ (gr13 rw15 cI 12 G5 ++ ([] : va_W))) H := hP
    have hD : va_D A (([(o1, .inr (11, [.ref o2, .ref o7, .ref o12, .ref o41, .ref o51, .ref o64, .ref o77, .ref o84, .ref o91, .ref o99, .ref o111, .ref o123, .int v125])), (o12, .inr (6, [.ref o13, .ref o18, .ref o32, .ref o34, .int v36, .int v37, .int v38, .int v39, .int v40])), (o13, .inr (3, [.ref o14, .int y3])), (o2, .inr (4, [.ref o3, .int v5, .int y4])), (o14, .inl (c2, 13, .inr (.inr (.inr (.inr (fun i => if i < 13 then some (rw15 i) else none)))))), (o3, .inl (cI, 12, .inl f6)), (o32, .inl (cI, 12, .inl fw33))] : va_W) ++ (gr13 rw15 cI 12 G5 ++ ([] : va_W))) := hD
    refine lv_aload_n hx hb dX11_fill_24 rfl (lv_at hl 0 rfl) ?_
    refine va_get (D := (dC, dI)) (ci := 11) (v := .ref o12) (C := RX11) (T := TX11) (N := 13) hx hb hts iw_X11_fill_X11 hown hK hP 0 rfl rfl 2 (by decide) (hts (.fieldLink RX11 26 "HolelessHouse" "ordering" "LHolelessHouse$Ordering;") hm_X11_fill_1) (fun _ h9 => h9) rfl dX11_fill_25 ?_
    refine kc_v (D := (dC, dI)) (S := Int32) (wc := [(o12, .inr (6, [.ref o13, .ref o18, .ref o32, .ref o34, .int v36, .int v37, .int v38, .int v39, .int v40]))]) (wr := ([(o1, .inr (11, [.ref o2, .ref o7, .ref o12, .ref o41, .ref o51, .ref o64, .ref o77, .ref o84, .ref o91, .ref o99, .ref o111, .ref o123, .int v125])), (o13, .inr (3, [.ref o14, .int y3])), (o2, .inr (4, [.ref o3, .int v5, .int y4])), (o14, .inl (c2, 13, .inr (.inr (.inr (.inr (fun i => if i < 13 then some (rw15 i) else none)))))), (o3, .inl (cI, 12, .inl f6)), (o32, .inl (cI, 12, .inl fw33))] : va_W) ++ (gr13 rw15 cI 12 G5 ++ ([] : va_W))) (w1 := fun u => [(o12, .inr (6, [.ref o13, .ref o18, .ref o32, .ref o34, .int v36, .int v37, .int u, .int v39, .int v40]))]) (wn := fun u => ([(o1, .inr (11, [.ref o2, .ref o7, .ref o12, .ref o41, .ref o51, .ref o64, .ref o77, .ref o84, .ref o91, .ref o99, .ref o111, .ref o123, .int v125])), (o12, .inr (6, [.ref o13, .ref o18, .ref o32, .ref o34, .int v36, .int v37, .int u, .int v39, .int v40])), (o13, .inr (3, [.ref o14, .int y3])), (o2, .inr (4, [.ref o3, .int v5, .int y4])), (o14, .inl (c2, 13, .inr (.inr (.inr (.inr (fun i => if i < 13 then some (rw15 i) else none)))))), (o3, .inl (cI, 12, .inl f6)), (o32, .inl (cI, 12, .inl fw33))] : va_W) ++ (gr13 rw15 cI 12 G5 ++ ([] : va_W))) (fun hPc hDc => va_runVN (As := []) (rest := []) ⟨hx, hb, hml, hown, hts⟩ (kX6_drop_1 l dC dI cI c2 cZ o12 o13 o18 o32 o34 v36 v37 v38 v39 v40 H.size v36_h v37_h (iv_w j2 (by decide))) ⟨va_cnB 0 hts gX11_fill_X6_drop_n105 rfl rfl rfl (hN.1 _ ns_62) (hts (.initialized RX6) hm_X11_fill_4) (by decide +kernel) ⟨Nat.le_of_ble_eq_true rfl, Nat.le_of_ble_eq_true rfl⟩, (hts (.instanceMethod yX6_drop) hm_X11_fill_40), (hts (.selects RX6 yX6_drop yX6_drop) hm_X11_fill_41)⟩ (pre_V hPc hK hDc hN (ci := 6) (q0 := 0) rfl rfl) rfl rfl hl.1 rfl (lv_room (Nat.le_of_ble_eq_true rfl)) dX11_fill_28 ⟨Nat.le_of_ble_eq_true rfl, Nat.le_of_ble_eq_true rfl⟩) hP hD hS hA [1] [0, 2, 3, 4, 5, 6, 7, 8, 9, 10, 11, 12, 13, 14, 15, 16, 17, 18, 19] [0, 19, 1, 2, 3, 4, 5, 6, 7, 8, 9, 10, 11, 12, 13, 14, 15, 16, 17, 18] rfl rfl (by decide +kernel) (by decide +kernel) (by decide +kernel) (by decide +kernel) (fun _ => rfl) (fun y7 H locs hq hP hD hS => ?_)
    have y7_h := hq
    have hP : va_P (dC, dI) vwCl (([(o1, .inr (11, [.ref o2, .ref o7, .ref o12, .ref o41, .ref o51, .ref o64, .ref o77, .ref o84, .ref o91, .ref o99, .ref o111, .ref o123, .int v125])), (o12, .inr (6, [.ref o13, .ref o18, .ref o32, .ref o34, .int v36, .int v37, .int y7, .int v39, .int v40])), (o13, .inr (3, [.ref o14, .int y3])), (o2, .inr (4, [.ref o3, .int v5, .int y4])), (o14, .inl (c2, 13, .inr (.inr (.inr (.inr (fun i => if i < 13 then some (rw15 i) else none)))))), (o3, .inl (cI, 12, .inl f6)), (o32, .inl (cI, 12, .inl fw33))] : va_W) ++ (gr13 rw15 cI 12 G5 ++ ([] : va_W))) H := hP
    have hD : va_D A (([(o1, .inr (11, [.ref o2, .ref o7, .ref o12, .ref o41, .ref o51, .ref o64, .ref o77, .ref o84, .ref o91, .ref o99, .ref o111, .ref o123, .int v125])), (o12, .inr (6, [.ref o13, .ref o18, .ref o32, .ref o34, .int v36, .int v37, .int y7, .int v39, .int v40])), (o13, .inr (3, [.ref o14, .int y3])), (o2, .inr (4, [.ref o3, .int v5, .int y4])), (o14, .inl (c2, 13, .inr (.inr (.inr (.inr (fun i => if i < 13 then some (rw15 i) else none)))))), (o3, .inl (cI, 12, .inl f6)), (o32, .inl (cI, 12, .inl fw33))] : va_W) ++ (gr13 rw15 cI 12 G5 ++ ([] : va_W))) := hD
    refine lv_aload_n hx hb dX11_fill_31 rfl (lv_at hl 0 rfl) ?_
    refine va_get (D := (dC, dI)) (ci := 11) (v := .ref o12) (C := RX11) (T := TX11) (N := 13) hx hb hts iw_X11_fill_X11 hown hK hP 0 rfl rfl 2 (by decide) (hts (.fieldLink RX11 26 "HolelessHouse" "ordering" "LHolelessHouse$Ordering;") hm_X11_fill_1) (fun _ h9 => h9) rfl dX11_fill_32 ?_
    refine va_getN (D := (dC, dI)) (ci := 6) (v := .int v39) (C := RX6) (T := TX6) (N := 9) hx hb hts iw_X11_fill_X6 hown hK hP 1 rfl rfl 7 (by decide) (hN.use ns_29) (fun _ h9 => h9) rfl dX11_fill_35 ?_
    rw [hQ]
    exact W.iret (v := v39) hx hb hr (fun t ht hW => ⟨⟨v39, (y7, y3, y4, G5, f6), rfl, ⟨y7_h, y3_h, G5_b, f6_b⟩, by rw [ht]; exact hP, va_K.moved hW.alike hK, hD⟩, hS.F ht⟩) hS.2.2 dX11_fill_38
  ·
    have j8 : Iv 0 0 v38 := r_eq h1 ik_0
    refine lv_bipush (v := (-9)) hx hb dX11_fill_10 (by decide) ?_
    rw [hQ]
    exact W.iret (v := (-9)) hx hb hr (fun t ht hW => ⟨⟨(-9), (v38, v17, v6, Gw16, fw4), rfl, ⟨(iv_w j8 (by decide)), v17_h, Gw16_b, fw4_b⟩, by rw [ht]; exact hP, va_K.moved hW.alike hK, hD⟩, hS.F ht⟩) hS.2.2 dX11_fill_12
theorem iw_X1_canNotBeGreat_X1 : ∀ w ∈ wsX10, w ∈ wsX1_canNotBeGreat := fun _ h => List.mem_cons.mpr (Or.inr (List.mem_append.mpr (Or.inr h)))
set_option maxHeartbeats 4000000 in
set_option maxRecDepth 100000 in
theorem kX1_canNotBeGreat_1 (l : Launch) (dC : Nat → ClassId) (dI : Nat → Nat → Nat) (cI c2 cZ : ClassId) (o1 : Nat) (o3 : Nat) (o5 : Nat) (o7 : Nat) (o9 : Nat) (v2 : Int32) (fw4 : Nat → Int32) (v11 : Int32) (v12 : Int32) (v13 : Int32) (a1 : Int32) (a2 : Int32) (sz : Nat) (v2_h : Iv 0 1 v2) (fw4_b : Bd 12 0 4095 fw4) (v11_h : Iv 0 81 v11) (a1_h : Iv 0 4095 a1) (a2_h : Iv 0 4095 a2) : Met l yX1_canNotBeGreat wsX1_canNotBeGreat ({ frames := 1, cells := 0, slots := 0, locals := 21 }) (va_Pc [.ref o1, .int a1, .int a2] (wPre (dC, dI) [(cI, .int), (c2, .array .int), (cZ, .boolean)] ([(o1, .inr (1, [.int v2, .ref o3, .ref o5, .ref o7, .ref o9, .int v11, .int v12, .int v13])), (o3, .inl (cI, 12, .inl fw4))]) sz)) (va_Qi (fun (r : Int32) (_ : Unit) => Iv 0 1 r) (fun _ t => wPost (dC, dI) [(cI, .int), (c2, .array .int), (cZ, .boolean)] (va_A ([(o1, .inr (1, [.int v2, .ref o3, .ref o5, .ref o7, .ref o9, .int v11, .int v12, .int v13])), (o3, .inl (cI, 12, .inl fw4))]) sz) ([(o1, .inr (1, [.int v2, .ref o3, .ref o5, .ref o7, .ref o9, .int v11, .int v12, .int v13])), (o3, .inl (cI, 12, .inl fw4))]) t) (va_A ([(o1, .inr (1, [.int v2, .ref o3, .ref o5, .ref o7, .ref o9, .int v11, .int v12, .int v13])), (o3, .inl (cI, 12, .inl fw4))]) sz)) 0 0 (va_A ([(o1, .inr (1, [.int v2, .ref o3, .ref o5, .ref o7, .ref o9, .int v11, .int v12, .int v13])), (o3, .inl (cI, 12, .inl fw4))]) sz) := by
  refine Met.ofW (cc := cX1_canNotBeGreat) (maxL := 4) (ret := (some .boolean)) (by decide) rfl ?_
  intro p e s m args below meth c s₁ B hml hv
  obtain ⟨rfl, hsz, hP, hK, hD0, hN⟩ := hv
  have hx := B.exec
  have hb := B.bytes
  have hr := B.returns
  have hts := atoms_spec (ws := wsX1_canNotBeGreat) B.pre
  have hown : s.vm.findClass RX1 = some m.cls := findClass_of_methodNamed B.named
  have hlocks := B.notSynchronized
  subst hsz
  have hD := hD0.self (sz := s.heap.size)
  generalize hAe : va_A ([(o1, .inr (1, [.int v2, .ref o3, .ref o5, .ref o7, .ref o9, .int v11, .int v12, .int v13])), (o3, .inl (cI, 12, .inl fw4))]) s.heap.size = A at hD ⊢
  have hA : ∀ q : Nat, s.heap.size ≤ q → A q := fun q h => by rw [← hAe]; exact Or.inr h
  have hS : va_S A s.heap s.heap [] := va_S.rf
  have hP : va_P (dC, dI) vwCl ([(o1, .inr (1, [.int v2, .ref o3, .ref o5, .ref o7, .ref o9, .int v11, .int v12, .int v13])), (o3, .inl (cI, 12, .inl fw4))]) s.heap := hP
  have hl := lv_entry ([.ref o1, .int a1, .int a2]) (n := 4) (Nat.le_of_ble_eq_true rfl)
  rw [lg_entry_eq]
  generalize (lg_sl ([.ref o1, .int a1, .int a2]) ++ List.replicate (4 - (lg_sl ([.ref o1, .int a1, .int a2])).length) Slot.unset).toArray = ls at hl ⊢
  have hl : lv_has ls 4 [(0, .ref o1), (1, .int a1), (2, .int a2)] := hl
  refine gen_Q (fun Q hQ => ?_)
  refine lv_iconst (v := 0) hx hb dX1_canNotBeGreat_0 (by decide) ?_
  refine lv_istore_n (lv' := [(3, .int 0), (0, .ref o1), (1, .int a1), (2, .int a2)]) hx hb dX1_canNotBeGreat_1 rfl hl (by decide) rfl (fun ls hl => ?_)
  have L1 : ∀ (N : Nat) (x105 : Int32) (H : Heap) (locs : List Loc) (ls : Array Slot), (12 - x105.toInt).toNat < N → Iv 0 12 x105 → va_P (dC, dI) vwCl ([(o1, .inr (1, [.int v2, .ref o3, .ref o5, .ref o7, .ref o9, .int v11, .int v12, .int v13])), (o3, .inl (cI, 12, .inl fw4))]) H → va_D A ([(o1, .inr (1, [.int v2, .ref o3, .ref o5, .ref o7, .ref o9, .int v11, .int v12, .int v13])), (o3, .inl (cI, 12, .inl fw4))]) → va_S A s.heap H locs → lv_has ls 4 [(3, .int x105), (0, .ref o1), (1, .int a1), (2, .int a2)] → W p l e ({ frames := 1, cells := 0, slots := 0, locals := 21 }) s m ([.ref o1, .int a1, .int a2] : List Value).toArray below meth c H locs 0 0 Q (F0 m 2 ls []) := by
    intro N
    induction N with
    | zero =>
      intro x105 H locs ls hM
      exact absurd hM (Nat.not_lt_zero _)
    | succ N ih1 =>
      intro x105 H locs ls hM1 x105_h hP hD hS hl
      refine lv_iload_n hx hb dX1_canNotBeGreat_2 rfl (lv_at hl 0 rfl) ?_
      refine lv_bipush (v := 12) hx hb dX1_canNotBeGreat_3 (by decide) ?_
      refine lv_icmp_ge (tgt := 37) hx hb dX1_canNotBeGreat_5 (by decide) (fun h106 => ?_) (fun h106 => ?_)
      ·
        have qh106 := le_i h106
        have j107 : Iv 12 12 x105 := r_ler qh106 ik_12 x105_h (by decide)
        refine lv_iconst (v := 0) hx hb dX1_canNotBeGreat_37 (by decide) ?_
        rw [hQ]
        exact W.zret (v := 0) (ty := .boolean) hx hb hr rfl (fun t ht hW => ⟨⟨0, (), rfl, (iv_w ik_0 (by decide)), by rw [ht]; exact hP, va_K.moved hW.alike hK, hD⟩, hS.F ht⟩) hS.2.2 dX1_canNotBeGreat_38
      ·
        have qh106 := nle_i h106
        have j108 : Iv 0 11 x105 := r_ltl qh106 x105_h ik_12 (by decide)
        refine lv_iload_n hx hb dX1_canNotBeGreat_8 rfl (lv_at hl 3 rfl) ?_
        refine lv_iload_n hx hb dX1_canNotBeGreat_9 rfl (lv_at hl 0 rfl) ?_
        refine kc_i (D := (dC, dI)) (S := Unit) (wc := []) (wr := [(o1, .inr (1, [.int v2, .ref o3, .ref o5, .ref o7, .ref o9, .int v11, .int v12, .int v13])), (o3, .inl (cI, 12, .inl fw4))]) (w1 := fun _ => []) (wn := fun _ => [(o1, .inr (1, [.int v2, .ref o3, .ref o5, .ref o7, .ref o9, .int v11, .int v12, .int v13])), (o3, .inl (cI, 12, .inl fw4))]) (fun hPc hDc => va_runSN (As := [.int a2, .int x105]) (rest := []) ⟨hx, hb, hml, hown, hts⟩ (kX11_in_1 l dC dI cI c2 cZ a2 x105 H.size) ⟨va_cnB 2 hts gX1_canNotBeGreat_X11_in_n67 rfl rfl rfl (hN.1 _ ns_107) (hts (.initialized RX11) hm_X1_canNotBeGreat_3) (by decide +kernel) ⟨Nat.le_of_ble_eq_true rfl, Nat.le_of_ble_eq_true rfl⟩, (hts (.static yX11_in) hm_X1_canNotBeGreat_2), trivial⟩ (pre_S hPc hK hDc hN) rfl rfl hl.1 rfl (lv_room (Nat.le_of_ble_eq_true rfl)) dX1_canNotBeGreat_10 ⟨Nat.le_of_ble_eq_true rfl, Nat.le_of_ble_eq_true rfl⟩) hP hD hS hA [] [0, 1] [0, 1] rfl rfl (by decide +kernel) (by decide +kernel) (by decide +kernel) (by decide +kernel) (fun _ => rfl) (fun x109 _ H locs hq hP hD hS => ?_)
        have x109_h := hq
        have hP : va_P (dC, dI) vwCl ([(o1, .inr (1, [.int v2, .ref o3, .ref o5, .ref o7, .ref o9, .int v11, .int v12, .int v13])), (o3, .inl (cI, 12, .inl fw4))]) H := hP
        have hD : va_D A ([(o1, .inr (1, [.int v2, .ref o3, .ref o5, .ref o7, .ref o9, .int v11, .int v12, .int v13])), (o3, .inl (cI, 12, .inl fw4))]) := hD
        refine lv_if_eq (tgt := 31) hx hb dX1_canNotBeGreat_13 (by decide) (fun h110 => ?_) (fun h110 => ?_)
        ·
          have j111 : Iv 0 0 x109 := r_eq h110 ik_0
          obtain ⟨x112, x112_e⟩ : ∃ z : Int32, z = x105 + 1 := ⟨_, rfl⟩
          have x112_h : Iv 1 12 x112 := iv_e x112_e (iv_add j108 ik_1 (by decide))
          refine lv_iinc (v := x112) (lv' := [(3, .int x112), (0, .ref o1), (1, .int a1), (2, .int a2)]) hx hb dX1_canNotBeGreat_31 hl (k := 0) rfl (incN (by decide +kernel) x112_e) (by decide) rfl (fun ls hl => ?_)
          refine lv_goto (tgt := 2) hx hb dX1_canNotBeGreat_34 (by decide) ?_
          exact ih1 x112 _ _ _ (ms_up x112_e j108 (by decide) hM1) (iv_w x112_h (by decide)) hP hD hS hl
        ·
          have j113 : Iv 1 1 x109 := r_nelo h110 x109_h ik_0 (by decide)
          refine lv_iload_n hx hb dX1_canNotBeGreat_16 rfl (lv_at hl 2 rfl) ?_
          refine lv_aload_n hx hb dX1_canNotBeGreat_17 rfl (lv_at hl 1 rfl) ?_
          refine va_get (D := (dC, dI)) (ci := 1) (v := .ref o3) (C := RX1) (T := TX1) (N := 8) hx hb hts iw_X1_canNotBeGreat_X1 hown hK hP 0 rfl rfl 1 (by decide) (hts (.fieldLink RX1 9 "HolelessHouse$Cliques" "near" "[I") hm_X1_canNotBeGreat_1) (fun _ h9 => h9) rfl dX1_canNotBeGreat_18 ?_
          refine lv_iload_n hx hb dX1_canNotBeGreat_21 rfl (lv_at hl 0 rfl) ?_
          refine va_iald hx hb hK hP 1 0 rfl rfl (vin_iv j108 (by decide)) dX1_canNotBeGreat_22 (lv_topi (fun x114 x114_e => ?_))
          have x114_h : Iv 0 4095 x114 := iv_e x114_e (bd_at fw4_b (vin_iv j108 (by decide)))
          refine lv_iconst (v := (-1)) hx hb dX1_canNotBeGreat_23 (by decide) ?_
          refine lv_ixor hx hb dX1_canNotBeGreat_24 (lv_topi (fun x115 x115_e => ?_))
          refine lv_iand hx hb dX1_canNotBeGreat_25 (lv_topi (fun x116 x116_e => ?_))
          have x116_h : Iv 0 4095 x116 := iv_e x116_e (iv_andL _ a1_h (by decide))
          refine lv_if_ne (tgt := 31) hx hb dX1_canNotBeGreat_26 (by decide) (fun h117 => ?_) (fun h117 => ?_)
          ·
            have j118 : Iv 1 4095 x116 := r_nelo h117 x116_h ik_0 (by decide)
            obtain ⟨x119, x119_e⟩ : ∃ z : Int32, z = x105 + 1 := ⟨_, rfl⟩
            have x119_h : Iv 1 12 x119 := iv_e x119_e (iv_add j108 ik_1 (by decide))
            refine lv_iinc (v := x119) (lv' := [(3, .int x119), (0, .ref o1), (1, .int a1), (2, .int a2)]) hx hb dX1_canNotBeGreat_31 hl (k := 0) rfl (incN (by decide +kernel) x119_e) (by decide) rfl (fun ls hl => ?_)
            refine lv_goto (tgt := 2) hx hb dX1_canNotBeGreat_34 (by decide) ?_
            exact ih1 x119 _ _ _ (ms_up x119_e j108 (by decide) hM1) (iv_w x119_h (by decide)) hP hD hS hl
          ·
            have j120 : Iv 0 0 x116 := r_eq h117 ik_0
            refine lv_iconst (v := 1) hx hb dX1_canNotBeGreat_29 (by decide) ?_
            rw [hQ]
            exact W.zret (v := 1) (ty := .boolean) hx hb hr rfl (fun t ht hW => ⟨⟨1, (), rfl, (iv_w ik_1 (by decide)), by rw [ht]; exact hP, va_K.moved hW.alike hK, hD⟩, hS.F ht⟩) hS.2.2 dX1_canNotBeGreat_30
  exact L1 _ 0 _ _ _ (Nat.lt_succ_self _) (iv_w ik_0 (by decide)) hP hD hS hl
set_option maxHeartbeats 4000000 in
set_option maxRecDepth 100000 in
theorem kJ6_numberOfLeadingZeros_0f7a4_1 (l : Launch) (dC : Nat → ClassId) (dI : Nat → Nat → Nat) (cI c2 cZ : ClassId) (a0 : Int32) (sz : Nat) (a0_h : Iv 1 4095 a0) : Met l yJ6_numberOfLeadingZeros_0f7a4 wsJ6_numberOfLeadingZeros_0f7a4 ({ frames := 0, cells := 0, slots := 0, locals := 0 }) (va_Pc [.int a0] (wPre (dC, dI) [(cI, .int), (c2, .array .int), (cZ, .boolean)] ([]) sz)) (va_Qi (fun (r : Int32) (_ : Unit) => Iv 20 31 r) (fun _ t => wPost (dC, dI) [(cI, .int), (c2, .array .int), (cZ, .boolean)] (va_A ([]) sz) ([]) t) (va_A ([]) sz)) 0 0 (va_A ([]) sz) := by
  refine Met.ofW (cc := cJ6_numberOfLeadingZeros_0f7a4) (maxL := 2) (ret := (some .int)) (by decide) rfl ?_
  intro p e s m args below meth c s₁ B hml hv
  obtain ⟨rfl, hsz, hP, hK, hD0, hN⟩ := hv
  have hx := B.exec
  have hb := B.bytes
  have hr := B.returns
  have hts := atoms_spec (ws := wsJ6_numberOfLeadingZeros_0f7a4) B.pre
  have hown : s.vm.findClass RJ6 = some m.cls := findClass_of_methodNamed B.named
  have hlocks := B.notSynchronized
  subst hsz
  have hD := hD0.self (sz := s.heap.size)
  generalize hAe : va_A ([]) s.heap.size = A at hD ⊢
  have hA : ∀ q : Nat, s.heap.size ≤ q → A q := fun q h => by rw [← hAe]; exact Or.inr h
  have hS : va_S A s.heap s.heap [] := va_S.rf
  have hP : va_P (dC, dI) vwCl ([]) s.heap := hP
  have hl := lv_entry ([.int a0]) (n := 2) (Nat.le_of_ble_eq_true rfl)
  rw [lg_entry_eq]
  generalize (lg_sl ([.int a0]) ++ List.replicate (2 - (lg_sl ([.int a0])).length) Slot.unset).toArray = ls at hl ⊢
  have hl : lv_has ls 2 [(0, .int a0)] := hl
  refine gen_Q (fun Q hQ => ?_)
  refine lv_iload_n hx hb dJ6_numberOfLeadingZeros_0f7a4_0 rfl (lv_at hl 0 rfl) ?_
  refine lv_if_gt (tgt := 15) hx hb dJ6_numberOfLeadingZeros_0f7a4_1 (by decide) (fun _ => ?_) (fun h9 => absurd (d_lt ik_0 a0_h (by decide)) h9)
  refine lv_bipush (v := 31) hx hb dJ6_numberOfLeadingZeros_0f7a4_15 (by decide) ?_
  refine lv_istore_n (lv' := [(1, .int 31), (0, .int a0)]) hx hb dJ6_numberOfLeadingZeros_0f7a4_17 rfl hl (by decide) rfl (fun ls hl => ?_)
  refine lv_iload_n hx hb dJ6_numberOfLeadingZeros_0f7a4_18 rfl (lv_at hl 1 rfl) ?_
  refine lv_ldcw (v := 65536) hx hb hown (hts (.constant RJ6 264 (65536)) hm_J6_numberOfLeadingZeros_0f7a4_1) dJ6_numberOfLeadingZeros_0f7a4_19 ?_
  refine lv_icmp_lt (tgt := 33) hx hb dJ6_numberOfLeadingZeros_0f7a4_22 (by decide) (fun _ => ?_) (fun h9 => absurd (d_lt a0_h ik_65536 (by decide)) h9)
  refine lv_iload_n hx hb dJ6_numberOfLeadingZeros_0f7a4_33 rfl (lv_at hl 1 rfl) ?_
  refine lv_sipush (v := 256) hx hb dJ6_numberOfLeadingZeros_0f7a4_34 (by decide) ?_
  refine lv_icmp_lt (tgt := 48) hx hb dJ6_numberOfLeadingZeros_0f7a4_37 (by decide) (fun h1 => ?_) (fun h1 => ?_)
  ·
    have qh1 := lt_i h1
    have j2 : Iv 1 255 a0 := r_ltl qh1 a0_h ik_256 (by decide)
    refine lv_iload_n hx hb dJ6_numberOfLeadingZeros_0f7a4_48 rfl (lv_at hl 1 rfl) ?_
    refine lv_bipush (v := 16) hx hb dJ6_numberOfLeadingZeros_0f7a4_49 (by decide) ?_
    refine lv_icmp_lt (tgt := 61) hx hb dJ6_numberOfLeadingZeros_0f7a4_51 (by decide) (fun h3 => ?_) (fun h3 => ?_)
    ·
      have qh3 := lt_i h3
      have j4 : Iv 1 15 a0 := r_ltl qh3 j2 ik_16 (by decide)
      refine lv_iload_n hx hb dJ6_numberOfLeadingZeros_0f7a4_61 rfl (lv_at hl 1 rfl) ?_
      refine lv_iconst (v := 4) hx hb dJ6_numberOfLeadingZeros_0f7a4_62 (by decide) ?_
      refine lv_icmp_lt (tgt := 73) hx hb dJ6_numberOfLeadingZeros_0f7a4_63 (by decide) (fun h5 => ?_) (fun h5 => ?_)
      ·
        have qh5 := lt_i h5
        have j6 : Iv 1 3 a0 := r_ltl qh5 j4 ik_4 (by decide)
        refine lv_iload_n hx hb dJ6_numberOfLeadingZeros_0f7a4_73 rfl (lv_at hl 0 rfl) ?_
        refine lv_iload_n hx hb dJ6_numberOfLeadingZeros_0f7a4_74 rfl (lv_at hl 1 rfl) ?_
        refine lv_iconst (v := 1) hx hb dJ6_numberOfLeadingZeros_0f7a4_75 (by decide) ?_
        obtain ⟨x7, x7_e⟩ : ∃ z : Int32, z = (Int32.toUInt32 a0 >>> (Int32.toUInt32 1 &&& Int32.toUInt32 31)).toInt32 := ⟨_, rfl⟩
        refine lv_iushr (v := x7) hx hb dJ6_numberOfLeadingZeros_0f7a4_76 x7_e.symm ?_
        have x7_h : Iv 0 1 x7 := iv_e x7_e (iv_ushr 1 j6 (by decide +kernel) (by decide))
        refine lv_isub hx hb dJ6_numberOfLeadingZeros_0f7a4_77 (lv_topi (fun x8 x8_e => ?_))
        have x8_h : Iv 30 31 x8 := iv_e x8_e (iv_sub ik_31 x7_h (by decide))
        rw [hQ]
        exact W.iret (v := x8) hx hb hr (fun t ht hW => ⟨⟨x8, (), rfl, (iv_w x8_h (by decide)), by rw [ht]; exact hP, va_K.moved hW.alike hK, hD⟩, hS.F ht⟩) hS.2.2 dJ6_numberOfLeadingZeros_0f7a4_78
      ·
        have qh5 := nlt_i h5
        have j9 : Iv 4 15 a0 := r_ler qh5 ik_4 j4 (by decide)
        refine lv_iinc (v := 29) (lv' := [(1, .int 29), (0, .int a0)]) hx hb dJ6_numberOfLeadingZeros_0f7a4_66 hl (k := 0) rfl (by decide +kernel) (by decide) rfl (fun ls hl => ?_)
        refine lv_iload_n hx hb dJ6_numberOfLeadingZeros_0f7a4_69 rfl (lv_at hl 1 rfl) ?_
        refine lv_iconst (v := 2) hx hb dJ6_numberOfLeadingZeros_0f7a4_70 (by decide) ?_
        obtain ⟨x10, x10_e⟩ : ∃ z : Int32, z = (Int32.toUInt32 a0 >>> (Int32.toUInt32 2 &&& Int32.toUInt32 31)).toInt32 := ⟨_, rfl⟩
        refine lv_iushr (v := x10) hx hb dJ6_numberOfLeadingZeros_0f7a4_71 x10_e.symm ?_
        have x10_h : Iv 1 3 x10 := iv_e x10_e (iv_ushr 2 j9 (by decide +kernel) (by decide))
        refine lv_istore_n (lv' := [(0, .int x10), (1, .int 29)]) hx hb dJ6_numberOfLeadingZeros_0f7a4_72 rfl hl (by decide) rfl (fun ls hl => ?_)
        refine lv_iload_n hx hb dJ6_numberOfLeadingZeros_0f7a4_73 rfl (lv_at hl 1 rfl) ?_
        refine lv_iload_n hx hb dJ6_numberOfLeadingZeros_0f7a4_74 rfl (lv_at hl 0 rfl) ?_
        refine lv_iconst (v := 1) hx hb dJ6_numberOfLeadingZeros_0f7a4_75 (by decide) ?_
        obtain ⟨x11, x11_e⟩ : ∃ z : Int32, z = (Int32.toUInt32 x10 >>> (Int32.toUInt32 1 &&& Int32.toUInt32 31)).toInt32 := ⟨_, rfl⟩
        refine lv_iushr (v := x11) hx hb dJ6_numberOfLeadingZeros_0f7a4_76 x11_e.symm ?_
        have x11_h : Iv 0 1 x11 := iv_e x11_e (iv_ushr 1 x10_h (by decide +kernel) (by decide))
        refine lv_isub hx hb dJ6_numberOfLeadingZeros_0f7a4_77 (lv_topi (fun x12 x12_e => ?_))
        have x12_h : Iv 28 29 x12 := iv_e x12_e (iv_sub ik_29 x11_h (by decide))
        rw [hQ]
        exact W.iret (v := x12) hx hb hr (fun t ht hW => ⟨⟨x12, (), rfl, (iv_w x12_h (by decide)), by rw [ht]; exact hP, va_K.moved hW.alike hK, hD⟩, hS.F ht⟩) hS.2.2 dJ6_numberOfLeadingZeros_0f7a4_78
    ·
      have qh3 := nlt_i h3
      have j13 : Iv 16 255 a0 := r_ler qh3 ik_16 j2 (by decide)
      refine lv_iinc (v := 27) (lv' := [(1, .int 27), (0, .int a0)]) hx hb dJ6_numberOfLeadingZeros_0f7a4_54 hl (k := 0) rfl (by decide +kernel) (by decide) rfl (fun ls hl => ?_)
      refine lv_iload_n hx hb dJ6_numberOfLeadingZeros_0f7a4_57 rfl (lv_at hl 1 rfl) ?_
      refine lv_iconst (v := 4) hx hb dJ6_numberOfLeadingZeros_0f7a4_58 (by decide) ?_
      obtain ⟨x14, x14_e⟩ : ∃ z : Int32, z = (Int32.toUInt32 a0 >>> (Int32.toUInt32 4 &&& Int32.toUInt32 31)).toInt32 := ⟨_, rfl⟩
      refine lv_iushr (v := x14) hx hb dJ6_numberOfLeadingZeros_0f7a4_59 x14_e.symm ?_
      have x14_h : Iv 1 15 x14 := iv_e x14_e (iv_ushr 4 j13 (by decide +kernel) (by decide))
      refine lv_istore_n (lv' := [(0, .int x14), (1, .int 27)]) hx hb dJ6_numberOfLeadingZeros_0f7a4_60 rfl hl (by decide) rfl (fun ls hl => ?_)
      refine lv_iload_n hx hb dJ6_numberOfLeadingZeros_0f7a4_61 rfl (lv_at hl 0 rfl) ?_
      refine lv_iconst (v := 4) hx hb dJ6_numberOfLeadingZeros_0f7a4_62 (by decide) ?_
      refine lv_icmp_lt (tgt := 73) hx hb dJ6_numberOfLeadingZeros_0f7a4_63 (by decide) (fun h15 => ?_) (fun h15 => ?_)
      ·
        have qh15 := lt_i h15
        have j16 : Iv 1 3 x14 := r_ltl qh15 x14_h ik_4 (by decide)
        refine lv_iload_n hx hb dJ6_numberOfLeadingZeros_0f7a4_73 rfl (lv_at hl 1 rfl) ?_
        refine lv_iload_n hx hb dJ6_numberOfLeadingZeros_0f7a4_74 rfl (lv_at hl 0 rfl) ?_
        refine lv_iconst (v := 1) hx hb dJ6_numberOfLeadingZeros_0f7a4_75 (by decide) ?_
        obtain ⟨x17, x17_e⟩ : ∃ z : Int32, z = (Int32.toUInt32 x14 >>> (Int32.toUInt32 1 &&& Int32.toUInt32 31)).toInt32 := ⟨_, rfl⟩
        refine lv_iushr (v := x17) hx hb dJ6_numberOfLeadingZeros_0f7a4_76 x17_e.symm ?_
        have x17_h : Iv 0 1 x17 := iv_e x17_e (iv_ushr 1 j16 (by decide +kernel) (by decide))
        refine lv_isub hx hb dJ6_numberOfLeadingZeros_0f7a4_77 (lv_topi (fun x18 x18_e => ?_))
        have x18_h : Iv 26 27 x18 := iv_e x18_e (iv_sub ik_27 x17_h (by decide))
        rw [hQ]
        exact W.iret (v := x18) hx hb hr (fun t ht hW => ⟨⟨x18, (), rfl, (iv_w x18_h (by decide)), by rw [ht]; exact hP, va_K.moved hW.alike hK, hD⟩, hS.F ht⟩) hS.2.2 dJ6_numberOfLeadingZeros_0f7a4_78
      ·
        have qh15 := nlt_i h15
        have j19 : Iv 4 15 x14 := r_ler qh15 ik_4 x14_h (by decide)
        refine lv_iinc (v := 25) (lv' := [(1, .int 25), (0, .int x14)]) hx hb dJ6_numberOfLeadingZeros_0f7a4_66 hl (k := 1) rfl (by decide +kernel) (by decide) rfl (fun ls hl => ?_)
        refine lv_iload_n hx hb dJ6_numberOfLeadingZeros_0f7a4_69 rfl (lv_at hl 1 rfl) ?_
        refine lv_iconst (v := 2) hx hb dJ6_numberOfLeadingZeros_0f7a4_70 (by decide) ?_
        obtain ⟨x20, x20_e⟩ : ∃ z : Int32, z = (Int32.toUInt32 x14 >>> (Int32.toUInt32 2 &&& Int32.toUInt32 31)).toInt32 := ⟨_, rfl⟩
        refine lv_iushr (v := x20) hx hb dJ6_numberOfLeadingZeros_0f7a4_71 x20_e.symm ?_
        have x20_h : Iv 1 3 x20 := iv_e x20_e (iv_ushr 2 j19 (by decide +kernel) (by decide))
        refine lv_istore_n (lv' := [(0, .int x20), (1, .int 25)]) hx hb dJ6_numberOfLeadingZeros_0f7a4_72 rfl hl (by decide) rfl (fun ls hl => ?_)
        refine lv_iload_n hx hb dJ6_numberOfLeadingZeros_0f7a4_73 rfl (lv_at hl 1 rfl) ?_
        refine lv_iload_n hx hb dJ6_numberOfLeadingZeros_0f7a4_74 rfl (lv_at hl 0 rfl) ?_
        refine lv_iconst (v := 1) hx hb dJ6_numberOfLeadingZeros_0f7a4_75 (by decide) ?_
        obtain ⟨x21, x21_e⟩ : ∃ z : Int32, z = (Int32.toUInt32 x20 >>> (Int32.toUInt32 1 &&& Int32.toUInt32 31)).toInt32 := ⟨_, rfl⟩
        refine lv_iushr (v := x21) hx hb dJ6_numberOfLeadingZeros_0f7a4_76 x21_e.symm ?_
        have x21_h : Iv 0 1 x21 := iv_e x21_e (iv_ushr 1 x20_h (by decide +kernel) (by decide))
        refine lv_isub hx hb dJ6_numberOfLeadingZeros_0f7a4_77 (lv_topi (fun x22 x22_e => ?_))
        have x22_h : Iv 24 25 x22 := iv_e x22_e (iv_sub ik_25 x21_h (by decide))
        rw [hQ]
        exact W.iret (v := x22) hx hb hr (fun t ht hW => ⟨⟨x22, (), rfl, (iv_w x22_h (by decide)), by rw [ht]; exact hP, va_K.moved hW.alike hK, hD⟩, hS.F ht⟩) hS.2.2 dJ6_numberOfLeadingZeros_0f7a4_78
  ·
    have qh1 := nlt_i h1
    have j23 : Iv 256 4095 a0 := r_ler qh1 ik_256 a0_h (by decide)
    refine lv_iinc (v := 23) (lv' := [(1, .int 23), (0, .int a0)]) hx hb dJ6_numberOfLeadingZeros_0f7a4_40 hl (k := 0) rfl (by decide +kernel) (by decide) rfl (fun ls hl => ?_)
    refine lv_iload_n hx hb dJ6_numberOfLeadingZeros_0f7a4_43 rfl (lv_at hl 1 rfl) ?_
    refine lv_bipush (v := 8) hx hb dJ6_numberOfLeadingZeros_0f7a4_44 (by decide) ?_
    obtain ⟨x24, x24_e⟩ : ∃ z : Int32, z = (Int32.toUInt32 a0 >>> (Int32.toUInt32 8 &&& Int32.toUInt32 31)).toInt32 := ⟨_, rfl⟩
    refine lv_iushr (v := x24) hx hb dJ6_numberOfLeadingZeros_0f7a4_46 x24_e.symm ?_
    have x24_h : Iv 1 15 x24 := iv_e x24_e (iv_ushr 8 j23 (by decide +kernel) (by decide))
    refine lv_istore_n (lv' := [(0, .int x24), (1, .int 23)]) hx hb dJ6_numberOfLeadingZeros_0f7a4_47 rfl hl (by decide) rfl (fun ls hl => ?_)
    refine lv_iload_n hx hb dJ6_numberOfLeadingZeros_0f7a4_48 rfl (lv_at hl 0 rfl) ?_
    refine lv_bipush (v := 16) hx hb dJ6_numberOfLeadingZeros_0f7a4_49 (by decide) ?_
    refine lv_icmp_lt (tgt := 61) hx hb dJ6_numberOfLeadingZeros_0f7a4_51 (by decide) (fun _ => ?_) (fun h9 => absurd (d_lt x24_h ik_16 (by decide)) h9)
    refine lv_iload_n hx hb dJ6_numberOfLeadingZeros_0f7a4_61 rfl (lv_at hl 0 rfl) ?_
    refine lv_iconst (v := 4) hx hb dJ6_numberOfLeadingZeros_0f7a4_62 (by decide) ?_
    refine lv_icmp_lt (tgt := 73) hx hb dJ6_numberOfLeadingZeros_0f7a4_63 (by decide) (fun h25 => ?_) (fun h25 => ?_)
    ·
      have qh25 := lt_i h25
      have j26 : Iv 1 3 x24 := r_ltl qh25 x24_h ik_4 (by decide)
      refine lv_iload_n hx hb dJ6_numberOfLeadingZeros_0f7a4_73 rfl (lv_at hl 1 rfl) ?_
      refine lv_iload_n hx hb dJ6_numberOfLeadingZeros_0f7a4_74 rfl (lv_at hl 0 rfl) ?_
      refine lv_iconst (v := 1) hx hb dJ6_numberOfLeadingZeros_0f7a4_75 (by decide) ?_
      obtain ⟨x27, x27_e⟩ : ∃ z : Int32, z = (Int32.toUInt32 x24 >>> (Int32.toUInt32 1 &&& Int32.toUInt32 31)).toInt32 := ⟨_, rfl⟩
      refine lv_iushr (v := x27) hx hb dJ6_numberOfLeadingZeros_0f7a4_76 x27_e.symm ?_
      have x27_h : Iv 0 1 x27 := iv_e x27_e (iv_ushr 1 j26 (by decide +kernel) (by decide))
      refine lv_isub hx hb dJ6_numberOfLeadingZeros_0f7a4_77 (lv_topi (fun x28 x28_e => ?_))
      have x28_h : Iv 22 23 x28 := iv_e x28_e (iv_sub ik_23 x27_h (by decide))
      rw [hQ]
      exact W.iret (v := x28) hx hb hr (fun t ht hW => ⟨⟨x28, (), rfl, (iv_w x28_h (by decide)), by rw [ht]; exact hP, va_K.moved hW.alike hK, hD⟩, hS.F ht⟩) hS.2.2 dJ6_numberOfLeadingZeros_0f7a4_78
    ·
      have qh25 := nlt_i h25
      have j29 : Iv 4 15 x24 := r_ler qh25 ik_4 x24_h (by decide)
      refine lv_iinc (v := 21) (lv' := [(1, .int 21), (0, .int x24)]) hx hb dJ6_numberOfLeadingZeros_0f7a4_66 hl (k := 1) rfl (by decide +kernel) (by decide) rfl (fun ls hl => ?_)
      refine lv_iload_n hx hb dJ6_numberOfLeadingZeros_0f7a4_69 rfl (lv_at hl 1 rfl) ?_
      refine lv_iconst (v := 2) hx hb dJ6_numberOfLeadingZeros_0f7a4_70 (by decide) ?_
      obtain ⟨x30, x30_e⟩ : ∃ z : Int32, z = (Int32.toUInt32 x24 >>> (Int32.toUInt32 2 &&& Int32.toUInt32 31)).toInt32 := ⟨_, rfl⟩
      refine lv_iushr (v := x30) hx hb dJ6_numberOfLeadingZeros_0f7a4_71 x30_e.symm ?_
      have x30_h : Iv 1 3 x30 := iv_e x30_e (iv_ushr 2 j29 (by decide +kernel) (by decide))
      refine lv_istore_n (lv' := [(0, .int x30), (1, .int 21)]) hx hb dJ6_numberOfLeadingZeros_0f7a4_72 rfl hl (by decide) rfl (fun ls hl => ?_)
      refine lv_iload_n hx hb dJ6_numberOfLeadingZeros_0f7a4_73 rfl (lv_at hl 1 rfl) ?_
      refine lv_iload_n hx hb dJ6_numberOfLeadingZeros_0f7a4_74 rfl (lv_at hl 0 rfl) ?_
      refine lv_iconst (v := 1) hx hb dJ6_numberOfLeadingZeros_0f7a4_75 (by decide) ?_
      obtain ⟨x31, x31_e⟩ : ∃ z : Int32, z = (Int32.toUInt32 x30 >>> (Int32.toUInt32 1 &&& Int32.toUInt32 31)).toInt32 := ⟨_, rfl⟩
      refine lv_iushr (v := x31) hx hb dJ6_numberOfLeadingZeros_0f7a4_76 x31_e.symm ?_
      have x31_h : Iv 0 1 x31 := iv_e x31_e (iv_ushr 1 x30_h (by decide +kernel) (by decide))
      refine lv_isub hx hb dJ6_numberOfLeadingZeros_0f7a4_77 (lv_topi (fun x32 x32_e => ?_))
      have x32_h : Iv 20 21 x32 := iv_e x32_e (iv_sub ik_21 x31_h (by decide))
      rw [hQ]
      exact W.iret (v := x32) hx hb hr (fun t ht hW => ⟨⟨x32, (), rfl, (iv_w x32_h (by decide)), by rw [ht]; exact hP, va_K.moved hW.alike hK, hD⟩, hS.F ht⟩) hS.2.2 dJ6_numberOfLeadingZeros_0f7a4_78
set_option maxHeartbeats 4000000 in
set_option maxRecDepth 100000 in
theorem kX1_gather_1 (l : Launch) (dC : Nat → ClassId) (dI : Nat → Nat → Nat) (cI c2 cZ : ClassId) (o1 : Nat) (a1 : Int32) (a2 : Int32) (a3 : Int32) (sz : Nat) (a1_h : Iv 0 4095 a1) (a2_h : Iv 0 4095 a2) (a3_h : Iv 0 4095 a3) : Met l yX1_gather wsX1_gather ({ frames := 0, cells := 0, slots := 0, locals := 0 }) (va_Pc [.ref o1, .int a1, .int a2, .int a3, .int 13] (wPre (dC, dI) [(cI, .int), (c2, .array .int), (cZ, .boolean)] ([]) sz)) (va_Qv (fun (_ : Unit) => True) (fun _ t => wPost (dC, dI) [(cI, .int), (c2, .array .int), (cZ, .boolean)] (va_A ([]) sz) ([]) t) (va_A ([]) sz)) 0 0 (va_A ([]) sz) := by
  refine Met.ofW (cc := cX1_gather) (maxL := 7) (ret := none) (by decide) rfl ?_
  intro p e s m args below meth c s₁ B hml hv
  obtain ⟨rfl, hsz, hP, hK, hD0, hN⟩ := hv
  have hx := B.exec
  have hb := B.bytes
  have hr := B.returns
  have hts := atoms_spec (ws := wsX1_gather) B.pre
  have hown : s.vm.findClass RX1 = some m.cls := findClass_of_methodNamed B.named
  have hlocks := B.notSynchronized
  subst hsz
  have hD := hD0.self (sz := s.heap.size)
  generalize hAe : va_A ([]) s.heap.size = A at hD ⊢
  have hA : ∀ q : Nat, s.heap.size ≤ q → A q := fun q h => by rw [← hAe]; exact Or.inr h
  have hS : va_S A s.heap s.heap [] := va_S.rf
  have hP : va_P (dC, dI) vwCl ([]) s.heap := hP
  have hl := lv_entry ([.ref o1, .int a1, .int a2, .int a3, .int 13]) (n := 7) (Nat.le_of_ble_eq_true rfl)
  rw [lg_entry_eq]
  generalize (lg_sl ([.ref o1, .int a1, .int a2, .int a3, .int 13]) ++ List.replicate (7 - (lg_sl ([.ref o1, .int a1, .int a2, .int a3, .int 13])).length) Slot.unset).toArray = ls at hl ⊢
  have hl : lv_has ls 7 [(0, .ref o1), (1, .int a1), (2, .int a2), (3, .int a3), (4, .int 13)] := hl
  refine gen_Q (fun Q hQ => ?_)
  refine lv_iload hx hb dX1_gather_0 (lv_at hl 4 rfl) ?_
  refine lv_bipush (v := 12) hx hb dX1_gather_2 (by decide) ?_
  refine lv_icmp_gt (tgt := 16) hx hb dX1_gather_4 (by decide) (fun _ => ?_) (fun h9 => absurd (by decide +kernel) h9)
  rw [hQ]
  exact W.vret hx hb hr (fun t ht hW => ⟨⟨(), rfl, trivial, by rw [ht]; exact hP, va_K.moved hW.alike hK, hD⟩, hS.F ht⟩) hS.2.2 dX1_gather_16
theorem iw_X1_keep_X1 : ∀ w ∈ wsX10, w ∈ wsX1_keep := fun _ h => List.mem_cons.mpr (Or.inr (List.mem_append.mpr (Or.inr h)))
set_option maxHeartbeats 4000000 in
set_option maxRecDepth 100000 in
theorem kX1_keep_1 (l : Launch) (dC : Nat → ClassId) (dI : Nat → Nat → Nat) (cI c2 cZ : ClassId) (o1 : Nat) (o3 : Nat) (o5 : Nat) (o7 : Nat) (o9 : Nat) (v2 : Int32) (fw6 : Nat → Int32) (v11 : Int32) (v12 : Int32) (v13 : Int32) (a1 : Int32) (sz : Nat) (v2_h : Iv 0 1 v2) (v11_h : Iv 0 81 v11) (a1_h : Iv 0 4095 a1) : Met l yX1_keep wsX1_keep ({ frames := 0, cells := 0, slots := 0, locals := 0 }) (va_Pc [.ref o1, .int a1] (wPre (dC, dI) [(cI, .int), (c2, .array .int), (cZ, .boolean)] ([(o1, .inr (1, [.int v2, .ref o3, .ref o5, .ref o7, .ref o9, .int v11, .int v12, .int v13])), (o5, .inl (cI, 81, .inl fw6))]) sz)) (va_Qv (fun (u : Int32 × (Nat → Int32)) => Iv 0 81 u.1) (fun u t => wPost (dC, dI) [(cI, .int), (c2, .array .int), (cZ, .boolean)] (va_A ([(o1, .inr (1, [.int v2, .ref o3, .ref o5, .ref o7, .ref o9, .int v11, .int v12, .int v13])), (o5, .inl (cI, 81, .inl fw6))]) sz) ([(o1, .inr (1, [.int v2, .ref o3, .ref o5, .ref o7, .ref o9, .int u.1, .int v12, .int v13])), (o5, .inl (cI, 81, .inl u.2))]) t) (va_A ([(o1, .inr (1, [.int v2, .ref o3, .ref o5, .ref o7, .ref o9, .int v11, .int v12, .int v13])), (o5, .inl (cI, 81, .inl fw6))]) sz)) 0 0 (va_A ([(o1, .inr (1, [.int v2, .ref o3, .ref o5, .ref o7, .ref o9, .int v11, .int v12, .int v13])), (o5, .inl (cI, 81, .inl fw6))]) sz) := by
  refine Met.ofW (cc := cX1_keep) (maxL := 2) (ret := none) (by decide) rfl ?_
  intro p e s m args below meth c s₁ B hml hv
  obtain ⟨rfl, hsz, hP, hK, hD0, hN⟩ := hv
  have hx := B.exec
  have hb := B.bytes
  have hr := B.returns
  have hts := atoms_spec (ws := wsX1_keep) B.pre
  have hown : s.vm.findClass RX1 = some m.cls := findClass_of_methodNamed B.named
  have hlocks := B.notSynchronized
  subst hsz
  have hD := hD0.self (sz := s.heap.size)
  generalize hAe : va_A ([(o1, .inr (1, [.int v2, .ref o3, .ref o5, .ref o7, .ref o9, .int v11, .int v12, .int v13])), (o5, .inl (cI, 81, .inl fw6))]) s.heap.size = A at hD ⊢
  have hA : ∀ q : Nat, s.heap.size ≤ q → A q := fun q h => by rw [← hAe]; exact Or.inr h
  have hS : va_S A s.heap s.heap [] := va_S.rf
  have hP : va_P (dC, dI) vwCl ([(o1, .inr (1, [.int v2, .ref o3, .ref o5, .ref o7, .ref o9, .int v11, .int v12, .int v13])), (o5, .inl (cI, 81, .inl fw6))]) s.heap := hP
  have hl := lv_entry ([.ref o1, .int a1]) (n := 2) (Nat.le_of_ble_eq_true rfl)
  rw [lg_entry_eq]
  generalize (lg_sl ([.ref o1, .int a1]) ++ List.replicate (2 - (lg_sl ([.ref o1, .int a1])).length) Slot.unset).toArray = ls at hl ⊢
  have hl : lv_has ls 2 [(0, .ref o1), (1, .int a1)] := hl
  refine gen_Q (fun Q hQ => ?_)
  refine lv_iload_n hx hb dX1_keep_0 rfl (lv_at hl 1 rfl) ?_
  refine lv_if_eq (tgt := 33) hx hb dX1_keep_1 (by decide) (fun h1 => ?_) (fun h1 => ?_)
  ·
    have j2 : Iv 0 0 a1 := r_eq h1 ik_0
    rw [hQ]
    exact W.vret hx hb hr (fun t ht hW => ⟨⟨(v11, fw6), rfl, v11_h, by rw [ht]; exact hP, va_K.moved hW.alike hK, hD⟩, hS.F ht⟩) hS.2.2 dX1_keep_33
  ·
    have j3 : Iv 1 4095 a1 := r_nelo h1 a1_h ik_0 (by decide)
    refine lv_aload_n hx hb dX1_keep_4 rfl (lv_at hl 0 rfl) ?_
    refine va_get (D := (dC, dI)) (ci := 1) (v := .int v11) (C := RX1) (T := TX1) (N := 8) hx hb hts iw_X1_keep_X1 hown hK hP 0 rfl rfl 5 (by decide) (hts (.fieldLink RX1 24 "HolelessHouse$Cliques" "size" "I") hm_X1_keep_1) (fun _ h9 => h9) rfl dX1_keep_5 ?_
    refine lv_bipush (v := 81) hx hb dX1_keep_8 (by decide) ?_
    refine lv_icmp_ge (tgt := 33) hx hb dX1_keep_10 (by decide) (fun h4 => ?_) (fun h4 => ?_)
    ·
      have qh4 := le_i h4
      have j5 : Iv 81 81 v11 := r_ler qh4 ik_81 v11_h (by decide)
      rw [hQ]
      exact W.vret hx hb hr (fun t ht hW => ⟨⟨(v11, fw6), rfl, (iv_w j5 (by decide)), by rw [ht]; exact hP, va_K.moved hW.alike hK, hD⟩, hS.F ht⟩) hS.2.2 dX1_keep_33
    ·
      have qh4 := nle_i h4
      have j6 : Iv 0 80 v11 := r_ltl qh4 v11_h ik_81 (by decide)
      refine lv_aload_n hx hb dX1_keep_13 rfl (lv_at hl 0 rfl) ?_
      refine va_get (D := (dC, dI)) (ci := 1) (v := .ref o5) (C := RX1) (T := TX1) (N := 8) hx hb hts iw_X1_keep_X1 hown hK hP 0 rfl rfl 2 (by decide) (hts (.fieldLink RX1 15 "HolelessHouse$Cliques" "sets" "[I") hm_X1_keep_2) (fun _ h9 => h9) rfl dX1_keep_14 ?_
      refine lv_aload_n hx hb dX1_keep_17 rfl (lv_at hl 0 rfl) ?_
      refine va_get (D := (dC, dI)) (ci := 1) (v := .int v11) (C := RX1) (T := TX1) (N := 8) hx hb hts iw_X1_keep_X1 hown hK hP 0 rfl rfl 5 (by decide) (hts (.fieldLink RX1 24 "HolelessHouse$Cliques" "size" "I") hm_X1_keep_1) (fun _ h9 => h9) rfl dX1_keep_18 ?_
      refine lv_iload_n hx hb dX1_keep_21 rfl (lv_at hl 1 rfl) ?_
      refine k_iast hx hb hK hP hD hS 1 0 rfl rfl (vin_iv j6 (by decide)) dX1_keep_22 (fun f7 H locs f7_e hP hD hS => ?_)
      have hP : va_P (dC, dI) vwCl ([(o1, .inr (1, [.int v2, .ref o3, .ref o5, .ref o7, .ref o9, .int v11, .int v12, .int v13])), (o5, .inl (cI, 81, .inl f7))]) H := hP
      have hD : va_D A ([(o1, .inr (1, [.int v2, .ref o3, .ref o5, .ref o7, .ref o9, .int v11, .int v12, .int v13])), (o5, .inl (cI, 81, .inl f7))]) := hD
      refine lv_aload_n hx hb dX1_keep_23 rfl (lv_at hl 0 rfl) ?_
      refine lv_dup hx hb dX1_keep_24 rfl ?_
      refine va_get (D := (dC, dI)) (ci := 1) (v := .int v11) (C := RX1) (T := TX1) (N := 8) hx hb hts iw_X1_keep_X1 hown hK hP 0 rfl rfl 5 (by decide) (hts (.fieldLink RX1 24 "HolelessHouse$Cliques" "size" "I") hm_X1_keep_1) (fun _ h9 => h9) rfl dX1_keep_25 ?_
      refine lv_iconst (v := 1) hx hb dX1_keep_28 (by decide) ?_
      refine lv_iadd hx hb dX1_keep_29 (lv_topi (fun x8 x8_e => ?_))
      have x8_h : Iv 1 81 x8 := iv_e x8_e (iv_add j6 ik_1 (by decide))
      refine va_put (D := (dC, dI)) (ci := 1) (v := .int x8) (ty := .int) (C := RX1) (T := TX1) (N := 8) hx hb hts iw_X1_keep_X1 tyX1 tyX1_ok nmX1 hown hK hP hD hS 0 rfl rfl 5 (by decide) (hts (.fieldLink RX1 24 "HolelessHouse$Cliques" "size" "I") hm_X1_keep_1) (fun _ h9 => h9) rfl (by decide +kernel) rfl rfl (Nat.le_of_ble_eq_true rfl) dX1_keep_30 (fun H locs hP hD hS => ?_)
      have hP : va_P (dC, dI) vwCl ([(o1, .inr (1, [.int v2, .ref o3, .ref o5, .ref o7, .ref o9, .int x8, .int v12, .int v13])), (o5, .inl (cI, 81, .inl f7))]) H := hP
      have hD : va_D A ([(o1, .inr (1, [.int v2, .ref o3, .ref o5, .ref o7, .ref o9, .int x8, .int v12, .int v13])), (o5, .inl (cI, 81, .inl f7))]) := hD
      rw [hQ]
      exact W.vret hx hb hr (fun t ht hW => ⟨⟨(x8, f7), rfl, (iv_w x8_h (by decide)), by rw [ht]; exact hP, va_K.moved hW.alike hK, hD⟩, hS.F ht⟩) hS.2.2 dX1_keep_33
theorem iw_X1_gather_X1 : ∀ w ∈ wsX10, w ∈ wsX1_gather := fun _ h => List.mem_cons.mpr (Or.inr (List.mem_append.mpr (Or.inr h)))
set_option maxHeartbeats 4000000 in
set_option maxRecDepth 100000 in
theorem kX1_gather_2 (l : Launch) (dC : Nat → ClassId) (dI : Nat → Nat → Nat) (cI c2 cZ : ClassId) (o1 : Nat) (o3 : Nat) (o5 : Nat) (o7 : Nat) (o9 : Nat) (v2 : Int32) (fw4 : Nat → Int32) (fw6 : Nat → Int32) (v11 : Int32) (v12 : Int32) (v13 : Int32) (a1 : Int32) (a2 : Int32) (a3 : Int32) (sz : Nat) (v2_h : Iv 0 1 v2) (fw4_b : Bd 12 0 4095 fw4) (v11_h : Iv 0 81 v11) (a1_h : Iv 0 4095 a1) (a2_h : Iv 0 4095 a2) (a3_h : Iv 0 4095 a3) : Met l yX1_gather wsX1_gather ({ frames := 2, cells := 0, slots := 0, locals := 44 }) (va_Pc [.ref o1, .int a1, .int a2, .int a3, .int 12] (wPre (dC, dI) [(cI, .int), (c2, .array .int), (cZ, .boolean)] ([(o1, .inr (1, [.int v2, .ref o3, .ref o5, .ref o7, .ref o9, .int v11, .int v12, .int v13])), (o3, .inl (cI, 12, .inl fw4)), (o5, .inl (cI, 81, .inl fw6))]) sz)) (va_Qv (fun (u : Int32 × (Nat → Int32)) => Iv 0 81 u.1) (fun u t => wPost (dC, dI) [(cI, .int), (c2, .array .int), (cZ, .boolean)] (va_A ([(o1, .inr (1, [.int v2, .ref o3, .ref o5, .ref o7, .ref o9, .int v11, .int v12, .int v13])), (o3, .inl (cI, 12, .inl fw4)), (o5, .inl (cI, 81, .inl fw6))]) sz) ([(o1, .inr (1, [.int v2, .ref o3, .ref o5, .ref o7, .ref o9, .int u.1, .int v12, .int v13])), (o3, .inl (cI, 12, .inl fw4)), (o5, .inl (cI, 81, .inl u.2))]) t) (va_A ([(o1, .inr (1, [.int v2, .ref o3, .ref o5, .ref o7, .ref o9, .int v11, .int v12, .int v13])), (o3, .inl (cI, 12, .inl fw4)), (o5, .inl (cI, 81, .inl fw6))]) sz)) 0 0 (va_A ([(o1, .inr (1, [.int v2, .ref o3, .ref o5, .ref o7, .ref o9, .int v11, .int v12, .int v13])), (o3, .inl (cI, 12, .inl fw4)), (o5, .inl (cI, 81, .inl fw6))]) sz) := by
  refine Met.ofW (cc := cX1_gather) (maxL := 7) (ret := none) (by decide) rfl ?_
  intro p e s m args below meth c s₁ B hml hv
  obtain ⟨rfl, hsz, hP, hK, hD0, hN⟩ := hv
  have hx := B.exec
  have hb := B.bytes
  have hr := B.returns
  have hts := atoms_spec (ws := wsX1_gather) B.pre
  have hown : s.vm.findClass RX1 = some m.cls := findClass_of_methodNamed B.named
  have hlocks := B.notSynchronized
  subst hsz
  have hD := hD0.self (sz := s.heap.size)
  generalize hAe : va_A ([(o1, .inr (1, [.int v2, .ref o3, .ref o5, .ref o7, .ref o9, .int v11, .int v12, .int v13])), (o3, .inl (cI, 12, .inl fw4)), (o5, .inl (cI, 81, .inl fw6))]) s.heap.size = A at hD ⊢
  have hA : ∀ q : Nat, s.heap.size ≤ q → A q := fun q h => by rw [← hAe]; exact Or.inr h
  have hS : va_S A s.heap s.heap [] := va_S.rf
  have hP : va_P (dC, dI) vwCl ([(o1, .inr (1, [.int v2, .ref o3, .ref o5, .ref o7, .ref o9, .int v11, .int v12, .int v13])), (o3, .inl (cI, 12, .inl fw4)), (o5, .inl (cI, 81, .inl fw6))]) s.heap := hP
  have hl := lv_entry ([.ref o1, .int a1, .int a2, .int a3, .int 12]) (n := 7) (Nat.le_of_ble_eq_true rfl)
  rw [lg_entry_eq]
  generalize (lg_sl ([.ref o1, .int a1, .int a2, .int a3, .int 12]) ++ List.replicate (7 - (lg_sl ([.ref o1, .int a1, .int a2, .int a3, .int 12])).length) Slot.unset).toArray = ls at hl ⊢
  have hl : lv_has ls 7 [(0, .ref o1), (1, .int a1), (2, .int a2), (3, .int a3), (4, .int 12)] := hl
  refine gen_Q (fun Q hQ => ?_)
  refine lv_iload hx hb dX1_gather_0 (lv_at hl 4 rfl) ?_
  refine lv_bipush (v := 12) hx hb dX1_gather_2 (by decide) ?_
  refine lv_icmp_gt (tgt := 16) hx hb dX1_gather_4 (by decide) (fun h9 => absurd h9 (by decide +kernel)) (fun _ => ?_)
  refine lv_aload_n hx hb dX1_gather_7 rfl (lv_at hl 0 rfl) ?_
  refine lv_iload_n hx hb dX1_gather_8 rfl (lv_at hl 2 rfl) ?_
  refine lv_iload_n hx hb dX1_gather_9 rfl (lv_at hl 3 rfl) ?_
  refine kc_i (D := (dC, dI)) (S := Unit) (wc := [(o1, .inr (1, [.int v2, .ref o3, .ref o5, .ref o7, .ref o9, .int v11, .int v12, .int v13])), (o3, .inl (cI, 12, .inl fw4))]) (wr := [(o5, .inl (cI, 81, .inl fw6))]) (w1 := fun _ => [(o1, .inr (1, [.int v2, .ref o3, .ref o5, .ref o7, .ref o9, .int v11, .int v12, .int v13])), (o3, .inl (cI, 12, .inl fw4))]) (wn := fun _ => [(o1, .inr (1, [.int v2, .ref o3, .ref o5, .ref o7, .ref o9, .int v11, .int v12, .int v13])), (o3, .inl (cI, 12, .inl fw4)), (o5, .inl (cI, 81, .inl fw6))]) (fun hPc hDc => va_runV (As := [.int a2, .int a3]) (rest := []) ⟨hx, hb, hml, hown, hts⟩ (kX1_canNotBeGreat_1 l dC dI cI c2 cZ o1 o3 o5 o7 o9 v2 fw4 v11 v12 v13 a2 a3 s.heap.size v2_h fw4_b v11_h a2_h a3_h) (cwV 2 hts gX1_gather_X1_canNotBeGreat rfl rfl rfl (by decide +kernel) ⟨Nat.le_of_ble_eq_true rfl, Nat.le_of_ble_eq_true rfl⟩) (pre_V hPc hK hDc hN (ci := 1) (q0 := 0) rfl rfl) rfl rfl hl.1 rfl (lv_room (Nat.le_of_ble_eq_true rfl)) dX1_gather_10 ⟨Nat.le_of_ble_eq_true rfl, Nat.le_of_ble_eq_true rfl⟩) hP hD hS hA [0, 1] [2] [1, 2, 0] rfl rfl (by decide +kernel) (by decide +kernel) (by decide +kernel) (by decide +kernel) (fun _ => rfl) (fun x1 _ H locs hq hP hD hS => ?_)
  have x1_h := hq
  have hP : va_P (dC, dI) vwCl ([(o1, .inr (1, [.int v2, .ref o3, .ref o5, .ref o7, .ref o9, .int v11, .int v12, .int v13])), (o3, .inl (cI, 12, .inl fw4)), (o5, .inl (cI, 81, .inl fw6))]) H := hP
  have hD : va_D A ([(o1, .inr (1, [.int v2, .ref o3, .ref o5, .ref o7, .ref o9, .int v11, .int v12, .int v13])), (o3, .inl (cI, 12, .inl fw4)), (o5, .inl (cI, 81, .inl fw6))]) := hD
  refine lv_if_eq (tgt := 17) hx hb dX1_gather_13 (by decide) (fun h2 => ?_) (fun h2 => ?_)
  ·
    have j3 : Iv 0 0 x1 := r_eq h2 ik_0
    refine lv_iload_n hx hb dX1_gather_17 rfl (lv_at hl 2 rfl) ?_
    refine lv_if_ne (tgt := 27) hx hb dX1_gather_18 (by decide) (fun h4 => ?_) (fun h4 => ?_)
    ·
      have j5 : Iv 1 4095 a2 := r_nelo h4 a2_h ik_0 (by decide)
      refine lv_bipush (v := 31) hx hb dX1_gather_27 (by decide) ?_
      refine lv_iload_n hx hb dX1_gather_29 rfl (lv_at hl 2 rfl) ?_
      refine kc_i (D := (dC, dI)) (S := Unit) (wc := []) (wr := [(o1, .inr (1, [.int v2, .ref o3, .ref o5, .ref o7, .ref o9, .int v11, .int v12, .int v13])), (o3, .inl (cI, 12, .inl fw4)), (o5, .inl (cI, 81, .inl fw6))]) (w1 := fun _ => []) (wn := fun _ => [(o1, .inr (1, [.int v2, .ref o3, .ref o5, .ref o7, .ref o9, .int v11, .int v12, .int v13])), (o3, .inl (cI, 12, .inl fw4)), (o5, .inl (cI, 81, .inl fw6))]) (fun hPc hDc => va_runS (As := [.int a2]) (rest := [.int 31]) ⟨hx, hb, hml, hown, hts⟩ (kJ6_numberOfLeadingZeros_0f7a4_1 l dC dI cI c2 cZ a2 H.size j5) (va_cwS 1 hts gX1_gather_J6_numberOfLeadingZeros_0f7a4 rfl rfl rfl (by decide +kernel) ⟨Nat.le_of_ble_eq_true rfl, Nat.le_of_ble_eq_true rfl⟩) (pre_S hPc hK hDc hN) rfl rfl hl.1 rfl (lv_room (Nat.le_of_ble_eq_true rfl)) dX1_gather_30 ⟨Nat.le_of_ble_eq_true rfl, Nat.le_of_ble_eq_true rfl⟩) hP hD hS hA [] [0, 1, 2] [0, 1, 2] rfl rfl (by decide +kernel) (by decide +kernel) (by decide +kernel) (by decide +kernel) (fun _ => rfl) (fun x6 _ H locs hq hP hD hS => ?_)
      have x6_h := hq
      have hP : va_P (dC, dI) vwCl ([(o1, .inr (1, [.int v2, .ref o3, .ref o5, .ref o7, .ref o9, .int v11, .int v12, .int v13])), (o3, .inl (cI, 12, .inl fw4)), (o5, .inl (cI, 81, .inl fw6))]) H := hP
      have hD : va_D A ([(o1, .inr (1, [.int v2, .ref o3, .ref o5, .ref o7, .ref o9, .int v11, .int v12, .int v13])), (o3, .inl (cI, 12, .inl fw4)), (o5, .inl (cI, 81, .inl fw6))]) := hD
      refine lv_isub hx hb dX1_gather_33 (lv_topi (fun x7 x7_e => ?_))
      have x7_h : Iv 0 11 x7 := iv_e x7_e (iv_sub ik_31 x6_h (by decide))
      refine lv_istore (lv' := [(5, .int x7), (0, .ref o1), (1, .int a1), (2, .int a2), (3, .int a3), (4, .int 12)]) hx hb dX1_gather_34 hl (by decide) rfl (fun ls hl => ?_)
      refine lv_iload_n hx hb dX1_gather_36 rfl (lv_at hl 3 rfl) ?_
      refine lv_iconst (v := 1) hx hb dX1_gather_37 (by decide) ?_
      refine lv_iload hx hb dX1_gather_38 (lv_at hl 0 rfl) ?_
      refine lv_ishl hx hb dX1_gather_40 (lv_topi (fun x8 x8_e => ?_))
      have x8_h : Iv 1 2048 x8 := iv_e x8_e (iv_shl1 x7_h (by decide))
      refine lv_iconst (v := (-1)) hx hb dX1_gather_41 (by decide) ?_
      refine lv_ixor hx hb dX1_gather_42 (lv_topi (fun x9 x9_e => ?_))
      refine lv_iand hx hb dX1_gather_43 (lv_topi (fun x10 x10_e => ?_))
      have x10_h : Iv 0 4095 x10 := iv_e x10_e (iv_andL _ j5 (by decide))
      refine lv_istore (lv' := [(6, .int x10), (5, .int x7), (0, .ref o1), (1, .int a1), (2, .int a2), (3, .int a3), (4, .int 12)]) hx hb dX1_gather_44 hl (by decide) rfl (fun ls hl => ?_)
      refine lv_aload_n hx hb dX1_gather_46 rfl (lv_at hl 2 rfl) ?_
      refine lv_iload_n hx hb dX1_gather_47 rfl (lv_at hl 3 rfl) ?_
      refine lv_iload hx hb dX1_gather_48 (lv_at hl 0 rfl) ?_
      refine lv_iload_n hx hb dX1_gather_50 rfl (lv_at hl 5 rfl) ?_
      refine lv_iconst (v := 1) hx hb dX1_gather_51 (by decide) ?_
      refine lv_iload hx hb dX1_gather_52 (lv_at hl 1 rfl) ?_
      refine lv_ishl hx hb dX1_gather_54 (lv_topi (fun x11 x11_e => ?_))
      have x11_h : Iv 1 2048 x11 := iv_e x11_e (iv_shl1 x7_h (by decide))
      refine lv_ior hx hb dX1_gather_55 (lv_topi (fun x12 x12_e => ?_))
      have x12_h : Iv 0 4095 x12 := iv_e x12_e (iv_or 12 a3_h x11_h (by decide))
      refine lv_iload hx hb dX1_gather_56 (lv_at hl 6 rfl) ?_
      refine lv_iconst (v := 1) hx hb dX1_gather_58 (by decide) ?_
      refine lv_iadd hx hb dX1_gather_59 (tk_i (v := 13) (by decide +kernel) ?_)
      refine kc_v (D := (dC, dI)) (S := Unit) (wc := []) (wr := [(o1, .inr (1, [.int v2, .ref o3, .ref o5, .ref o7, .ref o9, .int v11, .int v12, .int v13])), (o3, .inl (cI, 12, .inl fw4)), (o5, .inl (cI, 81, .inl fw6))]) (w1 := fun _ => []) (wn := fun _ => [(o1, .inr (1, [.int v2, .ref o3, .ref o5, .ref o7, .ref o9, .int v11, .int v12, .int v13])), (o3, .inl (cI, 12, .inl fw4)), (o5, .inl (cI, 81, .inl fw6))]) (fun hPc hDc => va_runS (As := [.ref o1, .int a1, .int x10, .int x12, .int 13]) (rest := []) ⟨hx, hb, hml, hown, hts⟩ (kX1_gather_1 l dC dI cI c2 cZ o1 a1 x10 x12 H.size a1_h x10_h x12_h) (va_cwS 5 hts gX1_gather_X1_gather rfl rfl rfl (by decide +kernel) ⟨Nat.le_of_ble_eq_true rfl, Nat.le_of_ble_eq_true rfl⟩) (pre_S hPc hK hDc hN) rfl rfl hl.1 rfl (lv_room (Nat.le_of_ble_eq_true rfl)) dX1_gather_60 ⟨Nat.le_of_ble_eq_true rfl, Nat.le_of_ble_eq_true rfl⟩) hP hD hS hA [] [0, 1, 2] [0, 1, 2] rfl rfl (by decide +kernel) (by decide +kernel) (by decide +kernel) (by decide +kernel) (fun _ => rfl) (fun _ H locs hq hP hD hS => ?_)
      have hP : va_P (dC, dI) vwCl ([(o1, .inr (1, [.int v2, .ref o3, .ref o5, .ref o7, .ref o9, .int v11, .int v12, .int v13])), (o3, .inl (cI, 12, .inl fw4)), (o5, .inl (cI, 81, .inl fw6))]) H := hP
      have hD : va_D A ([(o1, .inr (1, [.int v2, .ref o3, .ref o5, .ref o7, .ref o9, .int v11, .int v12, .int v13])), (o3, .inl (cI, 12, .inl fw4)), (o5, .inl (cI, 81, .inl fw6))]) := hD
      refine lv_aload_n hx hb dX1_gather_63 rfl (lv_at hl 2 rfl) ?_
      refine lv_iload_n hx hb dX1_gather_64 rfl (lv_at hl 3 rfl) ?_
      refine lv_iconst (v := 1) hx hb dX1_gather_65 (by decide) ?_
      refine lv_iload hx hb dX1_gather_66 (lv_at hl 1 rfl) ?_
      refine lv_ishl hx hb dX1_gather_68 (lv_topi (fun x13 x13_e => ?_))
      have x13_h : Iv 1 2048 x13 := iv_e x13_e (iv_shl1 x7_h (by decide))
      refine lv_ior hx hb dX1_gather_69 (lv_topi (fun x14 x14_e => ?_))
      have x14_h : Iv 0 4095 x14 := iv_e x14_e (iv_or 12 a1_h x13_h (by decide))
      refine lv_iload hx hb dX1_gather_70 (lv_at hl 0 rfl) ?_
      refine lv_aload_n hx hb dX1_gather_72 rfl (lv_at hl 2 rfl) ?_
      refine va_get (D := (dC, dI)) (ci := 1) (v := .ref o3) (C := RX1) (T := TX1) (N := 8) hx hb hts iw_X1_gather_X1 hown hK hP 0 rfl rfl 1 (by decide) (hts (.fieldLink RX1 9 "HolelessHouse$Cliques" "near" "[I") hm_X1_gather_1) (fun _ h9 => h9) rfl dX1_gather_73 ?_
      refine lv_iload hx hb dX1_gather_76 (lv_at hl 1 rfl) ?_
      refine va_iald hx hb hK hP 1 0 rfl rfl (vin_iv x7_h (by decide)) dX1_gather_78 (lv_topi (fun x15 x15_e => ?_))
      have x15_h : Iv 0 4095 x15 := iv_e x15_e (bd_at fw4_b (vin_iv x7_h (by decide)))
      refine lv_iand hx hb dX1_gather_79 (lv_topi (fun x16 x16_e => ?_))
      have x16_h : Iv 0 4095 x16 := iv_e x16_e (iv_andL _ x10_h (by decide))
      refine lv_iload_n hx hb dX1_gather_80 rfl (lv_at hl 5 rfl) ?_
      refine lv_aload_n hx hb dX1_gather_81 rfl (lv_at hl 2 rfl) ?_
      refine va_get (D := (dC, dI)) (ci := 1) (v := .ref o3) (C := RX1) (T := TX1) (N := 8) hx hb hts iw_X1_gather_X1 hown hK hP 0 rfl rfl 1 (by decide) (hts (.fieldLink RX1 9 "HolelessHouse$Cliques" "near" "[I") hm_X1_gather_1) (fun _ h9 => h9) rfl dX1_gather_82 ?_
      refine lv_iload hx hb dX1_gather_85 (lv_at hl 1 rfl) ?_
      refine va_iald hx hb hK hP 1 0 rfl rfl (vin_iv x7_h (by decide)) dX1_gather_87 (lv_topi (fun x17 x17_e => ?_))
      have x17_h : Iv 0 4095 x17 := iv_e x17_e (bd_at fw4_b (vin_iv x7_h (by decide)))
      refine lv_iand hx hb dX1_gather_88 (lv_topi (fun x18 x18_e => ?_))
      have x18_h : Iv 0 4095 x18 := iv_e x18_e (iv_andL _ a3_h (by decide))
      refine lv_iload hx hb dX1_gather_89 (lv_at hl 6 rfl) ?_
      refine lv_iconst (v := 1) hx hb dX1_gather_91 (by decide) ?_
      refine lv_iadd hx hb dX1_gather_92 (tk_i (v := 13) (by decide +kernel) ?_)
      refine kc_v (D := (dC, dI)) (S := Unit) (wc := []) (wr := [(o1, .inr (1, [.int v2, .ref o3, .ref o5, .ref o7, .ref o9, .int v11, .int v12, .int v13])), (o3, .inl (cI, 12, .inl fw4)), (o5, .inl (cI, 81, .inl fw6))]) (w1 := fun _ => []) (wn := fun _ => [(o1, .inr (1, [.int v2, .ref o3, .ref o5, .ref o7, .ref o9, .int v11, .int v12, .int v13])), (o3, .inl (cI, 12, .inl fw4)), (o5, .inl (cI, 81, .inl fw6))]) (fun hPc hDc => va_runS (As := [.ref o1, .int x14, .int x16, .int x18, .int 13]) (rest := []) ⟨hx, hb, hml, hown, hts⟩ (kX1_gather_1 l dC dI cI c2 cZ o1 x14 x16 x18 H.size x14_h x16_h x18_h) (va_cwS 5 hts gX1_gather_X1_gather rfl rfl rfl (by decide +kernel) ⟨Nat.le_of_ble_eq_true rfl, Nat.le_of_ble_eq_true rfl⟩) (pre_S hPc hK hDc hN) rfl rfl hl.1 rfl (lv_room (Nat.le_of_ble_eq_true rfl)) dX1_gather_93 ⟨Nat.le_of_ble_eq_true rfl, Nat.le_of_ble_eq_true rfl⟩) hP hD hS hA [] [0, 1, 2] [0, 1, 2] rfl rfl (by decide +kernel) (by decide +kernel) (by decide +kernel) (by decide +kernel) (fun _ => rfl) (fun _ H locs hq hP hD hS => ?_)
      have hP : va_P (dC, dI) vwCl ([(o1, .inr (1, [.int v2, .ref o3, .ref o5, .ref o7, .ref o9, .int v11, .int v12, .int v13])), (o3, .inl (cI, 12, .inl fw4)), (o5, .inl (cI, 81, .inl fw6))]) H := hP
      have hD : va_D A ([(o1, .inr (1, [.int v2, .ref o3, .ref o5, .ref o7, .ref o9, .int v11, .int v12, .int v13])), (o3, .inl (cI, 12, .inl fw4)), (o5, .inl (cI, 81, .inl fw6))]) := hD
      rw [hQ]
      exact W.vret hx hb hr (fun t ht hW => ⟨⟨(v11, fw6), rfl, v11_h, by rw [ht]; exact hP, va_K.moved hW.alike hK, hD⟩, hS.F ht⟩) hS.2.2 dX1_gather_96
    ·
      have j19 : Iv 0 0 a2 := r_eq h4 ik_0
      refine lv_aload_n hx hb dX1_gather_21 rfl (lv_at hl 0 rfl) ?_
      refine lv_iload_n hx hb dX1_gather_22 rfl (lv_at hl 1 rfl) ?_
      refine kc_v (D := (dC, dI)) (S := Int32 × (Nat → Int32)) (wc := [(o1, .inr (1, [.int v2, .ref o3, .ref o5, .ref o7, .ref o9, .int v11, .int v12, .int v13])), (o5, .inl (cI, 81, .inl fw6))]) (wr := [(o3, .inl (cI, 12, .inl fw4))]) (w1 := fun u => [(o1, .inr (1, [.int v2, .ref o3, .ref o5, .ref o7, .ref o9, .int u.1, .int v12, .int v13])), (o5, .inl (cI, 81, .inl u.2))]) (wn := fun u => [(o1, .inr (1, [.int v2, .ref o3, .ref o5, .ref o7, .ref o9, .int u.1, .int v12, .int v13])), (o3, .inl (cI, 12, .inl fw4)), (o5, .inl (cI, 81, .inl u.2))]) (fun hPc hDc => va_runV (As := [.int a1]) (rest := []) ⟨hx, hb, hml, hown, hts⟩ (kX1_keep_1 l dC dI cI c2 cZ o1 o3 o5 o7 o9 v2 fw6 v11 v12 v13 a1 H.size v2_h v11_h a1_h) (cwV 1 hts gX1_gather_X1_keep rfl rfl rfl (by decide +kernel) ⟨Nat.le_of_ble_eq_true rfl, Nat.le_of_ble_eq_true rfl⟩) (pre_V hPc hK hDc hN (ci := 1) (q0 := 0) rfl rfl) rfl rfl hl.1 rfl (lv_room (Nat.le_of_ble_eq_true rfl)) dX1_gather_23 ⟨Nat.le_of_ble_eq_true rfl, Nat.le_of_ble_eq_true rfl⟩) hP hD hS hA [0, 2] [1] [1, 0, 2] rfl rfl (by decide +kernel) (by decide +kernel) (by decide +kernel) (by decide +kernel) (fun _ => rfl) (fun u H locs hq hP hD hS => ?_)
      obtain ⟨y20, f21⟩ := u
      have y20_h := hq
      have hP : va_P (dC, dI) vwCl ([(o1, .inr (1, [.int v2, .ref o3, .ref o5, .ref o7, .ref o9, .int y20, .int v12, .int v13])), (o3, .inl (cI, 12, .inl fw4)), (o5, .inl (cI, 81, .inl f21))]) H := hP
      have hD : va_D A ([(o1, .inr (1, [.int v2, .ref o3, .ref o5, .ref o7, .ref o9, .int y20, .int v12, .int v13])), (o3, .inl (cI, 12, .inl fw4)), (o5, .inl (cI, 81, .inl f21))]) := hD
      rw [hQ]
      exact W.vret hx hb hr (fun t ht hW => ⟨⟨(y20, f21), rfl, y20_h, by rw [ht]; exact hP, va_K.moved hW.alike hK, hD⟩, hS.F ht⟩) hS.2.2 dX1_gather_26
  ·
    have j22 : Iv 1 1 x1 := r_nelo h2 x1_h ik_0 (by decide)
    rw [hQ]
    exact W.vret hx hb hr (fun t ht hW => ⟨⟨(v11, fw6), rfl, v11_h, by rw [ht]; exact hP, va_K.moved hW.alike hK, hD⟩, hS.F ht⟩) hS.2.2 dX1_gather_16
set_option maxHeartbeats 4000000 in
set_option maxRecDepth 100000 in
theorem kX1_gather_3 (l : Launch) (dC : Nat → ClassId) (dI : Nat → Nat → Nat) (cI c2 cZ : ClassId) (o1 : Nat) (o3 : Nat) (o5 : Nat) (o7 : Nat) (o9 : Nat) (v2 : Int32) (fw4 : Nat → Int32) (fw6 : Nat → Int32) (v11 : Int32) (v12 : Int32) (v13 : Int32) (a1 : Int32) (a2 : Int32) (a3 : Int32) (sz : Nat) (v2_h : Iv 0 1 v2) (fw4_b : Bd 12 0 4095 fw4) (v11_h : Iv 0 81 v11) (a1_h : Iv 0 4095 a1) (a2_h : Iv 0 4095 a2) (a3_h : Iv 0 4095 a3) : Met l yX1_gather wsX1_gather ({ frames := 3, cells := 0, slots := 0, locals := 70 }) (va_Pc [.ref o1, .int a1, .int a2, .int a3, .int 11] (wPre (dC, dI) [(cI, .int), (c2, .array .int), (cZ, .boolean)] ([(o1, .inr (1, [.int v2, .ref o3, .ref o5, .ref o7, .ref o9, .int v11, .int v12, .int v13])), (o3, .inl (cI, 12, .inl fw4)), (o5, .inl (cI, 81, .inl fw6))]) sz)) (va_Qv (fun (u : Int32 × (Nat → Int32)) => Iv 0 81 u.1) (fun u t => wPost (dC, dI) [(cI, .int), (c2, .array .int), (cZ, .boolean)] (va_A ([(o1, .inr (1, [.int v2, .ref o3, .ref o5, .ref o7, .ref o9, .int v11, .int v12, .int v13])), (o3, .inl (cI, 12, .inl fw4)), (o5, .inl (cI, 81, .inl fw6))]) sz) ([(o1, .inr (1, [.int v2, .ref o3, .ref o5, .ref o7, .ref o9, .int u.1, .int v12, .int v13])), (o3, .inl (cI, 12, .inl fw4)), (o5, .inl (cI, 81, .inl u.2))]) t) (va_A ([(o1, .inr (1, [.int v2, .ref o3, .ref o5, .ref o7, .ref o9, .int v11, .int v12, .int v13])), (o3, .inl (cI, 12, .inl fw4)), (o5, .inl (cI, 81, .inl fw6))]) sz)) 0 0 (va_A ([(o1, .inr (1, [.int v2, .ref o3, .ref o5, .ref o7, .ref o9, .int v11, .int v12, .int v13])), (o3, .inl (cI, 12, .inl fw4)), (o5, .inl (cI, 81, .inl fw6))]) sz) := by
  refine Met.ofW (cc := cX1_gather) (maxL := 7) (ret := none) (by decide) rfl ?_
  intro p e s m args below meth c s₁ B hml hv
  obtain ⟨rfl, hsz, hP, hK, hD0, hN⟩ := hv
  have hx := B.exec
  have hb := B.bytes
  have hr := B.returns
  have hts := atoms_spec (ws := wsX1_gather) B.pre
  have hown : s.vm.findClass RX1 = some m.cls := findClass_of_methodNamed B.named
  have hlocks := B.notSynchronized
  subst hsz
  have hD := hD0.self (sz := s.heap.size)
  generalize hAe : va_A ([(o1, .inr (1, [.int v2, .ref o3, .ref o5, .ref o7, .ref o9, .int v11, .int v12, .int v13])), (o3, .inl (cI, 12, .inl fw4)), (o5, .inl (cI, 81, .inl fw6))]) s.heap.size = A at hD ⊢
  have hA : ∀ q : Nat, s.heap.size ≤ q → A q := fun q h => by rw [← hAe]; exact Or.inr h
  have hS : va_S A s.heap s.heap [] := va_S.rf
  have hP : va_P (dC, dI) vwCl ([(o1, .inr (1, [.int v2, .ref o3, .ref o5, .ref o7, .ref o9, .int v11, .int v12, .int v13])), (o3, .inl (cI, 12, .inl fw4)), (o5, .inl (cI, 81, .inl fw6))]) s.heap := hP
  have hl := lv_entry ([.ref o1, .int a1, .int a2, .int a3, .int 11]) (n := 7) (Nat.le_of_ble_eq_true rfl)
  rw [lg_entry_eq]
  generalize (lg_sl ([.ref o1, .int a1, .int a2, .int a3, .int 11]) ++ List.replicate (7 - (lg_sl ([.ref o1, .int a1, .int a2, .int a3, .int 11])).length) Slot.unset).toArray = ls at hl ⊢
  have hl : lv_has ls 7 [(0, .ref o1), (1, .int a1), (2, .int a2), (3, .int a3), (4, .int 11)] := hl
  refine gen_Q (fun Q hQ => ?_)
  refine lv_iload hx hb dX1_gather_0 (lv_at hl 4 rfl) ?_
  refine lv_bipush (v := 12) hx hb dX1_gather_2 (by decide) ?_
  refine lv_icmp_gt (tgt := 16) hx hb dX1_gather_4 (by decide) (fun h9 => absurd h9 (by decide +kernel)) (fun _ => ?_)
  refine lv_aload_n hx hb dX1_gather_7 rfl (lv_at hl 0 rfl) ?_
  refine lv_iload_n hx hb dX1_gather_8 rfl (lv_at hl 2 rfl) ?_
  refine lv_iload_n hx hb dX1_gather_9 rfl (lv_at hl 3 rfl) ?_
  refine kc_i (D := (dC, dI)) (S := Unit) (wc := [(o1, .inr (1, [.int v2, .ref o3, .ref o5, .ref o7, .ref o9, .int v11, .int v12, .int v13])), (o3, .inl (cI, 12, .inl fw4))]) (wr := [(o5, .inl (cI, 81, .inl fw6))]) (w1 := fun _ => [(o1, .inr (1, [.int v2, .ref o3, .ref o5, .ref o7, .ref o9, .int v11, .int v12, .int v13])), (o3, .inl (cI, 12, .inl fw4))]) (wn := fun _ => [(o1, .inr (1, [.int v2, .ref o3, .ref o5, .ref o7, .ref o9, .int v11, .int v12, .int v13])), (o3, .inl (cI, 12, .inl fw4)), (o5, .inl (cI, 81, .inl fw6))]) (fun hPc hDc => va_runV (As := [.int a2, .int a3]) (rest := []) ⟨hx, hb, hml, hown, hts⟩ (kX1_canNotBeGreat_1 l dC dI cI c2 cZ o1 o3 o5 o7 o9 v2 fw4 v11 v12 v13 a2 a3 s.heap.size v2_h fw4_b v11_h a2_h a3_h) (cwV 2 hts gX1_gather_X1_canNotBeGreat rfl rfl rfl (by decide +kernel) ⟨Nat.le_of_ble_eq_true rfl, Nat.le_of_ble_eq_true rfl⟩) (pre_V hPc hK hDc hN (ci := 1) (q0 := 0) rfl rfl) rfl rfl hl.1 rfl (lv_room (Nat.le_of_ble_eq_true rfl)) dX1_gather_10 ⟨Nat.le_of_ble_eq_true rfl, Nat.le_of_ble_eq_true rfl⟩) hP hD hS hA [0, 1] [2] [1, 2, 0] rfl rfl (by decide +kernel) (by decide +kernel) (by decide +kernel) (by decide +kernel) (fun _ => rfl) (fun x1 _ H locs hq hP hD hS => ?_)
  have x1_h := hq
  have hP : va_P (dC, dI) vwCl ([(o1, .inr (1, [.int v2, .ref o3, .ref o5, .ref o7, .ref o9, .int v11, .int v12, .int v13])), (o3, .inl (cI, 12, .inl fw4)), (o5, .inl (cI, 81, .inl fw6))]) H := hP
  have hD : va_D A ([(o1, .inr (1, [.int v2, .ref o3, .ref o5, .ref o7, .ref o9, .int v11, .int v12, .int v13])), (o3, .inl (cI, 12, .inl fw4)), (o5, .inl (cI, 81, .inl fw6))]) := hD
  refine lv_if_eq (tgt := 17) hx hb dX1_gather_13 (by decide) (fun h2 => ?_) (fun h2 => ?_)
  ·
    have j3 : Iv 0 0 x1 := r_eq h2 ik_0
    refine lv_iload_n hx hb dX1_gather_17 rfl (lv_at hl 2 rfl) ?_
    refine lv_if_ne (tgt := 27) hx hb dX1_gather_18 (by decide) (fun h4 => ?_) (fun h4 => ?_)
    ·
      have j5 : Iv 1 4095 a2 := r_nelo h4 a2_h ik_0 (by decide)
      refine lv_bipush (v := 31) hx hb dX1_gather_27 (by decide) ?_
      refine lv_iload_n hx hb dX1_gather_29 rfl (lv_at hl 2 rfl) ?_
      refine kc_i (D := (dC, dI)) (S := Unit) (wc := []) (wr := [(o1, .inr (1, [.int v2, .ref o3, .ref o5, .ref o7, .ref o9, .int v11, .int v12, .int v13])), (o3, .inl (cI, 12, .inl fw4)), (o5, .inl (cI, 81, .inl fw6))]) (w1 := fun _ => []) (wn := fun _ => [(o1, .inr (1, [.int v2, .ref o3, .ref o5, .ref o7, .ref o9, .int v11, .int v12, .int v13])), (o3, .inl (cI, 12, .inl fw4)), (o5, .inl (cI, 81, .inl fw6))]) (fun hPc hDc => va_runS (As := [.int a2]) (rest := [.int 31]) ⟨hx, hb, hml, hown, hts⟩ (kJ6_numberOfLeadingZeros_0f7a4_1 l dC dI cI c2 cZ a2 H.size j5) (va_cwS 1 hts gX1_gather_J6_numberOfLeadingZeros_0f7a4 rfl rfl rfl (by decide +kernel) ⟨Nat.le_of_ble_eq_true rfl, Nat.le_of_ble_eq_true rfl⟩) (pre_S hPc hK hDc hN) rfl rfl hl.1 rfl (lv_room (Nat.le_of_ble_eq_true rfl)) dX1_gather_30 ⟨Nat.le_of_ble_eq_true rfl, Nat.le_of_ble_eq_true rfl⟩) hP hD hS hA [] [0, 1, 2] [0, 1, 2] rfl rfl (by decide +kernel) (by decide +kernel) (by decide +kernel) (by decide +kernel) (fun _ => rfl) (fun x6 _ H locs hq hP hD hS => ?_)
      have x6_h := hq
      have hP : va_P (dC, dI) vwCl ([(o1, .inr (1, [.int v2, .ref o3, .ref o5, .ref o7, .ref o9, .int v11, .int v12, .int v13])), (o3, .inl (cI, 12, .inl fw4)), (o5, .inl (cI, 81, .inl fw6))]) H := hP
      have hD : va_D A ([(o1, .inr (1, [.int v2, .ref o3, .ref o5, .ref o7, .ref o9, .int v11, .int v12, .int v13])), (o3, .inl (cI, 12, .inl fw4)), (o5, .inl (cI, 81, .inl fw6))]) := hD
      refine lv_isub hx hb dX1_gather_33 (lv_topi (fun x7 x7_e => ?_))
      have x7_h : Iv 0 11 x7 := iv_e x7_e (iv_sub ik_31 x6_h (by decide))
      refine lv_istore (lv' := [(5, .int x7), (0, .ref o1), (1, .int a1), (2, .int a2), (3, .int a3), (4, .int 11)]) hx hb dX1_gather_34 hl (by decide) rfl (fun ls hl => ?_)
      refine lv_iload_n hx hb dX1_gather_36 rfl (lv_at hl 3 rfl) ?_
      refine lv_iconst (v := 1) hx hb dX1_gather_37 (by decide) ?_
      refine lv_iload hx hb dX1_gather_38 (lv_at hl 0 rfl) ?_
      refine lv_ishl hx hb dX1_gather_40 (lv_topi (fun x8 x8_e => ?_))
      have x8_h : Iv 1 2048 x8 := iv_e x8_e (iv_shl1 x7_h (by decide))
      refine lv_iconst (v := (-1)) hx hb dX1_gather_41 (by decide) ?_
      refine lv_ixor hx hb dX1_gather_42 (lv_topi (fun x9 x9_e => ?_))
      refine lv_iand hx hb dX1_gather_43 (lv_topi (fun x10 x10_e => ?_))
      have x10_h : Iv 0 4095 x10 := iv_e x10_e (iv_andL _ j5 (by decide))
      refine lv_istore (lv' := [(6, .int x10), (5, .int x7), (0, .ref o1), (1, .int a1), (2, .int a2), (3, .int a3), (4, .int 11)]) hx hb dX1_gather_44 hl (by decide) rfl (fun ls hl => ?_)
      refine lv_aload_n hx hb dX1_gather_46 rfl (lv_at hl 2 rfl) ?_
      refine lv_iload_n hx hb dX1_gather_47 rfl (lv_at hl 3 rfl) ?_
      refine lv_iload hx hb dX1_gather_48 (lv_at hl 0 rfl) ?_
      refine lv_iload_n hx hb dX1_gather_50 rfl (lv_at hl 5 rfl) ?_
      refine lv_iconst (v := 1) hx hb dX1_gather_51 (by decide) ?_
      refine lv_iload hx hb dX1_gather_52 (lv_at hl 1 rfl) ?_
      refine lv_ishl hx hb dX1_gather_54 (lv_topi (fun x11 x11_e => ?_))
      have x11_h : Iv 1 2048 x11 := iv_e x11_e (iv_shl1 x7_h (by decide))
      refine lv_ior hx hb dX1_gather_55 (lv_topi (fun x12 x12_e => ?_))
      have x12_h : Iv 0 4095 x12 := iv_e x12_e (iv_or 12 a3_h x11_h (by decide))
      refine lv_iload hx hb dX1_gather_56 (lv_at hl 6 rfl) ?_
      refine lv_iconst (v := 1) hx hb dX1_gather_58 (by decide) ?_
      refine lv_iadd hx hb dX1_gather_59 (tk_i (v := 12) (by decide +kernel) ?_)
      refine kc_v (D := (dC, dI)) (S := Int32 × (Nat → Int32)) (wc := [(o1, .inr (1, [.int v2, .ref o3, .ref o5, .ref o7, .ref o9, .int v11, .int v12, .int v13])), (o3, .inl (cI, 12, .inl fw4)), (o5, .inl (cI, 81, .inl fw6))]) (wr := []) (w1 := fun u => [(o1, .inr (1, [.int v2, .ref o3, .ref o5, .ref o7, .ref o9, .int u.1, .int v12, .int v13])), (o3, .inl (cI, 12, .inl fw4)), (o5, .inl (cI, 81, .inl u.2))]) (wn := fun u => [(o1, .inr (1, [.int v2, .ref o3, .ref o5, .ref o7, .ref o9, .int u.1, .int v12, .int v13])), (o3, .inl (cI, 12, .inl fw4)), (o5, .inl (cI, 81, .inl u.2))]) (fun hPc hDc => va_runS (As := [.ref o1, .int a1, .int x10, .int x12, .int 12]) (rest := []) ⟨hx, hb, hml, hown, hts⟩ (kX1_gather_2 l dC dI cI c2 cZ o1 o3 o5 o7 o9 v2 fw4 fw6 v11 v12 v13 a1 x10 x12 H.size v2_h fw4_b v11_h a1_h x10_h x12_h) (va_cwS 5 hts gX1_gather_X1_gather rfl rfl rfl (by decide +kernel) ⟨Nat.le_of_ble_eq_true rfl, Nat.le_of_ble_eq_true rfl⟩) (pre_S hPc hK hDc hN) rfl rfl hl.1 rfl (lv_room (Nat.le_of_ble_eq_true rfl)) dX1_gather_60 ⟨Nat.le_of_ble_eq_true rfl, Nat.le_of_ble_eq_true rfl⟩) hP hD hS hA [0, 1, 2] [] [0, 1, 2] rfl rfl (by decide +kernel) (by decide +kernel) (by decide +kernel) (by decide +kernel) (fun _ => rfl) (fun u H locs hq hP hD hS => ?_)
      obtain ⟨y13, f14⟩ := u
      have y13_h := hq
      have hP : va_P (dC, dI) vwCl ([(o1, .inr (1, [.int v2, .ref o3, .ref o5, .ref o7, .ref o9, .int y13, .int v12, .int v13])), (o3, .inl (cI, 12, .inl fw4)), (o5, .inl (cI, 81, .inl f14))]) H := hP
      have hD : va_D A ([(o1, .inr (1, [.int v2, .ref o3, .ref o5, .ref o7, .ref o9, .int y13, .int v12, .int v13])), (o3, .inl (cI, 12, .inl fw4)), (o5, .inl (cI, 81, .inl f14))]) := hD
      refine lv_aload_n hx hb dX1_gather_63 rfl (lv_at hl 2 rfl) ?_
      refine lv_iload_n hx hb dX1_gather_64 rfl (lv_at hl 3 rfl) ?_
      refine lv_iconst (v := 1) hx hb dX1_gather_65 (by decide) ?_
      refine lv_iload hx hb dX1_gather_66 (lv_at hl 1 rfl) ?_
      refine lv_ishl hx hb dX1_gather_68 (lv_topi (fun x15 x15_e => ?_))
      have x15_h : Iv 1 2048 x15 := iv_e x15_e (iv_shl1 x7_h (by decide))
      refine lv_ior hx hb dX1_gather_69 (lv_topi (fun x16 x16_e => ?_))
      have x16_h : Iv 0 4095 x16 := iv_e x16_e (iv_or 12 a1_h x15_h (by decide))
      refine lv_iload hx hb dX1_gather_70 (lv_at hl 0 rfl) ?_
      refine lv_aload_n hx hb dX1_gather_72 rfl (lv_at hl 2 rfl) ?_
      refine va_get (D := (dC, dI)) (ci := 1) (v := .ref o3) (C := RX1) (T := TX1) (N := 8) hx hb hts iw_X1_gather_X1 hown hK hP 0 rfl rfl 1 (by decide) (hts (.fieldLink RX1 9 "HolelessHouse$Cliques" "near" "[I") hm_X1_gather_1) (fun _ h9 => h9) rfl dX1_gather_73 ?_
      refine lv_iload hx hb dX1_gather_76 (lv_at hl 1 rfl) ?_
      refine va_iald hx hb hK hP 1 0 rfl rfl (vin_iv x7_h (by decide)) dX1_gather_78 (lv_topi (fun x17 x17_e => ?_))
      have x17_h : Iv 0 4095 x17 := iv_e x17_e (bd_at fw4_b (vin_iv x7_h (by decide)))
      refine lv_iand hx hb dX1_gather_79 (lv_topi (fun x18 x18_e => ?_))
      have x18_h : Iv 0 4095 x18 := iv_e x18_e (iv_andL _ x10_h (by decide))
      refine lv_iload_n hx hb dX1_gather_80 rfl (lv_at hl 5 rfl) ?_
      refine lv_aload_n hx hb dX1_gather_81 rfl (lv_at hl 2 rfl) ?_
      refine va_get (D := (dC, dI)) (ci := 1) (v := .ref o3) (C := RX1) (T := TX1) (N := 8) hx hb hts iw_X1_gather_X1 hown hK hP 0 rfl rfl 1 (by decide) (hts (.fieldLink RX1 9 "HolelessHouse$Cliques" "near" "[I") hm_X1_gather_1) (fun _ h9 => h9) rfl dX1_gather_82 ?_
      refine lv_iload hx hb dX1_gather_85 (lv_at hl 1 rfl) ?_
      refine va_iald hx hb hK hP 1 0 rfl rfl (vin_iv x7_h (by decide)) dX1_gather_87 (lv_topi (fun x19 x19_e => ?_))
      have x19_h : Iv 0 4095 x19 := iv_e x19_e (bd_at fw4_b (vin_iv x7_h (by decide)))
      refine lv_iand hx hb dX1_gather_88 (lv_topi (fun x20 x20_e => ?_))
      have x20_h : Iv 0 4095 x20 := iv_e x20_e (iv_andL _ a3_h (by decide))
      refine lv_iload hx hb dX1_gather_89 (lv_at hl 6 rfl) ?_
      refine lv_iconst (v := 1) hx hb dX1_gather_91 (by decide) ?_
      refine lv_iadd hx hb dX1_gather_92 (tk_i (v := 12) (by decide +kernel) ?_)
      refine kc_v (D := (dC, dI)) (S := Int32 × (Nat → Int32)) (wc := [(o1, .inr (1, [.int v2, .ref o3, .ref o5, .ref o7, .ref o9, .int y13, .int v12, .int v13])), (o3, .inl (cI, 12, .inl fw4)), (o5, .inl (cI, 81, .inl f14))]) (wr := []) (w1 := fun u => [(o1, .inr (1, [.int v2, .ref o3, .ref o5, .ref o7, .ref o9, .int u.1, .int v12, .int v13])), (o3, .inl (cI, 12, .inl fw4)), (o5, .inl (cI, 81, .inl u.2))]) (wn := fun u => [(o1, .inr (1, [.int v2, .ref o3, .ref o5, .ref o7, .ref o9, .int u.1, .int v12, .int v13])), (o3, .inl (cI, 12, .inl fw4)), (o5, .inl (cI, 81, .inl u.2))]) (fun hPc hDc => va_runS (As := [.ref o1, .int x16, .int x18, .int x20, .int 12]) (rest := []) ⟨hx, hb, hml, hown, hts⟩ (kX1_gather_2 l dC dI cI c2 cZ o1 o3 o5 o7 o9 v2 fw4 f14 y13 v12 v13 x16 x18 x20 H.size v2_h fw4_b y13_h x16_h x18_h x20_h) (va_cwS 5 hts gX1_gather_X1_gather rfl rfl rfl (by decide +kernel) ⟨Nat.le_of_ble_eq_true rfl, Nat.le_of_ble_eq_true rfl⟩) (pre_S hPc hK hDc hN) rfl rfl hl.1 rfl (lv_room (Nat.le_of_ble_eq_true rfl)) dX1_gather_93 ⟨Nat.le_of_ble_eq_true rfl, Nat.le_of_ble_eq_true rfl⟩) hP hD hS hA [0, 1, 2] [] [0, 1, 2] rfl rfl (by decide +kernel) (by decide +kernel) (by decide +kernel) (by decide +kernel) (fun _ => rfl) (fun u H locs hq hP hD hS => ?_)
      obtain ⟨y21, f22⟩ := u
      have y21_h := hq
      have hP : va_P (dC, dI) vwCl ([(o1, .inr (1, [.int v2, .ref o3, .ref o5, .ref o7, .ref o9, .int y21, .int v12, .int v13])), (o3, .inl (cI, 12, .inl fw4)), (o5, .inl (cI, 81, .inl f22))]) H := hP
      have hD : va_D A ([(o1, .inr (1, [.int v2, .ref o3, .ref o5, .ref o7, .ref o9, .int y21, .int v12, .int v13])), (o3, .inl (cI, 12, .inl fw4)), (o5, .inl (cI, 81, .inl f22))]) := hD
      rw [hQ]
      exact W.vret hx hb hr (fun t ht hW => ⟨⟨(y21, f22), rfl, y21_h, by rw [ht]; exact hP, va_K.moved hW.alike hK, hD⟩, hS.F ht⟩) hS.2.2 dX1_gather_96
    ·
      have j23 : Iv 0 0 a2 := r_eq h4 ik_0
      refine lv_aload_n hx hb dX1_gather_21 rfl (lv_at hl 0 rfl) ?_
      refine lv_iload_n hx hb dX1_gather_22 rfl (lv_at hl 1 rfl) ?_
      refine kc_v (D := (dC, dI)) (S := Int32 × (Nat → Int32)) (wc := [(o1, .inr (1, [.int v2, .ref o3, .ref o5, .ref o7, .ref o9, .int v11, .int v12, .int v13])), (o5, .inl (cI, 81, .inl fw6))]) (wr := [(o3, .inl (cI, 12, .inl fw4))]) (w1 := fun u => [(o1, .inr (1, [.int v2, .ref o3, .ref o5, .ref o7, .ref o9, .int u.1, .int v12, .int v13])), (o5, .inl (cI, 81, .inl u.2))]) (wn := fun u => [(o1, .inr (1, [.int v2, .ref o3, .ref o5, .ref o7, .ref o9, .int u.1, .int v12, .int v13])), (o3, .inl (cI, 12, .inl fw4)), (o5, .inl (cI, 81, .inl u.2))]) (fun hPc hDc => va_runV (As := [.int a1]) (rest := []) ⟨hx, hb, hml, hown, hts⟩ (kX1_keep_1 l dC dI cI c2 cZ o1 o3 o5 o7 o9 v2 fw6 v11 v12 v13 a1 H.size v2_h v11_h a1_h) (cwV 1 hts gX1_gather_X1_keep rfl rfl rfl (by decide +kernel) ⟨Nat.le_of_ble_eq_true rfl, Nat.le_of_ble_eq_true rfl⟩) (pre_V hPc hK hDc hN (ci := 1) (q0 := 0) rfl rfl) rfl rfl hl.1 rfl (lv_room (Nat.le_of_ble_eq_true rfl)) dX1_gather_23 ⟨Nat.le_of_ble_eq_true rfl, Nat.le_of_ble_eq_true rfl⟩) hP hD hS hA [0, 2] [1] [1, 0, 2] rfl rfl (by decide +kernel) (by decide +kernel) (by decide +kernel) (by decide +kernel) (fun _ => rfl) (fun u H locs hq hP hD hS => ?_)
      obtain ⟨y24, f25⟩ := u
      have y24_h := hq
      have hP : va_P (dC, dI) vwCl ([(o1, .inr (1, [.int v2, .ref o3, .ref o5, .ref o7, .ref o9, .int y24, .int v12, .int v13])), (o3, .inl (cI, 12, .inl fw4)), (o5, .inl (cI, 81, .inl f25))]) H := hP
      have hD : va_D A ([(o1, .inr (1, [.int v2, .ref o3, .ref o5, .ref o7, .ref o9, .int y24, .int v12, .int v13])), (o3, .inl (cI, 12, .inl fw4)), (o5, .inl (cI, 81, .inl f25))]) := hD
      rw [hQ]
      exact W.vret hx hb hr (fun t ht hW => ⟨⟨(y24, f25), rfl, y24_h, by rw [ht]; exact hP, va_K.moved hW.alike hK, hD⟩, hS.F ht⟩) hS.2.2 dX1_gather_26
  ·
    have j26 : Iv 1 1 x1 := r_nelo h2 x1_h ik_0 (by decide)
    rw [hQ]
    exact W.vret hx hb hr (fun t ht hW => ⟨⟨(v11, fw6), rfl, v11_h, by rw [ht]; exact hP, va_K.moved hW.alike hK, hD⟩, hS.F ht⟩) hS.2.2 dX1_gather_16
