theorem hm_X4_restart_1 : (.fieldLink RX4 15 "HolelessHouse$Graph" "size" "I" : Cond) ∈ wsX4_restart := List.mem_of_getElem? (i := 1) rfl
theorem hm_X4_restart_2 : (.fieldLink RX4 9 "HolelessHouse$Graph" "near" "[I" : Cond) ∈ wsX4_restart := List.mem_of_getElem? (i := 2) rfl
theorem hm_X4_restart_3 : (.fieldLink RX4 19 "HolelessHouse$Graph" "version" "I" : Cond) ∈ wsX4_restart := List.mem_of_getElem? (i := 3) rfl
theorem hm_X6_drop_1 : (.fieldLink RX6 39 "HolelessHouse$Ordering" "there" "Z" : Cond) ∈ wsX6_drop := List.mem_of_getElem? (i := 1) rfl
theorem hm_X4_all_1 : (.fieldLink RX4 15 "HolelessHouse$Graph" "size" "I" : Cond) ∈ wsX4_all := List.mem_of_getElem? (i := 1) rfl
theorem hm_X6_keepDrafted_1 : (.fieldLink RX6 32 "HolelessHouse$Ordering" "draftSize" "I" : Cond) ∈ wsX6_keepDrafted := List.mem_of_getElem? (i := 1) rfl
theorem hm_X6_keepDrafted_2 : (.fieldLink RX6 29 "HolelessHouse$Ordering" "drafts" "[I" : Cond) ∈ wsX6_keepDrafted := List.mem_of_getElem? (i := 2) rfl
theorem hm_X6_keepDrafted_4 : (.initialized RX11 : Cond) ∈ wsX6_keepDrafted := List.mem_of_getElem? (i := 4) rfl
theorem hm_X6_keepDrafted_3 : (.static yX11_in : Cond) ∈ wsX6_keepDrafted := List.mem_of_getElem? (i := 3) rfl
theorem hm_X11_startGraph_1 : (.fieldLink RX11 10 "HolelessHouse" "graph" "LHolelessHouse$Graph;" : Cond) ∈ wsX11_startGraph := List.mem_of_getElem? (i := 1) rfl
theorem hm_X11_startGraph_4 : (.initialized RX4 : Cond) ∈ wsX11_startGraph := List.mem_of_getElem? (i := 4) rfl
theorem hm_X11_startGraph_3 : (.instanceMethod yX4_restart : Cond) ∈ wsX11_startGraph := List.mem_of_getElem? (i := 3) rfl
theorem hm_X11_startGraph_5 : (.selects RX4 yX4_restart yX4_restart : Cond) ∈ wsX11_startGraph := List.mem_of_getElem? (i := 5) rfl
theorem hm_X11_startGraph_2 : (.fieldLink RX11 26 "HolelessHouse" "ordering" "LHolelessHouse$Ordering;" : Cond) ∈ wsX11_startGraph := List.mem_of_getElem? (i := 2) rfl
theorem hm_X11_startGraph_15 : (.initialized RX6 : Cond) ∈ wsX11_startGraph := List.mem_of_getElem? (i := 15) rfl
theorem hm_X11_startGraph_14 : (.instanceMethod yX6_drop : Cond) ∈ wsX11_startGraph := List.mem_of_getElem? (i := 14) rfl
theorem hm_X11_startGraph_16 : (.selects RX6 yX6_drop yX6_drop : Cond) ∈ wsX11_startGraph := List.mem_of_getElem? (i := 16) rfl
theorem hm_X11_startGraph_19 : (.instanceMethod yX4_all : Cond) ∈ wsX11_startGraph := List.mem_of_getElem? (i := 19) rfl
theorem hm_X11_startGraph_20 : (.selects RX4 yX4_all yX4_all : Cond) ∈ wsX11_startGraph := List.mem_of_getElem? (i := 20) rfl
theorem hm_X11_startGraph_22 : (.instanceMethod yX6_keepDrafted : Cond) ∈ wsX11_startGraph := List.mem_of_getElem? (i := 22) rfl
theorem hm_X11_startGraph_23 : (.selects RX6 yX6_keepDrafted yX6_keepDrafted : Cond) ∈ wsX11_startGraph := List.mem_of_getElem? (i := 23) rfl
theorem hm_X4_has_1 : (.fieldLink RX4 15 "HolelessHouse$Graph" "size" "I" : Cond) ∈ wsX4_has := List.mem_of_getElem? (i := 1) rfl
theorem hm_X4_touches_1 : (.fieldLink RX4 9 "HolelessHouse$Graph" "near" "[I" : Cond) ∈ wsX4_touches := List.mem_of_getElem? (i := 1) rfl
theorem hm_X4_touches_3 : (.initialized RX11 : Cond) ∈ wsX4_touches := List.mem_of_getElem? (i := 3) rfl
theorem hm_X4_touches_2 : (.static yX11_in : Cond) ∈ wsX4_touches := List.mem_of_getElem? (i := 2) rfl
theorem hm_X4_set_1 : (.fieldLink RX4 9 "HolelessHouse$Graph" "near" "[I" : Cond) ∈ wsX4_set := List.mem_of_getElem? (i := 1) rfl
theorem hm_X4_set_2 : (.fieldLink RX4 19 "HolelessHouse$Graph" "version" "I" : Cond) ∈ wsX4_set := List.mem_of_getElem? (i := 2) rfl
theorem hm_X11_join_1 : (.fieldLink RX11 10 "HolelessHouse" "graph" "LHolelessHouse$Graph;" : Cond) ∈ wsX11_join := List.mem_of_getElem? (i := 1) rfl
theorem hm_X11_join_4 : (.initialized RX4 : Cond) ∈ wsX11_join := List.mem_of_getElem? (i := 4) rfl
theorem hm_X11_join_3 : (.instanceMethod yX4_has : Cond) ∈ wsX11_join := List.mem_of_getElem? (i := 3) rfl
theorem hm_X11_join_5 : (.selects RX4 yX4_has yX4_has : Cond) ∈ wsX11_join := List.mem_of_getElem? (i := 5) rfl
theorem hm_X11_join_8 : (.instanceMethod yX4_touches : Cond) ∈ wsX11_join := List.mem_of_getElem? (i := 8) rfl
theorem hm_X11_join_9 : (.selects RX4 yX4_touches yX4_touches : Cond) ∈ wsX11_join := List.mem_of_getElem? (i := 9) rfl
theorem hm_X11_join_15 : (.instanceMethod yX4_set : Cond) ∈ wsX11_join := List.mem_of_getElem? (i := 15) rfl
theorem hm_X11_join_16 : (.selects RX4 yX4_set yX4_set : Cond) ∈ wsX11_join := List.mem_of_getElem? (i := 16) rfl
theorem hm_X11_join_2 : (.fieldLink RX11 26 "HolelessHouse" "ordering" "LHolelessHouse$Ordering;" : Cond) ∈ wsX11_join := List.mem_of_getElem? (i := 2) rfl
theorem hm_X11_join_20 : (.initialized RX6 : Cond) ∈ wsX11_join := List.mem_of_getElem? (i := 20) rfl
theorem hm_X11_join_19 : (.instanceMethod yX6_drop : Cond) ∈ wsX11_join := List.mem_of_getElem? (i := 19) rfl
theorem hm_X11_join_21 : (.selects RX6 yX6_drop yX6_drop : Cond) ∈ wsX11_join := List.mem_of_getElem? (i := 21) rfl
theorem hm_X11_joined_1 : (.fieldLink RX11 10 "HolelessHouse" "graph" "LHolelessHouse$Graph;" : Cond) ∈ wsX11_joined := List.mem_of_getElem? (i := 1) rfl
theorem hm_X11_joined_3 : (.initialized RX4 : Cond) ∈ wsX11_joined := List.mem_of_getElem? (i := 3) rfl
theorem hm_X11_joined_2 : (.instanceMethod yX4_has : Cond) ∈ wsX11_joined := List.mem_of_getElem? (i := 2) rfl
theorem hm_X11_joined_4 : (.selects RX4 yX4_has yX4_has : Cond) ∈ wsX11_joined := List.mem_of_getElem? (i := 4) rfl
theorem hm_X4_isClique_1 : (.fieldLink RX4 15 "HolelessHouse$Graph" "size" "I" : Cond) ∈ wsX4_isClique := List.mem_of_getElem? (i := 1) rfl
theorem hm_X4_isClique_4 : (.initialized RX11 : Cond) ∈ wsX4_isClique := List.mem_of_getElem? (i := 4) rfl
theorem hm_X4_isClique_3 : (.static yX11_in : Cond) ∈ wsX4_isClique := List.mem_of_getElem? (i := 3) rfl
theorem hm_X4_isClique_2 : (.fieldLink RX4 9 "HolelessHouse$Graph" "near" "[I" : Cond) ∈ wsX4_isClique := List.mem_of_getElem? (i := 2) rfl
theorem hm_X11_isKind_1 : (.fieldLink RX11 10 "HolelessHouse" "graph" "LHolelessHouse$Graph;" : Cond) ∈ wsX11_isKind := List.mem_of_getElem? (i := 1) rfl
theorem hm_X11_isKind_3 : (.initialized RX4 : Cond) ∈ wsX11_isKind := List.mem_of_getElem? (i := 3) rfl
theorem hm_X11_isKind_2 : (.instanceMethod yX4_isClique : Cond) ∈ wsX11_isKind := List.mem_of_getElem? (i := 2) rfl
theorem hm_X11_isKind_4 : (.selects RX4 yX4_isClique yX4_isClique : Cond) ∈ wsX11_isKind := List.mem_of_getElem? (i := 4) rfl
theorem hm_X11_isKind_11 : (.instanceMethod yX4_all : Cond) ∈ wsX11_isKind := List.mem_of_getElem? (i := 11) rfl
theorem hm_X11_isKind_12 : (.selects RX4 yX4_all yX4_all : Cond) ∈ wsX11_isKind := List.mem_of_getElem? (i := 12) rfl
theorem hm_X11_kind_1 : (.fieldLink RX11 10 "HolelessHouse" "graph" "LHolelessHouse$Graph;" : Cond) ∈ wsX11_kind := List.mem_of_getElem? (i := 1) rfl
theorem hm_X11_kind_3 : (.initialized RX4 : Cond) ∈ wsX11_kind := List.mem_of_getElem? (i := 3) rfl
theorem hm_X11_kind_2 : (.instanceMethod yX4_has : Cond) ∈ wsX11_kind := List.mem_of_getElem? (i := 2) rfl
theorem hm_X11_kind_4 : (.selects RX4 yX4_has yX4_has : Cond) ∈ wsX11_kind := List.mem_of_getElem? (i := 4) rfl
set_option maxHeartbeats 4000000 in
set_option maxRecDepth 100000 in
theorem kJ7_fill_53178_1 (l : Launch) (dC : Nat → ClassId) (dI : Nat → Nat → Nat) (cI c2 cZ : ClassId) (o1 : Nat) (fw2 : Nat → Int32) (a1 : Int32) (sz : Nat) (fw2_b : Bd 12 0 4095 fw2) (a1_h : Iv 0 0 a1) : Met l yJ7_fill_53178 wsJ7_fill_53178 ({ frames := 0, cells := 0, slots := 0, locals := 0 }) (va_Pc [.ref o1, .int a1] (wPre (dC, dI) [(cI, .int), (c2, .array .int), (cZ, .boolean)] ([(o1, .inl (cI, 12, .inl fw2))]) sz)) (va_Qv (fun (u : (Nat → Int32)) => Bd 12 0 4095 u) (fun u t => wPost (dC, dI) [(cI, .int), (c2, .array .int), (cZ, .boolean)] (va_A ([(o1, .inl (cI, 12, .inl fw2))]) sz) ([(o1, .inl (cI, 12, .inl u))]) t) (va_A ([(o1, .inl (cI, 12, .inl fw2))]) sz)) 0 0 (va_A ([(o1, .inl (cI, 12, .inl fw2))]) sz) := by
  refine Met.ofW (cc := cJ7_fill_53178) (maxL := 4) (ret := none) (by decide) rfl ?_
  intro p e s m args below meth c s₁ B hml hv
  obtain ⟨rfl, hsz, hP, hK, hD0, hN⟩ := hv
  have hx := B.exec
  have hb := B.bytes
  have hr := B.returns
  have hts := atoms_spec (ws := wsJ7_fill_53178) B.pre
  have hown : s.vm.findClass RJ7 = some m.cls := findClass_of_methodNamed B.named
  have hlocks := B.notSynchronized
  subst hsz
  have hD := hD0.self (sz := s.heap.size)
  generalize hAe : va_A ([(o1, .inl (cI, 12, .inl fw2))]) s.heap.size = A at hD ⊢
  have hA : ∀ q : Nat, s.heap.size ≤ q → A q := fun q h => by rw [← hAe]; exact Or.inr h
  have hS : va_S A s.heap s.heap [] := va_S.rf
  have hP : va_P (dC, dI) vwCl ([(o1, .inl (cI, 12, .inl fw2))]) s.heap := hP
  have hl := lv_entry ([.ref o1, .int a1]) (n := 4) (Nat.le_of_ble_eq_true rfl)
  rw [lg_entry_eq]
  generalize (lg_sl ([.ref o1, .int a1]) ++ List.replicate (4 - (lg_sl ([.ref o1, .int a1])).length) Slot.unset).toArray = ls at hl ⊢
  have hl : lv_has ls 4 [(0, .ref o1), (1, .int a1)] := hl
  refine gen_Q (fun Q hQ => ?_)
  refine lv_iconst (v := 0) hx hb dJ7_fill_53178_0 (by decide) ?_
  refine lv_istore_n (lv' := [(2, .int 0), (0, .ref o1), (1, .int a1)]) hx hb dJ7_fill_53178_1 rfl hl (by decide) rfl (fun ls hl => ?_)
  refine lv_aload_n hx hb dJ7_fill_53178_2 rfl (lv_at hl 1 rfl) ?_
  refine va_alen (v := 12) hx hb hK hP 0 0 rfl rfl (by show Int32.ofNat 12 = 12; decide +kernel) dJ7_fill_53178_3 ?_
  refine lv_istore_n (lv' := [(3, .int 12), (2, .int 0), (0, .ref o1), (1, .int a1)]) hx hb dJ7_fill_53178_4 rfl hl (by decide) rfl (fun ls hl => ?_)
  have L1 : ∀ (N : Nat) (x33 : Int32) (f34 : Nat → Int32) (H : Heap) (locs : List Loc) (ls : Array Slot), (12 - x33.toInt).toNat < N → Iv 0 12 x33 → Bd 12 0 4095 f34 → va_P (dC, dI) vwCl ([(o1, .inl (cI, 12, .inl f34))]) H → va_D A ([(o1, .inl (cI, 12, .inl f34))]) → va_S A s.heap H locs → lv_has ls 4 [(3, .int 12), (2, .int x33), (0, .ref o1), (1, .int a1)] → W p l e ({ frames := 0, cells := 0, slots := 0, locals := 0 }) s m ([.ref o1, .int a1] : List Value).toArray below meth c H locs 0 0 Q (F0 m 5 ls []) := by
    intro N
    induction N with
    | zero =>
      intro x33 f34 H locs ls hM
      exact absurd hM (Nat.not_lt_zero _)
    | succ N ih1 =>
      intro x33 f34 H locs ls hM1 x33_h f34_b hP hD hS hl
      refine lv_iload_n hx hb dJ7_fill_53178_5 rfl (lv_at hl 1 rfl) ?_
      refine lv_iload_n hx hb dJ7_fill_53178_6 rfl (lv_at hl 0 rfl) ?_
      refine lv_icmp_ge (tgt := 20) hx hb dJ7_fill_53178_7 (by decide) (fun h35 => ?_) (fun h35 => ?_)
      ·
        have qh35 := le_i h35
        have j36 : Iv 12 12 x33 := r_ler qh35 ik_12 x33_h (by decide)
        rw [hQ]
        exact W.vret hx hb hr (fun t ht hW => ⟨⟨f34, rfl, f34_b, by rw [ht]; exact hP, va_K.moved hW.alike hK, hD⟩, hS.F ht⟩) hS.2.2 dJ7_fill_53178_20
      ·
        have qh35 := nle_i h35
        have j37 : Iv 0 11 x33 := r_ltl qh35 x33_h ik_12 (by decide)
        refine lv_aload_n hx hb dJ7_fill_53178_10 rfl (lv_at hl 2 rfl) ?_
        refine lv_iload_n hx hb dJ7_fill_53178_11 rfl (lv_at hl 1 rfl) ?_
        refine lv_iload_n hx hb dJ7_fill_53178_12 rfl (lv_at hl 3 rfl) ?_
        refine k_iast hx hb hK hP hD hS 0 0 rfl rfl (vin_iv j37 (by decide)) dJ7_fill_53178_13 (fun f38 H locs f38_e hP hD hS => ?_)
        have f38_b : Bd 12 0 4095 f38 := bd_upd f38_e f34_b a1_h (by decide)
        have hP : va_P (dC, dI) vwCl ([(o1, .inl (cI, 12, .inl f38))]) H := hP
        have hD : va_D A ([(o1, .inl (cI, 12, .inl f38))]) := hD
        obtain ⟨x39, x39_e⟩ : ∃ z : Int32, z = x33 + 1 := ⟨_, rfl⟩
        have x39_h : Iv 1 12 x39 := iv_e x39_e (iv_add j37 ik_1 (by decide))
        refine lv_iinc (v := x39) (lv' := [(2, .int x39), (3, .int 12), (0, .ref o1), (1, .int a1)]) hx hb dJ7_fill_53178_14 hl (k := 1) rfl (incN (by decide +kernel) x39_e) (by decide) rfl (fun ls hl => ?_)
        refine lv_goto (tgt := 5) hx hb dJ7_fill_53178_17 (by decide) ?_
        exact ih1 x39 f38 _ _ _ (ms_up x39_e j37 (by decide) hM1) (iv_w x39_h (by decide)) f38_b hP hD hS (lv_sub hl [1, 0, 2, 3] rfl)
  exact L1 _ 0 fw2 _ _ _ (Nat.lt_succ_self _) (iv_w ik_0 (by decide)) fw2_b hP hD hS hl
theorem iw_X4_restart_X4 : ∀ w ∈ wsX40, w ∈ wsX4_restart := fun _ h => List.mem_cons.mpr (Or.inr (List.mem_append.mpr (Or.inr h)))
set_option maxHeartbeats 4000000 in
set_option maxRecDepth 100000 in
theorem kX4_restart_1 (l : Launch) (dC : Nat → ClassId) (dI : Nat → Nat → Nat) (cI c2 cZ : ClassId) (o1 : Nat) (o2 : Nat) (fw3 : Nat → Int32) (v4 : Int32) (v5 : Int32) (a1 : Int32) (sz : Nat) (fw3_b : Bd 12 0 4095 fw3) (v4_h : Iv 0 12 v4) (a1_h : Iv 0 12 a1) : Met l yX4_restart wsX4_restart ({ frames := 1, cells := 0, slots := 0, locals := 23 }) (va_Pc [.ref o1, .int a1] (wPre (dC, dI) [(cI, .int), (c2, .array .int), (cZ, .boolean)] ([(o1, .inr (4, [.ref o2, .int v4, .int v5])), (o2, .inl (cI, 12, .inl fw3))]) sz)) (va_Qv (fun (u : Int32 × Int32 × (Nat → Int32)) => Iv 0 12 u.1 ∧ Bd 12 0 4095 u.2.2) (fun u t => wPost (dC, dI) [(cI, .int), (c2, .array .int), (cZ, .boolean)] (va_A ([(o1, .inr (4, [.ref o2, .int v4, .int v5])), (o2, .inl (cI, 12, .inl fw3))]) sz) ([(o1, .inr (4, [.ref o2, .int u.1, .int u.2.1])), (o2, .inl (cI, 12, .inl u.2.2))]) t) (va_A ([(o1, .inr (4, [.ref o2, .int v4, .int v5])), (o2, .inl (cI, 12, .inl fw3))]) sz)) 0 0 (va_A ([(o1, .inr (4, [.ref o2, .int v4, .int v5])), (o2, .inl (cI, 12, .inl fw3))]) sz) := by
  refine Met.ofW (cc := cX4_restart) (maxL := 2) (ret := none) (by decide) rfl ?_
  intro p e s m args below meth c s₁ B hml hv
  obtain ⟨rfl, hsz, hP, hK, hD0, hN⟩ := hv
  have hx := B.exec
  have hb := B.bytes
  have hr := B.returns
  have hts := atoms_spec (ws := wsX4_restart) B.pre
  have hown : s.vm.findClass RX4 = some m.cls := findClass_of_methodNamed B.named
  have hlocks := B.notSynchronized
  subst hsz
  have hD := hD0.self (sz := s.heap.size)
  generalize hAe : va_A ([(o1, .inr (4, [.ref o2, .int v4, .int v5])), (o2, .inl (cI, 12, .inl fw3))]) s.heap.size = A at hD ⊢
  have hA : ∀ q : Nat, s.heap.size ≤ q → A q := fun q h => by rw [← hAe]; exact Or.inr h
  have hS : va_S A s.heap s.heap [] := va_S.rf
  have hP : va_P (dC, dI) vwCl ([(o1, .inr (4, [.ref o2, .int v4, .int v5])), (o2, .inl (cI, 12, .inl fw3))]) s.heap := hP
  have hl := lv_entry ([.ref o1, .int a1]) (n := 2) (Nat.le_of_ble_eq_true rfl)
  rw [lg_entry_eq]
  generalize (lg_sl ([.ref o1, .int a1]) ++ List.replicate (2 - (lg_sl ([.ref o1, .int a1])).length) Slot.unset).toArray = ls at hl ⊢
  have hl : lv_has ls 2 [(0, .ref o1), (1, .int a1)] := hl
  refine gen_Q (fun Q hQ => ?_)
  refine lv_aload_n hx hb dX4_restart_0 rfl (lv_at hl 0 rfl) ?_
  refine lv_iload_n hx hb dX4_restart_1 rfl (lv_at hl 1 rfl) ?_
  refine va_put (D := (dC, dI)) (ci := 4) (v := .int a1) (ty := .int) (C := RX4) (T := TX4) (N := 3) hx hb hts iw_X4_restart_X4 tyX4 tyX4_ok nmX4 hown hK hP hD hS 0 rfl rfl 1 (by decide) (hts (.fieldLink RX4 15 "HolelessHouse$Graph" "size" "I") hm_X4_restart_1) (fun _ h9 => h9) rfl (by decide +kernel) rfl rfl (Nat.le_of_ble_eq_true rfl) dX4_restart_2 (fun H locs hP hD hS => ?_)
  have hP : va_P (dC, dI) vwCl ([(o1, .inr (4, [.ref o2, .int a1, .int v5])), (o2, .inl (cI, 12, .inl fw3))]) H := hP
  have hD : va_D A ([(o1, .inr (4, [.ref o2, .int a1, .int v5])), (o2, .inl (cI, 12, .inl fw3))]) := hD
  refine lv_aload_n hx hb dX4_restart_5 rfl (lv_at hl 0 rfl) ?_
  refine va_get (D := (dC, dI)) (ci := 4) (v := .ref o2) (C := RX4) (T := TX4) (N := 3) hx hb hts iw_X4_restart_X4 hown hK hP 0 rfl rfl 0 (by decide) (hts (.fieldLink RX4 9 "HolelessHouse$Graph" "near" "[I") hm_X4_restart_2) (fun _ h9 => h9) rfl dX4_restart_6 ?_
  refine lv_iconst (v := 0) hx hb dX4_restart_9 (by decide) ?_
  refine kc_v (D := (dC, dI)) (S := (Nat → Int32)) (wc := [(o2, .inl (cI, 12, .inl fw3))]) (wr := [(o1, .inr (4, [.ref o2, .int a1, .int v5]))]) (w1 := fun u => [(o2, .inl (cI, 12, .inl u))]) (wn := fun u => [(o1, .inr (4, [.ref o2, .int a1, .int v5])), (o2, .inl (cI, 12, .inl u))]) (fun hPc hDc => va_runS (As := [.ref o2, .int 0]) (rest := []) ⟨hx, hb, hml, hown, hts⟩ (kJ7_fill_53178_1 l dC dI cI c2 cZ o2 fw3 0 H.size fw3_b ik_0) (va_cwS 2 hts gX4_restart_J7_fill_53178 rfl rfl rfl (by decide +kernel) ⟨Nat.le_of_ble_eq_true rfl, Nat.le_of_ble_eq_true rfl⟩) (pre_S hPc hK hDc hN) rfl rfl hl.1 rfl (lv_room (Nat.le_of_ble_eq_true rfl)) dX4_restart_10 ⟨Nat.le_of_ble_eq_true rfl, Nat.le_of_ble_eq_true rfl⟩) hP hD hS hA [1] [0] [0, 1] rfl rfl (by decide +kernel) (by decide +kernel) (by decide +kernel) (by decide +kernel) (fun _ => rfl) (fun f1 H locs hq hP hD hS => ?_)
  have f1_b := hq
  have hP : va_P (dC, dI) vwCl ([(o1, .inr (4, [.ref o2, .int a1, .int v5])), (o2, .inl (cI, 12, .inl f1))]) H := hP
  have hD : va_D A ([(o1, .inr (4, [.ref o2, .int a1, .int v5])), (o2, .inl (cI, 12, .inl f1))]) := hD
  refine lv_aload_n hx hb dX4_restart_13 rfl (lv_at hl 0 rfl) ?_
  refine lv_dup hx hb dX4_restart_14 rfl ?_
  refine va_get (D := (dC, dI)) (ci := 4) (v := .int v5) (C := RX4) (T := TX4) (N := 3) hx hb hts iw_X4_restart_X4 hown hK hP 0 rfl rfl 2 (by decide) (hts (.fieldLink RX4 19 "HolelessHouse$Graph" "version" "I") hm_X4_restart_3) (fun _ h9 => h9) rfl dX4_restart_15 ?_
  refine lv_iconst (v := 1) hx hb dX4_restart_18 (by decide) ?_
  refine lv_iadd hx hb dX4_restart_19 (lv_topi (fun x2 x2_e => ?_))
  refine va_put (D := (dC, dI)) (ci := 4) (v := .int x2) (ty := .int) (C := RX4) (T := TX4) (N := 3) hx hb hts iw_X4_restart_X4 tyX4 tyX4_ok nmX4 hown hK hP hD hS 0 rfl rfl 2 (by decide) (hts (.fieldLink RX4 19 "HolelessHouse$Graph" "version" "I") hm_X4_restart_3) (fun _ h9 => h9) rfl (by decide +kernel) rfl rfl (Nat.le_of_ble_eq_true rfl) dX4_restart_20 (fun H locs hP hD hS => ?_)
  have hP : va_P (dC, dI) vwCl ([(o1, .inr (4, [.ref o2, .int a1, .int x2])), (o2, .inl (cI, 12, .inl f1))]) H := hP
  have hD : va_D A ([(o1, .inr (4, [.ref o2, .int a1, .int x2])), (o2, .inl (cI, 12, .inl f1))]) := hD
  rw [hQ]
  exact W.vret hx hb hr (fun t ht hW => ⟨⟨(a1, x2, f1), rfl, ⟨a1_h, f1_b⟩, by rw [ht]; exact hP, va_K.moved hW.alike hK, hD⟩, hS.F ht⟩) hS.2.2 dX4_restart_23
theorem iw_X6_drop_X6 : ∀ w ∈ wsX60, w ∈ wsX6_drop := fun _ h => List.mem_cons.mpr (Or.inr (List.mem_append.mpr (Or.inr h)))
set_option maxHeartbeats 4000000 in
set_option maxRecDepth 100000 in
theorem kX6_drop_1 (l : Launch) (dC : Nat → ClassId) (dI : Nat → Nat → Nat) (cI c2 cZ : ClassId) (o1 : Nat) (o2 : Nat) (o7 : Nat) (o21 : Nat) (o23 : Nat) (v25 : Int32) (v26 : Int32) (v27 : Int32) (v28 : Int32) (v29 : Int32) (sz : Nat) (v25_h : Iv 0 12 v25) (v26_h : Iv 0 12 v26) (v27_h : Iv 0 1 v27) : Met l yX6_drop wsX6_drop ({ frames := 0, cells := 0, slots := 0, locals := 0 }) (va_Pc [.ref o1] (wPre (dC, dI) [(cI, .int), (c2, .array .int), (cZ, .boolean)] ([(o1, .inr (6, [.ref o2, .ref o7, .ref o21, .ref o23, .int v25, .int v26, .int v27, .int v28, .int v29]))]) sz)) (va_Qv (fun (u : Int32) => Iv 0 1 u) (fun u t => wPost (dC, dI) [(cI, .int), (c2, .array .int), (cZ, .boolean)] (va_A ([(o1, .inr (6, [.ref o2, .ref o7, .ref o21, .ref o23, .int v25, .int v26, .int v27, .int v28, .int v29]))]) sz) ([(o1, .inr (6, [.ref o2, .ref o7, .ref o21, .ref o23, .int v25, .int v26, .int u, .int v28, .int v29]))]) t) (va_A ([(o1, .inr (6, [.ref o2, .ref o7, .ref o21, .ref o23, .int v25, .int v26, .int v27, .int v28, .int v29]))]) sz)) 0 0 (va_A ([(o1, .inr (6, [.ref o2, .ref o7, .ref o21, .ref o23, .int v25, .int v26, .int v27, .int v28, .int v29]))]) sz) := by
  refine Met.ofW (cc := cX6_drop) (maxL := 1) (ret := none) (by decide) rfl ?_
  intro p e s m args below meth c s₁ B hml hv
  obtain ⟨rfl, hsz, hP, hK, hD0, hN⟩ := hv
  have hx := B.exec
  have hb := B.bytes
  have hr := B.returns
  have hts := atoms_spec (ws := wsX6_drop) B.pre
  have hown : s.vm.findClass RX6 = some m.cls := findClass_of_methodNamed B.named
  have hlocks := B.notSynchronized
  subst hsz
  have hD := hD0.self (sz := s.heap.size)
  generalize hAe : va_A ([(o1, .inr (6, [.ref o2, .ref o7, .ref o21, .ref o23, .int v25, .int v26, .int v27, .int v28, .int v29]))]) s.heap.size = A at hD ⊢
  have hA : ∀ q : Nat, s.heap.size ≤ q → A q := fun q h => by rw [← hAe]; exact Or.inr h
  have hS : va_S A s.heap s.heap [] := va_S.rf
  have hP : va_P (dC, dI) vwCl ([(o1, .inr (6, [.ref o2, .ref o7, .ref o21, .ref o23, .int v25, .int v26, .int v27, .int v28, .int v29]))]) s.heap := hP
  have hl := lv_entry ([.ref o1]) (n := 1) (Nat.le_of_ble_eq_true rfl)
  rw [lg_entry_eq]
  generalize (lg_sl ([.ref o1]) ++ List.replicate (1 - (lg_sl ([.ref o1])).length) Slot.unset).toArray = ls at hl ⊢
  have hl : lv_has ls 1 [(0, .ref o1)] := hl
  refine gen_Q (fun Q hQ => ?_)
  refine lv_aload_n hx hb dX6_drop_0 rfl (lv_at hl 0 rfl) ?_
  refine lv_iconst (v := 0) hx hb dX6_drop_1 (by decide) ?_
  refine va_put (D := (dC, dI)) (ci := 6) (v := .int 0) (ty := .boolean) (C := RX6) (T := TX6) (N := 9) hx hb hts iw_X6_drop_X6 tyX6 tyX6_ok nmX6 hown hK hP hD hS 0 rfl rfl 6 (by decide) (hts (.fieldLink RX6 39 "HolelessHouse$Ordering" "there" "Z") hm_X6_drop_1) (fun _ h9 => h9) rfl (by decide +kernel) rfl rfl (Nat.le_of_ble_eq_true rfl) dX6_drop_2 (fun H locs hP hD hS => ?_)
  have hP : va_P (dC, dI) vwCl ([(o1, .inr (6, [.ref o2, .ref o7, .ref o21, .ref o23, .int v25, .int v26, .int 0, .int v28, .int v29]))]) H := hP
  have hD : va_D A ([(o1, .inr (6, [.ref o2, .ref o7, .ref o21, .ref o23, .int v25, .int v26, .int 0, .int v28, .int v29]))]) := hD
  rw [hQ]
  exact W.vret hx hb hr (fun t ht hW => ⟨⟨0, rfl, (iv_w ik_0 (by decide)), by rw [ht]; exact hP, va_K.moved hW.alike hK, hD⟩, hS.F ht⟩) hS.2.2 dX6_drop_5
theorem iw_X4_all_X4 : ∀ w ∈ wsX40, w ∈ wsX4_all := fun _ h => List.mem_cons.mpr (Or.inr (List.mem_append.mpr (Or.inr h)))
set_option maxHeartbeats 4000000 in
set_option maxRecDepth 100000 in
theorem kX4_all_1 (l : Launch) (dC : Nat → ClassId) (dI : Nat → Nat → Nat) (cI c2 cZ : ClassId) (o1 : Nat) (o2 : Nat) (v4 : Int32) (v5 : Int32) (sz : Nat) (v4_h : Iv 0 12 v4) : Met l yX4_all wsX4_all ({ frames := 0, cells := 0, slots := 0, locals := 0 }) (va_Pc [.ref o1] (wPre (dC, dI) [(cI, .int), (c2, .array .int), (cZ, .boolean)] ([(o1, .inr (4, [.ref o2, .int v4, .int v5]))]) sz)) (va_Qi (fun (r : Int32) (_ : Unit) => Iv 0 4095 r) (fun _ t => wPost (dC, dI) [(cI, .int), (c2, .array .int), (cZ, .boolean)] (va_A ([(o1, .inr (4, [.ref o2, .int v4, .int v5]))]) sz) ([(o1, .inr (4, [.ref o2, .int v4, .int v5]))]) t) (va_A ([(o1, .inr (4, [.ref o2, .int v4, .int v5]))]) sz)) 0 0 (va_A ([(o1, .inr (4, [.ref o2, .int v4, .int v5]))]) sz) := by
  refine Met.ofW (cc := cX4_all) (maxL := 1) (ret := (some .int)) (by decide) rfl ?_
  intro p e s m args below meth c s₁ B hml hv
  obtain ⟨rfl, hsz, hP, hK, hD0, hN⟩ := hv
  have hx := B.exec
  have hb := B.bytes
  have hr := B.returns
  have hts := atoms_spec (ws := wsX4_all) B.pre
  have hown : s.vm.findClass RX4 = some m.cls := findClass_of_methodNamed B.named
  have hlocks := B.notSynchronized
  subst hsz
  have hD := hD0.self (sz := s.heap.size)
  generalize hAe : va_A ([(o1, .inr (4, [.ref o2, .int v4, .int v5]))]) s.heap.size = A at hD ⊢
  have hA : ∀ q : Nat, s.heap.size ≤ q → A q := fun q h => by rw [← hAe]; exact Or.inr h
  have hS : va_S A s.heap s.heap [] := va_S.rf
  have hP : va_P (dC, dI) vwCl ([(o1, .inr (4, [.ref o2, .int v4, .int v5]))]) s.heap := hP
  have hl := lv_entry ([.ref o1]) (n := 1) (Nat.le_of_ble_eq_true rfl)
  rw [lg_entry_eq]
  generalize (lg_sl ([.ref o1]) ++ List.replicate (1 - (lg_sl ([.ref o1])).length) Slot.unset).toArray = ls at hl ⊢
  have hl : lv_has ls 1 [(0, .ref o1)] := hl
  refine gen_Q (fun Q hQ => ?_)
  refine lv_iconst (v := 1) hx hb dX4_all_0 (by decide) ?_
  refine lv_aload_n hx hb dX4_all_1 rfl (lv_at hl 0 rfl) ?_
  refine va_get (D := (dC, dI)) (ci := 4) (v := .int v4) (C := RX4) (T := TX4) (N := 3) hx hb hts iw_X4_all_X4 hown hK hP 0 rfl rfl 1 (by decide) (hts (.fieldLink RX4 15 "HolelessHouse$Graph" "size" "I") hm_X4_all_1) (fun _ h9 => h9) rfl dX4_all_2 ?_
  refine lv_ishl hx hb dX4_all_5 (lv_topi (fun x1 x1_e => ?_))
  have x1_h : Iv 1 4096 x1 := iv_e x1_e (iv_shl1 v4_h (by decide))
  refine lv_iconst (v := 1) hx hb dX4_all_6 (by decide) ?_
  refine lv_isub hx hb dX4_all_7 (lv_topi (fun x2 x2_e => ?_))
  have x2_h : Iv 0 4095 x2 := iv_e x2_e (iv_sub x1_h ik_1 (by decide))
  rw [hQ]
  exact W.iret (v := x2) hx hb hr (fun t ht hW => ⟨⟨x2, (), rfl, x2_h, by rw [ht]; exact hP, va_K.moved hW.alike hK, hD⟩, hS.F ht⟩) hS.2.2 dX4_all_8
set_option maxHeartbeats 4000000 in
set_option maxRecDepth 100000 in
theorem kX11_in_1 (l : Launch) (dC : Nat → ClassId) (dI : Nat → Nat → Nat) (cI c2 cZ : ClassId) (a0 : Int32) (a1 : Int32) (sz : Nat) : Met l yX11_in wsX11_in ({ frames := 0, cells := 0, slots := 0, locals := 0 }) (va_Pc [.int a0, .int a1] (wPre (dC, dI) [(cI, .int), (c2, .array .int), (cZ, .boolean)] ([]) sz)) (va_Qi (fun (r : Int32) (_ : Unit) => Iv 0 1 r) (fun _ t => wPost (dC, dI) [(cI, .int), (c2, .array .int), (cZ, .boolean)] (va_A ([]) sz) ([]) t) (va_A ([]) sz)) 0 0 (va_A ([]) sz) := by
  refine Met.ofW (cc := cX11_in) (maxL := 2) (ret := (some .boolean)) (by decide) rfl ?_
  intro p e s m args below meth c s₁ B hml hv
  obtain ⟨rfl, hsz, hP, hK, hD0, hN⟩ := hv
  have hx := B.exec
  have hb := B.bytes
  have hr := B.returns
  have hts := atoms_spec (ws := wsX11_in) B.pre
  have hown : s.vm.findClass RX11 = some m.cls := findClass_of_methodNamed B.named
  have hlocks := B.notSynchronized
  subst hsz
  have hD := hD0.self (sz := s.heap.size)
  generalize hAe : va_A ([]) s.heap.size = A at hD ⊢
  have hA : ∀ q : Nat, s.heap.size ≤ q → A q := fun q h => by rw [← hAe]; exact Or.inr h
  have hS : va_S A s.heap s.heap [] := va_S.rf
  have hP : va_P (dC, dI) vwCl ([]) s.heap := hP
  have hl := lv_entry ([.int a0, .int a1]) (n := 2) (Nat.le_of_ble_eq_true rfl)
  rw [lg_entry_eq]
  generalize (lg_sl ([.int a0, .int a1]) ++ List.replicate (2 - (lg_sl ([.int a0, .int a1])).length) Slot.unset).toArray = ls at hl ⊢
  have hl : lv_has ls 2 [(0, .int a0), (1, .int a1)] := hl
  refine gen_Q (fun Q hQ => ?_)
  refine lv_iload_n hx hb dX11_in_0 rfl (lv_at hl 0 rfl) ?_
  refine lv_iload_n hx hb dX11_in_1 rfl (lv_at hl 1 rfl) ?_
  refine lv_ishr hx hb dX11_in_2 (lv_topi (fun x1 x1_e => ?_))
  refine lv_iconst (v := 1) hx hb dX11_in_3 (by decide) ?_
  refine lv_iand hx hb dX11_in_4 (lv_topi (fun x2 x2_e => ?_))
  have x2_h : Iv 0 1 x2 := iv_e x2_e (iv_andR _ ik_1 (by decide))
  refine lv_if_eq (tgt := 12) hx hb dX11_in_5 (by decide) (fun h3 => ?_) (fun h3 => ?_)
  ·
    have j4 : Iv 0 0 x2 := r_eq h3 ik_0
    refine lv_iconst (v := 0) hx hb dX11_in_12 (by decide) ?_
    rw [hQ]
    exact W.zret (v := 0) (ty := .boolean) hx hb hr rfl (fun t ht hW => ⟨⟨0, (), rfl, (iv_w ik_0 (by decide)), by rw [ht]; exact hP, va_K.moved hW.alike hK, hD⟩, hS.F ht⟩) hS.2.2 dX11_in_13
  ·
    have j5 : Iv 1 1 x2 := r_nelo h3 x2_h ik_0 (by decide)
    refine lv_iconst (v := 1) hx hb dX11_in_8 (by decide) ?_
    refine lv_goto (tgt := 13) hx hb dX11_in_9 (by decide) ?_
    rw [hQ]
    exact W.zret (v := 1) (ty := .boolean) hx hb hr rfl (fun t ht hW => ⟨⟨1, (), rfl, (iv_w ik_1 (by decide)), by rw [ht]; exact hP, va_K.moved hW.alike hK, hD⟩, hS.F ht⟩) hS.2.2 dX11_in_13
theorem iw_X6_keepDrafted_X6 : ∀ w ∈ wsX60, w ∈ wsX6_keepDrafted := fun _ h => List.mem_cons.mpr (Or.inr (List.mem_append.mpr (Or.inr h)))
set_option maxHeartbeats 4000000 in
set_option maxRecDepth 100000 in
theorem kX6_keepDrafted_1 (l : Launch) (dC : Nat → ClassId) (dI : Nat → Nat → Nat) (cI c2 cZ : ClassId) (o1 : Nat) (o2 : Nat) (o7 : Nat) (o21 : Nat) (o23 : Nat) (fw24 : Nat → Int32) (v25 : Int32) (v26 : Int32) (v27 : Int32) (v28 : Int32) (v29 : Int32) (a1 : Int32) (sz : Nat) (fw24_b : Bd 12 0 11 fw24) (v25_h : Iv 0 12 v25) (v26_h : Iv 0 12 v26) (v27_h : Iv 0 1 v27) : Met l yX6_keepDrafted wsX6_keepDrafted ({ frames := 1, cells := 0, slots := 0, locals := 21 }) (va_Pc [.ref o1, .int a1] (wPre (dC, dI) [(cI, .int), (c2, .array .int), (cZ, .boolean)] ([(o1, .inr (6, [.ref o2, .ref o7, .ref o21, .ref o23, .int v25, .int v26, .int v27, .int v28, .int v29])), (o23, .inl (cI, 12, .inl fw24))]) sz)) (va_Qv (fun (u : Int32 × (Nat → Int32)) => Iv 0 12 u.1 ∧ Bd 12 0 11 u.2) (fun u t => wPost (dC, dI) [(cI, .int), (c2, .array .int), (cZ, .boolean)] (va_A ([(o1, .inr (6, [.ref o2, .ref o7, .ref o21, .ref o23, .int v25, .int v26, .int v27, .int v28, .int v29])), (o23, .inl (cI, 12, .inl fw24))]) sz) ([(o1, .inr (6, [.ref o2, .ref o7, .ref o21, .ref o23, .int u.1, .int v26, .int v27, .int v28, .int v29])), (o23, .inl (cI, 12, .inl u.2))]) t) (va_A ([(o1, .inr (6, [.ref o2, .ref o7, .ref o21, .ref o23, .int v25, .int v26, .int v27, .int v28, .int v29])), (o23, .inl (cI, 12, .inl fw24))]) sz)) 0 0 (va_A ([(o1, .inr (6, [.ref o2, .ref o7, .ref o21, .ref o23, .int v25, .int v26, .int v27, .int v28, .int v29])), (o23, .inl (cI, 12, .inl fw24))]) sz) := by
  refine Met.ofW (cc := cX6_keepDrafted) (maxL := 4) (ret := none) (by decide) rfl ?_
  intro p e s m args below meth c s₁ B hml hv
  obtain ⟨rfl, hsz, hP, hK, hD0, hN⟩ := hv
  have hx := B.exec
  have hb := B.bytes
  have hr := B.returns
  have hts := atoms_spec (ws := wsX6_keepDrafted) B.pre
  have hown : s.vm.findClass RX6 = some m.cls := findClass_of_methodNamed B.named
  have hlocks := B.notSynchronized
  subst hsz
  have hD := hD0.self (sz := s.heap.size)
  generalize hAe : va_A ([(o1, .inr (6, [.ref o2, .ref o7, .ref o21, .ref o23, .int v25, .int v26, .int v27, .int v28, .int v29])), (o23, .inl (cI, 12, .inl fw24))]) s.heap.size = A at hD ⊢
  have hA : ∀ q : Nat, s.heap.size ≤ q → A q := fun q h => by rw [← hAe]; exact Or.inr h
  have hS : va_S A s.heap s.heap [] := va_S.rf
  have hP : va_P (dC, dI) vwCl ([(o1, .inr (6, [.ref o2, .ref o7, .ref o21, .ref o23, .int v25, .int v26, .int v27, .int v28, .int v29])), (o23, .inl (cI, 12, .inl fw24))]) s.heap := hP
  have hl := lv_entry ([.ref o1, .int a1]) (n := 4) (Nat.le_of_ble_eq_true rfl)
  rw [lg_entry_eq]
  generalize (lg_sl ([.ref o1, .int a1]) ++ List.replicate (4 - (lg_sl ([.ref o1, .int a1])).length) Slot.unset).toArray = ls at hl ⊢
  have hl : lv_has ls 4 [(0, .ref o1), (1, .int a1)] := hl
  refine gen_Q (fun Q hQ => ?_)
  refine lv_iconst (v := 0) hx hb dX6_keepDrafted_0 (by decide) ?_
  refine lv_istore_n (lv' := [(2, .int 0), (0, .ref o1), (1, .int a1)]) hx hb dX6_keepDrafted_1 rfl hl (by decide) rfl (fun ls hl => ?_)
  refine lv_iconst (v := 0) hx hb dX6_keepDrafted_2 (by decide) ?_
  refine lv_istore_n (lv' := [(3, .int 0), (2, .int 0), (0, .ref o1), (1, .int a1)]) hx hb dX6_keepDrafted_3 rfl hl (by decide) rfl (fun ls hl => ?_)
  have L1 : ∀ (N : Nat) (x124 : Int32) (x125 : Int32) (f126 : Nat → Int32) (H : Heap) (locs : List Loc) (ls : Array Slot), (12 - x124.toInt).toNat < N → Iv 0 12 x124 → Iv 0 12 x125 → Bd 12 0 11 f126 → Int32.toInt x125 ≤ Int32.toInt x124 → va_P (dC, dI) vwCl ([(o1, .inr (6, [.ref o2, .ref o7, .ref o21, .ref o23, .int v25, .int v26, .int v27, .int v28, .int v29])), (o23, .inl (cI, 12, .inl f126))]) H → va_D A ([(o1, .inr (6, [.ref o2, .ref o7, .ref o21, .ref o23, .int v25, .int v26, .int v27, .int v28, .int v29])), (o23, .inl (cI, 12, .inl f126))]) → va_S A s.heap H locs → lv_has ls 4 [(3, .int x124), (2, .int x125), (0, .ref o1), (1, .int a1)] → W p l e ({ frames := 1, cells := 0, slots := 0, locals := 21 }) s m ([.ref o1, .int a1] : List Value).toArray below meth c H locs 0 0 Q (F0 m 4 ls []) := by
    intro N
    induction N with
    | zero =>
      intro x124 x125 f126 H locs ls hM
      exact absurd hM (Nat.not_lt_zero _)
    | succ N ih1 =>
      intro x124 x125 f126 H locs ls hM1 x124_h x125_h f126_b rl1_0 hP hD hS hl
      refine lv_iload_n hx hb dX6_keepDrafted_4 rfl (lv_at hl 0 rfl) ?_
      refine lv_aload_n hx hb dX6_keepDrafted_5 rfl (lv_at hl 2 rfl) ?_
      refine va_get (D := (dC, dI)) (ci := 6) (v := .int v25) (C := RX6) (T := TX6) (N := 9) hx hb hts iw_X6_keepDrafted_X6 hown hK hP 0 rfl rfl 4 (by decide) (hts (.fieldLink RX6 32 "HolelessHouse$Ordering" "draftSize" "I") hm_X6_keepDrafted_1) (fun _ h9 => h9) rfl dX6_keepDrafted_6 ?_
      refine lv_icmp_ge (tgt := 46) hx hb dX6_keepDrafted_9 (by decide) (fun h127 => ?_) (fun h127 => ?_)
      ·
        have qh127 := le_i h127
        refine lv_aload_n hx hb dX6_keepDrafted_46 rfl (lv_at hl 2 rfl) ?_
        refine lv_iload_n hx hb dX6_keepDrafted_47 rfl (lv_at hl 1 rfl) ?_
        refine va_put (D := (dC, dI)) (ci := 6) (v := .int x125) (ty := .int) (C := RX6) (T := TX6) (N := 9) hx hb hts iw_X6_keepDrafted_X6 tyX6 tyX6_ok nmX6 hown hK hP hD hS 0 rfl rfl 4 (by decide) (hts (.fieldLink RX6 32 "HolelessHouse$Ordering" "draftSize" "I") hm_X6_keepDrafted_1) (fun _ h9 => h9) rfl (by decide +kernel) rfl rfl (Nat.le_of_ble_eq_true rfl) dX6_keepDrafted_48 (fun H locs hP hD hS => ?_)
        have hP : va_P (dC, dI) vwCl ([(o1, .inr (6, [.ref o2, .ref o7, .ref o21, .ref o23, .int x125, .int v26, .int v27, .int v28, .int v29])), (o23, .inl (cI, 12, .inl f126))]) H := hP
        have hD : va_D A ([(o1, .inr (6, [.ref o2, .ref o7, .ref o21, .ref o23, .int x125, .int v26, .int v27, .int v28, .int v29])), (o23, .inl (cI, 12, .inl f126))]) := hD
        rw [hQ]
        exact W.vret hx hb hr (fun t ht hW => ⟨⟨(x125, f126), rfl, ⟨x125_h, f126_b⟩, by rw [ht]; exact hP, va_K.moved hW.alike hK, hD⟩, hS.F ht⟩) hS.2.2 dX6_keepDrafted_51
      ·
        have qh127 := nle_i h127
        have j128 : Iv 0 11 x124 := r_ltl qh127 x124_h v25_h (by decide)
        have j129 : Iv 0 11 x125 := r_lel rl1_0 x125_h j128 (by decide)
        have j130 : Iv 1 12 v25 := r_ltr qh127 x124_h v25_h (by decide)
        refine lv_iload_n hx hb dX6_keepDrafted_12 rfl (lv_at hl 3 rfl) ?_
        refine lv_aload_n hx hb dX6_keepDrafted_13 rfl (lv_at hl 2 rfl) ?_
        refine va_get (D := (dC, dI)) (ci := 6) (v := .ref o23) (C := RX6) (T := TX6) (N := 9) hx hb hts iw_X6_keepDrafted_X6 hown hK hP 0 rfl rfl 3 (by decide) (hts (.fieldLink RX6 29 "HolelessHouse$Ordering" "drafts" "[I") hm_X6_keepDrafted_2) (fun _ h9 => h9) rfl dX6_keepDrafted_14 ?_
        refine lv_iload_n hx hb dX6_keepDrafted_17 rfl (lv_at hl 0 rfl) ?_
        refine va_iald hx hb hK hP 1 0 rfl rfl (vin_iv j128 (by decide)) dX6_keepDrafted_18 (lv_topi (fun x131 x131_e => ?_))
        have x131_h : Iv 0 11 x131 := iv_e x131_e (bd_at f126_b (vin_iv j128 (by decide)))
        refine kc_i (D := (dC, dI)) (S := Unit) (wc := []) (wr := [(o1, .inr (6, [.ref o2, .ref o7, .ref o21, .ref o23, .int v25, .int v26, .int v27, .int v28, .int v29])), (o23, .inl (cI, 12, .inl f126))]) (w1 := fun _ => []) (wn := fun _ => [(o1, .inr (6, [.ref o2, .ref o7, .ref o21, .ref o23, .int v25, .int v26, .int v27, .int v28, .int v29])), (o23, .inl (cI, 12, .inl f126))]) (fun hPc hDc => va_runSN (As := [.int a1, .int x131]) (rest := []) ⟨hx, hb, hml, hown, hts⟩ (kX11_in_1 l dC dI cI c2 cZ a1 x131 H.size) ⟨va_cnB 2 hts gX6_keepDrafted_X11_in_n53 rfl rfl rfl (hN.1 _ ns_65) (hts (.initialized RX11) hm_X6_keepDrafted_4) (by decide +kernel) ⟨Nat.le_of_ble_eq_true rfl, Nat.le_of_ble_eq_true rfl⟩, (hts (.static yX11_in) hm_X6_keepDrafted_3), trivial⟩ (pre_S hPc hK hDc hN) rfl rfl hl.1 rfl (lv_room (Nat.le_of_ble_eq_true rfl)) dX6_keepDrafted_19 ⟨Nat.le_of_ble_eq_true rfl, Nat.le_of_ble_eq_true rfl⟩) hP hD hS hA [] [0, 1] [0, 1] rfl rfl (by decide +kernel) (by decide +kernel) (by decide +kernel) (by decide +kernel) (fun _ => rfl) (fun x132 _ H locs hq hP hD hS => ?_)
        have x132_h := hq
        have hP : va_P (dC, dI) vwCl ([(o1, .inr (6, [.ref o2, .ref o7, .ref o21, .ref o23, .int v25, .int v26, .int v27, .int v28, .int v29])), (o23, .inl (cI, 12, .inl f126))]) H := hP
        have hD : va_D A ([(o1, .inr (6, [.ref o2, .ref o7, .ref o21, .ref o23, .int v25, .int v26, .int v27, .int v28, .int v29])), (o23, .inl (cI, 12, .inl f126))]) := hD
        refine lv_if_eq (tgt := 40) hx hb dX6_keepDrafted_22 (by decide) (fun h133 => ?_) (fun h133 => ?_)
        ·
          have j134 : Iv 0 0 x132 := r_eq h133 ik_0
          obtain ⟨x135, x135_e⟩ : ∃ z : Int32, z = x124 + 1 := ⟨_, rfl⟩
          have x135_h : Iv 1 12 x135 := iv_e x135_e (iv_add j128 ik_1 (by decide))
          refine lv_iinc (v := x135) (lv' := [(3, .int x135), (2, .int x125), (0, .ref o1), (1, .int a1)]) hx hb dX6_keepDrafted_40 hl (k := 0) rfl (incN (by decide +kernel) x135_e) (by decide) rfl (fun ls hl => ?_)
          refine lv_goto (tgt := 4) hx hb dX6_keepDrafted_43 (by decide) ?_
          exact ih1 x135 x125 f126 _ _ _ (ms_up x135_e j128 (by decide) hM1) (iv_w x135_h (by decide)) (iv_w j129 (by decide)) f126_b (by have h70 := tia x135_e j128 ik_1 (by decide); have h8 := rl1_0; omega) hP hD hS hl
        ·
          have j136 : Iv 1 1 x132 := r_nelo h133 x132_h ik_0 (by decide)
          refine lv_aload_n hx hb dX6_keepDrafted_25 rfl (lv_at hl 2 rfl) ?_
          refine va_get (D := (dC, dI)) (ci := 6) (v := .ref o23) (C := RX6) (T := TX6) (N := 9) hx hb hts iw_X6_keepDrafted_X6 hown hK hP 0 rfl rfl 3 (by decide) (hts (.fieldLink RX6 29 "HolelessHouse$Ordering" "drafts" "[I") hm_X6_keepDrafted_2) (fun _ h9 => h9) rfl dX6_keepDrafted_26 ?_
          refine lv_iload_n hx hb dX6_keepDrafted_29 rfl (lv_at hl 1 rfl) ?_
          refine lv_aload_n hx hb dX6_keepDrafted_30 rfl (lv_at hl 2 rfl) ?_
          refine va_get (D := (dC, dI)) (ci := 6) (v := .ref o23) (C := RX6) (T := TX6) (N := 9) hx hb hts iw_X6_keepDrafted_X6 hown hK hP 0 rfl rfl 3 (by decide) (hts (.fieldLink RX6 29 "HolelessHouse$Ordering" "drafts" "[I") hm_X6_keepDrafted_2) (fun _ h9 => h9) rfl dX6_keepDrafted_31 ?_
          refine lv_iload_n hx hb dX6_keepDrafted_34 rfl (lv_at hl 0 rfl) ?_
          refine va_iald hx hb hK hP 1 0 rfl rfl (vin_iv j128 (by decide)) dX6_keepDrafted_35 (lv_topi (fun x137 x137_e => ?_))
          have x137_h : Iv 0 11 x137 := iv_e x137_e (bd_at f126_b (vin_iv j128 (by decide)))
          refine k_iast hx hb hK hP hD hS 1 0 rfl rfl (vin_iv j129 (by decide)) dX6_keepDrafted_36 (fun f138 H locs f138_e hP hD hS => ?_)
          have f138_b : Bd 12 0 11 f138 := bd_upd f138_e f126_b x137_h (by decide)
          have hP : va_P (dC, dI) vwCl ([(o1, .inr (6, [.ref o2, .ref o7, .ref o21, .ref o23, .int v25, .int v26, .int v27, .int v28, .int v29])), (o23, .inl (cI, 12, .inl f138))]) H := hP
          have hD : va_D A ([(o1, .inr (6, [.ref o2, .ref o7, .ref o21, .ref o23, .int v25, .int v26, .int v27, .int v28, .int v29])), (o23, .inl (cI, 12, .inl f138))]) := hD
          obtain ⟨x139, x139_e⟩ : ∃ z : Int32, z = x125 + 1 := ⟨_, rfl⟩
          have x139_h : Iv 1 12 x139 := iv_e x139_e (iv_add j129 ik_1 (by decide))
          refine lv_iinc (v := x139) (lv' := [(2, .int x139), (3, .int x124), (0, .ref o1), (1, .int a1)]) hx hb dX6_keepDrafted_37 hl (k := 1) rfl (incN (by decide +kernel) x139_e) (by decide) rfl (fun ls hl => ?_)
          obtain ⟨x140, x140_e⟩ : ∃ z : Int32, z = x124 + 1 := ⟨_, rfl⟩
          have x140_h : Iv 1 12 x140 := iv_e x140_e (iv_add j128 ik_1 (by decide))
          refine lv_iinc (v := x140) (lv' := [(3, .int x140), (2, .int x139), (0, .ref o1), (1, .int a1)]) hx hb dX6_keepDrafted_40 hl (k := 1) rfl (incN (by decide +kernel) x140_e) (by decide) rfl (fun ls hl => ?_)
          refine lv_goto (tgt := 4) hx hb dX6_keepDrafted_43 (by decide) ?_
          exact ih1 x140 x139 f138 _ _ _ (ms_up x140_e j128 (by decide) hM1) (iv_w x140_h (by decide)) (iv_w x139_h (by decide)) f138_b (by have h70 := tia x139_e j129 ik_1 (by decide); have h71 := tia x140_e j128 ik_1 (by decide); have h8 := rl1_0; omega) hP hD hS hl
  exact L1 _ 0 0 fw24 _ _ _ (Nat.lt_succ_self _) (iv_w ik_0 (by decide)) (iv_w ik_0 (by decide)) fw24_b (by decide +kernel) hP hD hS hl
theorem iw_X11_startGraph_X11 : ∀ w ∈ wsX110, w ∈ wsX11_startGraph := fun _ h => List.mem_cons.mpr (Or.inr (List.mem_append.mpr (Or.inl (List.mem_append.mpr (Or.inl (List.mem_append.mpr (Or.inr h)))))))
set_option maxHeartbeats 4000000 in
set_option maxRecDepth 100000 in
theorem kX11_startGraph_1 (l : Launch) (dC : Nat → ClassId) (dI : Nat → Nat → Nat) (cI c2 cZ : ClassId) (o1 : Nat) (o2 : Nat) (o7 : Nat) (o12 : Nat) (o41 : Nat) (o51 : Nat) (o64 : Nat) (o77 : Nat) (o84 : Nat) (o91 : Nat) (o99 : Nat) (o111 : Nat) (o123 : Nat) (o3 : Nat) (o13 : Nat) (o18 : Nat) (o32 : Nat) (o34 : Nat) (fw4 : Nat → Int32) (v5 : Int32) (v6 : Int32) (fw35 : Nat → Int32) (v36 : Int32) (v37 : Int32) (v38 : Int32) (v39 : Int32) (v40 : Int32) (v125 : Int32) (a1 : Int32) (sz : Nat) (fw4_b : Bd 12 0 4095 fw4) (v5_h : Iv 0 12 v5) (fw35_b : Bd 12 0 11 fw35) (v36_h : Iv 0 12 v36) (v37_h : Iv 0 12 v37) (v38_h : Iv 0 1 v38) (a1_h : Iv 0 12 a1) : Met l yX11_startGraph wsX11_startGraph ({ frames := 2, cells := 0, slots := 0, locals := 44 }) (va_Pc [.ref o1, .int a1] (wPre (dC, dI) [(cI, .int), (c2, .array .int), (cZ, .boolean)] ([(o1, .inr (11, [.ref o2, .ref o7, .ref o12, .ref o41, .ref o51, .ref o64, .ref o77, .ref o84, .ref o91, .ref o99, .ref o111, .ref o123, .int v125])), (o2, .inr (4, [.ref o3, .int v5, .int v6])), (o3, .inl (cI, 12, .inl fw4)), (o12, .inr (6, [.ref o13, .ref o18, .ref o32, .ref o34, .int v36, .int v37, .int v38, .int v39, .int v40])), (o34, .inl (cI, 12, .inl fw35))]) sz)) (va_Qv (fun (u : Int32 × Int32 × (Nat → Int32) × Int32 × Int32 × (Nat → Int32)) => Iv 0 12 u.1 ∧ Bd 12 0 4095 u.2.2.1 ∧ Iv 0 12 u.2.2.2.1 ∧ Iv 0 1 u.2.2.2.2.1 ∧ Bd 12 0 11 u.2.2.2.2.2) (fun u t => wPost (dC, dI) [(cI, .int), (c2, .array .int), (cZ, .boolean)] (va_A ([(o1, .inr (11, [.ref o2, .ref o7, .ref o12, .ref o41, .ref o51, .ref o64, .ref o77, .ref o84, .ref o91, .ref o99, .ref o111, .ref o123, .int v125])), (o2, .inr (4, [.ref o3, .int v5, .int v6])), (o3, .inl (cI, 12, .inl fw4)), (o12, .inr (6, [.ref o13, .ref o18, .ref o32, .ref o34, .int v36, .int v37, .int v38, .int v39, .int v40])), (o34, .inl (cI, 12, .inl fw35))]) sz) ([(o1, .inr (11, [.ref o2, .ref o7, .ref o12, .ref o41, .ref o51, .ref o64, .ref o77, .ref o84, .ref o91, .ref o99, .ref o111, .ref o123, .int v125])), (o2, .inr (4, [.ref o3, .int u.1, .int u.2.1])), (o3, .inl (cI, 12, .inl u.2.2.1)), (o12, .inr (6, [.ref o13, .ref o18, .ref o32, .ref o34, .int u.2.2.2.1, .int v37, .int u.2.2.2.2.1, .int v39, .int v40])), (o34, .inl (cI, 12, .inl u.2.2.2.2.2))]) t) (va_A ([(o1, .inr (11, [.ref o2, .ref o7, .ref o12, .ref o41, .ref o51, .ref o64, .ref o77, .ref o84, .ref o91, .ref o99, .ref o111, .ref o123, .int v125])), (o2, .inr (4, [.ref o3, .int v5, .int v6])), (o3, .inl (cI, 12, .inl fw4)), (o12, .inr (6, [.ref o13, .ref o18, .ref o32, .ref o34, .int v36, .int v37, .int v38, .int v39, .int v40])), (o34, .inl (cI, 12, .inl fw35))]) sz)) 0 0 (va_A ([(o1, .inr (11, [.ref o2, .ref o7, .ref o12, .ref o41, .ref o51, .ref o64, .ref o77, .ref o84, .ref o91, .ref o99, .ref o111, .ref o123, .int v125])), (o2, .inr (4, [.ref o3, .int v5, .int v6])), (o3, .inl (cI, 12, .inl fw4)), (o12, .inr (6, [.ref o13, .ref o18, .ref o32, .ref o34, .int v36, .int v37, .int v38, .int v39, .int v40])), (o34, .inl (cI, 12, .inl fw35))]) sz) := by
  refine Met.ofW (cc := cX11_startGraph) (maxL := 2) (ret := none) (by decide) rfl ?_
  intro p e s m args below meth c s₁ B hml hv
  obtain ⟨rfl, hsz, hP, hK, hD0, hN⟩ := hv
  have hx := B.exec
  have hb := B.bytes
  have hr := B.returns
  have hts := atoms_spec (ws := wsX11_startGraph) B.pre
  have hown : s.vm.findClass RX11 = some m.cls := findClass_of_methodNamed B.named
  have hlocks := B.notSynchronized
  subst hsz
  have hD := hD0.self (sz := s.heap.size)
  generalize hAe : va_A ([(o1, .inr (11, [.ref o2, .ref o7, .ref o12, .ref o41, .ref o51, .ref o64, .ref o77, .ref o84, .ref o91, .ref o99, .ref o111, .ref o123, .int v125])), (o2, .inr (4, [.ref o3, .int v5, .int v6])), (o3, .inl (cI, 12, .inl fw4)), (o12, .inr (6, [.ref o13, .ref o18, .ref o32, .ref o34, .int v36, .int v37, .int v38, .int v39, .int v40])), (o34, .inl (cI, 12, .inl fw35))]) s.heap.size = A at hD ⊢
  have hA : ∀ q : Nat, s.heap.size ≤ q → A q := fun q h => by rw [← hAe]; exact Or.inr h
  have hS : va_S A s.heap s.heap [] := va_S.rf
  have hP : va_P (dC, dI) vwCl ([(o1, .inr (11, [.ref o2, .ref o7, .ref o12, .ref o41, .ref o51, .ref o64, .ref o77, .ref o84, .ref o91, .ref o99, .ref o111, .ref o123, .int v125])), (o2, .inr (4, [.ref o3, .int v5, .int v6])), (o3, .inl (cI, 12, .inl fw4)), (o12, .inr (6, [.ref o13, .ref o18, .ref o32, .ref o34, .int v36, .int v37, .int v38, .int v39, .int v40])), (o34, .inl (cI, 12, .inl fw35))]) s.heap := hP
  have hl := lv_entry ([.ref o1, .int a1]) (n := 2) (Nat.le_of_ble_eq_true rfl)
  rw [lg_entry_eq]
  generalize (lg_sl ([.ref o1, .int a1]) ++ List.replicate (2 - (lg_sl ([.ref o1, .int a1])).length) Slot.unset).toArray = ls at hl ⊢
  have hl : lv_has ls 2 [(0, .ref o1), (1, .int a1)] := hl
  refine gen_Q (fun Q hQ => ?_)
  refine lv_aload_n hx hb dX11_startGraph_0 rfl (lv_at hl 0 rfl) ?_
  refine va_get (D := (dC, dI)) (ci := 11) (v := .ref o2) (C := RX11) (T := TX11) (N := 13) hx hb hts iw_X11_startGraph_X11 hown hK hP 0 rfl rfl 0 (by decide) (hts (.fieldLink RX11 10 "HolelessHouse" "graph" "LHolelessHouse$Graph;") hm_X11_startGraph_1) (fun _ h9 => h9) rfl dX11_startGraph_1 ?_
  refine lv_iload_n hx hb dX11_startGraph_4 rfl (lv_at hl 1 rfl) ?_
  refine kc_v (D := (dC, dI)) (S := Int32 × Int32 × (Nat → Int32)) (wc := [(o2, .inr (4, [.ref o3, .int v5, .int v6])), (o3, .inl (cI, 12, .inl fw4))]) (wr := [(o1, .inr (11, [.ref o2, .ref o7, .ref o12, .ref o41, .ref o51, .ref o64, .ref o77, .ref o84, .ref o91, .ref o99, .ref o111, .ref o123, .int v125])), (o12, .inr (6, [.ref o13, .ref o18, .ref o32, .ref o34, .int v36, .int v37, .int v38, .int v39, .int v40])), (o34, .inl (cI, 12, .inl fw35))]) (w1 := fun u => [(o2, .inr (4, [.ref o3, .int u.1, .int u.2.1])), (o3, .inl (cI, 12, .inl u.2.2))]) (wn := fun u => [(o1, .inr (11, [.ref o2, .ref o7, .ref o12, .ref o41, .ref o51, .ref o64, .ref o77, .ref o84, .ref o91, .ref o99, .ref o111, .ref o123, .int v125])), (o2, .inr (4, [.ref o3, .int u.1, .int u.2.1])), (o3, .inl (cI, 12, .inl u.2.2)), (o12, .inr (6, [.ref o13, .ref o18, .ref o32, .ref o34, .int v36, .int v37, .int v38, .int v39, .int v40])), (o34, .inl (cI, 12, .inl fw35))]) (fun hPc hDc => va_runVN (As := [.int a1]) (rest := []) ⟨hx, hb, hml, hown, hts⟩ (kX4_restart_1 l dC dI cI c2 cZ o2 o3 fw4 v5 v6 a1 s.heap.size fw4_b v5_h a1_h) ⟨va_cnB 1 hts gX11_startGraph_X4_restart_n290 rfl rfl rfl (hN.1 _ ns_61) (hts (.initialized RX4) hm_X11_startGraph_4) (by decide +kernel) ⟨Nat.le_of_ble_eq_true rfl, Nat.le_of_ble_eq_true rfl⟩, (hts (.instanceMethod yX4_restart) hm_X11_startGraph_3), (hts (.selects RX4 yX4_restart yX4_restart) hm_X11_startGraph_5)⟩ (pre_V hPc hK hDc hN (ci := 4) (q0 := 0) rfl rfl) rfl rfl hl.1 rfl (lv_room (Nat.le_of_ble_eq_true rfl)) dX11_startGraph_5 ⟨Nat.le_of_ble_eq_true rfl, Nat.le_of_ble_eq_true rfl⟩) hP hD hS hA [1, 2] [0, 3, 4] [0, 3, 4, 1, 2] rfl rfl (by decide +kernel) (by decide +kernel) (by decide +kernel) (by decide +kernel) (fun _ => rfl) (fun u H locs hq hP hD hS => ?_)
  obtain ⟨y1, y2, f3⟩ := u
  obtain ⟨y1_h, f3_b⟩ := hq
  have hP : va_P (dC, dI) vwCl ([(o1, .inr (11, [.ref o2, .ref o7, .ref o12, .ref o41, .ref o51, .ref o64, .ref o77, .ref o84, .ref o91, .ref o99, .ref o111, .ref o123, .int v125])), (o2, .inr (4, [.ref o3, .int y1, .int y2])), (o3, .inl (cI, 12, .inl f3)), (o12, .inr (6, [.ref o13, .ref o18, .ref o32, .ref o34, .int v36, .int v37, .int v38, .int v39, .int v40])), (o34, .inl (cI, 12, .inl fw35))]) H := hP
  have hD : va_D A ([(o1, .inr (11, [.ref o2, .ref o7, .ref o12, .ref o41, .ref o51, .ref o64, .ref o77, .ref o84, .ref o91, .ref o99, .ref o111, .ref o123, .int v125])), (o2, .inr (4, [.ref o3, .int y1, .int y2])), (o3, .inl (cI, 12, .inl f3)), (o12, .inr (6, [.ref o13, .ref o18, .ref o32, .ref o34, .int v36, .int v37, .int v38, .int v39, .int v40])), (o34, .inl (cI, 12, .inl fw35))]) := hD
  refine lv_aload_n hx hb dX11_startGraph_8 rfl (lv_at hl 0 rfl) ?_
  refine va_get (D := (dC, dI)) (ci := 11) (v := .ref o12) (C := RX11) (T := TX11) (N := 13) hx hb hts iw_X11_startGraph_X11 hown hK hP 0 rfl rfl 2 (by decide) (hts (.fieldLink RX11 26 "HolelessHouse" "ordering" "LHolelessHouse$Ordering;") hm_X11_startGraph_2) (fun _ h9 => h9) rfl dX11_startGraph_9 ?_
  refine kc_v (D := (dC, dI)) (S := Int32) (wc := [(o12, .inr (6, [.ref o13, .ref o18, .ref o32, .ref o34, .int v36, .int v37, .int v38, .int v39, .int v40]))]) (wr := [(o1, .inr (11, [.ref o2, .ref o7, .ref o12, .ref o41, .ref o51, .ref o64, .ref o77, .ref o84, .ref o91, .ref o99, .ref o111, .ref o123, .int v125])), (o2, .inr (4, [.ref o3, .int y1, .int y2])), (o3, .inl (cI, 12, .inl f3)), (o34, .inl (cI, 12, .inl fw35))]) (w1 := fun u => [(o12, .inr (6, [.ref o13, .ref o18, .ref o32, .ref o34, .int v36, .int v37, .int u, .int v39, .int v40]))]) (wn := fun u => [(o1, .inr (11, [.ref o2, .ref o7, .ref o12, .ref o41, .ref o51, .ref o64, .ref o77, .ref o84, .ref o91, .ref o99, .ref o111, .ref o123, .int v125])), (o2, .inr (4, [.ref o3, .int y1, .int y2])), (o3, .inl (cI, 12, .inl f3)), (o12, .inr (6, [.ref o13, .ref o18, .ref o32, .ref o34, .int v36, .int v37, .int u, .int v39, .int v40])), (o34, .inl (cI, 12, .inl fw35))]) (fun hPc hDc => va_runVN (As := []) (rest := []) ⟨hx, hb, hml, hown, hts⟩ (kX6_drop_1 l dC dI cI c2 cZ o12 o13 o18 o32 o34 v36 v37 v38 v39 v40 H.size v36_h v37_h v38_h) ⟨va_cnB 0 hts gX11_startGraph_X6_drop_n105 rfl rfl rfl (hN.1 _ ns_62) (hts (.initialized RX6) hm_X11_startGraph_15) (by decide +kernel) ⟨Nat.le_of_ble_eq_true rfl, Nat.le_of_ble_eq_true rfl⟩, (hts (.instanceMethod yX6_drop) hm_X11_startGraph_14), (hts (.selects RX6 yX6_drop yX6_drop) hm_X11_startGraph_16)⟩ (pre_V hPc hK hDc hN (ci := 6) (q0 := 0) rfl rfl) rfl rfl hl.1 rfl (lv_room (Nat.le_of_ble_eq_true rfl)) dX11_startGraph_12 ⟨Nat.le_of_ble_eq_true rfl, Nat.le_of_ble_eq_true rfl⟩) hP hD hS hA [3] [0, 1, 2, 4] [0, 1, 2, 4, 3] rfl rfl (by decide +kernel) (by decide +kernel) (by decide +kernel) (by decide +kernel) (fun _ => rfl) (fun y4 H locs hq hP hD hS => ?_)
  have y4_h := hq
  have hP : va_P (dC, dI) vwCl ([(o1, .inr (11, [.ref o2, .ref o7, .ref o12, .ref o41, .ref o51, .ref o64, .ref o77, .ref o84, .ref o91, .ref o99, .ref o111, .ref o123, .int v125])), (o2, .inr (4, [.ref o3, .int y1, .int y2])), (o3, .inl (cI, 12, .inl f3)), (o12, .inr (6, [.ref o13, .ref o18, .ref o32, .ref o34, .int v36, .int v37, .int y4, .int v39, .int v40])), (o34, .inl (cI, 12, .inl fw35))]) H := hP
  have hD : va_D A ([(o1, .inr (11, [.ref o2, .ref o7, .ref o12, .ref o41, .ref o51, .ref o64, .ref o77, .ref o84, .ref o91, .ref o99, .ref o111, .ref o123, .int v125])), (o2, .inr (4, [.ref o3, .int y1, .int y2])), (o3, .inl (cI, 12, .inl f3)), (o12, .inr (6, [.ref o13, .ref o18, .ref o32, .ref o34, .int v36, .int v37, .int y4, .int v39, .int v40])), (o34, .inl (cI, 12, .inl fw35))]) := hD
  refine lv_aload_n hx hb dX11_startGraph_15 rfl (lv_at hl 0 rfl) ?_
  refine va_get (D := (dC, dI)) (ci := 11) (v := .ref o12) (C := RX11) (T := TX11) (N := 13) hx hb hts iw_X11_startGraph_X11 hown hK hP 0 rfl rfl 2 (by decide) (hts (.fieldLink RX11 26 "HolelessHouse" "ordering" "LHolelessHouse$Ordering;") hm_X11_startGraph_2) (fun _ h9 => h9) rfl dX11_startGraph_16 ?_
  refine lv_aload_n hx hb dX11_startGraph_19 rfl (lv_at hl 0 rfl) ?_
  refine va_get (D := (dC, dI)) (ci := 11) (v := .ref o2) (C := RX11) (T := TX11) (N := 13) hx hb hts iw_X11_startGraph_X11 hown hK hP 0 rfl rfl 0 (by decide) (hts (.fieldLink RX11 10 "HolelessHouse" "graph" "LHolelessHouse$Graph;") hm_X11_startGraph_1) (fun _ h9 => h9) rfl dX11_startGraph_20 ?_
  refine kc_i (D := (dC, dI)) (S := Unit) (wc := [(o2, .inr (4, [.ref o3, .int y1, .int y2]))]) (wr := [(o1, .inr (11, [.ref o2, .ref o7, .ref o12, .ref o41, .ref o51, .ref o64, .ref o77, .ref o84, .ref o91, .ref o99, .ref o111, .ref o123, .int v125])), (o3, .inl (cI, 12, .inl f3)), (o12, .inr (6, [.ref o13, .ref o18, .ref o32, .ref o34, .int v36, .int v37, .int y4, .int v39, .int v40])), (o34, .inl (cI, 12, .inl fw35))]) (w1 := fun _ => [(o2, .inr (4, [.ref o3, .int y1, .int y2]))]) (wn := fun _ => [(o1, .inr (11, [.ref o2, .ref o7, .ref o12, .ref o41, .ref o51, .ref o64, .ref o77, .ref o84, .ref o91, .ref o99, .ref o111, .ref o123, .int v125])), (o2, .inr (4, [.ref o3, .int y1, .int y2])), (o3, .inl (cI, 12, .inl f3)), (o12, .inr (6, [.ref o13, .ref o18, .ref o32, .ref o34, .int v36, .int v37, .int y4, .int v39, .int v40])), (o34, .inl (cI, 12, .inl fw35))]) (fun hPc hDc => va_runVN (As := []) (rest := [.ref o12]) ⟨hx, hb, hml, hown, hts⟩ (kX4_all_1 l dC dI cI c2 cZ o2 o3 y1 y2 H.size y1_h) ⟨va_cnB 0 hts gX11_startGraph_X4_all_n164 rfl rfl rfl (hN.1 _ ns_63) (hts (.initialized RX4) hm_X11_startGraph_4) (by decide +kernel) ⟨Nat.le_of_ble_eq_true rfl, Nat.le_of_ble_eq_true rfl⟩, (hts (.instanceMethod yX4_all) hm_X11_startGraph_19), (hts (.selects RX4 yX4_all yX4_all) hm_X11_startGraph_20)⟩ (pre_V hPc hK hDc hN (ci := 4) (q0 := 0) rfl rfl) rfl rfl hl.1 rfl (lv_room (Nat.le_of_ble_eq_true rfl)) dX11_startGraph_23 ⟨Nat.le_of_ble_eq_true rfl, Nat.le_of_ble_eq_true rfl⟩) hP hD hS hA [1] [0, 2, 3, 4] [0, 4, 1, 2, 3] rfl rfl (by decide +kernel) (by decide +kernel) (by decide +kernel) (by decide +kernel) (fun _ => rfl) (fun x5 _ H locs hq hP hD hS => ?_)
  have x5_h := hq
  have hP : va_P (dC, dI) vwCl ([(o1, .inr (11, [.ref o2, .ref o7, .ref o12, .ref o41, .ref o51, .ref o64, .ref o77, .ref o84, .ref o91, .ref o99, .ref o111, .ref o123, .int v125])), (o2, .inr (4, [.ref o3, .int y1, .int y2])), (o3, .inl (cI, 12, .inl f3)), (o12, .inr (6, [.ref o13, .ref o18, .ref o32, .ref o34, .int v36, .int v37, .int y4, .int v39, .int v40])), (o34, .inl (cI, 12, .inl fw35))]) H := hP
  have hD : va_D A ([(o1, .inr (11, [.ref o2, .ref o7, .ref o12, .ref o41, .ref o51, .ref o64, .ref o77, .ref o84, .ref o91, .ref o99, .ref o111, .ref o123, .int v125])), (o2, .inr (4, [.ref o3, .int y1, .int y2])), (o3, .inl (cI, 12, .inl f3)), (o12, .inr (6, [.ref o13, .ref o18, .ref o32, .ref o34, .int v36, .int v37, .int y4, .int v39, .int v40])), (o34, .inl (cI, 12, .inl fw35))]) := hD
  refine kc_v (D := (dC, dI)) (S := Int32 × (Nat → Int32)) (wc := [(o12, .inr (6, [.ref o13, .ref o18, .ref o32, .ref o34, .int v36, .int v37, .int y4, .int v39, .int v40])), (o34, .inl (cI, 12, .inl fw35))]) (wr := [(o1, .inr (11, [.ref o2, .ref o7, .ref o12, .ref o41, .ref o51, .ref o64, .ref o77, .ref o84, .ref o91, .ref o99, .ref o111, .ref o123, .int v125])), (o2, .inr (4, [.ref o3, .int y1, .int y2])), (o3, .inl (cI, 12, .inl f3))]) (w1 := fun u => [(o12, .inr (6, [.ref o13, .ref o18, .ref o32, .ref o34, .int u.1, .int v37, .int y4, .int v39, .int v40])), (o34, .inl (cI, 12, .inl u.2))]) (wn := fun u => [(o1, .inr (11, [.ref o2, .ref o7, .ref o12, .ref o41, .ref o51, .ref o64, .ref o77, .ref o84, .ref o91, .ref o99, .ref o111, .ref o123, .int v125])), (o2, .inr (4, [.ref o3, .int y1, .int y2])), (o3, .inl (cI, 12, .inl f3)), (o12, .inr (6, [.ref o13, .ref o18, .ref o32, .ref o34, .int u.1, .int v37, .int y4, .int v39, .int v40])), (o34, .inl (cI, 12, .inl u.2))]) (fun hPc hDc => va_runVN (As := [.int x5]) (rest := []) ⟨hx, hb, hml, hown, hts⟩ (kX6_keepDrafted_1 l dC dI cI c2 cZ o12 o13 o18 o32 o34 fw35 v36 v37 y4 v39 v40 x5 H.size fw35_b v36_h v37_h y4_h) ⟨va_cnB 1 hts gX11_startGraph_X6_keepDrafted_n291 rfl rfl rfl (hN.1 _ ns_64) (hts (.initialized RX6) hm_X11_startGraph_15) (by decide +kernel) ⟨Nat.le_of_ble_eq_true rfl, Nat.le_of_ble_eq_true rfl⟩, (hts (.instanceMethod yX6_keepDrafted) hm_X11_startGraph_22), (hts (.selects RX6 yX6_keepDrafted yX6_keepDrafted) hm_X11_startGraph_23)⟩ (pre_V hPc hK hDc hN (ci := 6) (q0 := 0) rfl rfl) rfl rfl hl.1 rfl (lv_room (Nat.le_of_ble_eq_true rfl)) dX11_startGraph_26 ⟨Nat.le_of_ble_eq_true rfl, Nat.le_of_ble_eq_true rfl⟩) hP hD hS hA [3, 4] [0, 1, 2] [0, 1, 2, 3, 4] rfl rfl (by decide +kernel) (by decide +kernel) (by decide +kernel) (by decide +kernel) (fun _ => rfl) (fun u H locs hq hP hD hS => ?_)
  obtain ⟨y6, f7⟩ := u
  obtain ⟨y6_h, f7_b⟩ := hq
  have hP : va_P (dC, dI) vwCl ([(o1, .inr (11, [.ref o2, .ref o7, .ref o12, .ref o41, .ref o51, .ref o64, .ref o77, .ref o84, .ref o91, .ref o99, .ref o111, .ref o123, .int v125])), (o2, .inr (4, [.ref o3, .int y1, .int y2])), (o3, .inl (cI, 12, .inl f3)), (o12, .inr (6, [.ref o13, .ref o18, .ref o32, .ref o34, .int y6, .int v37, .int y4, .int v39, .int v40])), (o34, .inl (cI, 12, .inl f7))]) H := hP
  have hD : va_D A ([(o1, .inr (11, [.ref o2, .ref o7, .ref o12, .ref o41, .ref o51, .ref o64, .ref o77, .ref o84, .ref o91, .ref o99, .ref o111, .ref o123, .int v125])), (o2, .inr (4, [.ref o3, .int y1, .int y2])), (o3, .inl (cI, 12, .inl f3)), (o12, .inr (6, [.ref o13, .ref o18, .ref o32, .ref o34, .int y6, .int v37, .int y4, .int v39, .int v40])), (o34, .inl (cI, 12, .inl f7))]) := hD
  rw [hQ]
  exact W.vret hx hb hr (fun t ht hW => ⟨⟨(y1, y2, f3, y6, y4, f7), rfl, ⟨y1_h, f3_b, y6_h, y4_h, f7_b⟩, by rw [ht]; exact hP, va_K.moved hW.alike hK, hD⟩, hS.F ht⟩) hS.2.2 dX11_startGraph_29
set_option maxHeartbeats 4000000 in
set_option maxRecDepth 100000 in
theorem kX11_nodes_1 (l : Launch) (dC : Nat → ClassId) (dI : Nat → Nat → Nat) (cI c2 cZ : ClassId) (o1 : Nat) (o2 : Nat) (o7 : Nat) (o12 : Nat) (o41 : Nat) (o51 : Nat) (o64 : Nat) (o77 : Nat) (o84 : Nat) (o91 : Nat) (o99 : Nat) (o111 : Nat) (o123 : Nat) (o3 : Nat) (o13 : Nat) (o18 : Nat) (o32 : Nat) (o34 : Nat) (fw4 : Nat → Int32) (v5 : Int32) (v6 : Int32) (fw35 : Nat → Int32) (v36 : Int32) (v37 : Int32) (v38 : Int32) (v39 : Int32) (v40 : Int32) (v125 : Int32) (a1 : Int32) (sz : Nat) (fw4_b : Bd 12 0 4095 fw4) (v5_h : Iv 0 12 v5) (fw35_b : Bd 12 0 11 fw35) (v36_h : Iv 0 12 v36) (v37_h : Iv 0 12 v37) (v38_h : Iv 0 1 v38) : Met l yX11_nodes wsX11_nodes ({ frames := 3, cells := 0, slots := 0, locals := 65 }) (va_Pc [.ref o1, .int a1] (wPre (dC, dI) [(cI, .int), (c2, .array .int), (cZ, .boolean)] ([(o1, .inr (11, [.ref o2, .ref o7, .ref o12, .ref o41, .ref o51, .ref o64, .ref o77, .ref o84, .ref o91, .ref o99, .ref o111, .ref o123, .int v125])), (o2, .inr (4, [.ref o3, .int v5, .int v6])), (o3, .inl (cI, 12, .inl fw4)), (o12, .inr (6, [.ref o13, .ref o18, .ref o32, .ref o34, .int v36, .int v37, .int v38, .int v39, .int v40])), (o34, .inl (cI, 12, .inl fw35))]) sz)) (va_Qi (fun (r : Int32) (u : Int32 × Int32 × (Nat → Int32) × Int32 × Int32 × (Nat → Int32)) => Iv (-1) 12 r ∧ Iv 0 12 u.1 ∧ Bd 12 0 4095 u.2.2.1 ∧ Iv 0 12 u.2.2.2.1 ∧ Iv 0 1 u.2.2.2.2.1 ∧ Bd 12 0 11 u.2.2.2.2.2) (fun u t => wPost (dC, dI) [(cI, .int), (c2, .array .int), (cZ, .boolean)] (va_A ([(o1, .inr (11, [.ref o2, .ref o7, .ref o12, .ref o41, .ref o51, .ref o64, .ref o77, .ref o84, .ref o91, .ref o99, .ref o111, .ref o123, .int v125])), (o2, .inr (4, [.ref o3, .int v5, .int v6])), (o3, .inl (cI, 12, .inl fw4)), (o12, .inr (6, [.ref o13, .ref o18, .ref o32, .ref o34, .int v36, .int v37, .int v38, .int v39, .int v40])), (o34, .inl (cI, 12, .inl fw35))]) sz) ([(o1, .inr (11, [.ref o2, .ref o7, .ref o12, .ref o41, .ref o51, .ref o64, .ref o77, .ref o84, .ref o91, .ref o99, .ref o111, .ref o123, .int v125])), (o2, .inr (4, [.ref o3, .int u.1, .int u.2.1])), (o3, .inl (cI, 12, .inl u.2.2.1)), (o12, .inr (6, [.ref o13, .ref o18, .ref o32, .ref o34, .int u.2.2.2.1, .int v37, .int u.2.2.2.2.1, .int v39, .int v40])), (o34, .inl (cI, 12, .inl u.2.2.2.2.2))]) t) (va_A ([(o1, .inr (11, [.ref o2, .ref o7, .ref o12, .ref o41, .ref o51, .ref o64, .ref o77, .ref o84, .ref o91, .ref o99, .ref o111, .ref o123, .int v125])), (o2, .inr (4, [.ref o3, .int v5, .int v6])), (o3, .inl (cI, 12, .inl fw4)), (o12, .inr (6, [.ref o13, .ref o18, .ref o32, .ref o34, .int v36, .int v37, .int v38, .int v39, .int v40])), (o34, .inl (cI, 12, .inl fw35))]) sz)) 0 0 (va_A ([(o1, .inr (11, [.ref o2, .ref o7, .ref o12, .ref o41, .ref o51, .ref o64, .ref o77, .ref o84, .ref o91, .ref o99, .ref o111, .ref o123, .int v125])), (o2, .inr (4, [.ref o3, .int v5, .int v6])), (o3, .inl (cI, 12, .inl fw4)), (o12, .inr (6, [.ref o13, .ref o18, .ref o32, .ref o34, .int v36, .int v37, .int v38, .int v39, .int v40])), (o34, .inl (cI, 12, .inl fw35))]) sz) := by
  refine Met.ofW (cc := cX11_nodes) (maxL := 2) (ret := (some .int)) (by decide) rfl ?_
  intro p e s m args below meth c s₁ B hml hv
  obtain ⟨rfl, hsz, hP, hK, hD0, hN⟩ := hv
  have hx := B.exec
  have hb := B.bytes
  have hr := B.returns
  have hts := atoms_spec (ws := wsX11_nodes) B.pre
  have hown : s.vm.findClass RX11 = some m.cls := findClass_of_methodNamed B.named
  have hlocks := B.notSynchronized
  subst hsz
  have hD := hD0.self (sz := s.heap.size)
  generalize hAe : va_A ([(o1, .inr (11, [.ref o2, .ref o7, .ref o12, .ref o41, .ref o51, .ref o64, .ref o77, .ref o84, .ref o91, .ref o99, .ref o111, .ref o123, .int v125])), (o2, .inr (4, [.ref o3, .int v5, .int v6])), (o3, .inl (cI, 12, .inl fw4)), (o12, .inr (6, [.ref o13, .ref o18, .ref o32, .ref o34, .int v36, .int v37, .int v38, .int v39, .int v40])), (o34, .inl (cI, 12, .inl fw35))]) s.heap.size = A at hD ⊢
  have hA : ∀ q : Nat, s.heap.size ≤ q → A q := fun q h => by rw [← hAe]; exact Or.inr h
  have hS : va_S A s.heap s.heap [] := va_S.rf
  have hP : va_P (dC, dI) vwCl ([(o1, .inr (11, [.ref o2, .ref o7, .ref o12, .ref o41, .ref o51, .ref o64, .ref o77, .ref o84, .ref o91, .ref o99, .ref o111, .ref o123, .int v125])), (o2, .inr (4, [.ref o3, .int v5, .int v6])), (o3, .inl (cI, 12, .inl fw4)), (o12, .inr (6, [.ref o13, .ref o18, .ref o32, .ref o34, .int v36, .int v37, .int v38, .int v39, .int v40])), (o34, .inl (cI, 12, .inl fw35))]) s.heap := hP
  have hl := lv_entry ([.ref o1, .int a1]) (n := 2) (Nat.le_of_ble_eq_true rfl)
  rw [lg_entry_eq]
  generalize (lg_sl ([.ref o1, .int a1]) ++ List.replicate (2 - (lg_sl ([.ref o1, .int a1])).length) Slot.unset).toArray = ls at hl ⊢
  have hl : lv_has ls 2 [(0, .ref o1), (1, .int a1)] := hl
  refine gen_Q (fun Q hQ => ?_)
  refine lv_iload_n hx hb dX11_nodes_0 rfl (lv_at hl 1 rfl) ?_
  refine lv_if_lt (tgt := 10) hx hb dX11_nodes_1 (by decide) (fun h1 => ?_) (fun h1 => ?_)
  ·
    have qh1 := lt_i h1
    have j2 : Iv (-2147483648) (-1) a1 := r_ltl qh1 (iv_full a1) ik_0 (by decide)
    refine lv_iconst (v := (-1)) hx hb dX11_nodes_10 (by decide) ?_
    rw [hQ]
    exact W.iret (v := (-1)) hx hb hr (fun t ht hW => ⟨⟨(-1), (v5, v6, fw4, v36, v38, fw35), rfl, ⟨(iv_w ikm_1 (by decide)), v5_h, fw4_b, v36_h, v38_h, fw35_b⟩, by rw [ht]; exact hP, va_K.moved hW.alike hK, hD⟩, hS.F ht⟩) hS.2.2 dX11_nodes_11
  ·
    have qh1 := nlt_i h1
    have j3 : Iv 0 2147483647 a1 := r_ler qh1 ik_0 (iv_full a1) (by decide)
    refine lv_iload_n hx hb dX11_nodes_4 rfl (lv_at hl 1 rfl) ?_
    refine lv_bipush (v := 12) hx hb dX11_nodes_5 (by decide) ?_
    refine lv_icmp_le (tgt := 12) hx hb dX11_nodes_7 (by decide) (fun h4 => ?_) (fun h4 => ?_)
    ·
      have qh4 := le_i h4
      have j5 : Iv 0 12 a1 := r_lel qh4 j3 ik_12 (by decide)
      refine lv_aload_n hx hb dX11_nodes_12 rfl (lv_at hl 0 rfl) ?_
      refine lv_iload_n hx hb dX11_nodes_13 rfl (lv_at hl 1 rfl) ?_
      refine kc_v (D := (dC, dI)) (S := Int32 × Int32 × (Nat → Int32) × Int32 × Int32 × (Nat → Int32)) (wc := [(o1, .inr (11, [.ref o2, .ref o7, .ref o12, .ref o41, .ref o51, .ref o64, .ref o77, .ref o84, .ref o91, .ref o99, .ref o111, .ref o123, .int v125])), (o2, .inr (4, [.ref o3, .int v5, .int v6])), (o3, .inl (cI, 12, .inl fw4)), (o12, .inr (6, [.ref o13, .ref o18, .ref o32, .ref o34, .int v36, .int v37, .int v38, .int v39, .int v40])), (o34, .inl (cI, 12, .inl fw35))]) (wr := []) (w1 := fun u => [(o1, .inr (11, [.ref o2, .ref o7, .ref o12, .ref o41, .ref o51, .ref o64, .ref o77, .ref o84, .ref o91, .ref o99, .ref o111, .ref o123, .int v125])), (o2, .inr (4, [.ref o3, .int u.1, .int u.2.1])), (o3, .inl (cI, 12, .inl u.2.2.1)), (o12, .inr (6, [.ref o13, .ref o18, .ref o32, .ref o34, .int u.2.2.2.1, .int v37, .int u.2.2.2.2.1, .int v39, .int v40])), (o34, .inl (cI, 12, .inl u.2.2.2.2.2))]) (wn := fun u => [(o1, .inr (11, [.ref o2, .ref o7, .ref o12, .ref o41, .ref o51, .ref o64, .ref o77, .ref o84, .ref o91, .ref o99, .ref o111, .ref o123, .int v125])), (o2, .inr (4, [.ref o3, .int u.1, .int u.2.1])), (o3, .inl (cI, 12, .inl u.2.2.1)), (o12, .inr (6, [.ref o13, .ref o18, .ref o32, .ref o34, .int u.2.2.2.1, .int v37, .int u.2.2.2.2.1, .int v39, .int v40])), (o34, .inl (cI, 12, .inl u.2.2.2.2.2))]) (fun hPc hDc => va_runV (As := [.int a1]) (rest := []) ⟨hx, hb, hml, hown, hts⟩ (kX11_startGraph_1 l dC dI cI c2 cZ o1 o2 o7 o12 o41 o51 o64 o77 o84 o91 o99 o111 o123 o3 o13 o18 o32 o34 fw4 v5 v6 fw35 v36 v37 v38 v39 v40 v125 a1 s.heap.size fw4_b v5_h fw35_b v36_h v37_h v38_h j5) (cwV 1 hts gX11_nodes_X11_startGraph rfl rfl rfl (by decide +kernel) ⟨Nat.le_of_ble_eq_true rfl, Nat.le_of_ble_eq_true rfl⟩) (pre_V hPc hK hDc hN (ci := 11) (q0 := 0) rfl rfl) rfl rfl hl.1 rfl (lv_room (Nat.le_of_ble_eq_true rfl)) dX11_nodes_14 ⟨Nat.le_of_ble_eq_true rfl, Nat.le_of_ble_eq_true rfl⟩) hP hD hS hA [0, 1, 2, 3, 4] [] [0, 1, 2, 3, 4] rfl rfl (by decide +kernel) (by decide +kernel) (by decide +kernel) (by decide +kernel) (fun _ => rfl) (fun u H locs hq hP hD hS => ?_)
      obtain ⟨y6, y7, f8, y9, y10, f11⟩ := u
      obtain ⟨y6_h, f8_b, y9_h, y10_h, f11_b⟩ := hq
      have hP : va_P (dC, dI) vwCl ([(o1, .inr (11, [.ref o2, .ref o7, .ref o12, .ref o41, .ref o51, .ref o64, .ref o77, .ref o84, .ref o91, .ref o99, .ref o111, .ref o123, .int v125])), (o2, .inr (4, [.ref o3, .int y6, .int y7])), (o3, .inl (cI, 12, .inl f8)), (o12, .inr (6, [.ref o13, .ref o18, .ref o32, .ref o34, .int y9, .int v37, .int y10, .int v39, .int v40])), (o34, .inl (cI, 12, .inl f11))]) H := hP
      have hD : va_D A ([(o1, .inr (11, [.ref o2, .ref o7, .ref o12, .ref o41, .ref o51, .ref o64, .ref o77, .ref o84, .ref o91, .ref o99, .ref o111, .ref o123, .int v125])), (o2, .inr (4, [.ref o3, .int y6, .int y7])), (o3, .inl (cI, 12, .inl f8)), (o12, .inr (6, [.ref o13, .ref o18, .ref o32, .ref o34, .int y9, .int v37, .int y10, .int v39, .int v40])), (o34, .inl (cI, 12, .inl f11))]) := hD
      refine lv_iload_n hx hb dX11_nodes_17 rfl (lv_at hl 1 rfl) ?_
      rw [hQ]
      exact W.iret (v := a1) hx hb hr (fun t ht hW => ⟨⟨a1, (y6, y7, f8, y9, y10, f11), rfl, ⟨(iv_w j5 (by decide)), y6_h, f8_b, y9_h, y10_h, f11_b⟩, by rw [ht]; exact hP, va_K.moved hW.alike hK, hD⟩, hS.F ht⟩) hS.2.2 dX11_nodes_18
    ·
      have qh4 := nle_i h4
      have j12 : Iv 13 2147483647 a1 := r_ltr qh4 ik_12 j3 (by decide)
      refine lv_iconst (v := (-1)) hx hb dX11_nodes_10 (by decide) ?_
      rw [hQ]
      exact W.iret (v := (-1)) hx hb hr (fun t ht hW => ⟨⟨(-1), (v5, v6, fw4, v36, v38, fw35), rfl, ⟨(iv_w ikm_1 (by decide)), v5_h, fw4_b, v36_h, v38_h, fw35_b⟩, by rw [ht]; exact hP, va_K.moved hW.alike hK, hD⟩, hS.F ht⟩) hS.2.2 dX11_nodes_11
theorem iw_X4_has_X4 : ∀ w ∈ wsX40, w ∈ wsX4_has := fun _ h => List.mem_cons.mpr (Or.inr (List.mem_append.mpr (Or.inr h)))
set_option maxHeartbeats 4000000 in
set_option maxRecDepth 100000 in
theorem kX4_has_1 (l : Launch) (dC : Nat → ClassId) (dI : Nat → Nat → Nat) (cI c2 cZ : ClassId) (o1 : Nat) (o2 : Nat) (v4 : Int32) (v5 : Int32) (a1 : Int32) (sz : Nat) (v4_h : Iv 0 12 v4) : Met l yX4_has wsX4_has ({ frames := 0, cells := 0, slots := 0, locals := 0 }) (va_Pc [.ref o1, .int a1] (wPre (dC, dI) [(cI, .int), (c2, .array .int), (cZ, .boolean)] ([(o1, .inr (4, [.ref o2, .int v4, .int v5]))]) sz)) (va_Qi (fun (r : Int32) (_ : Unit) => Iv 0 1 r ∧ (¬ r = 0 → Iv 0 11 a1)) (fun _ t => wPost (dC, dI) [(cI, .int), (c2, .array .int), (cZ, .boolean)] (va_A ([(o1, .inr (4, [.ref o2, .int v4, .int v5]))]) sz) ([(o1, .inr (4, [.ref o2, .int v4, .int v5]))]) t) (va_A ([(o1, .inr (4, [.ref o2, .int v4, .int v5]))]) sz)) 0 0 (va_A ([(o1, .inr (4, [.ref o2, .int v4, .int v5]))]) sz) := by
  refine Met.ofW (cc := cX4_has) (maxL := 2) (ret := (some .boolean)) (by decide) rfl ?_
  intro p e s m args below meth c s₁ B hml hv
  obtain ⟨rfl, hsz, hP, hK, hD0, hN⟩ := hv
  have hx := B.exec
  have hb := B.bytes
  have hr := B.returns
  have hts := atoms_spec (ws := wsX4_has) B.pre
  have hown : s.vm.findClass RX4 = some m.cls := findClass_of_methodNamed B.named
  have hlocks := B.notSynchronized
  subst hsz
  have hD := hD0.self (sz := s.heap.size)
  generalize hAe : va_A ([(o1, .inr (4, [.ref o2, .int v4, .int v5]))]) s.heap.size = A at hD ⊢
  have hA : ∀ q : Nat, s.heap.size ≤ q → A q := fun q h => by rw [← hAe]; exact Or.inr h
  have hS : va_S A s.heap s.heap [] := va_S.rf
  have hP : va_P (dC, dI) vwCl ([(o1, .inr (4, [.ref o2, .int v4, .int v5]))]) s.heap := hP
  have hl := lv_entry ([.ref o1, .int a1]) (n := 2) (Nat.le_of_ble_eq_true rfl)
  rw [lg_entry_eq]
  generalize (lg_sl ([.ref o1, .int a1]) ++ List.replicate (2 - (lg_sl ([.ref o1, .int a1])).length) Slot.unset).toArray = ls at hl ⊢
  have hl : lv_has ls 2 [(0, .ref o1), (1, .int a1)] := hl
  refine gen_Q (fun Q hQ => ?_)
  refine lv_iload_n hx hb dX4_has_0 rfl (lv_at hl 1 rfl) ?_
  refine lv_if_lt (tgt := 16) hx hb dX4_has_1 (by decide) (fun h1 => ?_) (fun h1 => ?_)
  ·
    have qh1 := lt_i h1
    have j2 : Iv (-2147483648) (-1) a1 := r_ltl qh1 (iv_full a1) ik_0 (by decide)
    refine lv_iconst (v := 0) hx hb dX4_has_16 (by decide) ?_
    rw [hQ]
    exact W.zret (v := 0) (ty := .boolean) hx hb hr rfl (fun t ht hW => ⟨⟨0, (), rfl, ⟨(iv_w ik_0 (by decide)), (fun h8 => absurd rfl h8)⟩, by rw [ht]; exact hP, va_K.moved hW.alike hK, hD⟩, hS.F ht⟩) hS.2.2 dX4_has_17
  ·
    have qh1 := nlt_i h1
    have j3 : Iv 0 2147483647 a1 := r_ler qh1 ik_0 (iv_full a1) (by decide)
    refine lv_iload_n hx hb dX4_has_4 rfl (lv_at hl 1 rfl) ?_
    refine lv_aload_n hx hb dX4_has_5 rfl (lv_at hl 0 rfl) ?_
    refine va_get (D := (dC, dI)) (ci := 4) (v := .int v4) (C := RX4) (T := TX4) (N := 3) hx hb hts iw_X4_has_X4 hown hK hP 0 rfl rfl 1 (by decide) (hts (.fieldLink RX4 15 "HolelessHouse$Graph" "size" "I") hm_X4_has_1) (fun _ h9 => h9) rfl dX4_has_6 ?_
    refine lv_icmp_ge (tgt := 16) hx hb dX4_has_9 (by decide) (fun h4 => ?_) (fun h4 => ?_)
    ·
      have qh4 := le_i h4
      refine lv_iconst (v := 0) hx hb dX4_has_16 (by decide) ?_
      rw [hQ]
      exact W.zret (v := 0) (ty := .boolean) hx hb hr rfl (fun t ht hW => ⟨⟨0, (), rfl, ⟨(iv_w ik_0 (by decide)), (fun h8 => absurd rfl h8)⟩, by rw [ht]; exact hP, va_K.moved hW.alike hK, hD⟩, hS.F ht⟩) hS.2.2 dX4_has_17
    ·
      have qh4 := nle_i h4
      have j5 : Iv 0 11 a1 := r_ltl qh4 j3 v4_h (by decide)
      have j6 : Iv 1 12 v4 := r_ltr qh4 j3 v4_h (by decide)
      refine lv_iconst (v := 1) hx hb dX4_has_12 (by decide) ?_
      refine lv_goto (tgt := 17) hx hb dX4_has_13 (by decide) ?_
      rw [hQ]
      exact W.zret (v := 1) (ty := .boolean) hx hb hr rfl (fun t ht hW => ⟨⟨1, (), rfl, ⟨(iv_w ik_1 (by decide)), (fun _ => j5)⟩, by rw [ht]; exact hP, va_K.moved hW.alike hK, hD⟩, hS.F ht⟩) hS.2.2 dX4_has_17
theorem iw_X4_touches_X4 : ∀ w ∈ wsX40, w ∈ wsX4_touches := fun _ h => List.mem_cons.mpr (Or.inr (List.mem_append.mpr (Or.inr h)))
set_option maxHeartbeats 4000000 in
set_option maxRecDepth 100000 in
theorem kX4_touches_1 (l : Launch) (dC : Nat → ClassId) (dI : Nat → Nat → Nat) (cI c2 cZ : ClassId) (o1 : Nat) (o2 : Nat) (fw3 : Nat → Int32) (v4 : Int32) (v5 : Int32) (a1 : Int32) (a2 : Int32) (sz : Nat) (fw3_b : Bd 12 0 4095 fw3) (v4_h : Iv 0 12 v4) (a1_h : Iv 0 11 a1) (a2_h : Iv 0 11 a2) : Met l yX4_touches wsX4_touches ({ frames := 1, cells := 0, slots := 0, locals := 21 }) (va_Pc [.ref o1, .int a1, .int a2] (wPre (dC, dI) [(cI, .int), (c2, .array .int), (cZ, .boolean)] ([(o1, .inr (4, [.ref o2, .int v4, .int v5])), (o2, .inl (cI, 12, .inl fw3))]) sz)) (va_Qi (fun (r : Int32) (_ : Unit) => Iv 0 1 r) (fun _ t => wPost (dC, dI) [(cI, .int), (c2, .array .int), (cZ, .boolean)] (va_A ([(o1, .inr (4, [.ref o2, .int v4, .int v5])), (o2, .inl (cI, 12, .inl fw3))]) sz) ([(o1, .inr (4, [.ref o2, .int v4, .int v5])), (o2, .inl (cI, 12, .inl fw3))]) t) (va_A ([(o1, .inr (4, [.ref o2, .int v4, .int v5])), (o2, .inl (cI, 12, .inl fw3))]) sz)) 0 0 (va_A ([(o1, .inr (4, [.ref o2, .int v4, .int v5])), (o2, .inl (cI, 12, .inl fw3))]) sz) := by
  refine Met.ofW (cc := cX4_touches) (maxL := 3) (ret := (some .boolean)) (by decide) rfl ?_
  intro p e s m args below meth c s₁ B hml hv
  obtain ⟨rfl, hsz, hP, hK, hD0, hN⟩ := hv
  have hx := B.exec
  have hb := B.bytes
  have hr := B.returns
  have hts := atoms_spec (ws := wsX4_touches) B.pre
  have hown : s.vm.findClass RX4 = some m.cls := findClass_of_methodNamed B.named
  have hlocks := B.notSynchronized
  subst hsz
  have hD := hD0.self (sz := s.heap.size)
  generalize hAe : va_A ([(o1, .inr (4, [.ref o2, .int v4, .int v5])), (o2, .inl (cI, 12, .inl fw3))]) s.heap.size = A at hD ⊢
  have hA : ∀ q : Nat, s.heap.size ≤ q → A q := fun q h => by rw [← hAe]; exact Or.inr h
  have hS : va_S A s.heap s.heap [] := va_S.rf
  have hP : va_P (dC, dI) vwCl ([(o1, .inr (4, [.ref o2, .int v4, .int v5])), (o2, .inl (cI, 12, .inl fw3))]) s.heap := hP
  have hl := lv_entry ([.ref o1, .int a1, .int a2]) (n := 3) (Nat.le_of_ble_eq_true rfl)
  rw [lg_entry_eq]
  generalize (lg_sl ([.ref o1, .int a1, .int a2]) ++ List.replicate (3 - (lg_sl ([.ref o1, .int a1, .int a2])).length) Slot.unset).toArray = ls at hl ⊢
  have hl : lv_has ls 3 [(0, .ref o1), (1, .int a1), (2, .int a2)] := hl
  refine gen_Q (fun Q hQ => ?_)
  refine lv_aload_n hx hb dX4_touches_0 rfl (lv_at hl 0 rfl) ?_
  refine va_get (D := (dC, dI)) (ci := 4) (v := .ref o2) (C := RX4) (T := TX4) (N := 3) hx hb hts iw_X4_touches_X4 hown hK hP 0 rfl rfl 0 (by decide) (hts (.fieldLink RX4 9 "HolelessHouse$Graph" "near" "[I") hm_X4_touches_1) (fun _ h9 => h9) rfl dX4_touches_1 ?_
  refine lv_iload_n hx hb dX4_touches_4 rfl (lv_at hl 1 rfl) ?_
  refine va_iald hx hb hK hP 1 0 rfl rfl (vin_iv a1_h (by decide)) dX4_touches_5 (lv_topi (fun x1 x1_e => ?_))
  have x1_h : Iv 0 4095 x1 := iv_e x1_e (bd_at fw3_b (vin_iv a1_h (by decide)))
  refine lv_iload_n hx hb dX4_touches_6 rfl (lv_at hl 2 rfl) ?_
  refine kc_i (D := (dC, dI)) (S := Unit) (wc := []) (wr := [(o1, .inr (4, [.ref o2, .int v4, .int v5])), (o2, .inl (cI, 12, .inl fw3))]) (w1 := fun _ => []) (wn := fun _ => [(o1, .inr (4, [.ref o2, .int v4, .int v5])), (o2, .inl (cI, 12, .inl fw3))]) (fun hPc hDc => va_runSN (As := [.int x1, .int a2]) (rest := []) ⟨hx, hb, hml, hown, hts⟩ (kX11_in_1 l dC dI cI c2 cZ x1 a2 s.heap.size) ⟨va_cnB 2 hts gX4_touches_X11_in_n22 rfl rfl rfl (hN.1 _ ns_68) (hts (.initialized RX11) hm_X4_touches_3) (by decide +kernel) ⟨Nat.le_of_ble_eq_true rfl, Nat.le_of_ble_eq_true rfl⟩, (hts (.static yX11_in) hm_X4_touches_2), trivial⟩ (pre_S hPc hK hDc hN) rfl rfl hl.1 rfl (lv_room (Nat.le_of_ble_eq_true rfl)) dX4_touches_7 ⟨Nat.le_of_ble_eq_true rfl, Nat.le_of_ble_eq_true rfl⟩) hP hD hS hA [] [0, 1] [0, 1] rfl rfl (by decide +kernel) (by decide +kernel) (by decide +kernel) (by decide +kernel) (fun _ => rfl) (fun x2 _ H locs hq hP hD hS => ?_)
  have x2_h := hq
  have hP : va_P (dC, dI) vwCl ([(o1, .inr (4, [.ref o2, .int v4, .int v5])), (o2, .inl (cI, 12, .inl fw3))]) H := hP
  have hD : va_D A ([(o1, .inr (4, [.ref o2, .int v4, .int v5])), (o2, .inl (cI, 12, .inl fw3))]) := hD
  rw [hQ]
  exact W.zret (v := x2) (ty := .boolean) hx hb hr (nar_z x2_h) (fun t ht hW => ⟨⟨x2, (), rfl, x2_h, by rw [ht]; exact hP, va_K.moved hW.alike hK, hD⟩, hS.F ht⟩) hS.2.2 dX4_touches_10
theorem iw_X4_set_X4 : ∀ w ∈ wsX40, w ∈ wsX4_set := fun _ h => List.mem_cons.mpr (Or.inr (List.mem_append.mpr (Or.inr h)))
set_option maxHeartbeats 4000000 in
set_option maxRecDepth 100000 in
theorem kX4_set_1 (l : Launch) (dC : Nat → ClassId) (dI : Nat → Nat → Nat) (cI c2 cZ : ClassId) (o1 : Nat) (o2 : Nat) (fw3 : Nat → Int32) (v4 : Int32) (v5 : Int32) (a1 : Int32) (a2 : Int32) (a3 : Int32) (sz : Nat) (fw3_b : Bd 12 0 4095 fw3) (v4_h : Iv 0 12 v4) (a1_h : Iv 0 11 a1) (a2_h : Iv 0 11 a2) (a3_h : Iv 0 1 a3) : Met l yX4_set wsX4_set ({ frames := 0, cells := 0, slots := 0, locals := 0 }) (va_Pc [.ref o1, .int a1, .int a2, .int a3] (wPre (dC, dI) [(cI, .int), (c2, .array .int), (cZ, .boolean)] ([(o1, .inr (4, [.ref o2, .int v4, .int v5])), (o2, .inl (cI, 12, .inl fw3))]) sz)) (va_Qv (fun (u : Int32 × (Nat → Int32)) => Bd 12 0 4095 u.2) (fun u t => wPost (dC, dI) [(cI, .int), (c2, .array .int), (cZ, .boolean)] (va_A ([(o1, .inr (4, [.ref o2, .int v4, .int v5])), (o2, .inl (cI, 12, .inl fw3))]) sz) ([(o1, .inr (4, [.ref o2, .int v4, .int u.1])), (o2, .inl (cI, 12, .inl u.2))]) t) (va_A ([(o1, .inr (4, [.ref o2, .int v4, .int v5])), (o2, .inl (cI, 12, .inl fw3))]) sz)) 0 0 (va_A ([(o1, .inr (4, [.ref o2, .int v4, .int v5])), (o2, .inl (cI, 12, .inl fw3))]) sz) := by
  refine Met.ofW (cc := cX4_set) (maxL := 4) (ret := none) (by decide) rfl ?_
  intro p e s m args below meth c s₁ B hml hv
  obtain ⟨rfl, hsz, hP, hK, hD0, hN⟩ := hv
  have hx := B.exec
  have hb := B.bytes
  have hr := B.returns
  have hts := atoms_spec (ws := wsX4_set) B.pre
  have hown : s.vm.findClass RX4 = some m.cls := findClass_of_methodNamed B.named
  have hlocks := B.notSynchronized
  subst hsz
  have hD := hD0.self (sz := s.heap.size)
  generalize hAe : va_A ([(o1, .inr (4, [.ref o2, .int v4, .int v5])), (o2, .inl (cI, 12, .inl fw3))]) s.heap.size = A at hD ⊢
  have hA : ∀ q : Nat, s.heap.size ≤ q → A q := fun q h => by rw [← hAe]; exact Or.inr h
  have hS : va_S A s.heap s.heap [] := va_S.rf
  have hP : va_P (dC, dI) vwCl ([(o1, .inr (4, [.ref o2, .int v4, .int v5])), (o2, .inl (cI, 12, .inl fw3))]) s.heap := hP
  have hl := lv_entry ([.ref o1, .int a1, .int a2, .int a3]) (n := 4) (Nat.le_of_ble_eq_true rfl)
  rw [lg_entry_eq]
  generalize (lg_sl ([.ref o1, .int a1, .int a2, .int a3]) ++ List.replicate (4 - (lg_sl ([.ref o1, .int a1, .int a2, .int a3])).length) Slot.unset).toArray = ls at hl ⊢
  have hl : lv_has ls 4 [(0, .ref o1), (1, .int a1), (2, .int a2), (3, .int a3)] := hl
  refine gen_Q (fun Q hQ => ?_)
  refine lv_aload_n hx hb dX4_set_0 rfl (lv_at hl 0 rfl) ?_
  refine va_get (D := (dC, dI)) (ci := 4) (v := .ref o2) (C := RX4) (T := TX4) (N := 3) hx hb hts iw_X4_set_X4 hown hK hP 0 rfl rfl 0 (by decide) (hts (.fieldLink RX4 9 "HolelessHouse$Graph" "near" "[I") hm_X4_set_1) (fun _ h9 => h9) rfl dX4_set_1 ?_
  refine lv_iload_n hx hb dX4_set_4 rfl (lv_at hl 1 rfl) ?_
  refine lv_iload_n hx hb dX4_set_5 rfl (lv_at hl 3 rfl) ?_
  refine lv_if_eq (tgt := 22) hx hb dX4_set_6 (by decide) (fun h1 => ?_) (fun h1 => ?_)
  ·
    have j2 : Iv 0 0 a3 := r_eq h1 ik_0
    refine lv_aload_n hx hb dX4_set_22 rfl (lv_at hl 0 rfl) ?_
    refine va_get (D := (dC, dI)) (ci := 4) (v := .ref o2) (C := RX4) (T := TX4) (N := 3) hx hb hts iw_X4_set_X4 hown hK hP 0 rfl rfl 0 (by decide) (hts (.fieldLink RX4 9 "HolelessHouse$Graph" "near" "[I") hm_X4_set_1) (fun _ h9 => h9) rfl dX4_set_23 ?_
    refine lv_iload_n hx hb dX4_set_26 rfl (lv_at hl 1 rfl) ?_
    refine va_iald hx hb hK hP 1 0 rfl rfl (vin_iv a1_h (by decide)) dX4_set_27 (lv_topi (fun x3 x3_e => ?_))
    have x3_h : Iv 0 4095 x3 := iv_e x3_e (bd_at fw3_b (vin_iv a1_h (by decide)))
    refine lv_iconst (v := 1) hx hb dX4_set_28 (by decide) ?_
    refine lv_iload_n hx hb dX4_set_29 rfl (lv_at hl 2 rfl) ?_
    refine lv_ishl hx hb dX4_set_30 (lv_topi (fun x4 x4_e => ?_))
    have x4_h : Iv 1 2048 x4 := iv_e x4_e (iv_shl1 a2_h (by decide))
    refine lv_iconst (v := (-1)) hx hb dX4_set_31 (by decide) ?_
    refine lv_ixor hx hb dX4_set_32 (lv_topi (fun x5 x5_e => ?_))
    refine lv_iand hx hb dX4_set_33 (lv_topi (fun x6 x6_e => ?_))
    have x6_h : Iv 0 4095 x6 := iv_e x6_e (iv_andL _ x3_h (by decide))
    refine k_iast hx hb hK hP hD hS 1 0 rfl rfl (vin_iv a1_h (by decide)) dX4_set_34 (fun f7 H locs f7_e hP hD hS => ?_)
    have f7_b : Bd 12 0 4095 f7 := bd_upd f7_e fw3_b x6_h (by decide)
    have hP : va_P (dC, dI) vwCl ([(o1, .inr (4, [.ref o2, .int v4, .int v5])), (o2, .inl (cI, 12, .inl f7))]) H := hP
    have hD : va_D A ([(o1, .inr (4, [.ref o2, .int v4, .int v5])), (o2, .inl (cI, 12, .inl f7))]) := hD
    refine lv_aload_n hx hb dX4_set_35 rfl (lv_at hl 0 rfl) ?_
    refine va_get (D := (dC, dI)) (ci := 4) (v := .ref o2) (C := RX4) (T := TX4) (N := 3) hx hb hts iw_X4_set_X4 hown hK hP 0 rfl rfl 0 (by decide) (hts (.fieldLink RX4 9 "HolelessHouse$Graph" "near" "[I") hm_X4_set_1) (fun _ h9 => h9) rfl dX4_set_36 ?_
    refine lv_iload_n hx hb dX4_set_39 rfl (lv_at hl 2 rfl) ?_
    refine lv_iload_n hx hb dX4_set_40 rfl (lv_at hl 3 rfl) ?_
    refine lv_if_eq (tgt := 57) hx hb dX4_set_41 (by decide) (fun _ => ?_) (fun h9 => absurd (d_eq j2 ik_0) h9)
    refine lv_aload_n hx hb dX4_set_57 rfl (lv_at hl 0 rfl) ?_
    refine va_get (D := (dC, dI)) (ci := 4) (v := .ref o2) (C := RX4) (T := TX4) (N := 3) hx hb hts iw_X4_set_X4 hown hK hP 0 rfl rfl 0 (by decide) (hts (.fieldLink RX4 9 "HolelessHouse$Graph" "near" "[I") hm_X4_set_1) (fun _ h9 => h9) rfl dX4_set_58 ?_
    refine lv_iload_n hx hb dX4_set_61 rfl (lv_at hl 2 rfl) ?_
    refine va_iald hx hb hK hP 1 0 rfl rfl (vin_iv a2_h (by decide)) dX4_set_62 (lv_topi (fun x8 x8_e => ?_))
    have x8_h : Iv 0 4095 x8 := iv_e x8_e (bd_at f7_b (vin_iv a2_h (by decide)))
    refine lv_iconst (v := 1) hx hb dX4_set_63 (by decide) ?_
    refine lv_iload_n hx hb dX4_set_64 rfl (lv_at hl 1 rfl) ?_
    refine lv_ishl hx hb dX4_set_65 (lv_topi (fun x9 x9_e => ?_))
    have x9_h : Iv 1 2048 x9 := iv_e x9_e (iv_shl1 a1_h (by decide))
    refine lv_iconst (v := (-1)) hx hb dX4_set_66 (by decide) ?_
    refine lv_ixor hx hb dX4_set_67 (lv_topi (fun x10 x10_e => ?_))
    refine lv_iand hx hb dX4_set_68 (lv_topi (fun x11 x11_e => ?_))
    have x11_h : Iv 0 4095 x11 := iv_e x11_e (iv_andL _ x8_h (by decide))
    refine k_iast hx hb hK hP hD hS 1 0 rfl rfl (vin_iv a2_h (by decide)) dX4_set_69 (fun f12 H locs f12_e hP hD hS => ?_)
    have f12_b : Bd 12 0 4095 f12 := bd_upd f12_e f7_b x11_h (by decide)
    have hP : va_P (dC, dI) vwCl ([(o1, .inr (4, [.ref o2, .int v4, .int v5])), (o2, .inl (cI, 12, .inl f12))]) H := hP
    have hD : va_D A ([(o1, .inr (4, [.ref o2, .int v4, .int v5])), (o2, .inl (cI, 12, .inl f12))]) := hD
    refine lv_aload_n hx hb dX4_set_70 rfl (lv_at hl 0 rfl) ?_
    refine lv_dup hx hb dX4_set_71 rfl ?_
    refine va_get (D := (dC, dI)) (ci := 4) (v := .int v5) (C := RX4) (T := TX4) (N := 3) hx hb hts iw_X4_set_X4 hown hK hP 0 rfl rfl 2 (by decide) (hts (.fieldLink RX4 19 "HolelessHouse$Graph" "version" "I") hm_X4_set_2) (fun _ h9 => h9) rfl dX4_set_72 ?_
    refine lv_iconst (v := 1) hx hb dX4_set_75 (by decide) ?_
    refine lv_iadd hx hb dX4_set_76 (lv_topi (fun x13 x13_e => ?_))
    refine va_put (D := (dC, dI)) (ci := 4) (v := .int x13) (ty := .int) (C := RX4) (T := TX4) (N := 3) hx hb hts iw_X4_set_X4 tyX4 tyX4_ok nmX4 hown hK hP hD hS 0 rfl rfl 2 (by decide) (hts (.fieldLink RX4 19 "HolelessHouse$Graph" "version" "I") hm_X4_set_2) (fun _ h9 => h9) rfl (by decide +kernel) rfl rfl (Nat.le_of_ble_eq_true rfl) dX4_set_77 (fun H locs hP hD hS => ?_)
    have hP : va_P (dC, dI) vwCl ([(o1, .inr (4, [.ref o2, .int v4, .int x13])), (o2, .inl (cI, 12, .inl f12))]) H := hP
    have hD : va_D A ([(o1, .inr (4, [.ref o2, .int v4, .int x13])), (o2, .inl (cI, 12, .inl f12))]) := hD
    rw [hQ]
    exact W.vret hx hb hr (fun t ht hW => ⟨⟨(x13, f12), rfl, f12_b, by rw [ht]; exact hP, va_K.moved hW.alike hK, hD⟩, hS.F ht⟩) hS.2.2 dX4_set_80
  ·
    have j14 : Iv 1 1 a3 := r_nelo h1 a3_h ik_0 (by decide)
    refine lv_aload_n hx hb dX4_set_9 rfl (lv_at hl 0 rfl) ?_
    refine va_get (D := (dC, dI)) (ci := 4) (v := .ref o2) (C := RX4) (T := TX4) (N := 3) hx hb hts iw_X4_set_X4 hown hK hP 0 rfl rfl 0 (by decide) (hts (.fieldLink RX4 9 "HolelessHouse$Graph" "near" "[I") hm_X4_set_1) (fun _ h9 => h9) rfl dX4_set_10 ?_
    refine lv_iload_n hx hb dX4_set_13 rfl (lv_at hl 1 rfl) ?_
    refine va_iald hx hb hK hP 1 0 rfl rfl (vin_iv a1_h (by decide)) dX4_set_14 (lv_topi (fun x15 x15_e => ?_))
    have x15_h : Iv 0 4095 x15 := iv_e x15_e (bd_at fw3_b (vin_iv a1_h (by decide)))
    refine lv_iconst (v := 1) hx hb dX4_set_15 (by decide) ?_
    refine lv_iload_n hx hb dX4_set_16 rfl (lv_at hl 2 rfl) ?_
    refine lv_ishl hx hb dX4_set_17 (lv_topi (fun x16 x16_e => ?_))
    have x16_h : Iv 1 2048 x16 := iv_e x16_e (iv_shl1 a2_h (by decide))
    refine lv_ior hx hb dX4_set_18 (lv_topi (fun x17 x17_e => ?_))
    have x17_h : Iv 0 4095 x17 := iv_e x17_e (iv_or 12 x15_h x16_h (by decide))
    refine lv_goto (tgt := 34) hx hb dX4_set_19 (by decide) ?_
    refine k_iast hx hb hK hP hD hS 1 0 rfl rfl (vin_iv a1_h (by decide)) dX4_set_34 (fun f18 H locs f18_e hP hD hS => ?_)
    have f18_b : Bd 12 0 4095 f18 := bd_upd f18_e fw3_b x17_h (by decide)
    have hP : va_P (dC, dI) vwCl ([(o1, .inr (4, [.ref o2, .int v4, .int v5])), (o2, .inl (cI, 12, .inl f18))]) H := hP
    have hD : va_D A ([(o1, .inr (4, [.ref o2, .int v4, .int v5])), (o2, .inl (cI, 12, .inl f18))]) := hD
    refine lv_aload_n hx hb dX4_set_35 rfl (lv_at hl 0 rfl) ?_
    refine va_get (D := (dC, dI)) (ci := 4) (v := .ref o2) (C := RX4) (T := TX4) (N := 3) hx hb hts iw_X4_set_X4 hown hK hP 0 rfl rfl 0 (by decide) (hts (.fieldLink RX4 9 "HolelessHouse$Graph" "near" "[I") hm_X4_set_1) (fun _ h9 => h9) rfl dX4_set_36 ?_
    refine lv_iload_n hx hb dX4_set_39 rfl (lv_at hl 2 rfl) ?_
    refine lv_iload_n hx hb dX4_set_40 rfl (lv_at hl 3 rfl) ?_
    refine lv_if_eq (tgt := 57) hx hb dX4_set_41 (by decide) (fun h9 => absurd h9 (d_ne j14 ik_0 (by decide))) (fun _ => ?_)
    refine lv_aload_n hx hb dX4_set_44 rfl (lv_at hl 0 rfl) ?_
    refine va_get (D := (dC, dI)) (ci := 4) (v := .ref o2) (C := RX4) (T := TX4) (N := 3) hx hb hts iw_X4_set_X4 hown hK hP 0 rfl rfl 0 (by decide) (hts (.fieldLink RX4 9 "HolelessHouse$Graph" "near" "[I") hm_X4_set_1) (fun _ h9 => h9) rfl dX4_set_45 ?_
    refine lv_iload_n hx hb dX4_set_48 rfl (lv_at hl 2 rfl) ?_
    refine va_iald hx hb hK hP 1 0 rfl rfl (vin_iv a2_h (by decide)) dX4_set_49 (lv_topi (fun x19 x19_e => ?_))
    have x19_h : Iv 0 4095 x19 := iv_e x19_e (bd_at f18_b (vin_iv a2_h (by decide)))
    refine lv_iconst (v := 1) hx hb dX4_set_50 (by decide) ?_
    refine lv_iload_n hx hb dX4_set_51 rfl (lv_at hl 1 rfl) ?_
    refine lv_ishl hx hb dX4_set_52 (lv_topi (fun x20 x20_e => ?_))
    have x20_h : Iv 1 2048 x20 := iv_e x20_e (iv_shl1 a1_h (by decide))
    refine lv_ior hx hb dX4_set_53 (lv_topi (fun x21 x21_e => ?_))
    have x21_h : Iv 0 4095 x21 := iv_e x21_e (iv_or 12 x19_h x20_h (by decide))
    refine lv_goto (tgt := 69) hx hb dX4_set_54 (by decide) ?_
    refine k_iast hx hb hK hP hD hS 1 0 rfl rfl (vin_iv a2_h (by decide)) dX4_set_69 (fun f22 H locs f22_e hP hD hS => ?_)
    have f22_b : Bd 12 0 4095 f22 := bd_upd f22_e f18_b x21_h (by decide)
    have hP : va_P (dC, dI) vwCl ([(o1, .inr (4, [.ref o2, .int v4, .int v5])), (o2, .inl (cI, 12, .inl f22))]) H := hP
    have hD : va_D A ([(o1, .inr (4, [.ref o2, .int v4, .int v5])), (o2, .inl (cI, 12, .inl f22))]) := hD
    refine lv_aload_n hx hb dX4_set_70 rfl (lv_at hl 0 rfl) ?_
    refine lv_dup hx hb dX4_set_71 rfl ?_
    refine va_get (D := (dC, dI)) (ci := 4) (v := .int v5) (C := RX4) (T := TX4) (N := 3) hx hb hts iw_X4_set_X4 hown hK hP 0 rfl rfl 2 (by decide) (hts (.fieldLink RX4 19 "HolelessHouse$Graph" "version" "I") hm_X4_set_2) (fun _ h9 => h9) rfl dX4_set_72 ?_
    refine lv_iconst (v := 1) hx hb dX4_set_75 (by decide) ?_
    refine lv_iadd hx hb dX4_set_76 (lv_topi (fun x23 x23_e => ?_))
    refine va_put (D := (dC, dI)) (ci := 4) (v := .int x23) (ty := .int) (C := RX4) (T := TX4) (N := 3) hx hb hts iw_X4_set_X4 tyX4 tyX4_ok nmX4 hown hK hP hD hS 0 rfl rfl 2 (by decide) (hts (.fieldLink RX4 19 "HolelessHouse$Graph" "version" "I") hm_X4_set_2) (fun _ h9 => h9) rfl (by decide +kernel) rfl rfl (Nat.le_of_ble_eq_true rfl) dX4_set_77 (fun H locs hP hD hS => ?_)
    have hP : va_P (dC, dI) vwCl ([(o1, .inr (4, [.ref o2, .int v4, .int x23])), (o2, .inl (cI, 12, .inl f22))]) H := hP
    have hD : va_D A ([(o1, .inr (4, [.ref o2, .int v4, .int x23])), (o2, .inl (cI, 12, .inl f22))]) := hD
    rw [hQ]
    exact W.vret hx hb hr (fun t ht hW => ⟨⟨(x23, f22), rfl, f22_b, by rw [ht]; exact hP, va_K.moved hW.alike hK, hD⟩, hS.F ht⟩) hS.2.2 dX4_set_80
theorem iw_X11_join_X11 : ∀ w ∈ wsX110, w ∈ wsX11_join := fun _ h => List.mem_cons.mpr (Or.inr (List.mem_append.mpr (Or.inl (List.mem_append.mpr (Or.inl (List.mem_append.mpr (Or.inr h)))))))
set_option maxHeartbeats 4000000 in
set_option maxRecDepth 100000 in
theorem kX11_join_1 (l : Launch) (dC : Nat → ClassId) (dI : Nat → Nat → Nat) (cI c2 cZ : ClassId) (o1 : Nat) (o2 : Nat) (o7 : Nat) (o12 : Nat) (o41 : Nat) (o51 : Nat) (o64 : Nat) (o77 : Nat) (o84 : Nat) (o91 : Nat) (o99 : Nat) (o111 : Nat) (o123 : Nat) (o3 : Nat) (o13 : Nat) (o18 : Nat) (o32 : Nat) (o34 : Nat) (fw4 : Nat → Int32) (v5 : Int32) (v6 : Int32) (v36 : Int32) (v37 : Int32) (v38 : Int32) (v39 : Int32) (v40 : Int32) (v125 : Int32) (a1 : Int32) (a2 : Int32) (a3 : Int32) (sz : Nat) (fw4_b : Bd 12 0 4095 fw4) (v5_h : Iv 0 12 v5) (v36_h : Iv 0 12 v36) (v37_h : Iv 0 12 v37) (v38_h : Iv 0 1 v38) (a3_h : Iv 0 1 a3) : Met l yX11_join wsX11_join ({ frames := 2, cells := 0, slots := 0, locals := 43 }) (va_Pc [.ref o1, .int a1, .int a2, .int a3] (wPre (dC, dI) [(cI, .int), (c2, .array .int), (cZ, .boolean)] ([(o1, .inr (11, [.ref o2, .ref o7, .ref o12, .ref o41, .ref o51, .ref o64, .ref o77, .ref o84, .ref o91, .ref o99, .ref o111, .ref o123, .int v125])), (o2, .inr (4, [.ref o3, .int v5, .int v6])), (o3, .inl (cI, 12, .inl fw4)), (o12, .inr (6, [.ref o13, .ref o18, .ref o32, .ref o34, .int v36, .int v37, .int v38, .int v39, .int v40]))]) sz)) (va_Qi (fun (r : Int32) (u : Int32 × (Nat → Int32) × Int32) => Iv (-1) 1 r ∧ Bd 12 0 4095 u.2.1 ∧ Iv 0 1 u.2.2) (fun u t => wPost (dC, dI) [(cI, .int), (c2, .array .int), (cZ, .boolean)] (va_A ([(o1, .inr (11, [.ref o2, .ref o7, .ref o12, .ref o41, .ref o51, .ref o64, .ref o77, .ref o84, .ref o91, .ref o99, .ref o111, .ref o123, .int v125])), (o2, .inr (4, [.ref o3, .int v5, .int v6])), (o3, .inl (cI, 12, .inl fw4)), (o12, .inr (6, [.ref o13, .ref o18, .ref o32, .ref o34, .int v36, .int v37, .int v38, .int v39, .int v40]))]) sz) ([(o1, .inr (11, [.ref o2, .ref o7, .ref o12, .ref o41, .ref o51, .ref o64, .ref o77, .ref o84, .ref o91, .ref o99, .ref o111, .ref o123, .int v125])), (o2, .inr (4, [.ref o3, .int v5, .int u.1])), (o3, .inl (cI, 12, .inl u.2.1)), (o12, .inr (6, [.ref o13, .ref o18, .ref o32, .ref o34, .int v36, .int v37, .int u.2.2, .int v39, .int v40]))]) t) (va_A ([(o1, .inr (11, [.ref o2, .ref o7, .ref o12, .ref o41, .ref o51, .ref o64, .ref o77, .ref o84, .ref o91, .ref o99, .ref o111, .ref o123, .int v125])), (o2, .inr (4, [.ref o3, .int v5, .int v6])), (o3, .inl (cI, 12, .inl fw4)), (o12, .inr (6, [.ref o13, .ref o18, .ref o32, .ref o34, .int v36, .int v37, .int v38, .int v39, .int v40]))]) sz)) 0 0 (va_A ([(o1, .inr (11, [.ref o2, .ref o7, .ref o12, .ref o41, .ref o51, .ref o64, .ref o77, .ref o84, .ref o91, .ref o99, .ref o111, .ref o123, .int v125])), (o2, .inr (4, [.ref o3, .int v5, .int v6])), (o3, .inl (cI, 12, .inl fw4)), (o12, .inr (6, [.ref o13, .ref o18, .ref o32, .ref o34, .int v36, .int v37, .int v38, .int v39, .int v40]))]) sz) := by
  refine Met.ofW (cc := cX11_join) (maxL := 5) (ret := (some .int)) (by decide) rfl ?_
  intro p e s m args below meth c s₁ B hml hv
  obtain ⟨rfl, hsz, hP, hK, hD0, hN⟩ := hv
  have hx := B.exec
  have hb := B.bytes
  have hr := B.returns
  have hts := atoms_spec (ws := wsX11_join) B.pre
  have hown : s.vm.findClass RX11 = some m.cls := findClass_of_methodNamed B.named
  have hlocks := B.notSynchronized
  subst hsz
  have hD := hD0.self (sz := s.heap.size)
  generalize hAe : va_A ([(o1, .inr (11, [.ref o2, .ref o7, .ref o12, .ref o41, .ref o51, .ref o64, .ref o77, .ref o84, .ref o91, .ref o99, .ref o111, .ref o123, .int v125])), (o2, .inr (4, [.ref o3, .int v5, .int v6])), (o3, .inl (cI, 12, .inl fw4)), (o12, .inr (6, [.ref o13, .ref o18, .ref o32, .ref o34, .int v36, .int v37, .int v38, .int v39, .int v40]))]) s.heap.size = A at hD ⊢
  have hA : ∀ q : Nat, s.heap.size ≤ q → A q := fun q h => by rw [← hAe]; exact Or.inr h
  have hS : va_S A s.heap s.heap [] := va_S.rf
  have hP : va_P (dC, dI) vwCl ([(o1, .inr (11, [.ref o2, .ref o7, .ref o12, .ref o41, .ref o51, .ref o64, .ref o77, .ref o84, .ref o91, .ref o99, .ref o111, .ref o123, .int v125])), (o2, .inr (4, [.ref o3, .int v5, .int v6])), (o3, .inl (cI, 12, .inl fw4)), (o12, .inr (6, [.ref o13, .ref o18, .ref o32, .ref o34, .int v36, .int v37, .int v38, .int v39, .int v40]))]) s.heap := hP
  have hl := lv_entry ([.ref o1, .int a1, .int a2, .int a3]) (n := 5) (Nat.le_of_ble_eq_true rfl)
  rw [lg_entry_eq]
  generalize (lg_sl ([.ref o1, .int a1, .int a2, .int a3]) ++ List.replicate (5 - (lg_sl ([.ref o1, .int a1, .int a2, .int a3])).length) Slot.unset).toArray = ls at hl ⊢
  have hl : lv_has ls 5 [(0, .ref o1), (1, .int a1), (2, .int a2), (3, .int a3)] := hl
  refine gen_Q (fun Q hQ => ?_)
  refine lv_aload_n hx hb dX11_join_0 rfl (lv_at hl 0 rfl) ?_
  refine va_get (D := (dC, dI)) (ci := 11) (v := .ref o2) (C := RX11) (T := TX11) (N := 13) hx hb hts iw_X11_join_X11 hown hK hP 0 rfl rfl 0 (by decide) (hts (.fieldLink RX11 10 "HolelessHouse" "graph" "LHolelessHouse$Graph;") hm_X11_join_1) (fun _ h9 => h9) rfl dX11_join_1 ?_
  refine lv_iload_n hx hb dX11_join_4 rfl (lv_at hl 1 rfl) ?_
  refine kc_i (D := (dC, dI)) (S := Unit) (wc := [(o2, .inr (4, [.ref o3, .int v5, .int v6]))]) (wr := [(o1, .inr (11, [.ref o2, .ref o7, .ref o12, .ref o41, .ref o51, .ref o64, .ref o77, .ref o84, .ref o91, .ref o99, .ref o111, .ref o123, .int v125])), (o3, .inl (cI, 12, .inl fw4)), (o12, .inr (6, [.ref o13, .ref o18, .ref o32, .ref o34, .int v36, .int v37, .int v38, .int v39, .int v40]))]) (w1 := fun _ => [(o2, .inr (4, [.ref o3, .int v5, .int v6]))]) (wn := fun _ => [(o1, .inr (11, [.ref o2, .ref o7, .ref o12, .ref o41, .ref o51, .ref o64, .ref o77, .ref o84, .ref o91, .ref o99, .ref o111, .ref o123, .int v125])), (o2, .inr (4, [.ref o3, .int v5, .int v6])), (o3, .inl (cI, 12, .inl fw4)), (o12, .inr (6, [.ref o13, .ref o18, .ref o32, .ref o34, .int v36, .int v37, .int v38, .int v39, .int v40]))]) (fun hPc hDc => va_runVN (As := [.int a1]) (rest := []) ⟨hx, hb, hml, hown, hts⟩ (kX4_has_1 l dC dI cI c2 cZ o2 o3 v5 v6 a1 s.heap.size v5_h) ⟨va_cnB 1 hts gX11_join_X4_has_n93 rfl rfl rfl (hN.1 _ ns_66) (hts (.initialized RX4) hm_X11_join_4) (by decide +kernel) ⟨Nat.le_of_ble_eq_true rfl, Nat.le_of_ble_eq_true rfl⟩, (hts (.instanceMethod yX4_has) hm_X11_join_3), (hts (.selects RX4 yX4_has yX4_has) hm_X11_join_5)⟩ (pre_V hPc hK hDc hN (ci := 4) (q0 := 0) rfl rfl) rfl rfl hl.1 rfl (lv_room (Nat.le_of_ble_eq_true rfl)) dX11_join_5 ⟨Nat.le_of_ble_eq_true rfl, Nat.le_of_ble_eq_true rfl⟩) hP hD hS hA [1] [0, 2, 3] [0, 3, 1, 2] rfl rfl (by decide +kernel) (by decide +kernel) (by decide +kernel) (by decide +kernel) (fun _ => rfl) (fun x1 _ H locs hq hP hD hS => ?_)
  obtain ⟨x1_h, i2⟩ := hq
  have hP : va_P (dC, dI) vwCl ([(o1, .inr (11, [.ref o2, .ref o7, .ref o12, .ref o41, .ref o51, .ref o64, .ref o77, .ref o84, .ref o91, .ref o99, .ref o111, .ref o123, .int v125])), (o2, .inr (4, [.ref o3, .int v5, .int v6])), (o3, .inl (cI, 12, .inl fw4)), (o12, .inr (6, [.ref o13, .ref o18, .ref o32, .ref o34, .int v36, .int v37, .int v38, .int v39, .int v40]))]) H := hP
  have hD : va_D A ([(o1, .inr (11, [.ref o2, .ref o7, .ref o12, .ref o41, .ref o51, .ref o64, .ref o77, .ref o84, .ref o91, .ref o99, .ref o111, .ref o123, .int v125])), (o2, .inr (4, [.ref o3, .int v5, .int v6])), (o3, .inl (cI, 12, .inl fw4)), (o12, .inr (6, [.ref o13, .ref o18, .ref o32, .ref o34, .int v36, .int v37, .int v38, .int v39, .int v40]))]) := hD
  refine lv_if_eq (tgt := 27) hx hb dX11_join_8 (by decide) (fun h3 => ?_) (fun h3 => ?_)
  ·
    have j4 : Iv 0 0 x1 := r_eq h3 ik_0
    refine lv_iconst (v := (-1)) hx hb dX11_join_27 (by decide) ?_
    rw [hQ]
    exact W.iret (v := (-1)) hx hb hr (fun t ht hW => ⟨⟨(-1), (v6, fw4, v38), rfl, ⟨(iv_w ikm_1 (by decide)), fw4_b, v38_h⟩, by rw [ht]; exact hP, va_K.moved hW.alike hK, hD⟩, hS.F ht⟩) hS.2.2 dX11_join_28
  ·
    have j5 : Iv 1 1 x1 := r_nelo h3 x1_h ik_0 (by decide)
    have j6 : Iv 0 11 a1 := i2 h3
    refine lv_aload_n hx hb dX11_join_11 rfl (lv_at hl 0 rfl) ?_
    refine va_get (D := (dC, dI)) (ci := 11) (v := .ref o2) (C := RX11) (T := TX11) (N := 13) hx hb hts iw_X11_join_X11 hown hK hP 0 rfl rfl 0 (by decide) (hts (.fieldLink RX11 10 "HolelessHouse" "graph" "LHolelessHouse$Graph;") hm_X11_join_1) (fun _ h9 => h9) rfl dX11_join_12 ?_
    refine lv_iload_n hx hb dX11_join_15 rfl (lv_at hl 2 rfl) ?_
    refine kc_i (D := (dC, dI)) (S := Unit) (wc := [(o2, .inr (4, [.ref o3, .int v5, .int v6]))]) (wr := [(o1, .inr (11, [.ref o2, .ref o7, .ref o12, .ref o41, .ref o51, .ref o64, .ref o77, .ref o84, .ref o91, .ref o99, .ref o111, .ref o123, .int v125])), (o3, .inl (cI, 12, .inl fw4)), (o12, .inr (6, [.ref o13, .ref o18, .ref o32, .ref o34, .int v36, .int v37, .int v38, .int v39, .int v40]))]) (w1 := fun _ => [(o2, .inr (4, [.ref o3, .int v5, .int v6]))]) (wn := fun _ => [(o1, .inr (11, [.ref o2, .ref o7, .ref o12, .ref o41, .ref o51, .ref o64, .ref o77, .ref o84, .ref o91, .ref o99, .ref o111, .ref o123, .int v125])), (o2, .inr (4, [.ref o3, .int v5, .int v6])), (o3, .inl (cI, 12, .inl fw4)), (o12, .inr (6, [.ref o13, .ref o18, .ref o32, .ref o34, .int v36, .int v37, .int v38, .int v39, .int v40]))]) (fun hPc hDc => va_runVN (As := [.int a2]) (rest := []) ⟨hx, hb, hml, hown, hts⟩ (kX4_has_1 l dC dI cI c2 cZ o2 o3 v5 v6 a2 H.size v5_h) ⟨va_cnB 1 hts gX11_join_X4_has_n93 rfl rfl rfl (hN.1 _ ns_66) (hts (.initialized RX4) hm_X11_join_4) (by decide +kernel) ⟨Nat.le_of_ble_eq_true rfl, Nat.le_of_ble_eq_true rfl⟩, (hts (.instanceMethod yX4_has) hm_X11_join_3), (hts (.selects RX4 yX4_has yX4_has) hm_X11_join_5)⟩ (pre_V hPc hK hDc hN (ci := 4) (q0 := 0) rfl rfl) rfl rfl hl.1 rfl (lv_room (Nat.le_of_ble_eq_true rfl)) dX11_join_16 ⟨Nat.le_of_ble_eq_true rfl, Nat.le_of_ble_eq_true rfl⟩) hP hD hS hA [1] [0, 2, 3] [0, 3, 1, 2] rfl rfl (by decide +kernel) (by decide +kernel) (by decide +kernel) (by decide +kernel) (fun _ => rfl) (fun x7 _ H locs hq hP hD hS => ?_)
    obtain ⟨x7_h, i8⟩ := hq
    have hP : va_P (dC, dI) vwCl ([(o1, .inr (11, [.ref o2, .ref o7, .ref o12, .ref o41, .ref o51, .ref o64, .ref o77, .ref o84, .ref o91, .ref o99, .ref o111, .ref o123, .int v125])), (o2, .inr (4, [.ref o3, .int v5, .int v6])), (o3, .inl (cI, 12, .inl fw4)), (o12, .inr (6, [.ref o13, .ref o18, .ref o32, .ref o34, .int v36, .int v37, .int v38, .int v39, .int v40]))]) H := hP
    have hD : va_D A ([(o1, .inr (11, [.ref o2, .ref o7, .ref o12, .ref o41, .ref o51, .ref o64, .ref o77, .ref o84, .ref o91, .ref o99, .ref o111, .ref o123, .int v125])), (o2, .inr (4, [.ref o3, .int v5, .int v6])), (o3, .inl (cI, 12, .inl fw4)), (o12, .inr (6, [.ref o13, .ref o18, .ref o32, .ref o34, .int v36, .int v37, .int v38, .int v39, .int v40]))]) := hD
    refine lv_if_eq (tgt := 27) hx hb dX11_join_19 (by decide) (fun h9 => ?_) (fun h9 => ?_)
    ·
      have j10 : Iv 0 0 x7 := r_eq h9 ik_0
      refine lv_iconst (v := (-1)) hx hb dX11_join_27 (by decide) ?_
      rw [hQ]
      exact W.iret (v := (-1)) hx hb hr (fun t ht hW => ⟨⟨(-1), (v6, fw4, v38), rfl, ⟨(iv_w ikm_1 (by decide)), fw4_b, v38_h⟩, by rw [ht]; exact hP, va_K.moved hW.alike hK, hD⟩, hS.F ht⟩) hS.2.2 dX11_join_28
    ·
      have j11 : Iv 1 1 x7 := r_nelo h9 x7_h ik_0 (by decide)
      have j12 : Iv 0 11 a2 := i8 h9
      refine lv_iload_n hx hb dX11_join_22 rfl (lv_at hl 1 rfl) ?_
      refine lv_iload_n hx hb dX11_join_23 rfl (lv_at hl 2 rfl) ?_
      refine lv_icmp_ne (tgt := 29) hx hb dX11_join_24 (by decide) (fun h13 => ?_) (fun h13 => ?_)
      ·
        refine lv_aload_n hx hb dX11_join_29 rfl (lv_at hl 0 rfl) ?_
        refine va_get (D := (dC, dI)) (ci := 11) (v := .ref o2) (C := RX11) (T := TX11) (N := 13) hx hb hts iw_X11_join_X11 hown hK hP 0 rfl rfl 0 (by decide) (hts (.fieldLink RX11 10 "HolelessHouse" "graph" "LHolelessHouse$Graph;") hm_X11_join_1) (fun _ h9 => h9) rfl dX11_join_30 ?_
        refine lv_iload_n hx hb dX11_join_33 rfl (lv_at hl 1 rfl) ?_
        refine lv_iload_n hx hb dX11_join_34 rfl (lv_at hl 2 rfl) ?_
        refine kc_i (D := (dC, dI)) (S := Unit) (wc := [(o2, .inr (4, [.ref o3, .int v5, .int v6])), (o3, .inl (cI, 12, .inl fw4))]) (wr := [(o1, .inr (11, [.ref o2, .ref o7, .ref o12, .ref o41, .ref o51, .ref o64, .ref o77, .ref o84, .ref o91, .ref o99, .ref o111, .ref o123, .int v125])), (o12, .inr (6, [.ref o13, .ref o18, .ref o32, .ref o34, .int v36, .int v37, .int v38, .int v39, .int v40]))]) (w1 := fun _ => [(o2, .inr (4, [.ref o3, .int v5, .int v6])), (o3, .inl (cI, 12, .inl fw4))]) (wn := fun _ => [(o1, .inr (11, [.ref o2, .ref o7, .ref o12, .ref o41, .ref o51, .ref o64, .ref o77, .ref o84, .ref o91, .ref o99, .ref o111, .ref o123, .int v125])), (o2, .inr (4, [.ref o3, .int v5, .int v6])), (o3, .inl (cI, 12, .inl fw4)), (o12, .inr (6, [.ref o13, .ref o18, .ref o32, .ref o34, .int v36, .int v37, .int v38, .int v39, .int v40]))]) (fun hPc hDc => va_runVN (As := [.int a1, .int a2]) (rest := []) ⟨hx, hb, hml, hown, hts⟩ (kX4_touches_1 l dC dI cI c2 cZ o2 o3 fw4 v5 v6 a1 a2 H.size fw4_b v5_h j6 j12) ⟨va_cnB 2 hts gX11_join_X4_touches_n97 rfl rfl rfl (hN.1 _ ns_67) (hts (.initialized RX4) hm_X11_join_4) (by decide +kernel) ⟨Nat.le_of_ble_eq_true rfl, Nat.le_of_ble_eq_true rfl⟩, (hts (.instanceMethod yX4_touches) hm_X11_join_8), (hts (.selects RX4 yX4_touches yX4_touches) hm_X11_join_9)⟩ (pre_V hPc hK hDc hN (ci := 4) (q0 := 0) rfl rfl) rfl rfl hl.1 rfl (lv_room (Nat.le_of_ble_eq_true rfl)) dX11_join_35 ⟨Nat.le_of_ble_eq_true rfl, Nat.le_of_ble_eq_true rfl⟩) hP hD hS hA [1, 2] [0, 3] [0, 2, 3, 1] rfl rfl (by decide +kernel) (by decide +kernel) (by decide +kernel) (by decide +kernel) (fun _ => rfl) (fun x14 _ H locs hq hP hD hS => ?_)
        have x14_h := hq
        have hP : va_P (dC, dI) vwCl ([(o1, .inr (11, [.ref o2, .ref o7, .ref o12, .ref o41, .ref o51, .ref o64, .ref o77, .ref o84, .ref o91, .ref o99, .ref o111, .ref o123, .int v125])), (o2, .inr (4, [.ref o3, .int v5, .int v6])), (o3, .inl (cI, 12, .inl fw4)), (o12, .inr (6, [.ref o13, .ref o18, .ref o32, .ref o34, .int v36, .int v37, .int v38, .int v39, .int v40]))]) H := hP
        have hD : va_D A ([(o1, .inr (11, [.ref o2, .ref o7, .ref o12, .ref o41, .ref o51, .ref o64, .ref o77, .ref o84, .ref o91, .ref o99, .ref o111, .ref o123, .int v125])), (o2, .inr (4, [.ref o3, .int v5, .int v6])), (o3, .inl (cI, 12, .inl fw4)), (o12, .inr (6, [.ref o13, .ref o18, .ref o32, .ref o34, .int v36, .int v37, .int v38, .int v39, .int v40]))]) := hD
        refine lv_if_eq (tgt := 45) hx hb dX11_join_38 (by decide) (fun h15 => ?_) (fun h15 => ?_)
        ·
          have j16 : Iv 0 0 x14 := r_eq h15 ik_0
          refine lv_iconst (v := 0) hx hb dX11_join_45 (by decide) ?_
          refine lv_istore (lv' := [(4, .int 0), (0, .ref o1), (1, .int a1), (2, .int a2), (3, .int a3)]) hx hb dX11_join_46 hl (by decide) rfl (fun ls hl => ?_)
          refine lv_aload_n hx hb dX11_join_48 rfl (lv_at hl 1 rfl) ?_
          refine va_get (D := (dC, dI)) (ci := 11) (v := .ref o2) (C := RX11) (T := TX11) (N := 13) hx hb hts iw_X11_join_X11 hown hK hP 0 rfl rfl 0 (by decide) (hts (.fieldLink RX11 10 "HolelessHouse" "graph" "LHolelessHouse$Graph;") hm_X11_join_1) (fun _ h9 => h9) rfl dX11_join_49 ?_
          refine lv_iload_n hx hb dX11_join_52 rfl (lv_at hl 2 rfl) ?_
          refine lv_iload_n hx hb dX11_join_53 rfl (lv_at hl 3 rfl) ?_
          refine lv_iload_n hx hb dX11_join_54 rfl (lv_at hl 4 rfl) ?_
          refine kc_v (D := (dC, dI)) (S := Int32 × (Nat → Int32)) (wc := [(o2, .inr (4, [.ref o3, .int v5, .int v6])), (o3, .inl (cI, 12, .inl fw4))]) (wr := [(o1, .inr (11, [.ref o2, .ref o7, .ref o12, .ref o41, .ref o51, .ref o64, .ref o77, .ref o84, .ref o91, .ref o99, .ref o111, .ref o123, .int v125])), (o12, .inr (6, [.ref o13, .ref o18, .ref o32, .ref o34, .int v36, .int v37, .int v38, .int v39, .int v40]))]) (w1 := fun u => [(o2, .inr (4, [.ref o3, .int v5, .int u.1])), (o3, .inl (cI, 12, .inl u.2))]) (wn := fun u => [(o1, .inr (11, [.ref o2, .ref o7, .ref o12, .ref o41, .ref o51, .ref o64, .ref o77, .ref o84, .ref o91, .ref o99, .ref o111, .ref o123, .int v125])), (o2, .inr (4, [.ref o3, .int v5, .int u.1])), (o3, .inl (cI, 12, .inl u.2)), (o12, .inr (6, [.ref o13, .ref o18, .ref o32, .ref o34, .int v36, .int v37, .int v38, .int v39, .int v40]))]) (fun hPc hDc => va_runVN (As := [.int a1, .int a2, .int a3]) (rest := []) ⟨hx, hb, hml, hown, hts⟩ (kX4_set_1 l dC dI cI c2 cZ o2 o3 fw4 v5 v6 a1 a2 a3 H.size fw4_b v5_h j6 j12 a3_h) ⟨va_cnB 3 hts gX11_join_X4_set_n101 rfl rfl rfl (hN.1 _ ns_69) (hts (.initialized RX4) hm_X11_join_4) (by decide +kernel) ⟨Nat.le_of_ble_eq_true rfl, Nat.le_of_ble_eq_true rfl⟩, (hts (.instanceMethod yX4_set) hm_X11_join_15), (hts (.selects RX4 yX4_set yX4_set) hm_X11_join_16)⟩ (pre_V hPc hK hDc hN (ci := 4) (q0 := 0) rfl rfl) rfl rfl hl.1 rfl (lv_room (Nat.le_of_ble_eq_true rfl)) dX11_join_55 ⟨Nat.le_of_ble_eq_true rfl, Nat.le_of_ble_eq_true rfl⟩) hP hD hS hA [1, 2] [0, 3] [0, 2, 3, 1] rfl rfl (by decide +kernel) (by decide +kernel) (by decide +kernel) (by decide +kernel) (fun _ => rfl) (fun u H locs hq hP hD hS => ?_)
          obtain ⟨y17, f18⟩ := u
          have f18_b := hq
          have hP : va_P (dC, dI) vwCl ([(o1, .inr (11, [.ref o2, .ref o7, .ref o12, .ref o41, .ref o51, .ref o64, .ref o77, .ref o84, .ref o91, .ref o99, .ref o111, .ref o123, .int v125])), (o2, .inr (4, [.ref o3, .int v5, .int y17])), (o3, .inl (cI, 12, .inl f18)), (o12, .inr (6, [.ref o13, .ref o18, .ref o32, .ref o34, .int v36, .int v37, .int v38, .int v39, .int v40]))]) H := hP
          have hD : va_D A ([(o1, .inr (11, [.ref o2, .ref o7, .ref o12, .ref o41, .ref o51, .ref o64, .ref o77, .ref o84, .ref o91, .ref o99, .ref o111, .ref o123, .int v125])), (o2, .inr (4, [.ref o3, .int v5, .int y17])), (o3, .inl (cI, 12, .inl f18)), (o12, .inr (6, [.ref o13, .ref o18, .ref o32, .ref o34, .int v36, .int v37, .int v38, .int v39, .int v40]))]) := hD
          refine lv_aload_n hx hb dX11_join_58 rfl (lv_at hl 1 rfl) ?_
          refine va_get (D := (dC, dI)) (ci := 11) (v := .ref o12) (C := RX11) (T := TX11) (N := 13) hx hb hts iw_X11_join_X11 hown hK hP 0 rfl rfl 2 (by decide) (hts (.fieldLink RX11 26 "HolelessHouse" "ordering" "LHolelessHouse$Ordering;") hm_X11_join_2) (fun _ h9 => h9) rfl dX11_join_59 ?_
          refine kc_v (D := (dC, dI)) (S := Int32) (wc := [(o12, .inr (6, [.ref o13, .ref o18, .ref o32, .ref o34, .int v36, .int v37, .int v38, .int v39, .int v40]))]) (wr := [(o1, .inr (11, [.ref o2, .ref o7, .ref o12, .ref o41, .ref o51, .ref o64, .ref o77, .ref o84, .ref o91, .ref o99, .ref o111, .ref o123, .int v125])), (o2, .inr (4, [.ref o3, .int v5, .int y17])), (o3, .inl (cI, 12, .inl f18))]) (w1 := fun u => [(o12, .inr (6, [.ref o13, .ref o18, .ref o32, .ref o34, .int v36, .int v37, .int u, .int v39, .int v40]))]) (wn := fun u => [(o1, .inr (11, [.ref o2, .ref o7, .ref o12, .ref o41, .ref o51, .ref o64, .ref o77, .ref o84, .ref o91, .ref o99, .ref o111, .ref o123, .int v125])), (o2, .inr (4, [.ref o3, .int v5, .int y17])), (o3, .inl (cI, 12, .inl f18)), (o12, .inr (6, [.ref o13, .ref o18, .ref o32, .ref o34, .int v36, .int v37, .int u, .int v39, .int v40]))]) (fun hPc hDc => va_runVN (As := []) (rest := []) ⟨hx, hb, hml, hown, hts⟩ (kX6_drop_1 l dC dI cI c2 cZ o12 o13 o18 o32 o34 v36 v37 v38 v39 v40 H.size v36_h v37_h v38_h) ⟨va_cnB 0 hts gX11_join_X6_drop_n105 rfl rfl rfl (hN.1 _ ns_62) (hts (.initialized RX6) hm_X11_join_20) (by decide +kernel) ⟨Nat.le_of_ble_eq_true rfl, Nat.le_of_ble_eq_true rfl⟩, (hts (.instanceMethod yX6_drop) hm_X11_join_19), (hts (.selects RX6 yX6_drop yX6_drop) hm_X11_join_21)⟩ (pre_V hPc hK hDc hN (ci := 6) (q0 := 0) rfl rfl) rfl rfl hl.1 rfl (lv_room (Nat.le_of_ble_eq_true rfl)) dX11_join_62 ⟨Nat.le_of_ble_eq_true rfl, Nat.le_of_ble_eq_true rfl⟩) hP hD hS hA [3] [0, 1, 2] [0, 1, 2, 3] rfl rfl (by decide +kernel) (by decide +kernel) (by decide +kernel) (by decide +kernel) (fun _ => rfl) (fun y19 H locs hq hP hD hS => ?_)
          have y19_h := hq
          have hP : va_P (dC, dI) vwCl ([(o1, .inr (11, [.ref o2, .ref o7, .ref o12, .ref o41, .ref o51, .ref o64, .ref o77, .ref o84, .ref o91, .ref o99, .ref o111, .ref o123, .int v125])), (o2, .inr (4, [.ref o3, .int v5, .int y17])), (o3, .inl (cI, 12, .inl f18)), (o12, .inr (6, [.ref o13, .ref o18, .ref o32, .ref o34, .int v36, .int v37, .int y19, .int v39, .int v40]))]) H := hP
          have hD : va_D A ([(o1, .inr (11, [.ref o2, .ref o7, .ref o12, .ref o41, .ref o51, .ref o64, .ref o77, .ref o84, .ref o91, .ref o99, .ref o111, .ref o123, .int v125])), (o2, .inr (4, [.ref o3, .int v5, .int y17])), (o3, .inl (cI, 12, .inl f18)), (o12, .inr (6, [.ref o13, .ref o18, .ref o32, .ref o34, .int v36, .int v37, .int y19, .int v39, .int v40]))]) := hD
          refine lv_iload hx hb dX11_join_65 (lv_at hl 0 rfl) ?_
          rw [hQ]
          exact W.iret (v := 0) hx hb hr (fun t ht hW => ⟨⟨0, (y17, f18, y19), rfl, ⟨(iv_w ik_0 (by decide)), f18_b, y19_h⟩, by rw [ht]; exact hP, va_K.moved hW.alike hK, hD⟩, hS.F ht⟩) hS.2.2 dX11_join_67
        ·
          have j20 : Iv 1 1 x14 := r_nelo h15 x14_h ik_0 (by decide)
          refine lv_iconst (v := 1) hx hb dX11_join_41 (by decide) ?_
          refine lv_goto (tgt := 46) hx hb dX11_join_42 (by decide) ?_
          refine lv_istore (lv' := [(4, .int 1), (0, .ref o1), (1, .int a1), (2, .int a2), (3, .int a3)]) hx hb dX11_join_46 hl (by decide) rfl (fun ls hl => ?_)
          refine lv_aload_n hx hb dX11_join_48 rfl (lv_at hl 1 rfl) ?_
          refine va_get (D := (dC, dI)) (ci := 11) (v := .ref o2) (C := RX11) (T := TX11) (N := 13) hx hb hts iw_X11_join_X11 hown hK hP 0 rfl rfl 0 (by decide) (hts (.fieldLink RX11 10 "HolelessHouse" "graph" "LHolelessHouse$Graph;") hm_X11_join_1) (fun _ h9 => h9) rfl dX11_join_49 ?_
          refine lv_iload_n hx hb dX11_join_52 rfl (lv_at hl 2 rfl) ?_
          refine lv_iload_n hx hb dX11_join_53 rfl (lv_at hl 3 rfl) ?_
          refine lv_iload_n hx hb dX11_join_54 rfl (lv_at hl 4 rfl) ?_
          refine kc_v (D := (dC, dI)) (S := Int32 × (Nat → Int32)) (wc := [(o2, .inr (4, [.ref o3, .int v5, .int v6])), (o3, .inl (cI, 12, .inl fw4))]) (wr := [(o1, .inr (11, [.ref o2, .ref o7, .ref o12, .ref o41, .ref o51, .ref o64, .ref o77, .ref o84, .ref o91, .ref o99, .ref o111, .ref o123, .int v125])), (o12, .inr (6, [.ref o13, .ref o18, .ref o32, .ref o34, .int v36, .int v37, .int v38, .int v39, .int v40]))]) (w1 := fun u => [(o2, .inr (4, [.ref o3, .int v5, .int u.1])), (o3, .inl (cI, 12, .inl u.2))]) (wn := fun u => [(o1, .inr (11, [.ref o2, .ref o7, .ref o12, .ref o41, .ref o51, .ref o64, .ref o77, .ref o84, .ref o91, .ref o99, .ref o111, .ref o123, .int v125])), (o2, .inr (4, [.ref o3, .int v5, .int u.1])), (o3, .inl (cI, 12, .inl u.2)), (o12, .inr (6, [.ref o13, .ref o18, .ref o32, .ref o34, .int v36, .int v37, .int v38, .int v39, .int v40]))]) (fun hPc hDc => va_runVN (As := [.int a1, .int a2, .int a3]) (rest := []) ⟨hx, hb, hml, hown, hts⟩ (kX4_set_1 l dC dI cI c2 cZ o2 o3 fw4 v5 v6 a1 a2 a3 H.size fw4_b v5_h j6 j12 a3_h) ⟨va_cnB 3 hts gX11_join_X4_set_n101 rfl rfl rfl (hN.1 _ ns_69) (hts (.initialized RX4) hm_X11_join_4) (by decide +kernel) ⟨Nat.le_of_ble_eq_true rfl, Nat.le_of_ble_eq_true rfl⟩, (hts (.instanceMethod yX4_set) hm_X11_join_15), (hts (.selects RX4 yX4_set yX4_set) hm_X11_join_16)⟩ (pre_V hPc hK hDc hN (ci := 4) (q0 := 0) rfl rfl) rfl rfl hl.1 rfl (lv_room (Nat.le_of_ble_eq_true rfl)) dX11_join_55 ⟨Nat.le_of_ble_eq_true rfl, Nat.le_of_ble_eq_true rfl⟩) hP hD hS hA [1, 2] [0, 3] [0, 2, 3, 1] rfl rfl (by decide +kernel) (by decide +kernel) (by decide +kernel) (by decide +kernel) (fun _ => rfl) (fun u H locs hq hP hD hS => ?_)
          obtain ⟨y21, f22⟩ := u
          have f22_b := hq
          have hP : va_P (dC, dI) vwCl ([(o1, .inr (11, [.ref o2, .ref o7, .ref o12, .ref o41, .ref o51, .ref o64, .ref o77, .ref o84, .ref o91, .ref o99, .ref o111, .ref o123, .int v125])), (o2, .inr (4, [.ref o3, .int v5, .int y21])), (o3, .inl (cI, 12, .inl f22)), (o12, .inr (6, [.ref o13, .ref o18, .ref o32, .ref o34, .int v36, .int v37, .int v38, .int v39, .int v40]))]) H := hP
          have hD : va_D A ([(o1, .inr (11, [.ref o2, .ref o7, .ref o12, .ref o41, .ref o51, .ref o64, .ref o77, .ref o84, .ref o91, .ref o99, .ref o111, .ref o123, .int v125])), (o2, .inr (4, [.ref o3, .int v5, .int y21])), (o3, .inl (cI, 12, .inl f22)), (o12, .inr (6, [.ref o13, .ref o18, .ref o32, .ref o34, .int v36, .int v37, .int v38, .int v39, .int v40]))]) := hD
          refine lv_aload_n hx hb dX11_join_58 rfl (lv_at hl 1 rfl) ?_
          refine va_get (D := (dC, dI)) (ci := 11) (v := .ref o12) (C := RX11) (T := TX11) (N := 13) hx hb hts iw_X11_join_X11 hown hK hP 0 rfl rfl 2 (by decide) (hts (.fieldLink RX11 26 "HolelessHouse" "ordering" "LHolelessHouse$Ordering;") hm_X11_join_2) (fun _ h9 => h9) rfl dX11_join_59 ?_
          refine kc_v (D := (dC, dI)) (S := Int32) (wc := [(o12, .inr (6, [.ref o13, .ref o18, .ref o32, .ref o34, .int v36, .int v37, .int v38, .int v39, .int v40]))]) (wr := [(o1, .inr (11, [.ref o2, .ref o7, .ref o12, .ref o41, .ref o51, .ref o64, .ref o77, .ref o84, .ref o91, .ref o99, .ref o111, .ref o123, .int v125])), (o2, .inr (4, [.ref o3, .int v5, .int y21])), (o3, .inl (cI, 12, .inl f22))]) (w1 := fun u => [(o12, .inr (6, [.ref o13, .ref o18, .ref o32, .ref o34, .int v36, .int v37, .int u, .int v39, .int v40]))]) (wn := fun u => [(o1, .inr (11, [.ref o2, .ref o7, .ref o12, .ref o41, .ref o51, .ref o64, .ref o77, .ref o84, .ref o91, .ref o99, .ref o111, .ref o123, .int v125])), (o2, .inr (4, [.ref o3, .int v5, .int y21])), (o3, .inl (cI, 12, .inl f22)), (o12, .inr (6, [.ref o13, .ref o18, .ref o32, .ref o34, .int v36, .int v37, .int u, .int v39, .int v40]))]) (fun hPc hDc => va_runVN (As := []) (rest := []) ⟨hx, hb, hml, hown, hts⟩ (kX6_drop_1 l dC dI cI c2 cZ o12 o13 o18 o32 o34 v36 v37 v38 v39 v40 H.size v36_h v37_h v38_h) ⟨va_cnB 0 hts gX11_join_X6_drop_n105 rfl rfl rfl (hN.1 _ ns_62) (hts (.initialized RX6) hm_X11_join_20) (by decide +kernel) ⟨Nat.le_of_ble_eq_true rfl, Nat.le_of_ble_eq_true rfl⟩, (hts (.instanceMethod yX6_drop) hm_X11_join_19), (hts (.selects RX6 yX6_drop yX6_drop) hm_X11_join_21)⟩ (pre_V hPc hK hDc hN (ci := 6) (q0 := 0) rfl rfl) rfl rfl hl.1 rfl (lv_room (Nat.le_of_ble_eq_true rfl)) dX11_join_62 ⟨Nat.le_of_ble_eq_true rfl, Nat.le_of_ble_eq_true rfl⟩) hP hD hS hA [3] [0, 1, 2] [0, 1, 2, 3] rfl rfl (by decide +kernel) (by decide +kernel) (by decide +kernel) (by decide +kernel) (fun _ => rfl) (fun y23 H locs hq hP hD hS => ?_)
          have y23_h := hq
          have hP : va_P (dC, dI) vwCl ([(o1, .inr (11, [.ref o2, .ref o7, .ref o12, .ref o41, .ref o51, .ref o64, .ref o77, .ref o84, .ref o91, .ref o99, .ref o111, .ref o123, .int v125])), (o2, .inr (4, [.ref o3, .int v5, .int y21])), (o3, .inl (cI, 12, .inl f22)), (o12, .inr (6, [.ref o13, .ref o18, .ref o32, .ref o34, .int v36, .int v37, .int y23, .int v39, .int v40]))]) H := hP
          have hD : va_D A ([(o1, .inr (11, [.ref o2, .ref o7, .ref o12, .ref o41, .ref o51, .ref o64, .ref o77, .ref o84, .ref o91, .ref o99, .ref o111, .ref o123, .int v125])), (o2, .inr (4, [.ref o3, .int v5, .int y21])), (o3, .inl (cI, 12, .inl f22)), (o12, .inr (6, [.ref o13, .ref o18, .ref o32, .ref o34, .int v36, .int v37, .int y23, .int v39, .int v40]))]) := hD
          refine lv_iload hx hb dX11_join_65 (lv_at hl 0 rfl) ?_
          rw [hQ]
          exact W.iret (v := 1) hx hb hr (fun t ht hW => ⟨⟨1, (y21, f22, y23), rfl, ⟨(iv_w ik_1 (by decide)), f22_b, y23_h⟩, by rw [ht]; exact hP, va_K.moved hW.alike hK, hD⟩, hS.F ht⟩) hS.2.2 dX11_join_67
      ·
        refine lv_iconst (v := (-1)) hx hb dX11_join_27 (by decide) ?_
        rw [hQ]
        exact W.iret (v := (-1)) hx hb hr (fun t ht hW => ⟨⟨(-1), (v6, fw4, v38), rfl, ⟨(iv_w ikm_1 (by decide)), fw4_b, v38_h⟩, by rw [ht]; exact hP, va_K.moved hW.alike hK, hD⟩, hS.F ht⟩) hS.2.2 dX11_join_28
theorem iw_X11_joined_X11 : ∀ w ∈ wsX110, w ∈ wsX11_joined := fun _ h => List.mem_cons.mpr (Or.inr (List.mem_append.mpr (Or.inl (List.mem_append.mpr (Or.inr h)))))
theorem iw_X11_joined_X4 : ∀ w ∈ wsX40, w ∈ wsX11_joined := fun _ h => List.mem_cons.mpr (Or.inr (List.mem_append.mpr (Or.inr h)))
set_option maxHeartbeats 4000000 in
set_option maxRecDepth 100000 in
theorem kX11_joined_1 (l : Launch) (dC : Nat → ClassId) (dI : Nat → Nat → Nat) (cI c2 cZ : ClassId) (o1 : Nat) (o2 : Nat) (o7 : Nat) (o12 : Nat) (o41 : Nat) (o51 : Nat) (o64 : Nat) (o77 : Nat) (o84 : Nat) (o91 : Nat) (o99 : Nat) (o111 : Nat) (o123 : Nat) (o3 : Nat) (fw4 : Nat → Int32) (v5 : Int32) (v6 : Int32) (v125 : Int32) (a1 : Int32) (sz : Nat) (fw4_b : Bd 12 0 4095 fw4) (v5_h : Iv 0 12 v5) : Met l yX11_joined wsX11_joined ({ frames := 1, cells := 0, slots := 0, locals := 21 }) (va_Pc [.ref o1, .int a1] (wPre (dC, dI) [(cI, .int), (c2, .array .int), (cZ, .boolean)] ([(o1, .inr (11, [.ref o2, .ref o7, .ref o12, .ref o41, .ref o51, .ref o64, .ref o77, .ref o84, .ref o91, .ref o99, .ref o111, .ref o123, .int v125])), (o2, .inr (4, [.ref o3, .int v5, .int v6])), (o3, .inl (cI, 12, .inl fw4))]) sz)) (va_Qi (fun (r : Int32) (_ : Unit) => Iv (-1) 4095 r) (fun _ t => wPost (dC, dI) [(cI, .int), (c2, .array .int), (cZ, .boolean)] (va_A ([(o1, .inr (11, [.ref o2, .ref o7, .ref o12, .ref o41, .ref o51, .ref o64, .ref o77, .ref o84, .ref o91, .ref o99, .ref o111, .ref o123, .int v125])), (o2, .inr (4, [.ref o3, .int v5, .int v6])), (o3, .inl (cI, 12, .inl fw4))]) sz) ([(o1, .inr (11, [.ref o2, .ref o7, .ref o12, .ref o41, .ref o51, .ref o64, .ref o77, .ref o84, .ref o91, .ref o99, .ref o111, .ref o123, .int v125])), (o2, .inr (4, [.ref o3, .int v5, .int v6])), (o3, .inl (cI, 12, .inl fw4))]) t) (va_A ([(o1, .inr (11, [.ref o2, .ref o7, .ref o12, .ref o41, .ref o51, .ref o64, .ref o77, .ref o84, .ref o91, .ref o99, .ref o111, .ref o123, .int v125])), (o2, .inr (4, [.ref o3, .int v5, .int v6])), (o3, .inl (cI, 12, .inl fw4))]) sz)) 0 0 (va_A ([(o1, .inr (11, [.ref o2, .ref o7, .ref o12, .ref o41, .ref o51, .ref o64, .ref o77, .ref o84, .ref o91, .ref o99, .ref o111, .ref o123, .int v125])), (o2, .inr (4, [.ref o3, .int v5, .int v6])), (o3, .inl (cI, 12, .inl fw4))]) sz) := by
  refine Met.ofW (cc := cX11_joined) (maxL := 2) (ret := (some .int)) (by decide) rfl ?_
  intro p e s m args below meth c s₁ B hml hv
  obtain ⟨rfl, hsz, hP, hK, hD0, hN⟩ := hv
  have hx := B.exec
  have hb := B.bytes
  have hr := B.returns
  have hts := atoms_spec (ws := wsX11_joined) B.pre
  have hown : s.vm.findClass RX11 = some m.cls := findClass_of_methodNamed B.named
  have hlocks := B.notSynchronized
  subst hsz
  have hD := hD0.self (sz := s.heap.size)
  generalize hAe : va_A ([(o1, .inr (11, [.ref o2, .ref o7, .ref o12, .ref o41, .ref o51, .ref o64, .ref o77, .ref o84, .ref o91, .ref o99, .ref o111, .ref o123, .int v125])), (o2, .inr (4, [.ref o3, .int v5, .int v6])), (o3, .inl (cI, 12, .inl fw4))]) s.heap.size = A at hD ⊢
  have hA : ∀ q : Nat, s.heap.size ≤ q → A q := fun q h => by rw [← hAe]; exact Or.inr h
  have hS : va_S A s.heap s.heap [] := va_S.rf
  have hP : va_P (dC, dI) vwCl ([(o1, .inr (11, [.ref o2, .ref o7, .ref o12, .ref o41, .ref o51, .ref o64, .ref o77, .ref o84, .ref o91, .ref o99, .ref o111, .ref o123, .int v125])), (o2, .inr (4, [.ref o3, .int v5, .int v6])), (o3, .inl (cI, 12, .inl fw4))]) s.heap := hP
  have hl := lv_entry ([.ref o1, .int a1]) (n := 2) (Nat.le_of_ble_eq_true rfl)
  rw [lg_entry_eq]
  generalize (lg_sl ([.ref o1, .int a1]) ++ List.replicate (2 - (lg_sl ([.ref o1, .int a1])).length) Slot.unset).toArray = ls at hl ⊢
  have hl : lv_has ls 2 [(0, .ref o1), (1, .int a1)] := hl
  refine gen_Q (fun Q hQ => ?_)
  refine lv_aload_n hx hb dX11_joined_0 rfl (lv_at hl 0 rfl) ?_
  refine va_get (D := (dC, dI)) (ci := 11) (v := .ref o2) (C := RX11) (T := TX11) (N := 13) hx hb hts iw_X11_joined_X11 hown hK hP 0 rfl rfl 0 (by decide) (hts (.fieldLink RX11 10 "HolelessHouse" "graph" "LHolelessHouse$Graph;") hm_X11_joined_1) (fun _ h9 => h9) rfl dX11_joined_1 ?_
  refine lv_iload_n hx hb dX11_joined_4 rfl (lv_at hl 1 rfl) ?_
  refine kc_i (D := (dC, dI)) (S := Unit) (wc := [(o2, .inr (4, [.ref o3, .int v5, .int v6]))]) (wr := [(o1, .inr (11, [.ref o2, .ref o7, .ref o12, .ref o41, .ref o51, .ref o64, .ref o77, .ref o84, .ref o91, .ref o99, .ref o111, .ref o123, .int v125])), (o3, .inl (cI, 12, .inl fw4))]) (w1 := fun _ => [(o2, .inr (4, [.ref o3, .int v5, .int v6]))]) (wn := fun _ => [(o1, .inr (11, [.ref o2, .ref o7, .ref o12, .ref o41, .ref o51, .ref o64, .ref o77, .ref o84, .ref o91, .ref o99, .ref o111, .ref o123, .int v125])), (o2, .inr (4, [.ref o3, .int v5, .int v6])), (o3, .inl (cI, 12, .inl fw4))]) (fun hPc hDc => va_runVN (As := [.int a1]) (rest := []) ⟨hx, hb, hml, hown, hts⟩ (kX4_has_1 l dC dI cI c2 cZ o2 o3 v5 v6 a1 s.heap.size v5_h) ⟨va_cnB 1 hts gX11_joined_X4_has_n93 rfl rfl rfl (hN.1 _ ns_66) (hts (.initialized RX4) hm_X11_joined_3) (by decide +kernel) ⟨Nat.le_of_ble_eq_true rfl, Nat.le_of_ble_eq_true rfl⟩, (hts (.instanceMethod yX4_has) hm_X11_joined_2), (hts (.selects RX4 yX4_has yX4_has) hm_X11_joined_4)⟩ (pre_V hPc hK hDc hN (ci := 4) (q0 := 0) rfl rfl) rfl rfl hl.1 rfl (lv_room (Nat.le_of_ble_eq_true rfl)) dX11_joined_5 ⟨Nat.le_of_ble_eq_true rfl, Nat.le_of_ble_eq_true rfl⟩) hP hD hS hA [1] [0, 2] [0, 2, 1] rfl rfl (by decide +kernel) (by decide +kernel) (by decide +kernel) (by decide +kernel) (fun _ => rfl) (fun x1 _ H locs hq hP hD hS => ?_)
  obtain ⟨x1_h, i2⟩ := hq
  have hP : va_P (dC, dI) vwCl ([(o1, .inr (11, [.ref o2, .ref o7, .ref o12, .ref o41, .ref o51, .ref o64, .ref o77, .ref o84, .ref o91, .ref o99, .ref o111, .ref o123, .int v125])), (o2, .inr (4, [.ref o3, .int v5, .int v6])), (o3, .inl (cI, 12, .inl fw4))]) H := hP
  have hD : va_D A ([(o1, .inr (11, [.ref o2, .ref o7, .ref o12, .ref o41, .ref o51, .ref o64, .ref o77, .ref o84, .ref o91, .ref o99, .ref o111, .ref o123, .int v125])), (o2, .inr (4, [.ref o3, .int v5, .int v6])), (o3, .inl (cI, 12, .inl fw4))]) := hD
  refine lv_if_eq (tgt := 23) hx hb dX11_joined_8 (by decide) (fun h3 => ?_) (fun h3 => ?_)
  ·
    have j4 : Iv 0 0 x1 := r_eq h3 ik_0
    refine lv_iconst (v := (-1)) hx hb dX11_joined_23 (by decide) ?_
    rw [hQ]
    exact W.iret (v := (-1)) hx hb hr (fun t ht hW => ⟨⟨(-1), (), rfl, (iv_w ikm_1 (by decide)), by rw [ht]; exact hP, va_K.moved hW.alike hK, hD⟩, hS.F ht⟩) hS.2.2 dX11_joined_24
  ·
    have j5 : Iv 1 1 x1 := r_nelo h3 x1_h ik_0 (by decide)
    have j6 : Iv 0 11 a1 := i2 h3
    refine lv_aload_n hx hb dX11_joined_11 rfl (lv_at hl 0 rfl) ?_
    refine va_get (D := (dC, dI)) (ci := 11) (v := .ref o2) (C := RX11) (T := TX11) (N := 13) hx hb hts iw_X11_joined_X11 hown hK hP 0 rfl rfl 0 (by decide) (hts (.fieldLink RX11 10 "HolelessHouse" "graph" "LHolelessHouse$Graph;") hm_X11_joined_1) (fun _ h9 => h9) rfl dX11_joined_12 ?_
    refine va_getN (D := (dC, dI)) (ci := 4) (v := .ref o3) (C := RX4) (T := TX4) (N := 3) hx hb hts iw_X11_joined_X4 hown hK hP 1 rfl rfl 0 (by decide) (hN.use ns_5) (fun _ h9 => h9) rfl dX11_joined_15 ?_
    refine lv_iload_n hx hb dX11_joined_18 rfl (lv_at hl 1 rfl) ?_
    refine va_iald hx hb hK hP 2 0 rfl rfl (vin_iv j6 (by decide)) dX11_joined_19 (lv_topi (fun x7 x7_e => ?_))
    have x7_h : Iv 0 4095 x7 := iv_e x7_e (bd_at fw4_b (vin_iv j6 (by decide)))
    refine lv_goto (tgt := 24) hx hb dX11_joined_20 (by decide) ?_
    rw [hQ]
    exact W.iret (v := x7) hx hb hr (fun t ht hW => ⟨⟨x7, (), rfl, (iv_w x7_h (by decide)), by rw [ht]; exact hP, va_K.moved hW.alike hK, hD⟩, hS.F ht⟩) hS.2.2 dX11_joined_24
theorem iw_X4_isClique_X4 : ∀ w ∈ wsX40, w ∈ wsX4_isClique := fun _ h => List.mem_cons.mpr (Or.inr (List.mem_append.mpr (Or.inr h)))
set_option maxHeartbeats 4000000 in
set_option maxRecDepth 100000 in
theorem kX4_isClique_1 (l : Launch) (dC : Nat → ClassId) (dI : Nat → Nat → Nat) (cI c2 cZ : ClassId) (o1 : Nat) (o2 : Nat) (fw3 : Nat → Int32) (v4 : Int32) (v5 : Int32) (a1 : Int32) (sz : Nat) (fw3_b : Bd 12 0 4095 fw3) (v4_h : Iv 0 12 v4) : Met l yX4_isClique wsX4_isClique ({ frames := 1, cells := 0, slots := 0, locals := 21 }) (va_Pc [.ref o1, .int a1] (wPre (dC, dI) [(cI, .int), (c2, .array .int), (cZ, .boolean)] ([(o1, .inr (4, [.ref o2, .int v4, .int v5])), (o2, .inl (cI, 12, .inl fw3))]) sz)) (va_Qi (fun (r : Int32) (_ : Unit) => Iv 0 1 r) (fun _ t => wPost (dC, dI) [(cI, .int), (c2, .array .int), (cZ, .boolean)] (va_A ([(o1, .inr (4, [.ref o2, .int v4, .int v5])), (o2, .inl (cI, 12, .inl fw3))]) sz) ([(o1, .inr (4, [.ref o2, .int v4, .int v5])), (o2, .inl (cI, 12, .inl fw3))]) t) (va_A ([(o1, .inr (4, [.ref o2, .int v4, .int v5])), (o2, .inl (cI, 12, .inl fw3))]) sz)) 0 0 (va_A ([(o1, .inr (4, [.ref o2, .int v4, .int v5])), (o2, .inl (cI, 12, .inl fw3))]) sz) := by
  refine Met.ofW (cc := cX4_isClique) (maxL := 3) (ret := (some .boolean)) (by decide) rfl ?_
  intro p e s m args below meth c s₁ B hml hv
  obtain ⟨rfl, hsz, hP, hK, hD0, hN⟩ := hv
  have hx := B.exec
  have hb := B.bytes
  have hr := B.returns
  have hts := atoms_spec (ws := wsX4_isClique) B.pre
  have hown : s.vm.findClass RX4 = some m.cls := findClass_of_methodNamed B.named
  have hlocks := B.notSynchronized
  subst hsz
  have hD := hD0.self (sz := s.heap.size)
  generalize hAe : va_A ([(o1, .inr (4, [.ref o2, .int v4, .int v5])), (o2, .inl (cI, 12, .inl fw3))]) s.heap.size = A at hD ⊢
  have hA : ∀ q : Nat, s.heap.size ≤ q → A q := fun q h => by rw [← hAe]; exact Or.inr h
  have hS : va_S A s.heap s.heap [] := va_S.rf
  have hP : va_P (dC, dI) vwCl ([(o1, .inr (4, [.ref o2, .int v4, .int v5])), (o2, .inl (cI, 12, .inl fw3))]) s.heap := hP
  have hl := lv_entry ([.ref o1, .int a1]) (n := 3) (Nat.le_of_ble_eq_true rfl)
  rw [lg_entry_eq]
  generalize (lg_sl ([.ref o1, .int a1]) ++ List.replicate (3 - (lg_sl ([.ref o1, .int a1])).length) Slot.unset).toArray = ls at hl ⊢
  have hl : lv_has ls 3 [(0, .ref o1), (1, .int a1)] := hl
  refine gen_Q (fun Q hQ => ?_)
  refine lv_iconst (v := 0) hx hb dX4_isClique_0 (by decide) ?_
  refine lv_istore_n (lv' := [(2, .int 0), (0, .ref o1), (1, .int a1)]) hx hb dX4_isClique_1 rfl hl (by decide) rfl (fun ls hl => ?_)
  have L1 : ∀ (N : Nat) (x125 : Int32) (H : Heap) (locs : List Loc) (ls : Array Slot), (12 - x125.toInt).toNat < N → Iv 0 12 x125 → va_P (dC, dI) vwCl ([(o1, .inr (4, [.ref o2, .int v4, .int v5])), (o2, .inl (cI, 12, .inl fw3))]) H → va_D A ([(o1, .inr (4, [.ref o2, .int v4, .int v5])), (o2, .inl (cI, 12, .inl fw3))]) → va_S A s.heap H locs → lv_has ls 3 [(2, .int x125), (0, .ref o1), (1, .int a1)] → W p l e ({ frames := 1, cells := 0, slots := 0, locals := 21 }) s m ([.ref o1, .int a1] : List Value).toArray below meth c H locs 0 0 Q (F0 m 2 ls []) := by
    intro N
    induction N with
    | zero =>
      intro x125 H locs ls hM
      exact absurd hM (Nat.not_lt_zero _)
    | succ N ih1 =>
      intro x125 H locs ls hM1 x125_h hP hD hS hl
      refine lv_iload_n hx hb dX4_isClique_2 rfl (lv_at hl 0 rfl) ?_
      refine lv_aload_n hx hb dX4_isClique_3 rfl (lv_at hl 1 rfl) ?_
      refine va_get (D := (dC, dI)) (ci := 4) (v := .int v4) (C := RX4) (T := TX4) (N := 3) hx hb hts iw_X4_isClique_X4 hown hK hP 0 rfl rfl 1 (by decide) (hts (.fieldLink RX4 15 "HolelessHouse$Graph" "size" "I") hm_X4_isClique_1) (fun _ h9 => h9) rfl dX4_isClique_4 ?_
      refine lv_icmp_ge (tgt := 42) hx hb dX4_isClique_7 (by decide) (fun h126 => ?_) (fun h126 => ?_)
      ·
        have qh126 := le_i h126
        refine lv_iconst (v := 1) hx hb dX4_isClique_42 (by decide) ?_
        rw [hQ]
        exact W.zret (v := 1) (ty := .boolean) hx hb hr rfl (fun t ht hW => ⟨⟨1, (), rfl, (iv_w ik_1 (by decide)), by rw [ht]; exact hP, va_K.moved hW.alike hK, hD⟩, hS.F ht⟩) hS.2.2 dX4_isClique_43
      ·
        have qh126 := nle_i h126
        have j127 : Iv 0 11 x125 := r_ltl qh126 x125_h v4_h (by decide)
        have j128 : Iv 1 12 v4 := r_ltr qh126 x125_h v4_h (by decide)
        refine lv_iload_n hx hb dX4_isClique_10 rfl (lv_at hl 2 rfl) ?_
        refine lv_iload_n hx hb dX4_isClique_11 rfl (lv_at hl 0 rfl) ?_
        refine kc_i (D := (dC, dI)) (S := Unit) (wc := []) (wr := [(o1, .inr (4, [.ref o2, .int v4, .int v5])), (o2, .inl (cI, 12, .inl fw3))]) (w1 := fun _ => []) (wn := fun _ => [(o1, .inr (4, [.ref o2, .int v4, .int v5])), (o2, .inl (cI, 12, .inl fw3))]) (fun hPc hDc => va_runSN (As := [.int a1, .int x125]) (rest := []) ⟨hx, hb, hml, hown, hts⟩ (kX11_in_1 l dC dI cI c2 cZ a1 x125 H.size) ⟨va_cnB 2 hts gX4_isClique_X11_in_n22 rfl rfl rfl (hN.1 _ ns_68) (hts (.initialized RX11) hm_X4_isClique_4) (by decide +kernel) ⟨Nat.le_of_ble_eq_true rfl, Nat.le_of_ble_eq_true rfl⟩, (hts (.static yX11_in) hm_X4_isClique_3), trivial⟩ (pre_S hPc hK hDc hN) rfl rfl hl.1 rfl (lv_room (Nat.le_of_ble_eq_true rfl)) dX4_isClique_12 ⟨Nat.le_of_ble_eq_true rfl, Nat.le_of_ble_eq_true rfl⟩) hP hD hS hA [] [0, 1] [0, 1] rfl rfl (by decide +kernel) (by decide +kernel) (by decide +kernel) (by decide +kernel) (fun _ => rfl) (fun x129 _ H locs hq hP hD hS => ?_)
        have x129_h := hq
        have hP : va_P (dC, dI) vwCl ([(o1, .inr (4, [.ref o2, .int v4, .int v5])), (o2, .inl (cI, 12, .inl fw3))]) H := hP
        have hD : va_D A ([(o1, .inr (4, [.ref o2, .int v4, .int v5])), (o2, .inl (cI, 12, .inl fw3))]) := hD
        refine lv_if_eq (tgt := 36) hx hb dX4_isClique_15 (by decide) (fun h130 => ?_) (fun h130 => ?_)
        ·
          have j131 : Iv 0 0 x129 := r_eq h130 ik_0
          obtain ⟨x132, x132_e⟩ : ∃ z : Int32, z = x125 + 1 := ⟨_, rfl⟩
          have x132_h : Iv 1 12 x132 := iv_e x132_e (iv_add j127 ik_1 (by decide))
          refine lv_iinc (v := x132) (lv' := [(2, .int x132), (0, .ref o1), (1, .int a1)]) hx hb dX4_isClique_36 hl (k := 0) rfl (incN (by decide +kernel) x132_e) (by decide) rfl (fun ls hl => ?_)
          refine lv_goto (tgt := 2) hx hb dX4_isClique_39 (by decide) ?_
          exact ih1 x132 _ _ _ (ms_up x132_e j127 (by decide) hM1) (iv_w x132_h (by decide)) hP hD hS hl
        ·
          have j133 : Iv 1 1 x129 := r_nelo h130 x129_h ik_0 (by decide)
          refine lv_iload_n hx hb dX4_isClique_18 rfl (lv_at hl 2 rfl) ?_
          refine lv_aload_n hx hb dX4_isClique_19 rfl (lv_at hl 1 rfl) ?_
          refine va_get (D := (dC, dI)) (ci := 4) (v := .ref o2) (C := RX4) (T := TX4) (N := 3) hx hb hts iw_X4_isClique_X4 hown hK hP 0 rfl rfl 0 (by decide) (hts (.fieldLink RX4 9 "HolelessHouse$Graph" "near" "[I") hm_X4_isClique_2) (fun _ h9 => h9) rfl dX4_isClique_20 ?_
          refine lv_iload_n hx hb dX4_isClique_23 rfl (lv_at hl 0 rfl) ?_
          refine va_iald hx hb hK hP 1 0 rfl rfl (vin_iv j127 (by decide)) dX4_isClique_24 (lv_topi (fun x134 x134_e => ?_))
          have x134_h : Iv 0 4095 x134 := iv_e x134_e (bd_at fw3_b (vin_iv j127 (by decide)))
          refine lv_iconst (v := (-1)) hx hb dX4_isClique_25 (by decide) ?_
          refine lv_ixor hx hb dX4_isClique_26 (lv_topi (fun x135 x135_e => ?_))
          refine lv_iand hx hb dX4_isClique_27 (lv_topi (fun x136 x136_e => ?_))
          refine lv_iconst (v := 1) hx hb dX4_isClique_28 (by decide) ?_
          refine lv_iload_n hx hb dX4_isClique_29 rfl (lv_at hl 0 rfl) ?_
          refine lv_ishl hx hb dX4_isClique_30 (lv_topi (fun x137 x137_e => ?_))
          have x137_h : Iv 1 2048 x137 := iv_e x137_e (iv_shl1 j127 (by decide))
          refine lv_icmp_eq (tgt := 36) hx hb dX4_isClique_31 (by decide) (fun h138 => ?_) (fun h138 => ?_)
          ·
            have j139 : Iv 1 2048 x136 := r_eq h138 x137_h
            obtain ⟨x140, x140_e⟩ : ∃ z : Int32, z = x125 + 1 := ⟨_, rfl⟩
            have x140_h : Iv 1 12 x140 := iv_e x140_e (iv_add j127 ik_1 (by decide))
            refine lv_iinc (v := x140) (lv' := [(2, .int x140), (0, .ref o1), (1, .int a1)]) hx hb dX4_isClique_36 hl (k := 0) rfl (incN (by decide +kernel) x140_e) (by decide) rfl (fun ls hl => ?_)
            refine lv_goto (tgt := 2) hx hb dX4_isClique_39 (by decide) ?_
            exact ih1 x140 _ _ _ (ms_up x140_e j127 (by decide) hM1) (iv_w x140_h (by decide)) hP hD hS hl
          ·
            refine lv_iconst (v := 0) hx hb dX4_isClique_34 (by decide) ?_
            rw [hQ]
            exact W.zret (v := 0) (ty := .boolean) hx hb hr rfl (fun t ht hW => ⟨⟨0, (), rfl, (iv_w ik_0 (by decide)), by rw [ht]; exact hP, va_K.moved hW.alike hK, hD⟩, hS.F ht⟩) hS.2.2 dX4_isClique_35
  exact L1 _ 0 _ _ _ (Nat.lt_succ_self _) (iv_w ik_0 (by decide)) hP hD hS hl
theorem iw_X11_isKind_X11 : ∀ w ∈ wsX110, w ∈ wsX11_isKind := fun _ h => List.mem_cons.mpr (Or.inr (List.mem_append.mpr (Or.inl (List.mem_append.mpr (Or.inr h)))))
theorem iw_X11_isKind_X4 : ∀ w ∈ wsX40, w ∈ wsX11_isKind := fun _ h => List.mem_cons.mpr (Or.inr (List.mem_append.mpr (Or.inr h)))
set_option maxHeartbeats 4000000 in
set_option maxRecDepth 100000 in
theorem kX11_isKind_1 (l : Launch) (dC : Nat → ClassId) (dI : Nat → Nat → Nat) (cI c2 cZ : ClassId) (o1 : Nat) (o2 : Nat) (o7 : Nat) (o12 : Nat) (o41 : Nat) (o51 : Nat) (o64 : Nat) (o77 : Nat) (o84 : Nat) (o91 : Nat) (o99 : Nat) (o111 : Nat) (o123 : Nat) (o3 : Nat) (fw4 : Nat → Int32) (v5 : Int32) (v6 : Int32) (v125 : Int32) (a1 : Int32) (a2 : Int32) (sz : Nat) (fw4_b : Bd 12 0 4095 fw4) (v5_h : Iv 0 12 v5) (a1_h : Iv 0 11 a1) : Met l yX11_isKind wsX11_isKind ({ frames := 2, cells := 0, slots := 0, locals := 43 }) (va_Pc [.ref o1, .int a1, .int a2] (wPre (dC, dI) [(cI, .int), (c2, .array .int), (cZ, .boolean)] ([(o1, .inr (11, [.ref o2, .ref o7, .ref o12, .ref o41, .ref o51, .ref o64, .ref o77, .ref o84, .ref o91, .ref o99, .ref o111, .ref o123, .int v125])), (o2, .inr (4, [.ref o3, .int v5, .int v6])), (o3, .inl (cI, 12, .inl fw4))]) sz)) (va_Qi (fun (r : Int32) (_ : Unit) => Iv 0 1 r) (fun _ t => wPost (dC, dI) [(cI, .int), (c2, .array .int), (cZ, .boolean)] (va_A ([(o1, .inr (11, [.ref o2, .ref o7, .ref o12, .ref o41, .ref o51, .ref o64, .ref o77, .ref o84, .ref o91, .ref o99, .ref o111, .ref o123, .int v125])), (o2, .inr (4, [.ref o3, .int v5, .int v6])), (o3, .inl (cI, 12, .inl fw4))]) sz) ([(o1, .inr (11, [.ref o2, .ref o7, .ref o12, .ref o41, .ref o51, .ref o64, .ref o77, .ref o84, .ref o91, .ref o99, .ref o111, .ref o123, .int v125])), (o2, .inr (4, [.ref o3, .int v5, .int v6])), (o3, .inl (cI, 12, .inl fw4))]) t) (va_A ([(o1, .inr (11, [.ref o2, .ref o7, .ref o12, .ref o41, .ref o51, .ref o64, .ref o77, .ref o84, .ref o91, .ref o99, .ref o111, .ref o123, .int v125])), (o2, .inr (4, [.ref o3, .int v5, .int v6])), (o3, .inl (cI, 12, .inl fw4))]) sz)) 0 0 (va_A ([(o1, .inr (11, [.ref o2, .ref o7, .ref o12, .ref o41, .ref o51, .ref o64, .ref o77, .ref o84, .ref o91, .ref o99, .ref o111, .ref o123, .int v125])), (o2, .inr (4, [.ref o3, .int v5, .int v6])), (o3, .inl (cI, 12, .inl fw4))]) sz) := by
  refine Met.ofW (cc := cX11_isKind) (maxL := 4) (ret := (some .boolean)) (by decide) rfl ?_
  intro p e s m args below meth c s₁ B hml hv
  obtain ⟨rfl, hsz, hP, hK, hD0, hN⟩ := hv
  have hx := B.exec
  have hb := B.bytes
  have hr := B.returns
  have hts := atoms_spec (ws := wsX11_isKind) B.pre
  have hown : s.vm.findClass RX11 = some m.cls := findClass_of_methodNamed B.named
  have hlocks := B.notSynchronized
  subst hsz
  have hD := hD0.self (sz := s.heap.size)
  generalize hAe : va_A ([(o1, .inr (11, [.ref o2, .ref o7, .ref o12, .ref o41, .ref o51, .ref o64, .ref o77, .ref o84, .ref o91, .ref o99, .ref o111, .ref o123, .int v125])), (o2, .inr (4, [.ref o3, .int v5, .int v6])), (o3, .inl (cI, 12, .inl fw4))]) s.heap.size = A at hD ⊢
  have hA : ∀ q : Nat, s.heap.size ≤ q → A q := fun q h => by rw [← hAe]; exact Or.inr h
  have hS : va_S A s.heap s.heap [] := va_S.rf
  have hP : va_P (dC, dI) vwCl ([(o1, .inr (11, [.ref o2, .ref o7, .ref o12, .ref o41, .ref o51, .ref o64, .ref o77, .ref o84, .ref o91, .ref o99, .ref o111, .ref o123, .int v125])), (o2, .inr (4, [.ref o3, .int v5, .int v6])), (o3, .inl (cI, 12, .inl fw4))]) s.heap := hP
  have hl := lv_entry ([.ref o1, .int a1, .int a2]) (n := 4) (Nat.le_of_ble_eq_true rfl)
  rw [lg_entry_eq]
  generalize (lg_sl ([.ref o1, .int a1, .int a2]) ++ List.replicate (4 - (lg_sl ([.ref o1, .int a1, .int a2])).length) Slot.unset).toArray = ls at hl ⊢
  have hl : lv_has ls 4 [(0, .ref o1), (1, .int a1), (2, .int a2)] := hl
  refine gen_Q (fun Q hQ => ?_)
  refine lv_aload_n hx hb dX11_isKind_0 rfl (lv_at hl 0 rfl) ?_
  refine va_get (D := (dC, dI)) (ci := 11) (v := .ref o2) (C := RX11) (T := TX11) (N := 13) hx hb hts iw_X11_isKind_X11 hown hK hP 0 rfl rfl 0 (by decide) (hts (.fieldLink RX11 10 "HolelessHouse" "graph" "LHolelessHouse$Graph;") hm_X11_isKind_1) (fun _ h9 => h9) rfl dX11_isKind_1 ?_
  refine va_getN (D := (dC, dI)) (ci := 4) (v := .ref o3) (C := RX4) (T := TX4) (N := 3) hx hb hts iw_X11_isKind_X4 hown hK hP 1 rfl rfl 0 (by decide) (hN.use ns_5) (fun _ h9 => h9) rfl dX11_isKind_4 ?_
  refine lv_iload_n hx hb dX11_isKind_7 rfl (lv_at hl 1 rfl) ?_
  refine va_iald hx hb hK hP 2 0 rfl rfl (vin_iv a1_h (by decide)) dX11_isKind_8 (lv_topi (fun x1 x1_e => ?_))
  have x1_h : Iv 0 4095 x1 := iv_e x1_e (bd_at fw4_b (vin_iv a1_h (by decide)))
  refine lv_istore_n (lv' := [(3, .int x1), (0, .ref o1), (1, .int a1), (2, .int a2)]) hx hb dX11_isKind_9 rfl hl (by decide) rfl (fun ls hl => ?_)
  refine lv_iload_n hx hb dX11_isKind_10 rfl (lv_at hl 3 rfl) ?_
  by_cases h2 : a2 = 0
  ·
    have j3 : Iv 0 0 a2 := r_eq h2 ik_0
    refine tk_i (v := 0) h2 ?_
    refine lv_tableIn (off := 25) (tgt := 36) hx hb dX11_isKind_11 (by decide +kernel) (by decide +kernel) (by decide +kernel) (by decide) ?_
    refine lv_iconst (v := 1) hx hb dX11_isKind_36 (by decide) ?_
    rw [hQ]
    exact W.zret (v := 1) (ty := .boolean) hx hb hr rfl (fun t ht hW => ⟨⟨1, (), rfl, (iv_w ik_1 (by decide)), by rw [ht]; exact hP, va_K.moved hW.alike hK, hD⟩, hS.F ht⟩) hS.2.2 dX11_isKind_37
  by_cases h4 : a2 = 1
  ·
    have j5 : Iv 1 1 a2 := r_eq h4 ik_1
    refine tk_i (v := 1) h4 ?_
    refine lv_tableIn (off := 27) (tgt := 38) hx hb dX11_isKind_11 (by decide +kernel) (by decide +kernel) (by decide +kernel) (by decide) ?_
    refine lv_aload_n hx hb dX11_isKind_38 rfl (lv_at hl 1 rfl) ?_
    refine va_get (D := (dC, dI)) (ci := 11) (v := .ref o2) (C := RX11) (T := TX11) (N := 13) hx hb hts iw_X11_isKind_X11 hown hK hP 0 rfl rfl 0 (by decide) (hts (.fieldLink RX11 10 "HolelessHouse" "graph" "LHolelessHouse$Graph;") hm_X11_isKind_1) (fun _ h9 => h9) rfl dX11_isKind_39 ?_
    refine lv_iload_n hx hb dX11_isKind_42 rfl (lv_at hl 0 rfl) ?_
    refine kc_i (D := (dC, dI)) (S := Unit) (wc := [(o2, .inr (4, [.ref o3, .int v5, .int v6])), (o3, .inl (cI, 12, .inl fw4))]) (wr := [(o1, .inr (11, [.ref o2, .ref o7, .ref o12, .ref o41, .ref o51, .ref o64, .ref o77, .ref o84, .ref o91, .ref o99, .ref o111, .ref o123, .int v125]))]) (w1 := fun _ => [(o2, .inr (4, [.ref o3, .int v5, .int v6])), (o3, .inl (cI, 12, .inl fw4))]) (wn := fun _ => [(o1, .inr (11, [.ref o2, .ref o7, .ref o12, .ref o41, .ref o51, .ref o64, .ref o77, .ref o84, .ref o91, .ref o99, .ref o111, .ref o123, .int v125])), (o2, .inr (4, [.ref o3, .int v5, .int v6])), (o3, .inl (cI, 12, .inl fw4))]) (fun hPc hDc => va_runVN (As := [.int x1]) (rest := []) ⟨hx, hb, hml, hown, hts⟩ (kX4_isClique_1 l dC dI cI c2 cZ o2 o3 fw4 v5 v6 x1 s.heap.size fw4_b v5_h) ⟨va_cnB 1 hts gX11_isKind_X4_isClique_n202 rfl rfl rfl (hN.1 _ ns_70) (hts (.initialized RX4) hm_X11_isKind_3) (by decide +kernel) ⟨Nat.le_of_ble_eq_true rfl, Nat.le_of_ble_eq_true rfl⟩, (hts (.instanceMethod yX4_isClique) hm_X11_isKind_2), (hts (.selects RX4 yX4_isClique yX4_isClique) hm_X11_isKind_4)⟩ (pre_V hPc hK hDc hN (ci := 4) (q0 := 0) rfl rfl) rfl rfl hl.1 rfl (lv_room (Nat.le_of_ble_eq_true rfl)) dX11_isKind_43 ⟨Nat.le_of_ble_eq_true rfl, Nat.le_of_ble_eq_true rfl⟩) hP hD hS hA [1, 2] [0] [0, 1, 2] rfl rfl (by decide +kernel) (by decide +kernel) (by decide +kernel) (by decide +kernel) (fun _ => rfl) (fun x6 _ H locs hq hP hD hS => ?_)
    have x6_h := hq
    have hP : va_P (dC, dI) vwCl ([(o1, .inr (11, [.ref o2, .ref o7, .ref o12, .ref o41, .ref o51, .ref o64, .ref o77, .ref o84, .ref o91, .ref o99, .ref o111, .ref o123, .int v125])), (o2, .inr (4, [.ref o3, .int v5, .int v6])), (o3, .inl (cI, 12, .inl fw4))]) H := hP
    have hD : va_D A ([(o1, .inr (11, [.ref o2, .ref o7, .ref o12, .ref o41, .ref o51, .ref o64, .ref o77, .ref o84, .ref o91, .ref o99, .ref o111, .ref o123, .int v125])), (o2, .inr (4, [.ref o3, .int v5, .int v6])), (o3, .inl (cI, 12, .inl fw4))]) := hD
    rw [hQ]
    exact W.zret (v := x6) (ty := .boolean) hx hb hr (nar_z x6_h) (fun t ht hW => ⟨⟨x6, (), rfl, x6_h, by rw [ht]; exact hP, va_K.moved hW.alike hK, hD⟩, hS.F ht⟩) hS.2.2 dX11_isKind_46
  by_cases h7 : a2 = 2
  ·
    have j8 : Iv 2 2 a2 := r_eq h7 ik_2
    refine tk_i (v := 2) h7 ?_
    refine lv_tableIn (off := 36) (tgt := 47) hx hb dX11_isKind_11 (by decide +kernel) (by decide +kernel) (by decide +kernel) (by decide) ?_
    refine lv_iload_n hx hb dX11_isKind_47 rfl (lv_at hl 0 rfl) ?_
    refine lv_if_ne (tgt := 55) hx hb dX11_isKind_48 (by decide) (fun h9 => ?_) (fun h9 => ?_)
    ·
      have j10 : Iv 1 4095 x1 := r_nelo h9 x1_h ik_0 (by decide)
      refine lv_iconst (v := 0) hx hb dX11_isKind_55 (by decide) ?_
      rw [hQ]
      exact W.zret (v := 0) (ty := .boolean) hx hb hr rfl (fun t ht hW => ⟨⟨0, (), rfl, (iv_w ik_0 (by decide)), by rw [ht]; exact hP, va_K.moved hW.alike hK, hD⟩, hS.F ht⟩) hS.2.2 dX11_isKind_56
    ·
      have j11 : Iv 0 0 x1 := r_eq h9 ik_0
      refine lv_iconst (v := 1) hx hb dX11_isKind_51 (by decide) ?_
      refine lv_goto (tgt := 56) hx hb dX11_isKind_52 (by decide) ?_
      rw [hQ]
      exact W.zret (v := 1) (ty := .boolean) hx hb hr rfl (fun t ht hW => ⟨⟨1, (), rfl, (iv_w ik_1 (by decide)), by rw [ht]; exact hP, va_K.moved hW.alike hK, hD⟩, hS.F ht⟩) hS.2.2 dX11_isKind_56
  have nh2 : Int32.toInt a2 ≠ 0 := fun q => h2 (Int32.toInt_inj.mp (q.trans (by decide +kernel)))
  have nh4 : Int32.toInt a2 ≠ 1 := fun q => h4 (Int32.toInt_inj.mp (q.trans (by decide +kernel)))
  have nh7 : Int32.toInt a2 ≠ 2 := fun q => h7 (Int32.toInt_inj.mp (q.trans (by decide +kernel)))
  refine lv_tableOut (tgt := 57) hx hb dX11_isKind_11 (by have h8 := (iv_full a2); unfold Iv at h8; omega) (by decide) ?_
  refine lv_iload_n hx hb dX11_isKind_57 rfl (lv_at hl 0 rfl) ?_
  refine lv_iconst (v := 1) hx hb dX11_isKind_58 (by decide) ?_
  refine lv_iload_n hx hb dX11_isKind_59 rfl (lv_at hl 2 rfl) ?_
  refine lv_ishl hx hb dX11_isKind_60 (lv_topi (fun x12 x12_e => ?_))
  have x12_h : Iv 1 2048 x12 := iv_e x12_e (iv_shl1 a1_h (by decide))
  refine lv_ior hx hb dX11_isKind_61 (lv_topi (fun x13 x13_e => ?_))
  have x13_h : Iv 0 4095 x13 := iv_e x13_e (iv_or 12 x1_h x12_h (by decide))
  refine lv_aload_n hx hb dX11_isKind_62 rfl (lv_at hl 1 rfl) ?_
  refine va_get (D := (dC, dI)) (ci := 11) (v := .ref o2) (C := RX11) (T := TX11) (N := 13) hx hb hts iw_X11_isKind_X11 hown hK hP 0 rfl rfl 0 (by decide) (hts (.fieldLink RX11 10 "HolelessHouse" "graph" "LHolelessHouse$Graph;") hm_X11_isKind_1) (fun _ h9 => h9) rfl dX11_isKind_63 ?_
  refine kc_i (D := (dC, dI)) (S := Unit) (wc := [(o2, .inr (4, [.ref o3, .int v5, .int v6]))]) (wr := [(o1, .inr (11, [.ref o2, .ref o7, .ref o12, .ref o41, .ref o51, .ref o64, .ref o77, .ref o84, .ref o91, .ref o99, .ref o111, .ref o123, .int v125])), (o3, .inl (cI, 12, .inl fw4))]) (w1 := fun _ => [(o2, .inr (4, [.ref o3, .int v5, .int v6]))]) (wn := fun _ => [(o1, .inr (11, [.ref o2, .ref o7, .ref o12, .ref o41, .ref o51, .ref o64, .ref o77, .ref o84, .ref o91, .ref o99, .ref o111, .ref o123, .int v125])), (o2, .inr (4, [.ref o3, .int v5, .int v6])), (o3, .inl (cI, 12, .inl fw4))]) (fun hPc hDc => va_runVN (As := []) (rest := [.int x13]) ⟨hx, hb, hml, hown, hts⟩ (kX4_all_1 l dC dI cI c2 cZ o2 o3 v5 v6 s.heap.size v5_h) ⟨va_cnB 0 hts gX11_isKind_X4_all_n164 rfl rfl rfl (hN.1 _ ns_63) (hts (.initialized RX4) hm_X11_isKind_3) (by decide +kernel) ⟨Nat.le_of_ble_eq_true rfl, Nat.le_of_ble_eq_true rfl⟩, (hts (.instanceMethod yX4_all) hm_X11_isKind_11), (hts (.selects RX4 yX4_all yX4_all) hm_X11_isKind_12)⟩ (pre_V hPc hK hDc hN (ci := 4) (q0 := 0) rfl rfl) rfl rfl hl.1 rfl (lv_room (Nat.le_of_ble_eq_true rfl)) dX11_isKind_66 ⟨Nat.le_of_ble_eq_true rfl, Nat.le_of_ble_eq_true rfl⟩) hP hD hS hA [1] [0, 2] [0, 2, 1] rfl rfl (by decide +kernel) (by decide +kernel) (by decide +kernel) (by decide +kernel) (fun _ => rfl) (fun x14 _ H locs hq hP hD hS => ?_)
  have x14_h := hq
  have hP : va_P (dC, dI) vwCl ([(o1, .inr (11, [.ref o2, .ref o7, .ref o12, .ref o41, .ref o51, .ref o64, .ref o77, .ref o84, .ref o91, .ref o99, .ref o111, .ref o123, .int v125])), (o2, .inr (4, [.ref o3, .int v5, .int v6])), (o3, .inl (cI, 12, .inl fw4))]) H := hP
  have hD : va_D A ([(o1, .inr (11, [.ref o2, .ref o7, .ref o12, .ref o41, .ref o51, .ref o64, .ref o77, .ref o84, .ref o91, .ref o99, .ref o111, .ref o123, .int v125])), (o2, .inr (4, [.ref o3, .int v5, .int v6])), (o3, .inl (cI, 12, .inl fw4))]) := hD
  refine lv_icmp_ne (tgt := 87) hx hb dX11_isKind_69 (by decide) (fun h15 => ?_) (fun h15 => ?_)
  ·
    refine lv_iconst (v := 0) hx hb dX11_isKind_87 (by decide) ?_
    rw [hQ]
    exact W.zret (v := 0) (ty := .boolean) hx hb hr rfl (fun t ht hW => ⟨⟨0, (), rfl, (iv_w ik_0 (by decide)), by rw [ht]; exact hP, va_K.moved hW.alike hK, hD⟩, hS.F ht⟩) hS.2.2 dX11_isKind_88
  ·
    refine lv_aload_n hx hb dX11_isKind_72 rfl (lv_at hl 1 rfl) ?_
    refine va_get (D := (dC, dI)) (ci := 11) (v := .ref o2) (C := RX11) (T := TX11) (N := 13) hx hb hts iw_X11_isKind_X11 hown hK hP 0 rfl rfl 0 (by decide) (hts (.fieldLink RX11 10 "HolelessHouse" "graph" "LHolelessHouse$Graph;") hm_X11_isKind_1) (fun _ h9 => h9) rfl dX11_isKind_73 ?_
    refine lv_iload_n hx hb dX11_isKind_76 rfl (lv_at hl 0 rfl) ?_
    refine kc_i (D := (dC, dI)) (S := Unit) (wc := [(o2, .inr (4, [.ref o3, .int v5, .int v6])), (o3, .inl (cI, 12, .inl fw4))]) (wr := [(o1, .inr (11, [.ref o2, .ref o7, .ref o12, .ref o41, .ref o51, .ref o64, .ref o77, .ref o84, .ref o91, .ref o99, .ref o111, .ref o123, .int v125]))]) (w1 := fun _ => [(o2, .inr (4, [.ref o3, .int v5, .int v6])), (o3, .inl (cI, 12, .inl fw4))]) (wn := fun _ => [(o1, .inr (11, [.ref o2, .ref o7, .ref o12, .ref o41, .ref o51, .ref o64, .ref o77, .ref o84, .ref o91, .ref o99, .ref o111, .ref o123, .int v125])), (o2, .inr (4, [.ref o3, .int v5, .int v6])), (o3, .inl (cI, 12, .inl fw4))]) (fun hPc hDc => va_runVN (As := [.int x1]) (rest := []) ⟨hx, hb, hml, hown, hts⟩ (kX4_isClique_1 l dC dI cI c2 cZ o2 o3 fw4 v5 v6 x1 H.size fw4_b v5_h) ⟨va_cnB 1 hts gX11_isKind_X4_isClique_n202 rfl rfl rfl (hN.1 _ ns_70) (hts (.initialized RX4) hm_X11_isKind_3) (by decide +kernel) ⟨Nat.le_of_ble_eq_true rfl, Nat.le_of_ble_eq_true rfl⟩, (hts (.instanceMethod yX4_isClique) hm_X11_isKind_2), (hts (.selects RX4 yX4_isClique yX4_isClique) hm_X11_isKind_4)⟩ (pre_V hPc hK hDc hN (ci := 4) (q0 := 0) rfl rfl) rfl rfl hl.1 rfl (lv_room (Nat.le_of_ble_eq_true rfl)) dX11_isKind_77 ⟨Nat.le_of_ble_eq_true rfl, Nat.le_of_ble_eq_true rfl⟩) hP hD hS hA [1, 2] [0] [0, 1, 2] rfl rfl (by decide +kernel) (by decide +kernel) (by decide +kernel) (by decide +kernel) (fun _ => rfl) (fun x16 _ H locs hq hP hD hS => ?_)
    have x16_h := hq
    have hP : va_P (dC, dI) vwCl ([(o1, .inr (11, [.ref o2, .ref o7, .ref o12, .ref o41, .ref o51, .ref o64, .ref o77, .ref o84, .ref o91, .ref o99, .ref o111, .ref o123, .int v125])), (o2, .inr (4, [.ref o3, .int v5, .int v6])), (o3, .inl (cI, 12, .inl fw4))]) H := hP
    have hD : va_D A ([(o1, .inr (11, [.ref o2, .ref o7, .ref o12, .ref o41, .ref o51, .ref o64, .ref o77, .ref o84, .ref o91, .ref o99, .ref o111, .ref o123, .int v125])), (o2, .inr (4, [.ref o3, .int v5, .int v6])), (o3, .inl (cI, 12, .inl fw4))]) := hD
    refine lv_if_ne (tgt := 87) hx hb dX11_isKind_80 (by decide) (fun h17 => ?_) (fun h17 => ?_)
    ·
      have j18 : Iv 1 1 x16 := r_nelo h17 x16_h ik_0 (by decide)
      refine lv_iconst (v := 0) hx hb dX11_isKind_87 (by decide) ?_
      rw [hQ]
      exact W.zret (v := 0) (ty := .boolean) hx hb hr rfl (fun t ht hW => ⟨⟨0, (), rfl, (iv_w ik_0 (by decide)), by rw [ht]; exact hP, va_K.moved hW.alike hK, hD⟩, hS.F ht⟩) hS.2.2 dX11_isKind_88
    ·
      have j19 : Iv 0 0 x16 := r_eq h17 ik_0
      refine lv_iconst (v := 1) hx hb dX11_isKind_83 (by decide) ?_
      refine lv_goto (tgt := 88) hx hb dX11_isKind_84 (by decide) ?_
      rw [hQ]
      exact W.zret (v := 1) (ty := .boolean) hx hb hr rfl (fun t ht hW => ⟨⟨1, (), rfl, (iv_w ik_1 (by decide)), by rw [ht]; exact hP, va_K.moved hW.alike hK, hD⟩, hS.F ht⟩) hS.2.2 dX11_isKind_88
theorem iw_X11_kind_X11 : ∀ w ∈ wsX110, w ∈ wsX11_kind := fun _ h => List.mem_cons.mpr (Or.inr (List.mem_append.mpr (Or.inl (List.mem_append.mpr (Or.inr h)))))
set_option maxHeartbeats 4000000 in
set_option maxRecDepth 100000 in
theorem kX11_kind_1 (l : Launch) (dC : Nat → ClassId) (dI : Nat → Nat → Nat) (cI c2 cZ : ClassId) (o1 : Nat) (o2 : Nat) (o7 : Nat) (o12 : Nat) (o41 : Nat) (o51 : Nat) (o64 : Nat) (o77 : Nat) (o84 : Nat) (o91 : Nat) (o99 : Nat) (o111 : Nat) (o123 : Nat) (o3 : Nat) (fw4 : Nat → Int32) (v5 : Int32) (v6 : Int32) (v125 : Int32) (a1 : Int32) (sz : Nat) (fw4_b : Bd 12 0 4095 fw4) (v5_h : Iv 0 12 v5) : Met l yX11_kind wsX11_kind ({ frames := 3, cells := 0, slots := 0, locals := 66 }) (va_Pc [.ref o1, .int a1] (wPre (dC, dI) [(cI, .int), (c2, .array .int), (cZ, .boolean)] ([(o1, .inr (11, [.ref o2, .ref o7, .ref o12, .ref o41, .ref o51, .ref o64, .ref o77, .ref o84, .ref o91, .ref o99, .ref o111, .ref o123, .int v125])), (o2, .inr (4, [.ref o3, .int v5, .int v6])), (o3, .inl (cI, 12, .inl fw4))]) sz)) (va_Qi (fun (r : Int32) (_ : Unit) => Iv (-1) 3 r) (fun _ t => wPost (dC, dI) [(cI, .int), (c2, .array .int), (cZ, .boolean)] (va_A ([(o1, .inr (11, [.ref o2, .ref o7, .ref o12, .ref o41, .ref o51, .ref o64, .ref o77, .ref o84, .ref o91, .ref o99, .ref o111, .ref o123, .int v125])), (o2, .inr (4, [.ref o3, .int v5, .int v6])), (o3, .inl (cI, 12, .inl fw4))]) sz) ([(o1, .inr (11, [.ref o2, .ref o7, .ref o12, .ref o41, .ref o51, .ref o64, .ref o77, .ref o84, .ref o91, .ref o99, .ref o111, .ref o123, .int v125])), (o2, .inr (4, [.ref o3, .int v5, .int v6])), (o3, .inl (cI, 12, .inl fw4))]) t) (va_A ([(o1, .inr (11, [.ref o2, .ref o7, .ref o12, .ref o41, .ref o51, .ref o64, .ref o77, .ref o84, .ref o91, .ref o99, .ref o111, .ref o123, .int v125])), (o2, .inr (4, [.ref o3, .int v5, .int v6])), (o3, .inl (cI, 12, .inl fw4))]) sz)) 0 0 (va_A ([(o1, .inr (11, [.ref o2, .ref o7, .ref o12, .ref o41, .ref o51, .ref o64, .ref o77, .ref o84, .ref o91, .ref o99, .ref o111, .ref o123, .int v125])), (o2, .inr (4, [.ref o3, .int v5, .int v6])), (o3, .inl (cI, 12, .inl fw4))]) sz) := by
  refine Met.ofW (cc := cX11_kind) (maxL := 2) (ret := (some .int)) (by decide) rfl ?_
  intro p e s m args below meth c s₁ B hml hv
  obtain ⟨rfl, hsz, hP, hK, hD0, hN⟩ := hv
  have hx := B.exec
  have hb := B.bytes
  have hr := B.returns
  have hts := atoms_spec (ws := wsX11_kind) B.pre
  have hown : s.vm.findClass RX11 = some m.cls := findClass_of_methodNamed B.named
  have hlocks := B.notSynchronized
  subst hsz
  have hD := hD0.self (sz := s.heap.size)
  generalize hAe : va_A ([(o1, .inr (11, [.ref o2, .ref o7, .ref o12, .ref o41, .ref o51, .ref o64, .ref o77, .ref o84, .ref o91, .ref o99, .ref o111, .ref o123, .int v125])), (o2, .inr (4, [.ref o3, .int v5, .int v6])), (o3, .inl (cI, 12, .inl fw4))]) s.heap.size = A at hD ⊢
  have hA : ∀ q : Nat, s.heap.size ≤ q → A q := fun q h => by rw [← hAe]; exact Or.inr h
  have hS : va_S A s.heap s.heap [] := va_S.rf
  have hP : va_P (dC, dI) vwCl ([(o1, .inr (11, [.ref o2, .ref o7, .ref o12, .ref o41, .ref o51, .ref o64, .ref o77, .ref o84, .ref o91, .ref o99, .ref o111, .ref o123, .int v125])), (o2, .inr (4, [.ref o3, .int v5, .int v6])), (o3, .inl (cI, 12, .inl fw4))]) s.heap := hP
  have hl := lv_entry ([.ref o1, .int a1]) (n := 2) (Nat.le_of_ble_eq_true rfl)
  rw [lg_entry_eq]
  generalize (lg_sl ([.ref o1, .int a1]) ++ List.replicate (2 - (lg_sl ([.ref o1, .int a1])).length) Slot.unset).toArray = ls at hl ⊢
  have hl : lv_has ls 2 [(0, .ref o1), (1, .int a1)] := hl
  refine gen_Q (fun Q hQ => ?_)
  refine lv_aload_n hx hb dX11_kind_0 rfl (lv_at hl 0 rfl) ?_
  refine va_get (D := (dC, dI)) (ci := 11) (v := .ref o2) (C := RX11) (T := TX11) (N := 13) hx hb hts iw_X11_kind_X11 hown hK hP 0 rfl rfl 0 (by decide) (hts (.fieldLink RX11 10 "HolelessHouse" "graph" "LHolelessHouse$Graph;") hm_X11_kind_1) (fun _ h9 => h9) rfl dX11_kind_1 ?_
  refine lv_iload_n hx hb dX11_kind_4 rfl (lv_at hl 1 rfl) ?_
  refine kc_i (D := (dC, dI)) (S := Unit) (wc := [(o2, .inr (4, [.ref o3, .int v5, .int v6]))]) (wr := [(o1, .inr (11, [.ref o2, .ref o7, .ref o12, .ref o41, .ref o51, .ref o64, .ref o77, .ref o84, .ref o91, .ref o99, .ref o111, .ref o123, .int v125])), (o3, .inl (cI, 12, .inl fw4))]) (w1 := fun _ => [(o2, .inr (4, [.ref o3, .int v5, .int v6]))]) (wn := fun _ => [(o1, .inr (11, [.ref o2, .ref o7, .ref o12, .ref o41, .ref o51, .ref o64, .ref o77, .ref o84, .ref o91, .ref o99, .ref o111, .ref o123, .int v125])), (o2, .inr (4, [.ref o3, .int v5, .int v6])), (o3, .inl (cI, 12, .inl fw4))]) (fun hPc hDc => va_runVN (As := [.int a1]) (rest := []) ⟨hx, hb, hml, hown, hts⟩ (kX4_has_1 l dC dI cI c2 cZ o2 o3 v5 v6 a1 s.heap.size v5_h) ⟨va_cnB 1 hts gX11_kind_X4_has_n93 rfl rfl rfl (hN.1 _ ns_66) (hts (.initialized RX4) hm_X11_kind_3) (by decide +kernel) ⟨Nat.le_of_ble_eq_true rfl, Nat.le_of_ble_eq_true rfl⟩, (hts (.instanceMethod yX4_has) hm_X11_kind_2), (hts (.selects RX4 yX4_has yX4_has) hm_X11_kind_4)⟩ (pre_V hPc hK hDc hN (ci := 4) (q0 := 0) rfl rfl) rfl rfl hl.1 rfl (lv_room (Nat.le_of_ble_eq_true rfl)) dX11_kind_5 ⟨Nat.le_of_ble_eq_true rfl, Nat.le_of_ble_eq_true rfl⟩) hP hD hS hA [1] [0, 2] [0, 2, 1] rfl rfl (by decide +kernel) (by decide +kernel) (by decide +kernel) (by decide +kernel) (fun _ => rfl) (fun x1 _ H locs hq hP hD hS => ?_)
  obtain ⟨x1_h, i2⟩ := hq
  have hP : va_P (dC, dI) vwCl ([(o1, .inr (11, [.ref o2, .ref o7, .ref o12, .ref o41, .ref o51, .ref o64, .ref o77, .ref o84, .ref o91, .ref o99, .ref o111, .ref o123, .int v125])), (o2, .inr (4, [.ref o3, .int v5, .int v6])), (o3, .inl (cI, 12, .inl fw4))]) H := hP
  have hD : va_D A ([(o1, .inr (11, [.ref o2, .ref o7, .ref o12, .ref o41, .ref o51, .ref o64, .ref o77, .ref o84, .ref o91, .ref o99, .ref o111, .ref o123, .int v125])), (o2, .inr (4, [.ref o3, .int v5, .int v6])), (o3, .inl (cI, 12, .inl fw4))]) := hD
  refine lv_if_ne (tgt := 13) hx hb dX11_kind_8 (by decide) (fun h3 => ?_) (fun h3 => ?_)
  ·
    have j4 : Iv 1 1 x1 := r_nelo h3 x1_h ik_0 (by decide)
    have j5 : Iv 0 11 a1 := i2 h3
    refine lv_aload_n hx hb dX11_kind_13 rfl (lv_at hl 0 rfl) ?_
    refine lv_iload_n hx hb dX11_kind_14 rfl (lv_at hl 1 rfl) ?_
    refine lv_iconst (v := 2) hx hb dX11_kind_15 (by decide) ?_
    refine kc_i (D := (dC, dI)) (S := Unit) (wc := [(o1, .inr (11, [.ref o2, .ref o7, .ref o12, .ref o41, .ref o51, .ref o64, .ref o77, .ref o84, .ref o91, .ref o99, .ref o111, .ref o123, .int v125])), (o2, .inr (4, [.ref o3, .int v5, .int v6])), (o3, .inl (cI, 12, .inl fw4))]) (wr := []) (w1 := fun _ => [(o1, .inr (11, [.ref o2, .ref o7, .ref o12, .ref o41, .ref o51, .ref o64, .ref o77, .ref o84, .ref o91, .ref o99, .ref o111, .ref o123, .int v125])), (o2, .inr (4, [.ref o3, .int v5, .int v6])), (o3, .inl (cI, 12, .inl fw4))]) (wn := fun _ => [(o1, .inr (11, [.ref o2, .ref o7, .ref o12, .ref o41, .ref o51, .ref o64, .ref o77, .ref o84, .ref o91, .ref o99, .ref o111, .ref o123, .int v125])), (o2, .inr (4, [.ref o3, .int v5, .int v6])), (o3, .inl (cI, 12, .inl fw4))]) (fun hPc hDc => va_runV (As := [.int a1, .int 2]) (rest := []) ⟨hx, hb, hml, hown, hts⟩ (kX11_isKind_1 l dC dI cI c2 cZ o1 o2 o7 o12 o41 o51 o64 o77 o84 o91 o99 o111 o123 o3 fw4 v5 v6 v125 a1 2 H.size fw4_b v5_h j5) (cwV 2 hts gX11_kind_X11_isKind rfl rfl rfl (by decide +kernel) ⟨Nat.le_of_ble_eq_true rfl, Nat.le_of_ble_eq_true rfl⟩) (pre_V hPc hK hDc hN (ci := 11) (q0 := 0) rfl rfl) rfl rfl hl.1 rfl (lv_room (Nat.le_of_ble_eq_true rfl)) dX11_kind_16 ⟨Nat.le_of_ble_eq_true rfl, Nat.le_of_ble_eq_true rfl⟩) hP hD hS hA [0, 1, 2] [] [0, 1, 2] rfl rfl (by decide +kernel) (by decide +kernel) (by decide +kernel) (by decide +kernel) (fun _ => rfl) (fun x6 _ H locs hq hP hD hS => ?_)
    have x6_h := hq
    have hP : va_P (dC, dI) vwCl ([(o1, .inr (11, [.ref o2, .ref o7, .ref o12, .ref o41, .ref o51, .ref o64, .ref o77, .ref o84, .ref o91, .ref o99, .ref o111, .ref o123, .int v125])), (o2, .inr (4, [.ref o3, .int v5, .int v6])), (o3, .inl (cI, 12, .inl fw4))]) H := hP
    have hD : va_D A ([(o1, .inr (11, [.ref o2, .ref o7, .ref o12, .ref o41, .ref o51, .ref o64, .ref o77, .ref o84, .ref o91, .ref o99, .ref o111, .ref o123, .int v125])), (o2, .inr (4, [.ref o3, .int v5, .int v6])), (o3, .inl (cI, 12, .inl fw4))]) := hD
    refine lv_if_eq (tgt := 24) hx hb dX11_kind_19 (by decide) (fun h7 => ?_) (fun h7 => ?_)
    ·
      have j8 : Iv 0 0 x6 := r_eq h7 ik_0
      refine lv_aload_n hx hb dX11_kind_24 rfl (lv_at hl 0 rfl) ?_
      refine lv_iload_n hx hb dX11_kind_25 rfl (lv_at hl 1 rfl) ?_
      refine lv_iconst (v := 1) hx hb dX11_kind_26 (by decide) ?_
      refine kc_i (D := (dC, dI)) (S := Unit) (wc := [(o1, .inr (11, [.ref o2, .ref o7, .ref o12, .ref o41, .ref o51, .ref o64, .ref o77, .ref o84, .ref o91, .ref o99, .ref o111, .ref o123, .int v125])), (o2, .inr (4, [.ref o3, .int v5, .int v6])), (o3, .inl (cI, 12, .inl fw4))]) (wr := []) (w1 := fun _ => [(o1, .inr (11, [.ref o2, .ref o7, .ref o12, .ref o41, .ref o51, .ref o64, .ref o77, .ref o84, .ref o91, .ref o99, .ref o111, .ref o123, .int v125])), (o2, .inr (4, [.ref o3, .int v5, .int v6])), (o3, .inl (cI, 12, .inl fw4))]) (wn := fun _ => [(o1, .inr (11, [.ref o2, .ref o7, .ref o12, .ref o41, .ref o51, .ref o64, .ref o77, .ref o84, .ref o91, .ref o99, .ref o111, .ref o123, .int v125])), (o2, .inr (4, [.ref o3, .int v5, .int v6])), (o3, .inl (cI, 12, .inl fw4))]) (fun hPc hDc => va_runV (As := [.int a1, .int 1]) (rest := []) ⟨hx, hb, hml, hown, hts⟩ (kX11_isKind_1 l dC dI cI c2 cZ o1 o2 o7 o12 o41 o51 o64 o77 o84 o91 o99 o111 o123 o3 fw4 v5 v6 v125 a1 1 H.size fw4_b v5_h j5) (cwV 2 hts gX11_kind_X11_isKind rfl rfl rfl (by decide +kernel) ⟨Nat.le_of_ble_eq_true rfl, Nat.le_of_ble_eq_true rfl⟩) (pre_V hPc hK hDc hN (ci := 11) (q0 := 0) rfl rfl) rfl rfl hl.1 rfl (lv_room (Nat.le_of_ble_eq_true rfl)) dX11_kind_27 ⟨Nat.le_of_ble_eq_true rfl, Nat.le_of_ble_eq_true rfl⟩) hP hD hS hA [0, 1, 2] [] [0, 1, 2] rfl rfl (by decide +kernel) (by decide +kernel) (by decide +kernel) (by decide +kernel) (fun _ => rfl) (fun x9 _ H locs hq hP hD hS => ?_)
      have x9_h := hq
      have hP : va_P (dC, dI) vwCl ([(o1, .inr (11, [.ref o2, .ref o7, .ref o12, .ref o41, .ref o51, .ref o64, .ref o77, .ref o84, .ref o91, .ref o99, .ref o111, .ref o123, .int v125])), (o2, .inr (4, [.ref o3, .int v5, .int v6])), (o3, .inl (cI, 12, .inl fw4))]) H := hP
      have hD : va_D A ([(o1, .inr (11, [.ref o2, .ref o7, .ref o12, .ref o41, .ref o51, .ref o64, .ref o77, .ref o84, .ref o91, .ref o99, .ref o111, .ref o123, .int v125])), (o2, .inr (4, [.ref o3, .int v5, .int v6])), (o3, .inl (cI, 12, .inl fw4))]) := hD
      refine lv_if_eq (tgt := 35) hx hb dX11_kind_30 (by decide) (fun h10 => ?_) (fun h10 => ?_)
      ·
        have j11 : Iv 0 0 x9 := r_eq h10 ik_0
        refine lv_aload_n hx hb dX11_kind_35 rfl (lv_at hl 0 rfl) ?_
        refine lv_iload_n hx hb dX11_kind_36 rfl (lv_at hl 1 rfl) ?_
        refine lv_iconst (v := 3) hx hb dX11_kind_37 (by decide) ?_
        refine kc_i (D := (dC, dI)) (S := Unit) (wc := [(o1, .inr (11, [.ref o2, .ref o7, .ref o12, .ref o41, .ref o51, .ref o64, .ref o77, .ref o84, .ref o91, .ref o99, .ref o111, .ref o123, .int v125])), (o2, .inr (4, [.ref o3, .int v5, .int v6])), (o3, .inl (cI, 12, .inl fw4))]) (wr := []) (w1 := fun _ => [(o1, .inr (11, [.ref o2, .ref o7, .ref o12, .ref o41, .ref o51, .ref o64, .ref o77, .ref o84, .ref o91, .ref o99, .ref o111, .ref o123, .int v125])), (o2, .inr (4, [.ref o3, .int v5, .int v6])), (o3, .inl (cI, 12, .inl fw4))]) (wn := fun _ => [(o1, .inr (11, [.ref o2, .ref o7, .ref o12, .ref o41, .ref o51, .ref o64, .ref o77, .ref o84, .ref o91, .ref o99, .ref o111, .ref o123, .int v125])), (o2, .inr (4, [.ref o3, .int v5, .int v6])), (o3, .inl (cI, 12, .inl fw4))]) (fun hPc hDc => va_runV (As := [.int a1, .int 3]) (rest := []) ⟨hx, hb, hml, hown, hts⟩ (kX11_isKind_1 l dC dI cI c2 cZ o1 o2 o7 o12 o41 o51 o64 o77 o84 o91 o99 o111 o123 o3 fw4 v5 v6 v125 a1 3 H.size fw4_b v5_h j5) (cwV 2 hts gX11_kind_X11_isKind rfl rfl rfl (by decide +kernel) ⟨Nat.le_of_ble_eq_true rfl, Nat.le_of_ble_eq_true rfl⟩) (pre_V hPc hK hDc hN (ci := 11) (q0 := 0) rfl rfl) rfl rfl hl.1 rfl (lv_room (Nat.le_of_ble_eq_true rfl)) dX11_kind_38 ⟨Nat.le_of_ble_eq_true rfl, Nat.le_of_ble_eq_true rfl⟩) hP hD hS hA [0, 1, 2] [] [0, 1, 2] rfl rfl (by decide +kernel) (by decide +kernel) (by decide +kernel) (by decide +kernel) (fun _ => rfl) (fun x12 _ H locs hq hP hD hS => ?_)
        have x12_h := hq
        have hP : va_P (dC, dI) vwCl ([(o1, .inr (11, [.ref o2, .ref o7, .ref o12, .ref o41, .ref o51, .ref o64, .ref o77, .ref o84, .ref o91, .ref o99, .ref o111, .ref o123, .int v125])), (o2, .inr (4, [.ref o3, .int v5, .int v6])), (o3, .inl (cI, 12, .inl fw4))]) H := hP
        have hD : va_D A ([(o1, .inr (11, [.ref o2, .ref o7, .ref o12, .ref o41, .ref o51, .ref o64, .ref o77, .ref o84, .ref o91, .ref o99, .ref o111, .ref o123, .int v125])), (o2, .inr (4, [.ref o3, .int v5, .int v6])), (o3, .inl (cI, 12, .inl fw4))]) := hD
        refine lv_if_eq (tgt := 48) hx hb dX11_kind_41 (by decide) (fun h13 => ?_) (fun h13 => ?_)
        ·
          have j14 : Iv 0 0 x12 := r_eq h13 ik_0
          refine lv_iconst (v := 0) hx hb dX11_kind_48 (by decide) ?_
          rw [hQ]
          exact W.iret (v := 0) hx hb hr (fun t ht hW => ⟨⟨0, (), rfl, (iv_w ik_0 (by decide)), by rw [ht]; exact hP, va_K.moved hW.alike hK, hD⟩, hS.F ht⟩) hS.2.2 dX11_kind_49
        ·
          have j15 : Iv 1 1 x12 := r_nelo h13 x12_h ik_0 (by decide)
          refine lv_iconst (v := 3) hx hb dX11_kind_44 (by decide) ?_
          refine lv_goto (tgt := 49) hx hb dX11_kind_45 (by decide) ?_
          rw [hQ]
          exact W.iret (v := 3) hx hb hr (fun t ht hW => ⟨⟨3, (), rfl, (iv_w ik_3 (by decide)), by rw [ht]; exact hP, va_K.moved hW.alike hK, hD⟩, hS.F ht⟩) hS.2.2 dX11_kind_49
      ·
        have j16 : Iv 1 1 x9 := r_nelo h10 x9_h ik_0 (by decide)
        refine lv_iconst (v := 1) hx hb dX11_kind_33 (by decide) ?_
        rw [hQ]
        exact W.iret (v := 1) hx hb hr (fun t ht hW => ⟨⟨1, (), rfl, (iv_w ik_1 (by decide)), by rw [ht]; exact hP, va_K.moved hW.alike hK, hD⟩, hS.F ht⟩) hS.2.2 dX11_kind_34
    ·
      have j17 : Iv 1 1 x6 := r_nelo h7 x6_h ik_0 (by decide)
      refine lv_iconst (v := 2) hx hb dX11_kind_22 (by decide) ?_
      rw [hQ]
      exact W.iret (v := 2) hx hb hr (fun t ht hW => ⟨⟨2, (), rfl, (iv_w ik_2 (by decide)), by rw [ht]; exact hP, va_K.moved hW.alike hK, hD⟩, hS.F ht⟩) hS.2.2 dX11_kind_23
  ·
    have j18 : Iv 0 0 x1 := r_eq h3 ik_0
    refine lv_iconst (v := (-1)) hx hb dX11_kind_11 (by decide) ?_
    rw [hQ]
    exact W.iret (v := (-1)) hx hb hr (fun t ht hW => ⟨⟨(-1), (), rfl, (iv_w ikm_1 (by decide)), by rw [ht]; exact hP, va_K.moved hW.alike hK, hD⟩, hS.F ht⟩) hS.2.2 dX11_kind_12
