theorem hm_X7_bring_1 : (.fieldLink RX7 22 "HolelessHouse$Paint" "madeFor" "I" : Cond) ∈ wsX7_bring := List.mem_of_getElem? (i := 1) rfl
theorem hm_X7_bring_2 : (.fieldLink RX7 15 "HolelessHouse$Paint" "worn" "[I" : Cond) ∈ wsX7_bring := List.mem_of_getElem? (i := 2) rfl
theorem hm_X7_bring_3 : (.fieldLink RX7 18 "HolelessHouse$Paint" "most" "I" : Cond) ∈ wsX7_bring := List.mem_of_getElem? (i := 3) rfl
theorem hm_X11_colour_2 : (.fieldLink RX11 42 "HolelessHouse" "cliques" "LHolelessHouse$Cliques;" : Cond) ∈ wsX11_colour := List.mem_of_getElem? (i := 2) rfl
theorem hm_X11_colour_1 : (.fieldLink RX11 10 "HolelessHouse" "graph" "LHolelessHouse$Graph;" : Cond) ∈ wsX11_colour := List.mem_of_getElem? (i := 1) rfl
theorem hm_X11_colour_10 : (.initialized RX1 : Cond) ∈ wsX11_colour := List.mem_of_getElem? (i := 10) rfl
theorem hm_X11_colour_9 : (.instanceMethod yX1_bring : Cond) ∈ wsX11_colour := List.mem_of_getElem? (i := 9) rfl
theorem hm_X11_colour_11 : (.selects RX1 yX1_bring yX1_bring : Cond) ∈ wsX11_colour := List.mem_of_getElem? (i := 11) rfl
theorem hm_X11_colour_3 : (.fieldLink RX11 52 "HolelessHouse" "paint" "LHolelessHouse$Paint;" : Cond) ∈ wsX11_colour := List.mem_of_getElem? (i := 3) rfl
theorem hm_X11_colour_40 : (.instanceMethod yX1_widest : Cond) ∈ wsX11_colour := List.mem_of_getElem? (i := 40) rfl
theorem hm_X11_colour_41 : (.selects RX1 yX1_widest yX1_widest : Cond) ∈ wsX11_colour := List.mem_of_getElem? (i := 41) rfl
theorem hm_X11_colour_51 : (.initialized RX7 : Cond) ∈ wsX11_colour := List.mem_of_getElem? (i := 51) rfl
theorem hm_X11_colour_50 : (.instanceMethod yX7_bring : Cond) ∈ wsX11_colour := List.mem_of_getElem? (i := 50) rfl
theorem hm_X11_colour_52 : (.selects RX7 yX7_bring yX7_bring : Cond) ∈ wsX11_colour := List.mem_of_getElem? (i := 52) rfl
theorem hm_X11_colour_5 : (.initialized RX4 : Cond) ∈ wsX11_colour := List.mem_of_getElem? (i := 5) rfl
theorem hm_X11_colour_4 : (.instanceMethod yX4_has : Cond) ∈ wsX11_colour := List.mem_of_getElem? (i := 4) rfl
theorem hm_X11_colour_6 : (.selects RX4 yX4_has yX4_has : Cond) ∈ wsX11_colour := List.mem_of_getElem? (i := 6) rfl
theorem hm_X11_apart_1 : (.fieldLink RX11 46 "HolelessHouse" "looseSets" "LHolelessHouse$Cliques;" : Cond) ∈ wsX11_apart := List.mem_of_getElem? (i := 1) rfl
theorem hm_X11_apart_2 : (.fieldLink RX11 10 "HolelessHouse" "graph" "LHolelessHouse$Graph;" : Cond) ∈ wsX11_apart := List.mem_of_getElem? (i := 2) rfl
theorem hm_X11_apart_4 : (.initialized RX1 : Cond) ∈ wsX11_apart := List.mem_of_getElem? (i := 4) rfl
theorem hm_X11_apart_3 : (.instanceMethod yX1_bring : Cond) ∈ wsX11_apart := List.mem_of_getElem? (i := 3) rfl
theorem hm_X11_apart_5 : (.selects RX1 yX1_bring yX1_bring : Cond) ∈ wsX11_apart := List.mem_of_getElem? (i := 5) rfl
theorem hm_X11_apart_36 : (.instanceMethod yX1_widest : Cond) ∈ wsX11_apart := List.mem_of_getElem? (i := 36) rfl
theorem hm_X11_apart_37 : (.selects RX1 yX1_widest yX1_widest : Cond) ∈ wsX11_apart := List.mem_of_getElem? (i := 37) rfl
theorem hm_X1_tieNext_1 : (.fieldLink RX1 24 "HolelessHouse$Cliques" "size" "I" : Cond) ∈ wsX1_tieNext := List.mem_of_getElem? (i := 1) rfl
theorem hm_X1_tieNext_2 : (.fieldLink RX1 15 "HolelessHouse$Cliques" "sets" "[I" : Cond) ∈ wsX1_tieNext := List.mem_of_getElem? (i := 2) rfl
theorem hm_X1_tieNext_13 : (.initialized RX11 : Cond) ∈ wsX1_tieNext := List.mem_of_getElem? (i := 13) rfl
theorem hm_X1_tieNext_12 : (.static yX11_in : Cond) ∈ wsX1_tieNext := List.mem_of_getElem? (i := 12) rfl
theorem hm_X1_tieNext_3 : (.fieldLink RX1 18 "HolelessHouse$Cliques" "parents" "[I" : Cond) ∈ wsX1_tieNext := List.mem_of_getElem? (i := 3) rfl
theorem hm_X1_tieNext_4 : (.fieldLink RX1 21 "HolelessHouse$Cliques" "shared" "[I" : Cond) ∈ wsX1_tieNext := List.mem_of_getElem? (i := 4) rfl
theorem hm_X1_bringTree_1 : (.fieldLink RX1 31 "HolelessHouse$Cliques" "treeMadeFor" "I" : Cond) ∈ wsX1_bringTree := List.mem_of_getElem? (i := 1) rfl
theorem hm_X1_bringTree_2 : (.fieldLink RX1 28 "HolelessHouse$Cliques" "madeFor" "I" : Cond) ∈ wsX1_bringTree := List.mem_of_getElem? (i := 2) rfl
theorem hm_X1_bringTree_3 : (.fieldLink RX1 18 "HolelessHouse$Cliques" "parents" "[I" : Cond) ∈ wsX1_bringTree := List.mem_of_getElem? (i := 3) rfl
theorem hm_X1_bringTree_4 : (.fieldLink RX1 21 "HolelessHouse$Cliques" "shared" "[I" : Cond) ∈ wsX1_bringTree := List.mem_of_getElem? (i := 4) rfl
theorem hm_X1_bringTree_5 : (.fieldLink RX1 24 "HolelessHouse$Cliques" "size" "I" : Cond) ∈ wsX1_bringTree := List.mem_of_getElem? (i := 5) rfl
theorem hm_X11_tree_1 : (.fieldLink RX11 42 "HolelessHouse" "cliques" "LHolelessHouse$Cliques;" : Cond) ∈ wsX11_tree := List.mem_of_getElem? (i := 1) rfl
theorem hm_X11_tree_2 : (.fieldLink RX11 10 "HolelessHouse" "graph" "LHolelessHouse$Graph;" : Cond) ∈ wsX11_tree := List.mem_of_getElem? (i := 2) rfl
theorem hm_X11_tree_5 : (.initialized RX1 : Cond) ∈ wsX11_tree := List.mem_of_getElem? (i := 5) rfl
theorem hm_X11_tree_4 : (.instanceMethod yX1_bring : Cond) ∈ wsX11_tree := List.mem_of_getElem? (i := 4) rfl
theorem hm_X11_tree_6 : (.selects RX1 yX1_bring yX1_bring : Cond) ∈ wsX11_tree := List.mem_of_getElem? (i := 6) rfl
theorem hm_X11_tree_37 : (.instanceMethod yX1_has : Cond) ∈ wsX11_tree := List.mem_of_getElem? (i := 37) rfl
theorem hm_X11_tree_38 : (.selects RX1 yX1_has yX1_has : Cond) ∈ wsX11_tree := List.mem_of_getElem? (i := 38) rfl
theorem hm_X11_tree_3 : (.fieldLink RX11 33 "HolelessHouse" "ring" "LHolelessHouse$Ring;" : Cond) ∈ wsX11_tree := List.mem_of_getElem? (i := 3) rfl
theorem hm_X11_tree_41 : (.initialized RX9 : Cond) ∈ wsX11_tree := List.mem_of_getElem? (i := 41) rfl
theorem hm_X11_tree_40 : (.instanceMethod yX9_bring : Cond) ∈ wsX11_tree := List.mem_of_getElem? (i := 40) rfl
theorem hm_X11_tree_42 : (.selects RX9 yX9_bring yX9_bring : Cond) ∈ wsX11_tree := List.mem_of_getElem? (i := 42) rfl
theorem hm_X11_tree_93 : (.instanceMethod yX1_bringTree : Cond) ∈ wsX11_tree := List.mem_of_getElem? (i := 93) rfl
theorem hm_X11_tree_94 : (.selects RX1 yX1_bringTree yX1_bringTree : Cond) ∈ wsX11_tree := List.mem_of_getElem? (i := 94) rfl
set_option maxHeartbeats 4000000 in
set_option maxRecDepth 100000 in
theorem kX7_paints_13 (l : Launch) (dC : Nat → ClassId) (dI : Nat → Nat → Nat) (cI c2 cZ : ClassId) (o1 : Nat) (o8 : Nat) (o9 : Nat) (o2 : Nat) (o4 : Nat) (fw3 : Nat → Int32) (fw5 : Nat → Int32) (v6 : Int32) (v7 : Int32) (fw10 : Nat → Int32) (v11 : Int32) (v12 : Int32) (a3 : Int32) (sz : Nat) (v6_h : Iv (-2147483648) 12 v6) (fw10_b : Bd 12 0 4095 fw10) (v11_h : Iv 0 12 v11) (a3_h : Iv 0 12 a3) : Met l yX7_paints wsX7_paints ({ frames := 12, cells := 0, slots := 0, locals := 288 }) (va_Pc [.ref o1, .ref o8, .int 0, .int a3] (wPre (dC, dI) [(cI, .int), (c2, .array .int), (cZ, .boolean)] ([(o8, .inr (4, [.ref o9, .int v11, .int v12])), (o1, .inr (7, [.ref o2, .ref o4, .int v6, .int v7])), (o4, .inl (cI, 12, .inl fw5)), (o9, .inl (cI, 12, .inl fw10)), (o2, .inl (cI, 12, .inl fw3))]) sz)) (va_Qi (fun (r : Int32) (u : (Nat → Int32) × (Nat → Int32)) => Iv 0 1 r) (fun u t => wPost (dC, dI) [(cI, .int), (c2, .array .int), (cZ, .boolean)] (va_A ([(o8, .inr (4, [.ref o9, .int v11, .int v12])), (o1, .inr (7, [.ref o2, .ref o4, .int v6, .int v7])), (o4, .inl (cI, 12, .inl fw5)), (o9, .inl (cI, 12, .inl fw10)), (o2, .inl (cI, 12, .inl fw3))]) sz) ([(o8, .inr (4, [.ref o9, .int v11, .int v12])), (o1, .inr (7, [.ref o2, .ref o4, .int v6, .int v7])), (o4, .inl (cI, 12, .inl u.1)), (o9, .inl (cI, 12, .inl fw10)), (o2, .inl (cI, 12, .inl u.2))]) t) (va_A ([(o8, .inr (4, [.ref o9, .int v11, .int v12])), (o1, .inr (7, [.ref o2, .ref o4, .int v6, .int v7])), (o4, .inl (cI, 12, .inl fw5)), (o9, .inl (cI, 12, .inl fw10)), (o2, .inl (cI, 12, .inl fw3))]) sz)) 0 0 (va_A ([(o8, .inr (4, [.ref o9, .int v11, .int v12])), (o1, .inr (7, [.ref o2, .ref o4, .int v6, .int v7])), (o4, .inl (cI, 12, .inl fw5)), (o9, .inl (cI, 12, .inl fw10)), (o2, .inl (cI, 12, .inl fw3))]) sz) := by
  refine Met.ofW (cc := cX7_paints) (maxL := 5) (ret := (some .boolean)) (by decide) rfl ?_
  intro p e s m args below meth c s₁ B hml hv
  obtain ⟨rfl, hsz, hP, hK, hD0, hN⟩ := hv
  have hx := B.exec
  have hb := B.bytes
  have hr := B.returns
  have hts := atoms_spec (ws := wsX7_paints) B.pre
  have hown : s.vm.findClass RX7 = some m.cls := findClass_of_methodNamed B.named
  have hlocks := B.notSynchronized
  subst hsz
  have hD := hD0.self (sz := s.heap.size)
  generalize hAe : va_A ([(o8, .inr (4, [.ref o9, .int v11, .int v12])), (o1, .inr (7, [.ref o2, .ref o4, .int v6, .int v7])), (o4, .inl (cI, 12, .inl fw5)), (o9, .inl (cI, 12, .inl fw10)), (o2, .inl (cI, 12, .inl fw3))]) s.heap.size = A at hD ⊢
  have hA : ∀ q : Nat, s.heap.size ≤ q → A q := fun q h => by rw [← hAe]; exact Or.inr h
  have hS : va_S A s.heap s.heap [] := va_S.rf
  have hP : va_P (dC, dI) vwCl ([(o8, .inr (4, [.ref o9, .int v11, .int v12])), (o1, .inr (7, [.ref o2, .ref o4, .int v6, .int v7])), (o4, .inl (cI, 12, .inl fw5)), (o9, .inl (cI, 12, .inl fw10)), (o2, .inl (cI, 12, .inl fw3))]) s.heap := hP
  have hl := lv_entry ([.ref o1, .ref o8, .int 0, .int a3]) (n := 5) (Nat.le_of_ble_eq_true rfl)
  rw [lg_entry_eq]
  generalize (lg_sl ([.ref o1, .ref o8, .int 0, .int a3]) ++ List.replicate (5 - (lg_sl ([.ref o1, .ref o8, .int 0, .int a3])).length) Slot.unset).toArray = ls at hl ⊢
  have hl : lv_has ls 5 [(0, .ref o1), (1, .ref o8), (2, .int 0), (3, .int a3)] := hl
  refine gen_Q (fun Q hQ => ?_)
  refine lv_iload_n hx hb dX7_paints_0 rfl (lv_at hl 2 rfl) ?_
  refine lv_aload_n hx hb dX7_paints_1 rfl (lv_at hl 1 rfl) ?_
  refine va_getN (D := (dC, dI)) (ci := 4) (v := .int v11) (C := RX4) (T := TX4) (N := 3) hx hb hts iw_X7_paints_X4 hown hK hP 0 rfl rfl 1 (by decide) (hN.use ns_8) (fun _ h9 => h9) rfl dX7_paints_2 ?_
  refine lv_icmp_lt (tgt := 10) hx hb dX7_paints_5 (by decide) (fun h1 => ?_) (fun h1 => ?_)
  ·
    have qh1 := lt_i h1
    have j2 : Iv 1 12 v11 := r_ltr qh1 ik_0 v11_h (by decide)
    refine lv_iconst (v := 0) hx hb dX7_paints_10 (by decide) ?_
    refine lv_istore (lv' := [(4, .int 0), (0, .ref o1), (1, .ref o8), (2, .int 0), (3, .int a3)]) hx hb dX7_paints_11 hl (by decide) rfl (fun ls hl => ?_)
    have L1 : ∀ (N : Nat) (x250 : Int32) (f251 : Nat → Int32) (f252 : Nat → Int32) (H : Heap) (locs : List Loc) (ls : Array Slot), (12 - x250.toInt).toNat < N → Iv 0 12 x250 → va_P (dC, dI) vwCl ([(o8, .inr (4, [.ref o9, .int v11, .int v12])), (o1, .inr (7, [.ref o2, .ref o4, .int v6, .int v7])), (o4, .inl (cI, 12, .inl f252)), (o9, .inl (cI, 12, .inl fw10)), (o2, .inl (cI, 12, .inl f251))]) H → va_D A ([(o8, .inr (4, [.ref o9, .int v11, .int v12])), (o1, .inr (7, [.ref o2, .ref o4, .int v6, .int v7])), (o4, .inl (cI, 12, .inl f252)), (o9, .inl (cI, 12, .inl fw10)), (o2, .inl (cI, 12, .inl f251))]) → va_S A s.heap H locs → lv_has ls 5 [(4, .int x250), (0, .ref o1), (1, .ref o8), (2, .int 0), (3, .int a3)] → W p l e ({ frames := 12, cells := 0, slots := 0, locals := 288 }) s m ([.ref o1, .ref o8, .int 0, .int a3] : List Value).toArray below meth c H locs 0 0 Q (F0 m 13 ls []) := by
      intro N
      induction N with
      | zero =>
        intro x250 f251 f252 H locs ls hM
        exact absurd hM (Nat.not_lt_zero _)
      | succ N ih1 =>
        intro x250 f251 f252 H locs ls hM1 x250_h hP hD hS hl
        refine lv_iload hx hb dX7_paints_13 (lv_at hl 0 rfl) ?_
        refine lv_iload_n hx hb dX7_paints_15 rfl (lv_at hl 4 rfl) ?_
        refine lv_icmp_gt (tgt := 108) hx hb dX7_paints_16 (by decide) (fun h253 => ?_) (fun h253 => ?_)
        ·
          have qh253 := lt_i h253
          have j254 : Iv 0 11 a3 := r_ltl qh253 a3_h x250_h (by decide)
          have j255 : Iv 1 12 x250 := r_ltr qh253 a3_h x250_h (by decide)
          refine lv_iconst (v := 0) hx hb dX7_paints_108 (by decide) ?_
          rw [hQ]
          exact W.zret (v := 0) (ty := .boolean) hx hb hr rfl (fun t ht hW => ⟨⟨0, (f252, f251), rfl, (iv_w ik_0 (by decide)), by rw [ht]; exact hP, va_K.moved hW.alike hK, hD⟩, hS.F ht⟩) hS.2.2 dX7_paints_109
        ·
          have qh253 := nlt_i h253
          refine lv_iload hx hb dX7_paints_19 (lv_at hl 0 rfl) ?_
          refine lv_aload_n hx hb dX7_paints_21 rfl (lv_at hl 1 rfl) ?_
          refine va_get (D := (dC, dI)) (ci := 7) (v := .int v6) (C := RX7) (T := TX7) (N := 4) hx hb hts iw_X7_paints_X7 hown hK hP 1 rfl rfl 2 (by decide) (hts (.fieldLink RX7 18 "HolelessHouse$Paint" "most" "I") hm_X7_paints_1) (fun _ h9 => h9) rfl dX7_paints_22 ?_
          refine lv_icmp_ge (tgt := 108) hx hb dX7_paints_25 (by decide) (fun h256 => ?_) (fun h256 => ?_)
          ·
            have qh256 := le_i h256
            refine lv_iconst (v := 0) hx hb dX7_paints_108 (by decide) ?_
            rw [hQ]
            exact W.zret (v := 0) (ty := .boolean) hx hb hr rfl (fun t ht hW => ⟨⟨0, (f252, f251), rfl, (iv_w ik_0 (by decide)), by rw [ht]; exact hP, va_K.moved hW.alike hK, hD⟩, hS.F ht⟩) hS.2.2 dX7_paints_109
          ·
            have qh256 := nle_i h256
            have j257 : Iv 0 11 x250 := r_ltl qh256 x250_h v6_h (by decide)
            have j258 : Iv 1 12 v6 := r_ltr qh256 x250_h v6_h (by decide)
            refine lv_aload_n hx hb dX7_paints_28 rfl (lv_at hl 1 rfl) ?_
            refine va_get (D := (dC, dI)) (ci := 7) (v := .ref o4) (C := RX7) (T := TX7) (N := 4) hx hb hts iw_X7_paints_X7 hown hK hP 1 rfl rfl 1 (by decide) (hts (.fieldLink RX7 15 "HolelessHouse$Paint" "worn" "[I") hm_X7_paints_2) (fun _ h9 => h9) rfl dX7_paints_29 ?_
            refine lv_iload hx hb dX7_paints_32 (lv_at hl 0 rfl) ?_
            refine va_iald hx hb hK hP 2 0 rfl rfl (vin_iv j257 (by decide)) dX7_paints_34 (lv_topi (fun x259 x259_e => ?_))
            refine lv_aload_n hx hb dX7_paints_35 rfl (lv_at hl 2 rfl) ?_
            refine va_getN (D := (dC, dI)) (ci := 4) (v := .ref o9) (C := RX4) (T := TX4) (N := 3) hx hb hts iw_X7_paints_X4 hown hK hP 0 rfl rfl 0 (by decide) (hN.use ns_3) (fun _ h9 => h9) rfl dX7_paints_36 ?_
            refine lv_iload_n hx hb dX7_paints_39 rfl (lv_at hl 3 rfl) ?_
            refine va_iald hx hb hK hP 3 0 rfl rfl (vin_iv ik_0 (by decide)) dX7_paints_40 (lv_topi (fun x260 x260_e => ?_))
            have x260_h : Iv 0 4095 x260 := iv_e x260_e (bd_at fw10_b (vin_iv ik_0 (by decide)))
            refine lv_iand hx hb dX7_paints_41 (lv_topi (fun x261 x261_e => ?_))
            have x261_h : Iv 0 4095 x261 := iv_e x261_e (iv_andR _ x260_h (by decide))
            refine lv_if_ne (tgt := 102) hx hb dX7_paints_42 (by decide) (fun h262 => ?_) (fun h262 => ?_)
            ·
              have j263 : Iv 1 4095 x261 := r_nelo h262 x261_h ik_0 (by decide)
              obtain ⟨x264, x264_e⟩ : ∃ z : Int32, z = x250 + 1 := ⟨_, rfl⟩
              have x264_h : Iv 1 12 x264 := iv_e x264_e (iv_add j257 ik_1 (by decide))
              refine lv_iinc (v := x264) (lv' := [(4, .int x264), (0, .ref o1), (1, .ref o8), (2, .int 0), (3, .int a3)]) hx hb dX7_paints_102 hl (k := 0) rfl (incN (by decide +kernel) x264_e) (by decide) rfl (fun ls hl => ?_)
              refine lv_goto (tgt := 13) hx hb dX7_paints_105 (by decide) ?_
              exact ih1 x264 f251 f252 _ _ _ (ms_up x264_e j257 (by decide) hM1) (iv_w x264_h (by decide)) hP hD hS hl
            ·
              have j265 : Iv 0 0 x261 := r_eq h262 ik_0
              refine lv_aload_n hx hb dX7_paints_45 rfl (lv_at hl 1 rfl) ?_
              refine va_get (D := (dC, dI)) (ci := 7) (v := .ref o4) (C := RX7) (T := TX7) (N := 4) hx hb hts iw_X7_paints_X7 hown hK hP 1 rfl rfl 1 (by decide) (hts (.fieldLink RX7 15 "HolelessHouse$Paint" "worn" "[I") hm_X7_paints_2) (fun _ h9 => h9) rfl dX7_paints_46 ?_
              refine lv_iload hx hb dX7_paints_49 (lv_at hl 0 rfl) ?_
              refine lv_dup2_11 hx hb dX7_paints_51 rfl rfl ?_
              refine va_iald hx hb hK hP 2 0 rfl rfl (vin_iv j257 (by decide)) dX7_paints_52 (lv_topi (fun x266 x266_e => ?_))
              refine lv_iconst (v := 1) hx hb dX7_paints_53 (by decide) ?_
              refine lv_iload_n hx hb dX7_paints_54 rfl (lv_at hl 3 rfl) ?_
              refine lv_ishl hx hb dX7_paints_55 (tk_i (v := 1) (by decide +kernel) ?_)
              refine lv_ior hx hb dX7_paints_56 (lv_topi (fun x267 x267_e => ?_))
              refine k_iast hx hb hK hP hD hS 2 0 rfl rfl (vin_iv j257 (by decide)) dX7_paints_57 (fun f268 H locs f268_e hP hD hS => ?_)
              have hP : va_P (dC, dI) vwCl ([(o8, .inr (4, [.ref o9, .int v11, .int v12])), (o1, .inr (7, [.ref o2, .ref o4, .int v6, .int v7])), (o4, .inl (cI, 12, .inl f268)), (o9, .inl (cI, 12, .inl fw10)), (o2, .inl (cI, 12, .inl f251))]) H := hP
              have hD : va_D A ([(o8, .inr (4, [.ref o9, .int v11, .int v12])), (o1, .inr (7, [.ref o2, .ref o4, .int v6, .int v7])), (o4, .inl (cI, 12, .inl f268)), (o9, .inl (cI, 12, .inl fw10)), (o2, .inl (cI, 12, .inl f251))]) := hD
              refine lv_aload_n hx hb dX7_paints_58 rfl (lv_at hl 1 rfl) ?_
              refine va_get (D := (dC, dI)) (ci := 7) (v := .ref o2) (C := RX7) (T := TX7) (N := 4) hx hb hts iw_X7_paints_X7 hown hK hP 1 rfl rfl 0 (by decide) (hts (.fieldLink RX7 9 "HolelessHouse$Paint" "hues" "[I") hm_X7_paints_3) (fun _ h9 => h9) rfl dX7_paints_59 ?_
              refine lv_iload_n hx hb dX7_paints_62 rfl (lv_at hl 3 rfl) ?_
              refine lv_iload hx hb dX7_paints_63 (lv_at hl 0 rfl) ?_
              refine k_iast hx hb hK hP hD hS 4 0 rfl rfl (vin_iv ik_0 (by decide)) dX7_paints_65 (fun f269 H locs f269_e hP hD hS => ?_)
              have hP : va_P (dC, dI) vwCl ([(o8, .inr (4, [.ref o9, .int v11, .int v12])), (o1, .inr (7, [.ref o2, .ref o4, .int v6, .int v7])), (o4, .inl (cI, 12, .inl f268)), (o9, .inl (cI, 12, .inl fw10)), (o2, .inl (cI, 12, .inl f269))]) H := hP
              have hD : va_D A ([(o8, .inr (4, [.ref o9, .int v11, .int v12])), (o1, .inr (7, [.ref o2, .ref o4, .int v6, .int v7])), (o4, .inl (cI, 12, .inl f268)), (o9, .inl (cI, 12, .inl fw10)), (o2, .inl (cI, 12, .inl f269))]) := hD
              refine lv_aload_n hx hb dX7_paints_66 rfl (lv_at hl 1 rfl) ?_
              refine lv_aload_n hx hb dX7_paints_67 rfl (lv_at hl 2 rfl) ?_
              refine lv_iload_n hx hb dX7_paints_68 rfl (lv_at hl 3 rfl) ?_
              refine lv_iconst (v := 1) hx hb dX7_paints_69 (by decide) ?_
              refine lv_iadd hx hb dX7_paints_70 (tk_i (v := 1) (by decide +kernel) ?_)
              refine lv_iload_n hx hb dX7_paints_71 rfl (lv_at hl 4 rfl) ?_
              refine lv_iload hx hb dX7_paints_72 (lv_at hl 0 rfl) ?_
              refine lv_iconst (v := 1) hx hb dX7_paints_74 (by decide) ?_
              refine lv_iadd hx hb dX7_paints_75 (lv_topi (fun x270 x270_e => ?_))
              have x270_h : Iv 1 12 x270 := iv_e x270_e (iv_add j257 ik_1 (by decide))
              refine va_mmax hx hb (hml.trans hl.1.symm) hown (hts (.methodLink RX7 46 Lib.Math.max.name) hm_X7_paints_4) (hts (.static Lib.Math.max.name) hm_X7_paints_5) (hts (.initialized "java/lang/Math") hm_X7_paints_6) (hts (.code Lib.Math.max.name Lib.Math.max.code 2 (some .int)) hm_X7_paints_7) (Nat.le_of_ble_eq_true rfl) (Nat.le_of_ble_eq_true rfl) (Nat.le_of_ble_eq_true rfl) (Nat.le_of_ble_eq_true rfl) dX7_paints_76 (lv_topi (fun x271 x271_e => ?_))
              have x271_h : Iv 0 12 x271 := iv_e x271_e (iv_max a3_h x270_h (by decide))
              refine kc_i (D := (dC, dI)) (S := (Nat → Int32) × (Nat → Int32)) (wc := [(o8, .inr (4, [.ref o9, .int v11, .int v12])), (o1, .inr (7, [.ref o2, .ref o4, .int v6, .int v7])), (o4, .inl (cI, 12, .inl f268)), (o9, .inl (cI, 12, .inl fw10)), (o2, .inl (cI, 12, .inl f269))]) (wr := []) (w1 := fun u => [(o8, .inr (4, [.ref o9, .int v11, .int v12])), (o1, .inr (7, [.ref o2, .ref o4, .int v6, .int v7])), (o4, .inl (cI, 12, .inl u.1)), (o9, .inl (cI, 12, .inl fw10)), (o2, .inl (cI, 12, .inl u.2))]) (wn := fun u => [(o8, .inr (4, [.ref o9, .int v11, .int v12])), (o1, .inr (7, [.ref o2, .ref o4, .int v6, .int v7])), (o4, .inl (cI, 12, .inl u.1)), (o9, .inl (cI, 12, .inl fw10)), (o2, .inl (cI, 12, .inl u.2))]) (fun hPc hDc => va_runS (As := [.ref o1, .ref o8, .int 1, .int x271]) (rest := []) ⟨hx, hb, hml, hown, hts⟩ (kX7_paints_12 l dC dI cI c2 cZ o1 o8 o9 o2 o4 f269 f268 v6 v7 fw10 v11 v12 x271 H.size (iv_w j258 (by decide)) fw10_b (iv_w j2 (by decide)) x271_h) (va_cwS 4 hts gX7_paints_X7_paints rfl rfl rfl (by decide +kernel) ⟨Nat.le_of_ble_eq_true rfl, Nat.le_of_ble_eq_true rfl⟩) (pre_S hPc hK hDc hN) rfl rfl hl.1 rfl (lv_room (Nat.le_of_ble_eq_true rfl)) dX7_paints_79 ⟨Nat.le_of_ble_eq_true rfl, Nat.le_of_ble_eq_true rfl⟩) hP hD hS hA [0, 1, 2, 3, 4] [] [0, 1, 2, 3, 4] rfl rfl (by decide +kernel) (by decide +kernel) (by decide +kernel) (by decide +kernel) (fun _ => rfl) (fun x274 u H locs hq hP hD hS => ?_)
              obtain ⟨f272, f273⟩ := u
              have x274_h := hq
              have hP : va_P (dC, dI) vwCl ([(o8, .inr (4, [.ref o9, .int v11, .int v12])), (o1, .inr (7, [.ref o2, .ref o4, .int v6, .int v7])), (o4, .inl (cI, 12, .inl f272)), (o9, .inl (cI, 12, .inl fw10)), (o2, .inl (cI, 12, .inl f273))]) H := hP
              have hD : va_D A ([(o8, .inr (4, [.ref o9, .int v11, .int v12])), (o1, .inr (7, [.ref o2, .ref o4, .int v6, .int v7])), (o4, .inl (cI, 12, .inl f272)), (o9, .inl (cI, 12, .inl fw10)), (o2, .inl (cI, 12, .inl f273))]) := hD
              refine lv_if_eq (tgt := 87) hx hb dX7_paints_82 (by decide) (fun h275 => ?_) (fun h275 => ?_)
              ·
                have j276 : Iv 0 0 x274 := r_eq h275 ik_0
                refine lv_aload_n hx hb dX7_paints_87 rfl (lv_at hl 1 rfl) ?_
                refine va_get (D := (dC, dI)) (ci := 7) (v := .ref o4) (C := RX7) (T := TX7) (N := 4) hx hb hts iw_X7_paints_X7 hown hK hP 1 rfl rfl 1 (by decide) (hts (.fieldLink RX7 15 "HolelessHouse$Paint" "worn" "[I") hm_X7_paints_2) (fun _ h9 => h9) rfl dX7_paints_88 ?_
                refine lv_iload hx hb dX7_paints_91 (lv_at hl 0 rfl) ?_
                refine lv_dup2_11 hx hb dX7_paints_93 rfl rfl ?_
                refine va_iald hx hb hK hP 2 0 rfl rfl (vin_iv j257 (by decide)) dX7_paints_94 (lv_topi (fun x277 x277_e => ?_))
                refine lv_iconst (v := 1) hx hb dX7_paints_95 (by decide) ?_
                refine lv_iload_n hx hb dX7_paints_96 rfl (lv_at hl 3 rfl) ?_
                refine lv_ishl hx hb dX7_paints_97 (tk_i (v := 1) (by decide +kernel) ?_)
                refine lv_iconst (v := (-1)) hx hb dX7_paints_98 (by decide) ?_
                refine lv_ixor hx hb dX7_paints_99 (tk_i (v := (-2)) (by decide +kernel) ?_)
                refine lv_iand hx hb dX7_paints_100 (lv_topi (fun x278 x278_e => ?_))
                refine k_iast hx hb hK hP hD hS 2 0 rfl rfl (vin_iv j257 (by decide)) dX7_paints_101 (fun f279 H locs f279_e hP hD hS => ?_)
                have hP : va_P (dC, dI) vwCl ([(o8, .inr (4, [.ref o9, .int v11, .int v12])), (o1, .inr (7, [.ref o2, .ref o4, .int v6, .int v7])), (o4, .inl (cI, 12, .inl f279)), (o9, .inl (cI, 12, .inl fw10)), (o2, .inl (cI, 12, .inl f273))]) H := hP
                have hD : va_D A ([(o8, .inr (4, [.ref o9, .int v11, .int v12])), (o1, .inr (7, [.ref o2, .ref o4, .int v6, .int v7])), (o4, .inl (cI, 12, .inl f279)), (o9, .inl (cI, 12, .inl fw10)), (o2, .inl (cI, 12, .inl f273))]) := hD
                obtain ⟨x280, x280_e⟩ : ∃ z : Int32, z = x250 + 1 := ⟨_, rfl⟩
                have x280_h : Iv 1 12 x280 := iv_e x280_e (iv_add j257 ik_1 (by decide))
                refine lv_iinc (v := x280) (lv' := [(4, .int x280), (0, .ref o1), (1, .ref o8), (2, .int 0), (3, .int a3)]) hx hb dX7_paints_102 hl (k := 0) rfl (incN (by decide +kernel) x280_e) (by decide) rfl (fun ls hl => ?_)
                refine lv_goto (tgt := 13) hx hb dX7_paints_105 (by decide) ?_
                exact ih1 x280 f273 f279 _ _ _ (ms_up x280_e j257 (by decide) hM1) (iv_w x280_h (by decide)) hP hD hS hl
              ·
                have j281 : Iv 1 1 x274 := r_nelo h275 x274_h ik_0 (by decide)
                refine lv_iconst (v := 1) hx hb dX7_paints_85 (by decide) ?_
                rw [hQ]
                exact W.zret (v := 1) (ty := .boolean) hx hb hr rfl (fun t ht hW => ⟨⟨1, (f272, f273), rfl, (iv_w ik_1 (by decide)), by rw [ht]; exact hP, va_K.moved hW.alike hK, hD⟩, hS.F ht⟩) hS.2.2 dX7_paints_86
    exact L1 _ 0 fw3 fw5 _ _ _ (Nat.lt_succ_self _) (iv_w ik_0 (by decide)) hP hD hS hl
  ·
    have qh1 := nlt_i h1
    have j282 : Iv 0 0 v11 := r_lel qh1 v11_h ik_0 (by decide)
    refine lv_iconst (v := 1) hx hb dX7_paints_8 (by decide) ?_
    rw [hQ]
    exact W.zret (v := 1) (ty := .boolean) hx hb hr rfl (fun t ht hW => ⟨⟨1, (fw5, fw3), rfl, (iv_w ik_1 (by decide)), by rw [ht]; exact hP, va_K.moved hW.alike hK, hD⟩, hS.F ht⟩) hS.2.2 dX7_paints_9
theorem iw_X7_bring_X4 : ∀ w ∈ wsX40, w ∈ wsX7_bring := fun _ h => List.mem_cons.mpr (Or.inr (List.mem_append.mpr (Or.inr h)))
theorem iw_X7_bring_X7 : ∀ w ∈ wsX70, w ∈ wsX7_bring := fun _ h => List.mem_cons.mpr (Or.inr (List.mem_append.mpr (Or.inl (List.mem_append.mpr (Or.inr h)))))
set_option maxHeartbeats 4000000 in
set_option maxRecDepth 100000 in
theorem kX7_bring_1 (l : Launch) (dC : Nat → ClassId) (dI : Nat → Nat → Nat) (cI c2 cZ : ClassId) (o1 : Nat) (o8 : Nat) (o2 : Nat) (o4 : Nat) (o9 : Nat) (fw3 : Nat → Int32) (fw5 : Nat → Int32) (v6 : Int32) (v7 : Int32) (fw10 : Nat → Int32) (v11 : Int32) (v12 : Int32) (a2 : Int32) (sz : Nat) (v6_h : Iv (-2147483648) 12 v6) (fw10_b : Bd 12 0 4095 fw10) (v11_h : Iv 0 12 v11) (a2_h : Iv 0 63 a2) : Met l yX7_bring wsX7_bring ({ frames := 13, cells := 0, slots := 0, locals := 312 }) (va_Pc [.ref o1, .ref o8, .int a2] (wPre (dC, dI) [(cI, .int), (c2, .array .int), (cZ, .boolean)] ([(o1, .inr (7, [.ref o2, .ref o4, .int v6, .int v7])), (o8, .inr (4, [.ref o9, .int v11, .int v12])), (o4, .inl (cI, 12, .inl fw5)), (o9, .inl (cI, 12, .inl fw10)), (o2, .inl (cI, 12, .inl fw3))]) sz)) (va_Qv (fun (u : Int32 × Int32 × (Nat → Int32) × (Nat → Int32)) => Iv (-2147483648) 12 u.1) (fun u t => wPost (dC, dI) [(cI, .int), (c2, .array .int), (cZ, .boolean)] (va_A ([(o1, .inr (7, [.ref o2, .ref o4, .int v6, .int v7])), (o8, .inr (4, [.ref o9, .int v11, .int v12])), (o4, .inl (cI, 12, .inl fw5)), (o9, .inl (cI, 12, .inl fw10)), (o2, .inl (cI, 12, .inl fw3))]) sz) ([(o1, .inr (7, [.ref o2, .ref o4, .int u.1, .int u.2.1])), (o8, .inr (4, [.ref o9, .int v11, .int v12])), (o4, .inl (cI, 12, .inl u.2.2.1)), (o9, .inl (cI, 12, .inl fw10)), (o2, .inl (cI, 12, .inl u.2.2.2))]) t) (va_A ([(o1, .inr (7, [.ref o2, .ref o4, .int v6, .int v7])), (o8, .inr (4, [.ref o9, .int v11, .int v12])), (o4, .inl (cI, 12, .inl fw5)), (o9, .inl (cI, 12, .inl fw10)), (o2, .inl (cI, 12, .inl fw3))]) sz)) 0 0 (va_A ([(o1, .inr (7, [.ref o2, .ref o4, .int v6, .int v7])), (o8, .inr (4, [.ref o9, .int v11, .int v12])), (o4, .inl (cI, 12, .inl fw5)), (o9, .inl (cI, 12, .inl fw10)), (o2, .inl (cI, 12, .inl fw3))]) sz) := by
  refine Met.ofW (cc := cX7_bring) (maxL := 4) (ret := none) (by decide) rfl ?_
  intro p e s m args below meth c s₁ B hml hv
  obtain ⟨rfl, hsz, hP, hK, hD0, hN⟩ := hv
  have hx := B.exec
  have hb := B.bytes
  have hr := B.returns
  have hts := atoms_spec (ws := wsX7_bring) B.pre
  have hown : s.vm.findClass RX7 = some m.cls := findClass_of_methodNamed B.named
  have hlocks := B.notSynchronized
  subst hsz
  have hD := hD0.self (sz := s.heap.size)
  generalize hAe : va_A ([(o1, .inr (7, [.ref o2, .ref o4, .int v6, .int v7])), (o8, .inr (4, [.ref o9, .int v11, .int v12])), (o4, .inl (cI, 12, .inl fw5)), (o9, .inl (cI, 12, .inl fw10)), (o2, .inl (cI, 12, .inl fw3))]) s.heap.size = A at hD ⊢
  have hA : ∀ q : Nat, s.heap.size ≤ q → A q := fun q h => by rw [← hAe]; exact Or.inr h
  have hS : va_S A s.heap s.heap [] := va_S.rf
  have hP : va_P (dC, dI) vwCl ([(o1, .inr (7, [.ref o2, .ref o4, .int v6, .int v7])), (o8, .inr (4, [.ref o9, .int v11, .int v12])), (o4, .inl (cI, 12, .inl fw5)), (o9, .inl (cI, 12, .inl fw10)), (o2, .inl (cI, 12, .inl fw3))]) s.heap := hP
  have hl := lv_entry ([.ref o1, .ref o8, .int a2]) (n := 4) (Nat.le_of_ble_eq_true rfl)
  rw [lg_entry_eq]
  generalize (lg_sl ([.ref o1, .ref o8, .int a2]) ++ List.replicate (4 - (lg_sl ([.ref o1, .ref o8, .int a2])).length) Slot.unset).toArray = ls at hl ⊢
  have hl : lv_has ls 4 [(0, .ref o1), (1, .ref o8), (2, .int a2)] := hl
  refine gen_Q (fun Q hQ => ?_)
  refine lv_aload_n hx hb dX7_bring_0 rfl (lv_at hl 0 rfl) ?_
  refine va_get (D := (dC, dI)) (ci := 7) (v := .int v7) (C := RX7) (T := TX7) (N := 4) hx hb hts iw_X7_bring_X7 hown hK hP 0 rfl rfl 3 (by decide) (hts (.fieldLink RX7 22 "HolelessHouse$Paint" "madeFor" "I") hm_X7_bring_1) (fun _ h9 => h9) rfl dX7_bring_1 ?_
  refine lv_aload_n hx hb dX7_bring_4 rfl (lv_at hl 1 rfl) ?_
  refine va_getN (D := (dC, dI)) (ci := 4) (v := .int v12) (C := RX4) (T := TX4) (N := 3) hx hb hts iw_X7_bring_X4 hown hK hP 1 rfl rfl 2 (by decide) (hN.use ns_16) (fun _ h9 => h9) rfl dX7_bring_5 ?_
  refine lv_icmp_ne (tgt := 12) hx hb dX7_bring_8 (by decide) (fun h1 => ?_) (fun h1 => ?_)
  ·
    refine lv_aload_n hx hb dX7_bring_12 rfl (lv_at hl 0 rfl) ?_
    refine lv_aload_n hx hb dX7_bring_13 rfl (lv_at hl 1 rfl) ?_
    refine va_getN (D := (dC, dI)) (ci := 4) (v := .int v12) (C := RX4) (T := TX4) (N := 3) hx hb hts iw_X7_bring_X4 hown hK hP 1 rfl rfl 2 (by decide) (hN.use ns_16) (fun _ h9 => h9) rfl dX7_bring_14 ?_
    refine va_put (D := (dC, dI)) (ci := 7) (v := .int v12) (ty := .int) (C := RX7) (T := TX7) (N := 4) hx hb hts iw_X7_bring_X7 tyX7 tyX7_ok nmX7 hown hK hP hD hS 0 rfl rfl 3 (by decide) (hts (.fieldLink RX7 22 "HolelessHouse$Paint" "madeFor" "I") hm_X7_bring_1) (fun _ h9 => h9) rfl (by decide +kernel) rfl rfl (Nat.le_of_ble_eq_true rfl) dX7_bring_17 (fun H locs hP hD hS => ?_)
    have hP : va_P (dC, dI) vwCl ([(o1, .inr (7, [.ref o2, .ref o4, .int v6, .int v12])), (o8, .inr (4, [.ref o9, .int v11, .int v12])), (o4, .inl (cI, 12, .inl fw5)), (o9, .inl (cI, 12, .inl fw10)), (o2, .inl (cI, 12, .inl fw3))]) H := hP
    have hD : va_D A ([(o1, .inr (7, [.ref o2, .ref o4, .int v6, .int v12])), (o8, .inr (4, [.ref o9, .int v11, .int v12])), (o4, .inl (cI, 12, .inl fw5)), (o9, .inl (cI, 12, .inl fw10)), (o2, .inl (cI, 12, .inl fw3))]) := hD
    refine lv_iload_n hx hb dX7_bring_20 rfl (lv_at hl 2 rfl) ?_
    refine lv_istore_n (lv' := [(3, .int a2), (0, .ref o1), (1, .ref o8), (2, .int a2)]) hx hb dX7_bring_21 rfl hl (by decide) rfl (fun ls hl => ?_)
    have L1 : ∀ (N : Nat) (x28 : Int32) (f29 : Nat → Int32) (f30 : Nat → Int32) (x31 : Int32) (H : Heap) (locs : List Loc) (ls : Array Slot), (63 - x28.toInt).toNat < N → Iv 0 63 x28 → Iv (-2147483648) 12 x31 → va_P (dC, dI) vwCl ([(o1, .inr (7, [.ref o2, .ref o4, .int x31, .int v12])), (o8, .inr (4, [.ref o9, .int v11, .int v12])), (o4, .inl (cI, 12, .inl f30)), (o9, .inl (cI, 12, .inl fw10)), (o2, .inl (cI, 12, .inl f29))]) H → va_D A ([(o1, .inr (7, [.ref o2, .ref o4, .int x31, .int v12])), (o8, .inr (4, [.ref o9, .int v11, .int v12])), (o4, .inl (cI, 12, .inl f30)), (o9, .inl (cI, 12, .inl fw10)), (o2, .inl (cI, 12, .inl f29))]) → va_S A s.heap H locs → lv_has ls 4 [(3, .int x28), (0, .ref o1), (1, .ref o8), (2, .int a2)] → W p l e ({ frames := 13, cells := 0, slots := 0, locals := 312 }) s m ([.ref o1, .ref o8, .int a2] : List Value).toArray below meth c H locs 0 0 Q (F0 m 22 ls []) := by
      intro N
      induction N with
      | zero =>
        intro x28 f29 f30 x31 H locs ls hM
        exact absurd hM (Nat.not_lt_zero _)
      | succ N ih1 =>
        intro x28 f29 f30 x31 H locs ls hM1 x28_h x31_h hP hD hS hl
        refine lv_iload_n hx hb dX7_bring_22 rfl (lv_at hl 0 rfl) ?_
        refine lv_aload_n hx hb dX7_bring_23 rfl (lv_at hl 2 rfl) ?_
        refine va_getN (D := (dC, dI)) (ci := 4) (v := .int v11) (C := RX4) (T := TX4) (N := 3) hx hb hts iw_X7_bring_X4 hown hK hP 1 rfl rfl 1 (by decide) (hN.use ns_8) (fun _ h9 => h9) rfl dX7_bring_24 ?_
        refine lv_icmp_gt (tgt := 60) hx hb dX7_bring_27 (by decide) (fun h32 => ?_) (fun h32 => ?_)
        ·
          have qh32 := lt_i h32
          have j33 : Iv 1 63 x28 := r_ltr qh32 v11_h x28_h (by decide)
          rw [hQ]
          exact W.vret hx hb hr (fun t ht hW => ⟨⟨(x31, v12, f30, f29), rfl, x31_h, by rw [ht]; exact hP, va_K.moved hW.alike hK, hD⟩, hS.F ht⟩) hS.2.2 dX7_bring_60
        ·
          have qh32 := nlt_i h32
          have j34 : Iv 0 12 x28 := r_lel qh32 x28_h v11_h (by decide)
          refine lv_aload_n hx hb dX7_bring_30 rfl (lv_at hl 1 rfl) ?_
          refine va_get (D := (dC, dI)) (ci := 7) (v := .ref o4) (C := RX7) (T := TX7) (N := 4) hx hb hts iw_X7_bring_X7 hown hK hP 0 rfl rfl 1 (by decide) (hts (.fieldLink RX7 15 "HolelessHouse$Paint" "worn" "[I") hm_X7_bring_2) (fun _ h9 => h9) rfl dX7_bring_31 ?_
          refine lv_iconst (v := 0) hx hb dX7_bring_34 (by decide) ?_
          refine kc_v (D := (dC, dI)) (S := (Nat → Int32)) (wc := [(o4, .inl (cI, 12, .inl f30))]) (wr := [(o1, .inr (7, [.ref o2, .ref o4, .int x31, .int v12])), (o8, .inr (4, [.ref o9, .int v11, .int v12])), (o9, .inl (cI, 12, .inl fw10)), (o2, .inl (cI, 12, .inl f29))]) (w1 := fun u => [(o4, .inl (cI, 12, .inl u))]) (wn := fun u => [(o1, .inr (7, [.ref o2, .ref o4, .int x31, .int v12])), (o8, .inr (4, [.ref o9, .int v11, .int v12])), (o4, .inl (cI, 12, .inl u)), (o9, .inl (cI, 12, .inl fw10)), (o2, .inl (cI, 12, .inl f29))]) (fun hPc hDc => va_runS (As := [.ref o4, .int 0]) (rest := []) ⟨hx, hb, hml, hown, hts⟩ (kJ7_fill_53178_2 l dC dI cI c2 cZ o4 f30 0 H.size ik_0) (va_cwS 2 hts gX7_bring_J7_fill_53178 rfl rfl rfl (by decide +kernel) ⟨Nat.le_of_ble_eq_true rfl, Nat.le_of_ble_eq_true rfl⟩) (pre_S hPc hK hDc hN) rfl rfl hl.1 rfl (lv_room (Nat.le_of_ble_eq_true rfl)) dX7_bring_35 ⟨Nat.le_of_ble_eq_true rfl, Nat.le_of_ble_eq_true rfl⟩) hP hD hS hA [2] [0, 1, 3, 4] [0, 1, 4, 2, 3] rfl rfl (by decide +kernel) (by decide +kernel) (by decide +kernel) (by decide +kernel) (fun _ => rfl) (fun f35 H locs hq hP hD hS => ?_)
          have hP : va_P (dC, dI) vwCl ([(o1, .inr (7, [.ref o2, .ref o4, .int x31, .int v12])), (o8, .inr (4, [.ref o9, .int v11, .int v12])), (o4, .inl (cI, 12, .inl f35)), (o9, .inl (cI, 12, .inl fw10)), (o2, .inl (cI, 12, .inl f29))]) H := hP
          have hD : va_D A ([(o1, .inr (7, [.ref o2, .ref o4, .int x31, .int v12])), (o8, .inr (4, [.ref o9, .int v11, .int v12])), (o4, .inl (cI, 12, .inl f35)), (o9, .inl (cI, 12, .inl fw10)), (o2, .inl (cI, 12, .inl f29))]) := hD
          refine lv_aload_n hx hb dX7_bring_38 rfl (lv_at hl 1 rfl) ?_
          refine lv_iload_n hx hb dX7_bring_39 rfl (lv_at hl 0 rfl) ?_
          refine va_put (D := (dC, dI)) (ci := 7) (v := .int x28) (ty := .int) (C := RX7) (T := TX7) (N := 4) hx hb hts iw_X7_bring_X7 tyX7 tyX7_ok nmX7 hown hK hP hD hS 0 rfl rfl 2 (by decide) (hts (.fieldLink RX7 18 "HolelessHouse$Paint" "most" "I") hm_X7_bring_3) (fun _ h9 => h9) rfl (by decide +kernel) rfl rfl (Nat.le_of_ble_eq_true rfl) dX7_bring_40 (fun H locs hP hD hS => ?_)
          have hP : va_P (dC, dI) vwCl ([(o1, .inr (7, [.ref o2, .ref o4, .int x28, .int v12])), (o8, .inr (4, [.ref o9, .int v11, .int v12])), (o4, .inl (cI, 12, .inl f35)), (o9, .inl (cI, 12, .inl fw10)), (o2, .inl (cI, 12, .inl f29))]) H := hP
          have hD : va_D A ([(o1, .inr (7, [.ref o2, .ref o4, .int x28, .int v12])), (o8, .inr (4, [.ref o9, .int v11, .int v12])), (o4, .inl (cI, 12, .inl f35)), (o9, .inl (cI, 12, .inl fw10)), (o2, .inl (cI, 12, .inl f29))]) := hD
          refine lv_aload_n hx hb dX7_bring_43 rfl (lv_at hl 1 rfl) ?_
          refine lv_aload_n hx hb dX7_bring_44 rfl (lv_at hl 2 rfl) ?_
          refine lv_iconst (v := 0) hx hb dX7_bring_45 (by decide) ?_
          refine lv_iconst (v := 0) hx hb dX7_bring_46 (by decide) ?_
          refine kc_i (D := (dC, dI)) (S := (Nat → Int32) × (Nat → Int32)) (wc := [(o8, .inr (4, [.ref o9, .int v11, .int v12])), (o1, .inr (7, [.ref o2, .ref o4, .int x28, .int v12])), (o4, .inl (cI, 12, .inl f35)), (o9, .inl (cI, 12, .inl fw10)), (o2, .inl (cI, 12, .inl f29))]) (wr := []) (w1 := fun u => [(o8, .inr (4, [.ref o9, .int v11, .int v12])), (o1, .inr (7, [.ref o2, .ref o4, .int x28, .int v12])), (o4, .inl (cI, 12, .inl u.1)), (o9, .inl (cI, 12, .inl fw10)), (o2, .inl (cI, 12, .inl u.2))]) (wn := fun u => [(o1, .inr (7, [.ref o2, .ref o4, .int x28, .int v12])), (o8, .inr (4, [.ref o9, .int v11, .int v12])), (o4, .inl (cI, 12, .inl u.1)), (o9, .inl (cI, 12, .inl fw10)), (o2, .inl (cI, 12, .inl u.2))]) (fun hPc hDc => va_runS (As := [.ref o1, .ref o8, .int 0, .int 0]) (rest := []) ⟨hx, hb, hml, hown, hts⟩ (kX7_paints_13 l dC dI cI c2 cZ o1 o8 o9 o2 o4 f29 f35 x28 v12 fw10 v11 v12 0 H.size (iv_w j34 (by decide)) fw10_b v11_h (iv_w ik_0 (by decide))) (va_cwS 4 hts gX7_bring_X7_paints rfl rfl rfl (by decide +kernel) ⟨Nat.le_of_ble_eq_true rfl, Nat.le_of_ble_eq_true rfl⟩) (pre_S hPc hK hDc hN) rfl rfl hl.1 rfl (lv_room (Nat.le_of_ble_eq_true rfl)) dX7_bring_47 ⟨Nat.le_of_ble_eq_true rfl, Nat.le_of_ble_eq_true rfl⟩) hP hD hS hA [1, 0, 2, 3, 4] [] [1, 0, 2, 3, 4] rfl rfl (by decide +kernel) (by decide +kernel) (by decide +kernel) (by decide +kernel) (fun _ => rfl) (fun x38 u H locs hq hP hD hS => ?_)
          obtain ⟨f36, f37⟩ := u
          have x38_h := hq
          have hP : va_P (dC, dI) vwCl ([(o1, .inr (7, [.ref o2, .ref o4, .int x28, .int v12])), (o8, .inr (4, [.ref o9, .int v11, .int v12])), (o4, .inl (cI, 12, .inl f36)), (o9, .inl (cI, 12, .inl fw10)), (o2, .inl (cI, 12, .inl f37))]) H := hP
          have hD : va_D A ([(o1, .inr (7, [.ref o2, .ref o4, .int x28, .int v12])), (o8, .inr (4, [.ref o9, .int v11, .int v12])), (o4, .inl (cI, 12, .inl f36)), (o9, .inl (cI, 12, .inl fw10)), (o2, .inl (cI, 12, .inl f37))]) := hD
          refine lv_if_eq (tgt := 54) hx hb dX7_bring_50 (by decide) (fun h39 => ?_) (fun h39 => ?_)
          ·
            have j40 : Iv 0 0 x38 := r_eq h39 ik_0
            obtain ⟨x41, x41_e⟩ : ∃ z : Int32, z = x28 + 1 := ⟨_, rfl⟩
            have x41_h : Iv 1 13 x41 := iv_e x41_e (iv_add j34 ik_1 (by decide))
            refine lv_iinc (v := x41) (lv' := [(3, .int x41), (0, .ref o1), (1, .ref o8), (2, .int a2)]) hx hb dX7_bring_54 hl (k := 0) rfl (incN (by decide +kernel) x41_e) (by decide) rfl (fun ls hl => ?_)
            refine lv_goto (tgt := 22) hx hb dX7_bring_57 (by decide) ?_
            exact ih1 x41 f37 f36 x28 _ _ _ (ms_up x41_e j34 (by decide) hM1) (iv_w x41_h (by decide)) (iv_w j34 (by decide)) hP hD hS hl
          ·
            have j42 : Iv 1 1 x38 := r_nelo h39 x38_h ik_0 (by decide)
            rw [hQ]
            exact W.vret hx hb hr (fun t ht hW => ⟨⟨(x28, v12, f36, f37), rfl, (iv_w j34 (by decide)), by rw [ht]; exact hP, va_K.moved hW.alike hK, hD⟩, hS.F ht⟩) hS.2.2 dX7_bring_53
    exact L1 _ a2 fw3 fw5 v6 _ _ _ (Nat.lt_succ_self _) a2_h v6_h hP hD hS hl
  ·
    rw [hQ]
    exact W.vret hx hb hr (fun t ht hW => ⟨⟨(v6, v7, fw5, fw3), rfl, v6_h, by rw [ht]; exact hP, va_K.moved hW.alike hK, hD⟩, hS.F ht⟩) hS.2.2 dX7_bring_11
theorem iw_X11_colour_X11 : ∀ w ∈ wsX110, w ∈ wsX11_colour := fun _ h => List.mem_cons.mpr (Or.inr (List.mem_append.mpr (Or.inl (List.mem_append.mpr (Or.inl (List.mem_append.mpr (Or.inl (List.mem_append.mpr (Or.inr h)))))))))
theorem iw_X11_colour_X7 : ∀ w ∈ wsX70, w ∈ wsX11_colour := fun _ h => List.mem_cons.mpr (Or.inr (List.mem_append.mpr (Or.inl (List.mem_append.mpr (Or.inl (List.mem_append.mpr (Or.inr h)))))))
set_option maxHeartbeats 4000000 in
set_option maxRecDepth 100000 in
theorem kX11_colour_1 (l : Launch) (dC : Nat → ClassId) (dI : Nat → Nat → Nat) (cI c2 cZ : ClassId) (o1 : Nat) (o2 : Nat) (o7 : Nat) (o12 : Nat) (o41 : Nat) (o51 : Nat) (o64 : Nat) (o77 : Nat) (o84 : Nat) (o91 : Nat) (o99 : Nat) (o111 : Nat) (o123 : Nat) (o53 : Nat) (o55 : Nat) (o57 : Nat) (o59 : Nat) (o3 : Nat) (o78 : Nat) (o80 : Nat) (fw4 : Nat → Int32) (v5 : Int32) (v6 : Int32) (v52 : Int32) (fw54 : Nat → Int32) (fw56 : Nat → Int32) (v61 : Int32) (v62 : Int32) (v63 : Int32) (fw79 : Nat → Int32) (fw81 : Nat → Int32) (v82 : Int32) (v83 : Int32) (v125 : Int32) (a1 : Int32) (sz : Nat) (fw4_b : Bd 12 0 4095 fw4) (v5_h : Iv 0 12 v5) (v52_h : Iv 0 1 v52) (fw54_b : Bd 12 0 4095 fw54) (v61_h : Iv 0 81 v61) (v82_h : Iv (-2147483648) 12 v82) : Met l yX11_colour wsX11_colour ({ frames := 16, cells := 0, slots := 0, locals := 404 }) (va_Pc [.ref o1, .int a1] (wPre (dC, dI) [(cI, .int), (c2, .array .int), (cZ, .boolean)] ([(o1, .inr (11, [.ref o2, .ref o7, .ref o12, .ref o41, .ref o51, .ref o64, .ref o77, .ref o84, .ref o91, .ref o99, .ref o111, .ref o123, .int v125])), (o51, .inr (1, [.int v52, .ref o53, .ref o55, .ref o57, .ref o59, .int v61, .int v62, .int v63])), (o2, .inr (4, [.ref o3, .int v5, .int v6])), (o3, .inl (cI, 12, .inl fw4)), (o53, .inl (cI, 12, .inl fw54)), (o55, .inl (cI, 81, .inl fw56)), (o77, .inr (7, [.ref o78, .ref o80, .int v82, .int v83])), (o80, .inl (cI, 12, .inl fw81)), (o78, .inl (cI, 12, .inl fw79))]) sz)) (va_Qi (fun (r : Int32) (u : Int32 × Int32 × (Nat → Int32) × (Nat → Int32) × Int32 × Int32 × (Nat → Int32) × (Nat → Int32)) => Iv 0 81 u.1 ∧ Bd 12 0 4095 u.2.2.1 ∧ Iv (-2147483648) 12 u.2.2.2.2.1) (fun u t => wPost (dC, dI) [(cI, .int), (c2, .array .int), (cZ, .boolean)] (va_A ([(o1, .inr (11, [.ref o2, .ref o7, .ref o12, .ref o41, .ref o51, .ref o64, .ref o77, .ref o84, .ref o91, .ref o99, .ref o111, .ref o123, .int v125])), (o51, .inr (1, [.int v52, .ref o53, .ref o55, .ref o57, .ref o59, .int v61, .int v62, .int v63])), (o2, .inr (4, [.ref o3, .int v5, .int v6])), (o3, .inl (cI, 12, .inl fw4)), (o53, .inl (cI, 12, .inl fw54)), (o55, .inl (cI, 81, .inl fw56)), (o77, .inr (7, [.ref o78, .ref o80, .int v82, .int v83])), (o80, .inl (cI, 12, .inl fw81)), (o78, .inl (cI, 12, .inl fw79))]) sz) ([(o1, .inr (11, [.ref o2, .ref o7, .ref o12, .ref o41, .ref o51, .ref o64, .ref o77, .ref o84, .ref o91, .ref o99, .ref o111, .ref o123, .int v125])), (o51, .inr (1, [.int v52, .ref o53, .ref o55, .ref o57, .ref o59, .int u.1, .int u.2.1, .int v63])), (o2, .inr (4, [.ref o3, .int v5, .int v6])), (o3, .inl (cI, 12, .inl fw4)), (o53, .inl (cI, 12, .inl u.2.2.1)), (o55, .inl (cI, 81, .inl u.2.2.2.1)), (o77, .inr (7, [.ref o78, .ref o80, .int u.2.2.2.2.1, .int u.2.2.2.2.2.1])), (o80, .inl (cI, 12, .inl u.2.2.2.2.2.2.1)), (o78, .inl (cI, 12, .inl u.2.2.2.2.2.2.2))]) t) (va_A ([(o1, .inr (11, [.ref o2, .ref o7, .ref o12, .ref o41, .ref o51, .ref o64, .ref o77, .ref o84, .ref o91, .ref o99, .ref o111, .ref o123, .int v125])), (o51, .inr (1, [.int v52, .ref o53, .ref o55, .ref o57, .ref o59, .int v61, .int v62, .int v63])), (o2, .inr (4, [.ref o3, .int v5, .int v6])), (o3, .inl (cI, 12, .inl fw4)), (o53, .inl (cI, 12, .inl fw54)), (o55, .inl (cI, 81, .inl fw56)), (o77, .inr (7, [.ref o78, .ref o80, .int v82, .int v83])), (o80, .inl (cI, 12, .inl fw81)), (o78, .inl (cI, 12, .inl fw79))]) sz)) 0 0 (va_A ([(o1, .inr (11, [.ref o2, .ref o7, .ref o12, .ref o41, .ref o51, .ref o64, .ref o77, .ref o84, .ref o91, .ref o99, .ref o111, .ref o123, .int v125])), (o51, .inr (1, [.int v52, .ref o53, .ref o55, .ref o57, .ref o59, .int v61, .int v62, .int v63])), (o2, .inr (4, [.ref o3, .int v5, .int v6])), (o3, .inl (cI, 12, .inl fw4)), (o53, .inl (cI, 12, .inl fw54)), (o55, .inl (cI, 81, .inl fw56)), (o77, .inr (7, [.ref o78, .ref o80, .int v82, .int v83])), (o80, .inl (cI, 12, .inl fw81)), (o78, .inl (cI, 12, .inl fw79))]) sz) := by
  refine Met.ofW (cc := cX11_colour) (maxL := 2) (ret := (some .int)) (by decide) rfl ?_
  intro p e s m args below meth c s₁ B hml hv
  obtain ⟨rfl, hsz, hP, hK, hD0, hN⟩ := hv
  have hx := B.exec
  have hb := B.bytes
  have hr := B.returns
  have hts := atoms_spec (ws := wsX11_colour) B.pre
  have hown : s.vm.findClass RX11 = some m.cls := findClass_of_methodNamed B.named
  have hlocks := B.notSynchronized
  subst hsz
  have hD := hD0.self (sz := s.heap.size)
  generalize hAe : va_A ([(o1, .inr (11, [.ref o2, .ref o7, .ref o12, .ref o41, .ref o51, .ref o64, .ref o77, .ref o84, .ref o91, .ref o99, .ref o111, .ref o123, .int v125])), (o51, .inr (1, [.int v52, .ref o53, .ref o55, .ref o57, .ref o59, .int v61, .int v62, .int v63])), (o2, .inr (4, [.ref o3, .int v5, .int v6])), (o3, .inl (cI, 12, .inl fw4)), (o53, .inl (cI, 12, .inl fw54)), (o55, .inl (cI, 81, .inl fw56)), (o77, .inr (7, [.ref o78, .ref o80, .int v82, .int v83])), (o80, .inl (cI, 12, .inl fw81)), (o78, .inl (cI, 12, .inl fw79))]) s.heap.size = A at hD ⊢
  have hA : ∀ q : Nat, s.heap.size ≤ q → A q := fun q h => by rw [← hAe]; exact Or.inr h
  have hS : va_S A s.heap s.heap [] := va_S.rf
  have hP : va_P (dC, dI) vwCl ([(o1, .inr (11, [.ref o2, .ref o7, .ref o12, .ref o41, .ref o51, .ref o64, .ref o77, .ref o84, .ref o91, .ref o99, .ref o111, .ref o123, .int v125])), (o51, .inr (1, [.int v52, .ref o53, .ref o55, .ref o57, .ref o59, .int v61, .int v62, .int v63])), (o2, .inr (4, [.ref o3, .int v5, .int v6])), (o3, .inl (cI, 12, .inl fw4)), (o53, .inl (cI, 12, .inl fw54)), (o55, .inl (cI, 81, .inl fw56)), (o77, .inr (7, [.ref o78, .ref o80, .int v82, .int v83])), (o80, .inl (cI, 12, .inl fw81)), (o78, .inl (cI, 12, .inl fw79))]) s.heap := hP
  have hl := lv_entry ([.ref o1, .int a1]) (n := 2) (Nat.le_of_ble_eq_true rfl)
  rw [lg_entry_eq]
  generalize (lg_sl ([.ref o1, .int a1]) ++ List.replicate (2 - (lg_sl ([.ref o1, .int a1])).length) Slot.unset).toArray = ls at hl ⊢
  have hl : lv_has ls 2 [(0, .ref o1), (1, .int a1)] := hl
  refine gen_Q (fun Q hQ => ?_)
  refine lv_iload_n hx hb dX11_colour_0 rfl (lv_at hl 1 rfl) ?_
  refine lv_iconst (v := (-1)) hx hb dX11_colour_1 (by decide) ?_
  refine lv_icmp_eq (tgt := 18) hx hb dX11_colour_2 (by decide) (fun h1 => ?_) (fun h1 => ?_)
  ·
    have j2 : Iv (-1) (-1) a1 := r_eq h1 ikm_1
    refine lv_aload_n hx hb dX11_colour_18 rfl (lv_at hl 0 rfl) ?_
    refine va_get (D := (dC, dI)) (ci := 11) (v := .ref o51) (C := RX11) (T := TX11) (N := 13) hx hb hts iw_X11_colour_X11 hown hK hP 0 rfl rfl 4 (by decide) (hts (.fieldLink RX11 42 "HolelessHouse" "cliques" "LHolelessHouse$Cliques;") hm_X11_colour_2) (fun _ h9 => h9) rfl dX11_colour_19 ?_
    refine lv_aload_n hx hb dX11_colour_22 rfl (lv_at hl 0 rfl) ?_
    refine va_get (D := (dC, dI)) (ci := 11) (v := .ref o2) (C := RX11) (T := TX11) (N := 13) hx hb hts iw_X11_colour_X11 hown hK hP 0 rfl rfl 0 (by decide) (hts (.fieldLink RX11 10 "HolelessHouse" "graph" "LHolelessHouse$Graph;") hm_X11_colour_1) (fun _ h9 => h9) rfl dX11_colour_23 ?_
    refine kc_v (D := (dC, dI)) (S := Int32 × Int32 × (Nat → Int32) × (Nat → Int32)) (wc := [(o51, .inr (1, [.int v52, .ref o53, .ref o55, .ref o57, .ref o59, .int v61, .int v62, .int v63])), (o2, .inr (4, [.ref o3, .int v5, .int v6])), (o3, .inl (cI, 12, .inl fw4)), (o53, .inl (cI, 12, .inl fw54)), (o55, .inl (cI, 81, .inl fw56))]) (wr := [(o1, .inr (11, [.ref o2, .ref o7, .ref o12, .ref o41, .ref o51, .ref o64, .ref o77, .ref o84, .ref o91, .ref o99, .ref o111, .ref o123, .int v125])), (o77, .inr (7, [.ref o78, .ref o80, .int v82, .int v83])), (o80, .inl (cI, 12, .inl fw81)), (o78, .inl (cI, 12, .inl fw79))]) (w1 := fun u => [(o51, .inr (1, [.int v52, .ref o53, .ref o55, .ref o57, .ref o59, .int u.1, .int u.2.1, .int v63])), (o2, .inr (4, [.ref o3, .int v5, .int v6])), (o3, .inl (cI, 12, .inl fw4)), (o53, .inl (cI, 12, .inl u.2.2.1)), (o55, .inl (cI, 81, .inl u.2.2.2))]) (wn := fun u => [(o1, .inr (11, [.ref o2, .ref o7, .ref o12, .ref o41, .ref o51, .ref o64, .ref o77, .ref o84, .ref o91, .ref o99, .ref o111, .ref o123, .int v125])), (o51, .inr (1, [.int v52, .ref o53, .ref o55, .ref o57, .ref o59, .int u.1, .int u.2.1, .int v63])), (o2, .inr (4, [.ref o3, .int v5, .int v6])), (o3, .inl (cI, 12, .inl fw4)), (o53, .inl (cI, 12, .inl u.2.2.1)), (o55, .inl (cI, 81, .inl u.2.2.2)), (o77, .inr (7, [.ref o78, .ref o80, .int v82, .int v83])), (o80, .inl (cI, 12, .inl fw81)), (o78, .inl (cI, 12, .inl fw79))]) (fun hPc hDc => va_runVN (As := [.ref o2]) (rest := []) ⟨hx, hb, hml, hown, hts⟩ (kX1_bring_1 l dC dI cI c2 cZ o51 o2 o53 o55 o57 o59 o3 v52 fw54 fw56 v61 v62 v63 fw4 v5 v6 s.heap.size v52_h fw54_b v61_h fw4_b v5_h) ⟨va_cnB 1 hts gX11_colour_X1_bring_n193 rfl rfl rfl (hN.1 _ ns_105) (hts (.initialized RX1) hm_X11_colour_10) (by decide +kernel) ⟨Nat.le_of_ble_eq_true rfl, Nat.le_of_ble_eq_true rfl⟩, (hts (.instanceMethod yX1_bring) hm_X11_colour_9), (hts (.selects RX1 yX1_bring yX1_bring) hm_X11_colour_11)⟩ (pre_V hPc hK hDc hN (ci := 1) (q0 := 0) rfl rfl) rfl rfl hl.1 rfl (lv_room (Nat.le_of_ble_eq_true rfl)) dX11_colour_26 ⟨Nat.le_of_ble_eq_true rfl, Nat.le_of_ble_eq_true rfl⟩) hP hD hS hA [1, 2, 3, 4, 5] [0, 6, 7, 8] [0, 4, 5, 6, 7, 8, 1, 2, 3] rfl rfl (by decide +kernel) (by decide +kernel) (by decide +kernel) (by decide +kernel) (fun _ => rfl) (fun u H locs hq hP hD hS => ?_)
    obtain ⟨y3, y4, f5, f6⟩ := u
    obtain ⟨y3_h, f5_b⟩ := hq
    have hP : va_P (dC, dI) vwCl ([(o1, .inr (11, [.ref o2, .ref o7, .ref o12, .ref o41, .ref o51, .ref o64, .ref o77, .ref o84, .ref o91, .ref o99, .ref o111, .ref o123, .int v125])), (o51, .inr (1, [.int v52, .ref o53, .ref o55, .ref o57, .ref o59, .int y3, .int y4, .int v63])), (o2, .inr (4, [.ref o3, .int v5, .int v6])), (o3, .inl (cI, 12, .inl fw4)), (o53, .inl (cI, 12, .inl f5)), (o55, .inl (cI, 81, .inl f6)), (o77, .inr (7, [.ref o78, .ref o80, .int v82, .int v83])), (o80, .inl (cI, 12, .inl fw81)), (o78, .inl (cI, 12, .inl fw79))]) H := hP
    have hD : va_D A ([(o1, .inr (11, [.ref o2, .ref o7, .ref o12, .ref o41, .ref o51, .ref o64, .ref o77, .ref o84, .ref o91, .ref o99, .ref o111, .ref o123, .int v125])), (o51, .inr (1, [.int v52, .ref o53, .ref o55, .ref o57, .ref o59, .int y3, .int y4, .int v63])), (o2, .inr (4, [.ref o3, .int v5, .int v6])), (o3, .inl (cI, 12, .inl fw4)), (o53, .inl (cI, 12, .inl f5)), (o55, .inl (cI, 81, .inl f6)), (o77, .inr (7, [.ref o78, .ref o80, .int v82, .int v83])), (o80, .inl (cI, 12, .inl fw81)), (o78, .inl (cI, 12, .inl fw79))]) := hD
    refine lv_aload_n hx hb dX11_colour_29 rfl (lv_at hl 0 rfl) ?_
    refine va_get (D := (dC, dI)) (ci := 11) (v := .ref o77) (C := RX11) (T := TX11) (N := 13) hx hb hts iw_X11_colour_X11 hown hK hP 0 rfl rfl 6 (by decide) (hts (.fieldLink RX11 52 "HolelessHouse" "paint" "LHolelessHouse$Paint;") hm_X11_colour_3) (fun _ h9 => h9) rfl dX11_colour_30 ?_
    refine lv_aload_n hx hb dX11_colour_33 rfl (lv_at hl 0 rfl) ?_
    refine va_get (D := (dC, dI)) (ci := 11) (v := .ref o2) (C := RX11) (T := TX11) (N := 13) hx hb hts iw_X11_colour_X11 hown hK hP 0 rfl rfl 0 (by decide) (hts (.fieldLink RX11 10 "HolelessHouse" "graph" "LHolelessHouse$Graph;") hm_X11_colour_1) (fun _ h9 => h9) rfl dX11_colour_34 ?_
    refine lv_aload_n hx hb dX11_colour_37 rfl (lv_at hl 0 rfl) ?_
    refine va_get (D := (dC, dI)) (ci := 11) (v := .ref o51) (C := RX11) (T := TX11) (N := 13) hx hb hts iw_X11_colour_X11 hown hK hP 0 rfl rfl 4 (by decide) (hts (.fieldLink RX11 42 "HolelessHouse" "cliques" "LHolelessHouse$Cliques;") hm_X11_colour_2) (fun _ h9 => h9) rfl dX11_colour_38 ?_
    refine kc_i (D := (dC, dI)) (S := Unit) (wc := [(o51, .inr (1, [.int v52, .ref o53, .ref o55, .ref o57, .ref o59, .int y3, .int y4, .int v63])), (o55, .inl (cI, 81, .inl f6))]) (wr := [(o1, .inr (11, [.ref o2, .ref o7, .ref o12, .ref o41, .ref o51, .ref o64, .ref o77, .ref o84, .ref o91, .ref o99, .ref o111, .ref o123, .int v125])), (o2, .inr (4, [.ref o3, .int v5, .int v6])), (o3, .inl (cI, 12, .inl fw4)), (o53, .inl (cI, 12, .inl f5)), (o77, .inr (7, [.ref o78, .ref o80, .int v82, .int v83])), (o80, .inl (cI, 12, .inl fw81)), (o78, .inl (cI, 12, .inl fw79))]) (w1 := fun _ => [(o51, .inr (1, [.int v52, .ref o53, .ref o55, .ref o57, .ref o59, .int y3, .int y4, .int v63])), (o55, .inl (cI, 81, .inl f6))]) (wn := fun _ => [(o1, .inr (11, [.ref o2, .ref o7, .ref o12, .ref o41, .ref o51, .ref o64, .ref o77, .ref o84, .ref o91, .ref o99, .ref o111, .ref o123, .int v125])), (o51, .inr (1, [.int v52, .ref o53, .ref o55, .ref o57, .ref o59, .int y3, .int y4, .int v63])), (o2, .inr (4, [.ref o3, .int v5, .int v6])), (o3, .inl (cI, 12, .inl fw4)), (o53, .inl (cI, 12, .inl f5)), (o55, .inl (cI, 81, .inl f6)), (o77, .inr (7, [.ref o78, .ref o80, .int v82, .int v83])), (o80, .inl (cI, 12, .inl fw81)), (o78, .inl (cI, 12, .inl fw79))]) (fun hPc hDc => va_runVN (As := []) (rest := [.ref o2, .ref o77]) ⟨hx, hb, hml, hown, hts⟩ (kX1_widest_1 l dC dI cI c2 cZ o51 o53 o55 o57 o59 v52 f6 y3 y4 v63 H.size v52_h y3_h) ⟨va_cnB 0 hts gX11_colour_X1_widest_n199 rfl rfl rfl (hN.1 _ ns_109) (hts (.initialized RX1) hm_X11_colour_10) (by decide +kernel) ⟨Nat.le_of_ble_eq_true rfl, Nat.le_of_ble_eq_true rfl⟩, (hts (.instanceMethod yX1_widest) hm_X11_colour_40), (hts (.selects RX1 yX1_widest yX1_widest) hm_X11_colour_41)⟩ (pre_V hPc hK hDc hN (ci := 1) (q0 := 0) rfl rfl) rfl rfl hl.1 rfl (lv_room (Nat.le_of_ble_eq_true rfl)) dX11_colour_41 ⟨Nat.le_of_ble_eq_true rfl, Nat.le_of_ble_eq_true rfl⟩) hP hD hS hA [1, 5] [0, 2, 3, 4, 6, 7, 8] [0, 7, 1, 2, 3, 8, 4, 5, 6] rfl rfl (by decide +kernel) (by decide +kernel) (by decide +kernel) (by decide +kernel) (fun _ => rfl) (fun x7 _ H locs hq hP hD hS => ?_)
    have hP : va_P (dC, dI) vwCl ([(o1, .inr (11, [.ref o2, .ref o7, .ref o12, .ref o41, .ref o51, .ref o64, .ref o77, .ref o84, .ref o91, .ref o99, .ref o111, .ref o123, .int v125])), (o51, .inr (1, [.int v52, .ref o53, .ref o55, .ref o57, .ref o59, .int y3, .int y4, .int v63])), (o2, .inr (4, [.ref o3, .int v5, .int v6])), (o3, .inl (cI, 12, .inl fw4)), (o53, .inl (cI, 12, .inl f5)), (o55, .inl (cI, 81, .inl f6)), (o77, .inr (7, [.ref o78, .ref o80, .int v82, .int v83])), (o80, .inl (cI, 12, .inl fw81)), (o78, .inl (cI, 12, .inl fw79))]) H := hP
    have hD : va_D A ([(o1, .inr (11, [.ref o2, .ref o7, .ref o12, .ref o41, .ref o51, .ref o64, .ref o77, .ref o84, .ref o91, .ref o99, .ref o111, .ref o123, .int v125])), (o51, .inr (1, [.int v52, .ref o53, .ref o55, .ref o57, .ref o59, .int y3, .int y4, .int v63])), (o2, .inr (4, [.ref o3, .int v5, .int v6])), (o3, .inl (cI, 12, .inl fw4)), (o53, .inl (cI, 12, .inl f5)), (o55, .inl (cI, 81, .inl f6)), (o77, .inr (7, [.ref o78, .ref o80, .int v82, .int v83])), (o80, .inl (cI, 12, .inl fw81)), (o78, .inl (cI, 12, .inl fw79))]) := hD
    refine kc_i (D := (dC, dI)) (S := Unit) (wc := []) (wr := [(o1, .inr (11, [.ref o2, .ref o7, .ref o12, .ref o41, .ref o51, .ref o64, .ref o77, .ref o84, .ref o91, .ref o99, .ref o111, .ref o123, .int v125])), (o51, .inr (1, [.int v52, .ref o53, .ref o55, .ref o57, .ref o59, .int y3, .int y4, .int v63])), (o2, .inr (4, [.ref o3, .int v5, .int v6])), (o3, .inl (cI, 12, .inl fw4)), (o53, .inl (cI, 12, .inl f5)), (o55, .inl (cI, 81, .inl f6)), (o77, .inr (7, [.ref o78, .ref o80, .int v82, .int v83])), (o80, .inl (cI, 12, .inl fw81)), (o78, .inl (cI, 12, .inl fw79))]) (w1 := fun _ => []) (wn := fun _ => [(o1, .inr (11, [.ref o2, .ref o7, .ref o12, .ref o41, .ref o51, .ref o64, .ref o77, .ref o84, .ref o91, .ref o99, .ref o111, .ref o123, .int v125])), (o51, .inr (1, [.int v52, .ref o53, .ref o55, .ref o57, .ref o59, .int y3, .int y4, .int v63])), (o2, .inr (4, [.ref o3, .int v5, .int v6])), (o3, .inl (cI, 12, .inl fw4)), (o53, .inl (cI, 12, .inl f5)), (o55, .inl (cI, 81, .inl f6)), (o77, .inr (7, [.ref o78, .ref o80, .int v82, .int v83])), (o80, .inl (cI, 12, .inl fw81)), (o78, .inl (cI, 12, .inl fw79))]) (fun hPc hDc => va_runS (As := [.int x7]) (rest := [.ref o2, .ref o77]) ⟨hx, hb, hml, hown, hts⟩ (kJ6_bitCount_0f7a4_1 l dC dI cI c2 cZ x7 H.size) (va_cwS 1 hts gX11_colour_J6_bitCount_0f7a4 rfl rfl rfl (by decide +kernel) ⟨Nat.le_of_ble_eq_true rfl, Nat.le_of_ble_eq_true rfl⟩) (pre_S hPc hK hDc hN) rfl rfl hl.1 rfl (lv_room (Nat.le_of_ble_eq_true rfl)) dX11_colour_44 ⟨Nat.le_of_ble_eq_true rfl, Nat.le_of_ble_eq_true rfl⟩) hP hD hS hA [] [0, 1, 2, 3, 4, 5, 6, 7, 8] [0, 1, 2, 3, 4, 5, 6, 7, 8] rfl rfl (by decide +kernel) (by decide +kernel) (by decide +kernel) (by decide +kernel) (fun _ => rfl) (fun x8 _ H locs hq hP hD hS => ?_)
    have x8_h := hq
    have hP : va_P (dC, dI) vwCl ([(o1, .inr (11, [.ref o2, .ref o7, .ref o12, .ref o41, .ref o51, .ref o64, .ref o77, .ref o84, .ref o91, .ref o99, .ref o111, .ref o123, .int v125])), (o51, .inr (1, [.int v52, .ref o53, .ref o55, .ref o57, .ref o59, .int y3, .int y4, .int v63])), (o2, .inr (4, [.ref o3, .int v5, .int v6])), (o3, .inl (cI, 12, .inl fw4)), (o53, .inl (cI, 12, .inl f5)), (o55, .inl (cI, 81, .inl f6)), (o77, .inr (7, [.ref o78, .ref o80, .int v82, .int v83])), (o80, .inl (cI, 12, .inl fw81)), (o78, .inl (cI, 12, .inl fw79))]) H := hP
    have hD : va_D A ([(o1, .inr (11, [.ref o2, .ref o7, .ref o12, .ref o41, .ref o51, .ref o64, .ref o77, .ref o84, .ref o91, .ref o99, .ref o111, .ref o123, .int v125])), (o51, .inr (1, [.int v52, .ref o53, .ref o55, .ref o57, .ref o59, .int y3, .int y4, .int v63])), (o2, .inr (4, [.ref o3, .int v5, .int v6])), (o3, .inl (cI, 12, .inl fw4)), (o53, .inl (cI, 12, .inl f5)), (o55, .inl (cI, 81, .inl f6)), (o77, .inr (7, [.ref o78, .ref o80, .int v82, .int v83])), (o80, .inl (cI, 12, .inl fw81)), (o78, .inl (cI, 12, .inl fw79))]) := hD
    refine kc_v (D := (dC, dI)) (S := Int32 × Int32 × (Nat → Int32) × (Nat → Int32)) (wc := [(o77, .inr (7, [.ref o78, .ref o80, .int v82, .int v83])), (o2, .inr (4, [.ref o3, .int v5, .int v6])), (o80, .inl (cI, 12, .inl fw81)), (o3, .inl (cI, 12, .inl fw4)), (o78, .inl (cI, 12, .inl fw79))]) (wr := [(o1, .inr (11, [.ref o2, .ref o7, .ref o12, .ref o41, .ref o51, .ref o64, .ref o77, .ref o84, .ref o91, .ref o99, .ref o111, .ref o123, .int v125])), (o51, .inr (1, [.int v52, .ref o53, .ref o55, .ref o57, .ref o59, .int y3, .int y4, .int v63])), (o53, .inl (cI, 12, .inl f5)), (o55, .inl (cI, 81, .inl f6))]) (w1 := fun u => [(o77, .inr (7, [.ref o78, .ref o80, .int u.1, .int u.2.1])), (o2, .inr (4, [.ref o3, .int v5, .int v6])), (o80, .inl (cI, 12, .inl u.2.2.1)), (o3, .inl (cI, 12, .inl fw4)), (o78, .inl (cI, 12, .inl u.2.2.2))]) (wn := fun u => [(o1, .inr (11, [.ref o2, .ref o7, .ref o12, .ref o41, .ref o51, .ref o64, .ref o77, .ref o84, .ref o91, .ref o99, .ref o111, .ref o123, .int v125])), (o51, .inr (1, [.int v52, .ref o53, .ref o55, .ref o57, .ref o59, .int y3, .int y4, .int v63])), (o2, .inr (4, [.ref o3, .int v5, .int v6])), (o3, .inl (cI, 12, .inl fw4)), (o53, .inl (cI, 12, .inl f5)), (o55, .inl (cI, 81, .inl f6)), (o77, .inr (7, [.ref o78, .ref o80, .int u.1, .int u.2.1])), (o80, .inl (cI, 12, .inl u.2.2.1)), (o78, .inl (cI, 12, .inl u.2.2.2))]) (fun hPc hDc => va_runVN (As := [.ref o2, .int x8]) (rest := []) ⟨hx, hb, hml, hown, hts⟩ (kX7_bring_1 l dC dI cI c2 cZ o77 o2 o78 o80 o3 fw79 fw81 v82 v83 fw4 v5 v6 x8 H.size v82_h fw4_b v5_h x8_h) ⟨va_cnB 2 hts gX11_colour_X7_bring_n208 rfl rfl rfl (hN.1 _ ns_111) (hts (.initialized RX7) hm_X11_colour_51) (by decide +kernel) ⟨Nat.le_of_ble_eq_true rfl, Nat.le_of_ble_eq_true rfl⟩, (hts (.instanceMethod yX7_bring) hm_X11_colour_50), (hts (.selects RX7 yX7_bring yX7_bring) hm_X11_colour_52)⟩ (pre_V hPc hK hDc hN (ci := 7) (q0 := 0) rfl rfl) rfl rfl hl.1 rfl (lv_room (Nat.le_of_ble_eq_true rfl)) dX11_colour_47 ⟨Nat.le_of_ble_eq_true rfl, Nat.le_of_ble_eq_true rfl⟩) hP hD hS hA [6, 2, 7, 3, 8] [0, 1, 4, 5] [0, 1, 5, 7, 2, 3, 4, 6, 8] rfl rfl (by decide +kernel) (by decide +kernel) (by decide +kernel) (by decide +kernel) (fun _ => rfl) (fun u H locs hq hP hD hS => ?_)
    obtain ⟨y9, y10, f11, f12⟩ := u
    have y9_h := hq
    have hP : va_P (dC, dI) vwCl ([(o1, .inr (11, [.ref o2, .ref o7, .ref o12, .ref o41, .ref o51, .ref o64, .ref o77, .ref o84, .ref o91, .ref o99, .ref o111, .ref o123, .int v125])), (o51, .inr (1, [.int v52, .ref o53, .ref o55, .ref o57, .ref o59, .int y3, .int y4, .int v63])), (o2, .inr (4, [.ref o3, .int v5, .int v6])), (o3, .inl (cI, 12, .inl fw4)), (o53, .inl (cI, 12, .inl f5)), (o55, .inl (cI, 81, .inl f6)), (o77, .inr (7, [.ref o78, .ref o80, .int y9, .int y10])), (o80, .inl (cI, 12, .inl f11)), (o78, .inl (cI, 12, .inl f12))]) H := hP
    have hD : va_D A ([(o1, .inr (11, [.ref o2, .ref o7, .ref o12, .ref o41, .ref o51, .ref o64, .ref o77, .ref o84, .ref o91, .ref o99, .ref o111, .ref o123, .int v125])), (o51, .inr (1, [.int v52, .ref o53, .ref o55, .ref o57, .ref o59, .int y3, .int y4, .int v63])), (o2, .inr (4, [.ref o3, .int v5, .int v6])), (o3, .inl (cI, 12, .inl fw4)), (o53, .inl (cI, 12, .inl f5)), (o55, .inl (cI, 81, .inl f6)), (o77, .inr (7, [.ref o78, .ref o80, .int y9, .int y10])), (o80, .inl (cI, 12, .inl f11)), (o78, .inl (cI, 12, .inl f12))]) := hD
    refine lv_iload_n hx hb dX11_colour_50 rfl (lv_at hl 1 rfl) ?_
    refine lv_iconst (v := (-1)) hx hb dX11_colour_51 (by decide) ?_
    refine lv_icmp_ne (tgt := 65) hx hb dX11_colour_52 (by decide) (fun h9 => absurd (d_eq j2 ikm_1) h9) (fun _ => ?_)
    refine lv_aload_n hx hb dX11_colour_55 rfl (lv_at hl 0 rfl) ?_
    refine va_get (D := (dC, dI)) (ci := 11) (v := .ref o77) (C := RX11) (T := TX11) (N := 13) hx hb hts iw_X11_colour_X11 hown hK hP 0 rfl rfl 6 (by decide) (hts (.fieldLink RX11 52 "HolelessHouse" "paint" "LHolelessHouse$Paint;") hm_X11_colour_3) (fun _ h9 => h9) rfl dX11_colour_56 ?_
    refine va_getN (D := (dC, dI)) (ci := 7) (v := .int y9) (C := RX7) (T := TX7) (N := 4) hx hb hts iw_X11_colour_X7 hown hK hP 6 rfl rfl 2 (by decide) (hN.use ns_38) (fun _ h9 => h9) rfl dX11_colour_59 ?_
    refine lv_goto (tgt := 74) hx hb dX11_colour_62 (by decide) ?_
    rw [hQ]
    exact W.iret (v := y9) hx hb hr (fun t ht hW => ⟨⟨y9, (y3, y4, f5, f6, y9, y10, f11, f12), rfl, ⟨y3_h, f5_b, y9_h⟩, by rw [ht]; exact hP, va_K.moved hW.alike hK, hD⟩, hS.F ht⟩) hS.2.2 dX11_colour_74
  ·
    refine lv_aload_n hx hb dX11_colour_5 rfl (lv_at hl 0 rfl) ?_
    refine va_get (D := (dC, dI)) (ci := 11) (v := .ref o2) (C := RX11) (T := TX11) (N := 13) hx hb hts iw_X11_colour_X11 hown hK hP 0 rfl rfl 0 (by decide) (hts (.fieldLink RX11 10 "HolelessHouse" "graph" "LHolelessHouse$Graph;") hm_X11_colour_1) (fun _ h9 => h9) rfl dX11_colour_6 ?_
    refine lv_iload_n hx hb dX11_colour_9 rfl (lv_at hl 1 rfl) ?_
    refine kc_i (D := (dC, dI)) (S := Unit) (wc := [(o2, .inr (4, [.ref o3, .int v5, .int v6]))]) (wr := [(o1, .inr (11, [.ref o2, .ref o7, .ref o12, .ref o41, .ref o51, .ref o64, .ref o77, .ref o84, .ref o91, .ref o99, .ref o111, .ref o123, .int v125])), (o51, .inr (1, [.int v52, .ref o53, .ref o55, .ref o57, .ref o59, .int v61, .int v62, .int v63])), (o3, .inl (cI, 12, .inl fw4)), (o53, .inl (cI, 12, .inl fw54)), (o55, .inl (cI, 81, .inl fw56)), (o77, .inr (7, [.ref o78, .ref o80, .int v82, .int v83])), (o80, .inl (cI, 12, .inl fw81)), (o78, .inl (cI, 12, .inl fw79))]) (w1 := fun _ => [(o2, .inr (4, [.ref o3, .int v5, .int v6]))]) (wn := fun _ => [(o1, .inr (11, [.ref o2, .ref o7, .ref o12, .ref o41, .ref o51, .ref o64, .ref o77, .ref o84, .ref o91, .ref o99, .ref o111, .ref o123, .int v125])), (o51, .inr (1, [.int v52, .ref o53, .ref o55, .ref o57, .ref o59, .int v61, .int v62, .int v63])), (o2, .inr (4, [.ref o3, .int v5, .int v6])), (o3, .inl (cI, 12, .inl fw4)), (o53, .inl (cI, 12, .inl fw54)), (o55, .inl (cI, 81, .inl fw56)), (o77, .inr (7, [.ref o78, .ref o80, .int v82, .int v83])), (o80, .inl (cI, 12, .inl fw81)), (o78, .inl (cI, 12, .inl fw79))]) (fun hPc hDc => va_runVN (As := [.int a1]) (rest := []) ⟨hx, hb, hml, hown, hts⟩ (kX4_has_1 l dC dI cI c2 cZ o2 o3 v5 v6 a1 s.heap.size v5_h) ⟨va_cnB 1 hts gX11_colour_X4_has_n93 rfl rfl rfl (hN.1 _ ns_66) (hts (.initialized RX4) hm_X11_colour_5) (by decide +kernel) ⟨Nat.le_of_ble_eq_true rfl, Nat.le_of_ble_eq_true rfl⟩, (hts (.instanceMethod yX4_has) hm_X11_colour_4), (hts (.selects RX4 yX4_has yX4_has) hm_X11_colour_6)⟩ (pre_V hPc hK hDc hN (ci := 4) (q0 := 0) rfl rfl) rfl rfl hl.1 rfl (lv_room (Nat.le_of_ble_eq_true rfl)) dX11_colour_10 ⟨Nat.le_of_ble_eq_true rfl, Nat.le_of_ble_eq_true rfl⟩) hP hD hS hA [2] [0, 1, 3, 4, 5, 6, 7, 8] [0, 1, 8, 2, 3, 4, 5, 6, 7] rfl rfl (by decide +kernel) (by decide +kernel) (by decide +kernel) (by decide +kernel) (fun _ => rfl) (fun x13 _ H locs hq hP hD hS => ?_)
    obtain ⟨x13_h, i14⟩ := hq
    have hP : va_P (dC, dI) vwCl ([(o1, .inr (11, [.ref o2, .ref o7, .ref o12, .ref o41, .ref o51, .ref o64, .ref o77, .ref o84, .ref o91, .ref o99, .ref o111, .ref o123, .int v125])), (o51, .inr (1, [.int v52, .ref o53, .ref o55, .ref o57, .ref o59, .int v61, .int v62, .int v63])), (o2, .inr (4, [.ref o3, .int v5, .int v6])), (o3, .inl (cI, 12, .inl fw4)), (o53, .inl (cI, 12, .inl fw54)), (o55, .inl (cI, 81, .inl fw56)), (o77, .inr (7, [.ref o78, .ref o80, .int v82, .int v83])), (o80, .inl (cI, 12, .inl fw81)), (o78, .inl (cI, 12, .inl fw79))]) H := hP
    have hD : va_D A ([(o1, .inr (11, [.ref o2, .ref o7, .ref o12, .ref o41, .ref o51, .ref o64, .ref o77, .ref o84, .ref o91, .ref o99, .ref o111, .ref o123, .int v125])), (o51, .inr (1, [.int v52, .ref o53, .ref o55, .ref o57, .ref o59, .int v61, .int v62, .int v63])), (o2, .inr (4, [.ref o3, .int v5, .int v6])), (o3, .inl (cI, 12, .inl fw4)), (o53, .inl (cI, 12, .inl fw54)), (o55, .inl (cI, 81, .inl fw56)), (o77, .inr (7, [.ref o78, .ref o80, .int v82, .int v83])), (o80, .inl (cI, 12, .inl fw81)), (o78, .inl (cI, 12, .inl fw79))]) := hD
    refine lv_if_ne (tgt := 18) hx hb dX11_colour_13 (by decide) (fun h15 => ?_) (fun h15 => ?_)
    ·
      have j16 : Iv 1 1 x13 := r_nelo h15 x13_h ik_0 (by decide)
      have j17 : Iv 0 11 a1 := i14 h15
      refine lv_aload_n hx hb dX11_colour_18 rfl (lv_at hl 0 rfl) ?_
      refine va_get (D := (dC, dI)) (ci := 11) (v := .ref o51) (C := RX11) (T := TX11) (N := 13) hx hb hts iw_X11_colour_X11 hown hK hP 0 rfl rfl 4 (by decide) (hts (.fieldLink RX11 42 "HolelessHouse" "cliques" "LHolelessHouse$Cliques;") hm_X11_colour_2) (fun _ h9 => h9) rfl dX11_colour_19 ?_
      refine lv_aload_n hx hb dX11_colour_22 rfl (lv_at hl 0 rfl) ?_
      refine va_get (D := (dC, dI)) (ci := 11) (v := .ref o2) (C := RX11) (T := TX11) (N := 13) hx hb hts iw_X11_colour_X11 hown hK hP 0 rfl rfl 0 (by decide) (hts (.fieldLink RX11 10 "HolelessHouse" "graph" "LHolelessHouse$Graph;") hm_X11_colour_1) (fun _ h9 => h9) rfl dX11_colour_23 ?_
      refine kc_v (D := (dC, dI)) (S := Int32 × Int32 × (Nat → Int32) × (Nat → Int32)) (wc := [(o51, .inr (1, [.int v52, .ref o53, .ref o55, .ref o57, .ref o59, .int v61, .int v62, .int v63])), (o2, .inr (4, [.ref o3, .int v5, .int v6])), (o3, .inl (cI, 12, .inl fw4)), (o53, .inl (cI, 12, .inl fw54)), (o55, .inl (cI, 81, .inl fw56))]) (wr := [(o1, .inr (11, [.ref o2, .ref o7, .ref o12, .ref o41, .ref o51, .ref o64, .ref o77, .ref o84, .ref o91, .ref o99, .ref o111, .ref o123, .int v125])), (o77, .inr (7, [.ref o78, .ref o80, .int v82, .int v83])), (o80, .inl (cI, 12, .inl fw81)), (o78, .inl (cI, 12, .inl fw79))]) (w1 := fun u => [(o51, .inr (1, [.int v52, .ref o53, .ref o55, .ref o57, .ref o59, .int u.1, .int u.2.1, .int v63])), (o2, .inr (4, [.ref o3, .int v5, .int v6])), (o3, .inl (cI, 12, .inl fw4)), (o53, .inl (cI, 12, .inl u.2.2.1)), (o55, .inl (cI, 81, .inl u.2.2.2))]) (wn := fun u => [(o1, .inr (11, [.ref o2, .ref o7, .ref o12, .ref o41, .ref o51, .ref o64, .ref o77, .ref o84, .ref o91, .ref o99, .ref o111, .ref o123, .int v125])), (o51, .inr (1, [.int v52, .ref o53, .ref o55, .ref o57, .ref o59, .int u.1, .int u.2.1, .int v63])), (o2, .inr (4, [.ref o3, .int v5, .int v6])), (o3, .inl (cI, 12, .inl fw4)), (o53, .inl (cI, 12, .inl u.2.2.1)), (o55, .inl (cI, 81, .inl u.2.2.2)), (o77, .inr (7, [.ref o78, .ref o80, .int v82, .int v83])), (o80, .inl (cI, 12, .inl fw81)), (o78, .inl (cI, 12, .inl fw79))]) (fun hPc hDc => va_runVN (As := [.ref o2]) (rest := []) ⟨hx, hb, hml, hown, hts⟩ (kX1_bring_1 l dC dI cI c2 cZ o51 o2 o53 o55 o57 o59 o3 v52 fw54 fw56 v61 v62 v63 fw4 v5 v6 H.size v52_h fw54_b v61_h fw4_b v5_h) ⟨va_cnB 1 hts gX11_colour_X1_bring_n193 rfl rfl rfl (hN.1 _ ns_105) (hts (.initialized RX1) hm_X11_colour_10) (by decide +kernel) ⟨Nat.le_of_ble_eq_true rfl, Nat.le_of_ble_eq_true rfl⟩, (hts (.instanceMethod yX1_bring) hm_X11_colour_9), (hts (.selects RX1 yX1_bring yX1_bring) hm_X11_colour_11)⟩ (pre_V hPc hK hDc hN (ci := 1) (q0 := 0) rfl rfl) rfl rfl hl.1 rfl (lv_room (Nat.le_of_ble_eq_true rfl)) dX11_colour_26 ⟨Nat.le_of_ble_eq_true rfl, Nat.le_of_ble_eq_true rfl⟩) hP hD hS hA [1, 2, 3, 4, 5] [0, 6, 7, 8] [0, 4, 5, 6, 7, 8, 1, 2, 3] rfl rfl (by decide +kernel) (by decide +kernel) (by decide +kernel) (by decide +kernel) (fun _ => rfl) (fun u H locs hq hP hD hS => ?_)
      obtain ⟨y18, y19, f20, f21⟩ := u
      obtain ⟨y18_h, f20_b⟩ := hq
      have hP : va_P (dC, dI) vwCl ([(o1, .inr (11, [.ref o2, .ref o7, .ref o12, .ref o41, .ref o51, .ref o64, .ref o77, .ref o84, .ref o91, .ref o99, .ref o111, .ref o123, .int v125])), (o51, .inr (1, [.int v52, .ref o53, .ref o55, .ref o57, .ref o59, .int y18, .int y19, .int v63])), (o2, .inr (4, [.ref o3, .int v5, .int v6])), (o3, .inl (cI, 12, .inl fw4)), (o53, .inl (cI, 12, .inl f20)), (o55, .inl (cI, 81, .inl f21)), (o77, .inr (7, [.ref o78, .ref o80, .int v82, .int v83])), (o80, .inl (cI, 12, .inl fw81)), (o78, .inl (cI, 12, .inl fw79))]) H := hP
      have hD : va_D A ([(o1, .inr (11, [.ref o2, .ref o7, .ref o12, .ref o41, .ref o51, .ref o64, .ref o77, .ref o84, .ref o91, .ref o99, .ref o111, .ref o123, .int v125])), (o51, .inr (1, [.int v52, .ref o53, .ref o55, .ref o57, .ref o59, .int y18, .int y19, .int v63])), (o2, .inr (4, [.ref o3, .int v5, .int v6])), (o3, .inl (cI, 12, .inl fw4)), (o53, .inl (cI, 12, .inl f20)), (o55, .inl (cI, 81, .inl f21)), (o77, .inr (7, [.ref o78, .ref o80, .int v82, .int v83])), (o80, .inl (cI, 12, .inl fw81)), (o78, .inl (cI, 12, .inl fw79))]) := hD
      refine lv_aload_n hx hb dX11_colour_29 rfl (lv_at hl 0 rfl) ?_
      refine va_get (D := (dC, dI)) (ci := 11) (v := .ref o77) (C := RX11) (T := TX11) (N := 13) hx hb hts iw_X11_colour_X11 hown hK hP 0 rfl rfl 6 (by decide) (hts (.fieldLink RX11 52 "HolelessHouse" "paint" "LHolelessHouse$Paint;") hm_X11_colour_3) (fun _ h9 => h9) rfl dX11_colour_30 ?_
      refine lv_aload_n hx hb dX11_colour_33 rfl (lv_at hl 0 rfl) ?_
      refine va_get (D := (dC, dI)) (ci := 11) (v := .ref o2) (C := RX11) (T := TX11) (N := 13) hx hb hts iw_X11_colour_X11 hown hK hP 0 rfl rfl 0 (by decide) (hts (.fieldLink RX11 10 "HolelessHouse" "graph" "LHolelessHouse$Graph;") hm_X11_colour_1) (fun _ h9 => h9) rfl dX11_colour_34 ?_
      refine lv_aload_n hx hb dX11_colour_37 rfl (lv_at hl 0 rfl) ?_
      refine va_get (D := (dC, dI)) (ci := 11) (v := .ref o51) (C := RX11) (T := TX11) (N := 13) hx hb hts iw_X11_colour_X11 hown hK hP 0 rfl rfl 4 (by decide) (hts (.fieldLink RX11 42 "HolelessHouse" "cliques" "LHolelessHouse$Cliques;") hm_X11_colour_2) (fun _ h9 => h9) rfl dX11_colour_38 ?_
      refine kc_i (D := (dC, dI)) (S := Unit) (wc := [(o51, .inr (1, [.int v52, .ref o53, .ref o55, .ref o57, .ref o59, .int y18, .int y19, .int v63])), (o55, .inl (cI, 81, .inl f21))]) (wr := [(o1, .inr (11, [.ref o2, .ref o7, .ref o12, .ref o41, .ref o51, .ref o64, .ref o77, .ref o84, .ref o91, .ref o99, .ref o111, .ref o123, .int v125])), (o2, .inr (4, [.ref o3, .int v5, .int v6])), (o3, .inl (cI, 12, .inl fw4)), (o53, .inl (cI, 12, .inl f20)), (o77, .inr (7, [.ref o78, .ref o80, .int v82, .int v83])), (o80, .inl (cI, 12, .inl fw81)), (o78, .inl (cI, 12, .inl fw79))]) (w1 := fun _ => [(o51, .inr (1, [.int v52, .ref o53, .ref o55, .ref o57, .ref o59, .int y18, .int y19, .int v63])), (o55, .inl (cI, 81, .inl f21))]) (wn := fun _ => [(o1, .inr (11, [.ref o2, .ref o7, .ref o12, .ref o41, .ref o51, .ref o64, .ref o77, .ref o84, .ref o91, .ref o99, .ref o111, .ref o123, .int v125])), (o51, .inr (1, [.int v52, .ref o53, .ref o55, .ref o57, .ref o59, .int y18, .int y19, .int v63])), (o2, .inr (4, [.ref o3, .int v5, .int v6])), (o3, .inl (cI, 12, .inl fw4)), (o53, .inl (cI, 12, .inl f20)), (o55, .inl (cI, 81, .inl f21)), (o77, .inr (7, [.ref o78, .ref o80, .int v82, .int v83])), (o80, .inl (cI, 12, .inl fw81)), (o78, .inl (cI, 12, .inl fw79))]) (fun hPc hDc => va_runVN (As := []) (rest := [.ref o2, .ref o77]) ⟨hx, hb, hml, hown, hts⟩ (kX1_widest_1 l dC dI cI c2 cZ o51 o53 o55 o57 o59 v52 f21 y18 y19 v63 H.size v52_h y18_h) ⟨va_cnB 0 hts gX11_colour_X1_widest_n199 rfl rfl rfl (hN.1 _ ns_109) (hts (.initialized RX1) hm_X11_colour_10) (by decide +kernel) ⟨Nat.le_of_ble_eq_true rfl, Nat.le_of_ble_eq_true rfl⟩, (hts (.instanceMethod yX1_widest) hm_X11_colour_40), (hts (.selects RX1 yX1_widest yX1_widest) hm_X11_colour_41)⟩ (pre_V hPc hK hDc hN (ci := 1) (q0 := 0) rfl rfl) rfl rfl hl.1 rfl (lv_room (Nat.le_of_ble_eq_true rfl)) dX11_colour_41 ⟨Nat.le_of_ble_eq_true rfl, Nat.le_of_ble_eq_true rfl⟩) hP hD hS hA [1, 5] [0, 2, 3, 4, 6, 7, 8] [0, 7, 1, 2, 3, 8, 4, 5, 6] rfl rfl (by decide +kernel) (by decide +kernel) (by decide +kernel) (by decide +kernel) (fun _ => rfl) (fun x22 _ H locs hq hP hD hS => ?_)
      have hP : va_P (dC, dI) vwCl ([(o1, .inr (11, [.ref o2, .ref o7, .ref o12, .ref o41, .ref o51, .ref o64, .ref o77, .ref o84, .ref o91, .ref o99, .ref o111, .ref o123, .int v125])), (o51, .inr (1, [.int v52, .ref o53, .ref o55, .ref o57, .ref o59, .int y18, .int y19, .int v63])), (o2, .inr (4, [.ref o3, .int v5, .int v6])), (o3, .inl (cI, 12, .inl fw4)), (o53, .inl (cI, 12, .inl f20)), (o55, .inl (cI, 81, .inl f21)), (o77, .inr (7, [.ref o78, .ref o80, .int v82, .int v83])), (o80, .inl (cI, 12, .inl fw81)), (o78, .inl (cI, 12, .inl fw79))]) H := hP
      have hD : va_D A ([(o1, .inr (11, [.ref o2, .ref o7, .ref o12, .ref o41, .ref o51, .ref o64, .ref o77, .ref o84, .ref o91, .ref o99, .ref o111, .ref o123, .int v125])), (o51, .inr (1, [.int v52, .ref o53, .ref o55, .ref o57, .ref o59, .int y18, .int y19, .int v63])), (o2, .inr (4, [.ref o3, .int v5, .int v6])), (o3, .inl (cI, 12, .inl fw4)), (o53, .inl (cI, 12, .inl f20)), (o55, .inl (cI, 81, .inl f21)), (o77, .inr (7, [.ref o78, .ref o80, .int v82, .int v83])), (o80, .inl (cI, 12, .inl fw81)), (o78, .inl (cI, 12, .inl fw79))]) := hD
      refine kc_i (D := (dC, dI)) (S := Unit) (wc := []) (wr := [(o1, .inr (11, [.ref o2, .ref o7, .ref o12, .ref o41, .ref o51, .ref o64, .ref o77, .ref o84, .ref o91, .ref o99, .ref o111, .ref o123, .int v125])), (o51, .inr (1, [.int v52, .ref o53, .ref o55, .ref o57, .ref o59, .int y18, .int y19, .int v63])), (o2, .inr (4, [.ref o3, .int v5, .int v6])), (o3, .inl (cI, 12, .inl fw4)), (o53, .inl (cI, 12, .inl f20)), (o55, .inl (cI, 81, .inl f21)), (o77, .inr (7, [.ref o78, .ref o80, .int v82, .int v83])), (o80, .inl (cI, 12, .inl fw81)), (o78, .inl (cI, 12, .inl fw79))]) (w1 := fun _ => []) (wn := fun _ => [(o1, .inr (11, [.ref o2, .ref o7, .ref o12, .ref o41, .ref o51, .ref o64, .ref o77, .ref o84, .ref o91, .ref o99, .ref o111, .ref o123, .int v125])), (o51, .inr (1, [.int v52, .ref o53, .ref o55, .ref o57, .ref o59, .int y18, .int y19, .int v63])), (o2, .inr (4, [.ref o3, .int v5, .int v6])), (o3, .inl (cI, 12, .inl fw4)), (o53, .inl (cI, 12, .inl f20)), (o55, .inl (cI, 81, .inl f21)), (o77, .inr (7, [.ref o78, .ref o80, .int v82, .int v83])), (o80, .inl (cI, 12, .inl fw81)), (o78, .inl (cI, 12, .inl fw79))]) (fun hPc hDc => va_runS (As := [.int x22]) (rest := [.ref o2, .ref o77]) ⟨hx, hb, hml, hown, hts⟩ (kJ6_bitCount_0f7a4_1 l dC dI cI c2 cZ x22 H.size) (va_cwS 1 hts gX11_colour_J6_bitCount_0f7a4 rfl rfl rfl (by decide +kernel) ⟨Nat.le_of_ble_eq_true rfl, Nat.le_of_ble_eq_true rfl⟩) (pre_S hPc hK hDc hN) rfl rfl hl.1 rfl (lv_room (Nat.le_of_ble_eq_true rfl)) dX11_colour_44 ⟨Nat.le_of_ble_eq_true rfl, Nat.le_of_ble_eq_true rfl⟩) hP hD hS hA [] [0, 1, 2, 3, 4, 5, 6, 7, 8] [0, 1, 2, 3, 4, 5, 6, 7, 8] rfl rfl (by decide +kernel) (by decide +kernel) (by decide +kernel) (by decide +kernel) (fun _ => rfl) (fun x23 _ H locs hq hP hD hS => ?_)
      have x23_h := hq
      have hP : va_P (dC, dI) vwCl ([(o1, .inr (11, [.ref o2, .ref o7, .ref o12, .ref o41, .ref o51, .ref o64, .ref o77, .ref o84, .ref o91, .ref o99, .ref o111, .ref o123, .int v125])), (o51, .inr (1, [.int v52, .ref o53, .ref o55, .ref o57, .ref o59, .int y18, .int y19, .int v63])), (o2, .inr (4, [.ref o3, .int v5, .int v6])), (o3, .inl (cI, 12, .inl fw4)), (o53, .inl (cI, 12, .inl f20)), (o55, .inl (cI, 81, .inl f21)), (o77, .inr (7, [.ref o78, .ref o80, .int v82, .int v83])), (o80, .inl (cI, 12, .inl fw81)), (o78, .inl (cI, 12, .inl fw79))]) H := hP
      have hD : va_D A ([(o1, .inr (11, [.ref o2, .ref o7, .ref o12, .ref o41, .ref o51, .ref o64, .ref o77, .ref o84, .ref o91, .ref o99, .ref o111, .ref o123, .int v125])), (o51, .inr (1, [.int v52, .ref o53, .ref o55, .ref o57, .ref o59, .int y18, .int y19, .int v63])), (o2, .inr (4, [.ref o3, .int v5, .int v6])), (o3, .inl (cI, 12, .inl fw4)), (o53, .inl (cI, 12, .inl f20)), (o55, .inl (cI, 81, .inl f21)), (o77, .inr (7, [.ref o78, .ref o80, .int v82, .int v83])), (o80, .inl (cI, 12, .inl fw81)), (o78, .inl (cI, 12, .inl fw79))]) := hD
      refine kc_v (D := (dC, dI)) (S := Int32 × Int32 × (Nat → Int32) × (Nat → Int32)) (wc := [(o77, .inr (7, [.ref o78, .ref o80, .int v82, .int v83])), (o2, .inr (4, [.ref o3, .int v5, .int v6])), (o80, .inl (cI, 12, .inl fw81)), (o3, .inl (cI, 12, .inl fw4)), (o78, .inl (cI, 12, .inl fw79))]) (wr := [(o1, .inr (11, [.ref o2, .ref o7, .ref o12, .ref o41, .ref o51, .ref o64, .ref o77, .ref o84, .ref o91, .ref o99, .ref o111, .ref o123, .int v125])), (o51, .inr (1, [.int v52, .ref o53, .ref o55, .ref o57, .ref o59, .int y18, .int y19, .int v63])), (o53, .inl (cI, 12, .inl f20)), (o55, .inl (cI, 81, .inl f21))]) (w1 := fun u => [(o77, .inr (7, [.ref o78, .ref o80, .int u.1, .int u.2.1])), (o2, .inr (4, [.ref o3, .int v5, .int v6])), (o80, .inl (cI, 12, .inl u.2.2.1)), (o3, .inl (cI, 12, .inl fw4)), (o78, .inl (cI, 12, .inl u.2.2.2))]) (wn := fun u => [(o1, .inr (11, [.ref o2, .ref o7, .ref o12, .ref o41, .ref o51, .ref o64, .ref o77, .ref o84, .ref o91, .ref o99, .ref o111, .ref o123, .int v125])), (o51, .inr (1, [.int v52, .ref o53, .ref o55, .ref o57, .ref o59, .int y18, .int y19, .int v63])), (o2, .inr (4, [.ref o3, .int v5, .int v6])), (o3, .inl (cI, 12, .inl fw4)), (o53, .inl (cI, 12, .inl f20)), (o55, .inl (cI, 81, .inl f21)), (o77, .inr (7, [.ref o78, .ref o80, .int u.1, .int u.2.1])), (o80, .inl (cI, 12, .inl u.2.2.1)), (o78, .inl (cI, 12, .inl u.2.2.2))]) (fun hPc hDc => va_runVN (As := [.ref o2, .int x23]) (rest := []) ⟨hx, hb, hml, hown, hts⟩ (kX7_bring_1 l dC dI cI c2 cZ o77 o2 o78 o80 o3 fw79 fw81 v82 v83 fw4 v5 v6 x23 H.size v82_h fw4_b v5_h x23_h) ⟨va_cnB 2 hts gX11_colour_X7_bring_n208 rfl rfl rfl (hN.1 _ ns_111) (hts (.initialized RX7) hm_X11_colour_51) (by decide +kernel) ⟨Nat.le_of_ble_eq_true rfl, Nat.le_of_ble_eq_true rfl⟩, (hts (.instanceMethod yX7_bring) hm_X11_colour_50), (hts (.selects RX7 yX7_bring yX7_bring) hm_X11_colour_52)⟩ (pre_V hPc hK hDc hN (ci := 7) (q0 := 0) rfl rfl) rfl rfl hl.1 rfl (lv_room (Nat.le_of_ble_eq_true rfl)) dX11_colour_47 ⟨Nat.le_of_ble_eq_true rfl, Nat.le_of_ble_eq_true rfl⟩) hP hD hS hA [6, 2, 7, 3, 8] [0, 1, 4, 5] [0, 1, 5, 7, 2, 3, 4, 6, 8] rfl rfl (by decide +kernel) (by decide +kernel) (by decide +kernel) (by decide +kernel) (fun _ => rfl) (fun u H locs hq hP hD hS => ?_)
      obtain ⟨y24, y25, f26, f27⟩ := u
      have y24_h := hq
      have hP : va_P (dC, dI) vwCl ([(o1, .inr (11, [.ref o2, .ref o7, .ref o12, .ref o41, .ref o51, .ref o64, .ref o77, .ref o84, .ref o91, .ref o99, .ref o111, .ref o123, .int v125])), (o51, .inr (1, [.int v52, .ref o53, .ref o55, .ref o57, .ref o59, .int y18, .int y19, .int v63])), (o2, .inr (4, [.ref o3, .int v5, .int v6])), (o3, .inl (cI, 12, .inl fw4)), (o53, .inl (cI, 12, .inl f20)), (o55, .inl (cI, 81, .inl f21)), (o77, .inr (7, [.ref o78, .ref o80, .int y24, .int y25])), (o80, .inl (cI, 12, .inl f26)), (o78, .inl (cI, 12, .inl f27))]) H := hP
      have hD : va_D A ([(o1, .inr (11, [.ref o2, .ref o7, .ref o12, .ref o41, .ref o51, .ref o64, .ref o77, .ref o84, .ref o91, .ref o99, .ref o111, .ref o123, .int v125])), (o51, .inr (1, [.int v52, .ref o53, .ref o55, .ref o57, .ref o59, .int y18, .int y19, .int v63])), (o2, .inr (4, [.ref o3, .int v5, .int v6])), (o3, .inl (cI, 12, .inl fw4)), (o53, .inl (cI, 12, .inl f20)), (o55, .inl (cI, 81, .inl f21)), (o77, .inr (7, [.ref o78, .ref o80, .int y24, .int y25])), (o80, .inl (cI, 12, .inl f26)), (o78, .inl (cI, 12, .inl f27))]) := hD
      refine lv_iload_n hx hb dX11_colour_50 rfl (lv_at hl 1 rfl) ?_
      refine lv_iconst (v := (-1)) hx hb dX11_colour_51 (by decide) ?_
      refine lv_icmp_ne (tgt := 65) hx hb dX11_colour_52 (by decide) (fun _ => ?_) (fun h9 => absurd h9 (d_ne j17 ikm_1 (by decide)))
      refine lv_aload_n hx hb dX11_colour_65 rfl (lv_at hl 0 rfl) ?_
      refine va_get (D := (dC, dI)) (ci := 11) (v := .ref o77) (C := RX11) (T := TX11) (N := 13) hx hb hts iw_X11_colour_X11 hown hK hP 0 rfl rfl 6 (by decide) (hts (.fieldLink RX11 52 "HolelessHouse" "paint" "LHolelessHouse$Paint;") hm_X11_colour_3) (fun _ h9 => h9) rfl dX11_colour_66 ?_
      refine va_getN (D := (dC, dI)) (ci := 7) (v := .ref o78) (C := RX7) (T := TX7) (N := 4) hx hb hts iw_X11_colour_X7 hown hK hP 6 rfl rfl 0 (by decide) (hN.use ns_37) (fun _ h9 => h9) rfl dX11_colour_69 ?_
      refine lv_iload_n hx hb dX11_colour_72 rfl (lv_at hl 1 rfl) ?_
      refine va_iald hx hb hK hP 8 0 rfl rfl (vin_iv j17 (by decide)) dX11_colour_73 (lv_topi (fun x28 x28_e => ?_))
      rw [hQ]
      exact W.iret (v := x28) hx hb hr (fun t ht hW => ⟨⟨x28, (y18, y19, f20, f21, y24, y25, f26, f27), rfl, ⟨y18_h, f20_b, y24_h⟩, by rw [ht]; exact hP, va_K.moved hW.alike hK, hD⟩, hS.F ht⟩) hS.2.2 dX11_colour_74
    ·
      have j29 : Iv 0 0 x13 := r_eq h15 ik_0
      refine lv_iconst (v := (-1)) hx hb dX11_colour_16 (by decide) ?_
      rw [hQ]
      exact W.iret (v := (-1)) hx hb hr (fun t ht hW => ⟨⟨(-1), (v61, v62, fw54, fw56, v82, v83, fw81, fw79), rfl, ⟨v61_h, fw54_b, v82_h⟩, by rw [ht]; exact hP, va_K.moved hW.alike hK, hD⟩, hS.F ht⟩) hS.2.2 dX11_colour_17
theorem iw_X11_apart_X11 : ∀ w ∈ wsX110, w ∈ wsX11_apart := fun _ h => List.mem_cons.mpr (Or.inr (List.mem_append.mpr (Or.inl (List.mem_append.mpr (Or.inl (List.mem_append.mpr (Or.inr h)))))))
set_option maxHeartbeats 4000000 in
set_option maxRecDepth 100000 in
theorem kX11_apart_1 (l : Launch) (dC : Nat → ClassId) (dI : Nat → Nat → Nat) (cI c2 cZ : ClassId) (o1 : Nat) (o2 : Nat) (o7 : Nat) (o12 : Nat) (o41 : Nat) (o51 : Nat) (o64 : Nat) (o77 : Nat) (o84 : Nat) (o91 : Nat) (o99 : Nat) (o111 : Nat) (o123 : Nat) (o66 : Nat) (o68 : Nat) (o70 : Nat) (o72 : Nat) (o3 : Nat) (fw4 : Nat → Int32) (v5 : Int32) (v6 : Int32) (v65 : Int32) (fw67 : Nat → Int32) (fw69 : Nat → Int32) (v74 : Int32) (v75 : Int32) (v76 : Int32) (v125 : Int32) (sz : Nat) (fw4_b : Bd 12 0 4095 fw4) (v5_h : Iv 0 12 v5) (v65_h : Iv 0 1 v65) (fw67_b : Bd 12 0 4095 fw67) (v74_h : Iv 0 81 v74) : Met l yX11_apart wsX11_apart ({ frames := 16, cells := 0, slots := 0, locals := 404 }) (va_Pc [.ref o1] (wPre (dC, dI) [(cI, .int), (c2, .array .int), (cZ, .boolean)] ([(o1, .inr (11, [.ref o2, .ref o7, .ref o12, .ref o41, .ref o51, .ref o64, .ref o77, .ref o84, .ref o91, .ref o99, .ref o111, .ref o123, .int v125])), (o64, .inr (1, [.int v65, .ref o66, .ref o68, .ref o70, .ref o72, .int v74, .int v75, .int v76])), (o2, .inr (4, [.ref o3, .int v5, .int v6])), (o3, .inl (cI, 12, .inl fw4)), (o66, .inl (cI, 12, .inl fw67)), (o68, .inl (cI, 81, .inl fw69))]) sz)) (va_Qi (fun (r : Int32) (u : Int32 × Int32 × (Nat → Int32) × (Nat → Int32)) => Iv 0 81 u.1 ∧ Bd 12 0 4095 u.2.2.1) (fun u t => wPost (dC, dI) [(cI, .int), (c2, .array .int), (cZ, .boolean)] (va_A ([(o1, .inr (11, [.ref o2, .ref o7, .ref o12, .ref o41, .ref o51, .ref o64, .ref o77, .ref o84, .ref o91, .ref o99, .ref o111, .ref o123, .int v125])), (o64, .inr (1, [.int v65, .ref o66, .ref o68, .ref o70, .ref o72, .int v74, .int v75, .int v76])), (o2, .inr (4, [.ref o3, .int v5, .int v6])), (o3, .inl (cI, 12, .inl fw4)), (o66, .inl (cI, 12, .inl fw67)), (o68, .inl (cI, 81, .inl fw69))]) sz) ([(o1, .inr (11, [.ref o2, .ref o7, .ref o12, .ref o41, .ref o51, .ref o64, .ref o77, .ref o84, .ref o91, .ref o99, .ref o111, .ref o123, .int v125])), (o64, .inr (1, [.int v65, .ref o66, .ref o68, .ref o70, .ref o72, .int u.1, .int u.2.1, .int v76])), (o2, .inr (4, [.ref o3, .int v5, .int v6])), (o3, .inl (cI, 12, .inl fw4)), (o66, .inl (cI, 12, .inl u.2.2.1)), (o68, .inl (cI, 81, .inl u.2.2.2))]) t) (va_A ([(o1, .inr (11, [.ref o2, .ref o7, .ref o12, .ref o41, .ref o51, .ref o64, .ref o77, .ref o84, .ref o91, .ref o99, .ref o111, .ref o123, .int v125])), (o64, .inr (1, [.int v65, .ref o66, .ref o68, .ref o70, .ref o72, .int v74, .int v75, .int v76])), (o2, .inr (4, [.ref o3, .int v5, .int v6])), (o3, .inl (cI, 12, .inl fw4)), (o66, .inl (cI, 12, .inl fw67)), (o68, .inl (cI, 81, .inl fw69))]) sz)) 0 0 (va_A ([(o1, .inr (11, [.ref o2, .ref o7, .ref o12, .ref o41, .ref o51, .ref o64, .ref o77, .ref o84, .ref o91, .ref o99, .ref o111, .ref o123, .int v125])), (o64, .inr (1, [.int v65, .ref o66, .ref o68, .ref o70, .ref o72, .int v74, .int v75, .int v76])), (o2, .inr (4, [.ref o3, .int v5, .int v6])), (o3, .inl (cI, 12, .inl fw4)), (o66, .inl (cI, 12, .inl fw67)), (o68, .inl (cI, 81, .inl fw69))]) sz) := by
  refine Met.ofW (cc := cX11_apart) (maxL := 1) (ret := (some .int)) (by decide) rfl ?_
  intro p e s m args below meth c s₁ B hml hv
  obtain ⟨rfl, hsz, hP, hK, hD0, hN⟩ := hv
  have hx := B.exec
  have hb := B.bytes
  have hr := B.returns
  have hts := atoms_spec (ws := wsX11_apart) B.pre
  have hown : s.vm.findClass RX11 = some m.cls := findClass_of_methodNamed B.named
  have hlocks := B.notSynchronized
  subst hsz
  have hD := hD0.self (sz := s.heap.size)
  generalize hAe : va_A ([(o1, .inr (11, [.ref o2, .ref o7, .ref o12, .ref o41, .ref o51, .ref o64, .ref o77, .ref o84, .ref o91, .ref o99, .ref o111, .ref o123, .int v125])), (o64, .inr (1, [.int v65, .ref o66, .ref o68, .ref o70, .ref o72, .int v74, .int v75, .int v76])), (o2, .inr (4, [.ref o3, .int v5, .int v6])), (o3, .inl (cI, 12, .inl fw4)), (o66, .inl (cI, 12, .inl fw67)), (o68, .inl (cI, 81, .inl fw69))]) s.heap.size = A at hD ⊢
  have hA : ∀ q : Nat, s.heap.size ≤ q → A q := fun q h => by rw [← hAe]; exact Or.inr h
  have hS : va_S A s.heap s.heap [] := va_S.rf
  have hP : va_P (dC, dI) vwCl ([(o1, .inr (11, [.ref o2, .ref o7, .ref o12, .ref o41, .ref o51, .ref o64, .ref o77, .ref o84, .ref o91, .ref o99, .ref o111, .ref o123, .int v125])), (o64, .inr (1, [.int v65, .ref o66, .ref o68, .ref o70, .ref o72, .int v74, .int v75, .int v76])), (o2, .inr (4, [.ref o3, .int v5, .int v6])), (o3, .inl (cI, 12, .inl fw4)), (o66, .inl (cI, 12, .inl fw67)), (o68, .inl (cI, 81, .inl fw69))]) s.heap := hP
  have hl := lv_entry ([.ref o1]) (n := 1) (Nat.le_of_ble_eq_true rfl)
  rw [lg_entry_eq]
  generalize (lg_sl ([.ref o1]) ++ List.replicate (1 - (lg_sl ([.ref o1])).length) Slot.unset).toArray = ls at hl ⊢
  have hl : lv_has ls 1 [(0, .ref o1)] := hl
  refine gen_Q (fun Q hQ => ?_)
  refine lv_aload_n hx hb dX11_apart_0 rfl (lv_at hl 0 rfl) ?_
  refine va_get (D := (dC, dI)) (ci := 11) (v := .ref o64) (C := RX11) (T := TX11) (N := 13) hx hb hts iw_X11_apart_X11 hown hK hP 0 rfl rfl 5 (by decide) (hts (.fieldLink RX11 46 "HolelessHouse" "looseSets" "LHolelessHouse$Cliques;") hm_X11_apart_1) (fun _ h9 => h9) rfl dX11_apart_1 ?_
  refine lv_aload_n hx hb dX11_apart_4 rfl (lv_at hl 0 rfl) ?_
  refine va_get (D := (dC, dI)) (ci := 11) (v := .ref o2) (C := RX11) (T := TX11) (N := 13) hx hb hts iw_X11_apart_X11 hown hK hP 0 rfl rfl 0 (by decide) (hts (.fieldLink RX11 10 "HolelessHouse" "graph" "LHolelessHouse$Graph;") hm_X11_apart_2) (fun _ h9 => h9) rfl dX11_apart_5 ?_
  refine kc_v (D := (dC, dI)) (S := Int32 × Int32 × (Nat → Int32) × (Nat → Int32)) (wc := [(o64, .inr (1, [.int v65, .ref o66, .ref o68, .ref o70, .ref o72, .int v74, .int v75, .int v76])), (o2, .inr (4, [.ref o3, .int v5, .int v6])), (o3, .inl (cI, 12, .inl fw4)), (o66, .inl (cI, 12, .inl fw67)), (o68, .inl (cI, 81, .inl fw69))]) (wr := [(o1, .inr (11, [.ref o2, .ref o7, .ref o12, .ref o41, .ref o51, .ref o64, .ref o77, .ref o84, .ref o91, .ref o99, .ref o111, .ref o123, .int v125]))]) (w1 := fun u => [(o64, .inr (1, [.int v65, .ref o66, .ref o68, .ref o70, .ref o72, .int u.1, .int u.2.1, .int v76])), (o2, .inr (4, [.ref o3, .int v5, .int v6])), (o3, .inl (cI, 12, .inl fw4)), (o66, .inl (cI, 12, .inl u.2.2.1)), (o68, .inl (cI, 81, .inl u.2.2.2))]) (wn := fun u => [(o1, .inr (11, [.ref o2, .ref o7, .ref o12, .ref o41, .ref o51, .ref o64, .ref o77, .ref o84, .ref o91, .ref o99, .ref o111, .ref o123, .int v125])), (o64, .inr (1, [.int v65, .ref o66, .ref o68, .ref o70, .ref o72, .int u.1, .int u.2.1, .int v76])), (o2, .inr (4, [.ref o3, .int v5, .int v6])), (o3, .inl (cI, 12, .inl fw4)), (o66, .inl (cI, 12, .inl u.2.2.1)), (o68, .inl (cI, 81, .inl u.2.2.2))]) (fun hPc hDc => va_runVN (As := [.ref o2]) (rest := []) ⟨hx, hb, hml, hown, hts⟩ (kX1_bring_1 l dC dI cI c2 cZ o64 o2 o66 o68 o70 o72 o3 v65 fw67 fw69 v74 v75 v76 fw4 v5 v6 s.heap.size v65_h fw67_b v74_h fw4_b v5_h) ⟨va_cnB 1 hts gX11_apart_X1_bring_n193 rfl rfl rfl (hN.1 _ ns_105) (hts (.initialized RX1) hm_X11_apart_4) (by decide +kernel) ⟨Nat.le_of_ble_eq_true rfl, Nat.le_of_ble_eq_true rfl⟩, (hts (.instanceMethod yX1_bring) hm_X11_apart_3), (hts (.selects RX1 yX1_bring yX1_bring) hm_X11_apart_5)⟩ (pre_V hPc hK hDc hN (ci := 1) (q0 := 0) rfl rfl) rfl rfl hl.1 rfl (lv_room (Nat.le_of_ble_eq_true rfl)) dX11_apart_8 ⟨Nat.le_of_ble_eq_true rfl, Nat.le_of_ble_eq_true rfl⟩) hP hD hS hA [1, 2, 3, 4, 5] [0] [0, 1, 2, 3, 4, 5] rfl rfl (by decide +kernel) (by decide +kernel) (by decide +kernel) (by decide +kernel) (fun _ => rfl) (fun u H locs hq hP hD hS => ?_)
  obtain ⟨y1, y2, f3, f4⟩ := u
  obtain ⟨y1_h, f3_b⟩ := hq
  have hP : va_P (dC, dI) vwCl ([(o1, .inr (11, [.ref o2, .ref o7, .ref o12, .ref o41, .ref o51, .ref o64, .ref o77, .ref o84, .ref o91, .ref o99, .ref o111, .ref o123, .int v125])), (o64, .inr (1, [.int v65, .ref o66, .ref o68, .ref o70, .ref o72, .int y1, .int y2, .int v76])), (o2, .inr (4, [.ref o3, .int v5, .int v6])), (o3, .inl (cI, 12, .inl fw4)), (o66, .inl (cI, 12, .inl f3)), (o68, .inl (cI, 81, .inl f4))]) H := hP
  have hD : va_D A ([(o1, .inr (11, [.ref o2, .ref o7, .ref o12, .ref o41, .ref o51, .ref o64, .ref o77, .ref o84, .ref o91, .ref o99, .ref o111, .ref o123, .int v125])), (o64, .inr (1, [.int v65, .ref o66, .ref o68, .ref o70, .ref o72, .int y1, .int y2, .int v76])), (o2, .inr (4, [.ref o3, .int v5, .int v6])), (o3, .inl (cI, 12, .inl fw4)), (o66, .inl (cI, 12, .inl f3)), (o68, .inl (cI, 81, .inl f4))]) := hD
  refine lv_aload_n hx hb dX11_apart_11 rfl (lv_at hl 0 rfl) ?_
  refine va_get (D := (dC, dI)) (ci := 11) (v := .ref o64) (C := RX11) (T := TX11) (N := 13) hx hb hts iw_X11_apart_X11 hown hK hP 0 rfl rfl 5 (by decide) (hts (.fieldLink RX11 46 "HolelessHouse" "looseSets" "LHolelessHouse$Cliques;") hm_X11_apart_1) (fun _ h9 => h9) rfl dX11_apart_12 ?_
  refine kc_i (D := (dC, dI)) (S := Unit) (wc := [(o64, .inr (1, [.int v65, .ref o66, .ref o68, .ref o70, .ref o72, .int y1, .int y2, .int v76])), (o68, .inl (cI, 81, .inl f4))]) (wr := [(o1, .inr (11, [.ref o2, .ref o7, .ref o12, .ref o41, .ref o51, .ref o64, .ref o77, .ref o84, .ref o91, .ref o99, .ref o111, .ref o123, .int v125])), (o2, .inr (4, [.ref o3, .int v5, .int v6])), (o3, .inl (cI, 12, .inl fw4)), (o66, .inl (cI, 12, .inl f3))]) (w1 := fun _ => [(o64, .inr (1, [.int v65, .ref o66, .ref o68, .ref o70, .ref o72, .int y1, .int y2, .int v76])), (o68, .inl (cI, 81, .inl f4))]) (wn := fun _ => [(o1, .inr (11, [.ref o2, .ref o7, .ref o12, .ref o41, .ref o51, .ref o64, .ref o77, .ref o84, .ref o91, .ref o99, .ref o111, .ref o123, .int v125])), (o64, .inr (1, [.int v65, .ref o66, .ref o68, .ref o70, .ref o72, .int y1, .int y2, .int v76])), (o2, .inr (4, [.ref o3, .int v5, .int v6])), (o3, .inl (cI, 12, .inl fw4)), (o66, .inl (cI, 12, .inl f3)), (o68, .inl (cI, 81, .inl f4))]) (fun hPc hDc => va_runVN (As := []) (rest := []) ⟨hx, hb, hml, hown, hts⟩ (kX1_widest_1 l dC dI cI c2 cZ o64 o66 o68 o70 o72 v65 f4 y1 y2 v76 H.size v65_h y1_h) ⟨va_cnB 0 hts gX11_apart_X1_widest_n199 rfl rfl rfl (hN.1 _ ns_109) (hts (.initialized RX1) hm_X11_apart_4) (by decide +kernel) ⟨Nat.le_of_ble_eq_true rfl, Nat.le_of_ble_eq_true rfl⟩, (hts (.instanceMethod yX1_widest) hm_X11_apart_36), (hts (.selects RX1 yX1_widest yX1_widest) hm_X11_apart_37)⟩ (pre_V hPc hK hDc hN (ci := 1) (q0 := 0) rfl rfl) rfl rfl hl.1 rfl (lv_room (Nat.le_of_ble_eq_true rfl)) dX11_apart_15 ⟨Nat.le_of_ble_eq_true rfl, Nat.le_of_ble_eq_true rfl⟩) hP hD hS hA [1, 5] [0, 2, 3, 4] [0, 4, 1, 2, 3, 5] rfl rfl (by decide +kernel) (by decide +kernel) (by decide +kernel) (by decide +kernel) (fun _ => rfl) (fun x5 _ H locs hq hP hD hS => ?_)
  have hP : va_P (dC, dI) vwCl ([(o1, .inr (11, [.ref o2, .ref o7, .ref o12, .ref o41, .ref o51, .ref o64, .ref o77, .ref o84, .ref o91, .ref o99, .ref o111, .ref o123, .int v125])), (o64, .inr (1, [.int v65, .ref o66, .ref o68, .ref o70, .ref o72, .int y1, .int y2, .int v76])), (o2, .inr (4, [.ref o3, .int v5, .int v6])), (o3, .inl (cI, 12, .inl fw4)), (o66, .inl (cI, 12, .inl f3)), (o68, .inl (cI, 81, .inl f4))]) H := hP
  have hD : va_D A ([(o1, .inr (11, [.ref o2, .ref o7, .ref o12, .ref o41, .ref o51, .ref o64, .ref o77, .ref o84, .ref o91, .ref o99, .ref o111, .ref o123, .int v125])), (o64, .inr (1, [.int v65, .ref o66, .ref o68, .ref o70, .ref o72, .int y1, .int y2, .int v76])), (o2, .inr (4, [.ref o3, .int v5, .int v6])), (o3, .inl (cI, 12, .inl fw4)), (o66, .inl (cI, 12, .inl f3)), (o68, .inl (cI, 81, .inl f4))]) := hD
  rw [hQ]
  exact W.iret (v := x5) hx hb hr (fun t ht hW => ⟨⟨x5, (y1, y2, f3, f4), rfl, ⟨y1_h, f3_b⟩, by rw [ht]; exact hP, va_K.moved hW.alike hK, hD⟩, hS.F ht⟩) hS.2.2 dX11_apart_18
theorem iw_X1_tieNext_X1 : ∀ w ∈ wsX10, w ∈ wsX1_tieNext := fun _ h => List.mem_cons.mpr (Or.inr (List.mem_append.mpr (Or.inr h)))
set_option maxHeartbeats 4000000 in
set_option maxRecDepth 100000 in
theorem kX1_tieNext_1 (l : Launch) (dC : Nat → ClassId) (dI : Nat → Nat → Nat) (cI c2 cZ : ClassId) (o1 : Nat) (o3 : Nat) (o5 : Nat) (o7 : Nat) (o9 : Nat) (v2 : Int32) (fw6 : Nat → Int32) (fw8 : Nat → Int32) (fw10 : Nat → Int32) (v11 : Int32) (v12 : Int32) (v13 : Int32) (a1 : Int32) (sz : Nat) (v2_h : Iv 0 1 v2) (v11_h : Iv 0 81 v11) : Met l yX1_tieNext wsX1_tieNext ({ frames := 1, cells := 0, slots := 0, locals := 21 }) (va_Pc [.ref o1, .int a1] (wPre (dC, dI) [(cI, .int), (c2, .array .int), (cZ, .boolean)] ([(o1, .inr (1, [.int v2, .ref o3, .ref o5, .ref o7, .ref o9, .int v11, .int v12, .int v13])), (o5, .inl (cI, 81, .inl fw6)), (o7, .inl (cI, 12, .inl fw8)), (o9, .inl (cI, 12, .inl fw10))]) sz)) (va_Qi (fun (r : Int32) (u : (Nat → Int32) × (Nat → Int32)) => Iv 0 11 r) (fun u t => wPost (dC, dI) [(cI, .int), (c2, .array .int), (cZ, .boolean)] (va_A ([(o1, .inr (1, [.int v2, .ref o3, .ref o5, .ref o7, .ref o9, .int v11, .int v12, .int v13])), (o5, .inl (cI, 81, .inl fw6)), (o7, .inl (cI, 12, .inl fw8)), (o9, .inl (cI, 12, .inl fw10))]) sz) ([(o1, .inr (1, [.int v2, .ref o3, .ref o5, .ref o7, .ref o9, .int v11, .int v12, .int v13])), (o5, .inl (cI, 81, .inl fw6)), (o7, .inl (cI, 12, .inl u.1)), (o9, .inl (cI, 12, .inl u.2))]) t) (va_A ([(o1, .inr (1, [.int v2, .ref o3, .ref o5, .ref o7, .ref o9, .int v11, .int v12, .int v13])), (o5, .inl (cI, 81, .inl fw6)), (o7, .inl (cI, 12, .inl fw8)), (o9, .inl (cI, 12, .inl fw10))]) sz)) 0 0 (va_A ([(o1, .inr (1, [.int v2, .ref o3, .ref o5, .ref o7, .ref o9, .int v11, .int v12, .int v13])), (o5, .inl (cI, 81, .inl fw6)), (o7, .inl (cI, 12, .inl fw8)), (o9, .inl (cI, 12, .inl fw10))]) sz) := by
  refine Met.ofW (cc := cX1_tieNext) (maxL := 7) (ret := (some .int)) (by decide) rfl ?_
  intro p e s m args below meth c s₁ B hml hv
  obtain ⟨rfl, hsz, hP, hK, hD0, hN⟩ := hv
  have hx := B.exec
  have hb := B.bytes
  have hr := B.returns
  have hts := atoms_spec (ws := wsX1_tieNext) B.pre
  have hown : s.vm.findClass RX1 = some m.cls := findClass_of_methodNamed B.named
  have hlocks := B.notSynchronized
  subst hsz
  have hD := hD0.self (sz := s.heap.size)
  generalize hAe : va_A ([(o1, .inr (1, [.int v2, .ref o3, .ref o5, .ref o7, .ref o9, .int v11, .int v12, .int v13])), (o5, .inl (cI, 81, .inl fw6)), (o7, .inl (cI, 12, .inl fw8)), (o9, .inl (cI, 12, .inl fw10))]) s.heap.size = A at hD ⊢
  have hA : ∀ q : Nat, s.heap.size ≤ q → A q := fun q h => by rw [← hAe]; exact Or.inr h
  have hS : va_S A s.heap s.heap [] := va_S.rf
  have hP : va_P (dC, dI) vwCl ([(o1, .inr (1, [.int v2, .ref o3, .ref o5, .ref o7, .ref o9, .int v11, .int v12, .int v13])), (o5, .inl (cI, 81, .inl fw6)), (o7, .inl (cI, 12, .inl fw8)), (o9, .inl (cI, 12, .inl fw10))]) s.heap := hP
  have hl := lv_entry ([.ref o1, .int a1]) (n := 7) (Nat.le_of_ble_eq_true rfl)
  rw [lg_entry_eq]
  generalize (lg_sl ([.ref o1, .int a1]) ++ List.replicate (7 - (lg_sl ([.ref o1, .int a1])).length) Slot.unset).toArray = ls at hl ⊢
  have hl : lv_has ls 7 [(0, .ref o1), (1, .int a1)] := hl
  refine gen_Q (fun Q hQ => ?_)
  refine lv_iconst (v := (-1)) hx hb dX1_tieNext_0 (by decide) ?_
  refine lv_istore_n (lv' := [(2, .int (-1)), (0, .ref o1), (1, .int a1)]) hx hb dX1_tieNext_1 rfl hl (by decide) rfl (fun ls hl => ?_)
  refine lv_iconst (v := 0) hx hb dX1_tieNext_2 (by decide) ?_
  refine lv_istore_n (lv' := [(3, .int 0), (2, .int (-1)), (0, .ref o1), (1, .int a1)]) hx hb dX1_tieNext_3 rfl hl (by decide) rfl (fun ls hl => ?_)
  refine lv_iconst (v := 0) hx hb dX1_tieNext_4 (by decide) ?_
  refine lv_istore (lv' := [(4, .int 0), (3, .int 0), (2, .int (-1)), (0, .ref o1), (1, .int a1)]) hx hb dX1_tieNext_5 hl (by decide) rfl (fun ls hl => ?_)
  have L9 : ∀ (N : Nat) (x2329 : Int32) (x2330 : Int32) (x2331 : Int32) (f2332 : Nat → Int32) (f2333 : Nat → Int32) (H : Heap) (locs : List Loc) (ls : Array Slot), (12 - x2329.toInt).toNat < N → Iv 0 12 x2329 → Iv 0 11 x2330 → Iv (-1) 80 x2331 → va_P (dC, dI) vwCl ([(o1, .inr (1, [.int v2, .ref o3, .ref o5, .ref o7, .ref o9, .int v11, .int v12, .int v13])), (o5, .inl (cI, 81, .inl fw6)), (o7, .inl (cI, 12, .inl f2332)), (o9, .inl (cI, 12, .inl f2333))]) H → va_D A ([(o1, .inr (1, [.int v2, .ref o3, .ref o5, .ref o7, .ref o9, .int v11, .int v12, .int v13])), (o5, .inl (cI, 81, .inl fw6)), (o7, .inl (cI, 12, .inl f2332)), (o9, .inl (cI, 12, .inl f2333))]) → va_S A s.heap H locs → lv_has ls 7 [(4, .int x2329), (3, .int x2330), (2, .int x2331), (0, .ref o1), (1, .int a1)] → W p l e ({ frames := 1, cells := 0, slots := 0, locals := 21 }) s m ([.ref o1, .int a1] : List Value).toArray below meth c H locs 0 0 Q (F0 m 7 ls []) := by
    intro N
    induction N with
    | zero =>
      intro x2329 x2330 x2331 f2332 f2333 H locs ls hM
      exact absurd hM (Nat.not_lt_zero _)
    | succ N ih9 =>
      intro x2329 x2330 x2331 f2332 f2333 H locs ls hM9 x2329_h x2330_h x2331_h hP hD hS hl
      refine lv_iload hx hb dX1_tieNext_7 (lv_at hl 0 rfl) ?_
      refine lv_aload_n hx hb dX1_tieNext_9 rfl (lv_at hl 3 rfl) ?_
      refine va_get (D := (dC, dI)) (ci := 1) (v := .int v11) (C := RX1) (T := TX1) (N := 8) hx hb hts iw_X1_tieNext_X1 hown hK hP 0 rfl rfl 5 (by decide) (hts (.fieldLink RX1 24 "HolelessHouse$Cliques" "size" "I") hm_X1_tieNext_1) (fun _ h9 => h9) rfl dX1_tieNext_10 ?_
      refine lv_icmp_ge (tgt := 135) hx hb dX1_tieNext_13 (by decide) (fun h2334 => ?_) (fun h2334 => ?_)
      ·
        have qh2334 := le_i h2334
        have j2335 : Iv 0 12 v11 := r_lel qh2334 v11_h x2329_h (by decide)
        refine lv_iload_n hx hb dX1_tieNext_135 rfl (lv_at hl 1 rfl) ?_
        rw [hQ]
        exact W.iret (v := x2330) hx hb hr (fun t ht hW => ⟨⟨x2330, (f2332, f2333), rfl, x2330_h, by rw [ht]; exact hP, va_K.moved hW.alike hK, hD⟩, hS.F ht⟩) hS.2.2 dX1_tieNext_136
      ·
        have qh2334 := nle_i h2334
        have j2336 : Iv 1 81 v11 := r_ltr qh2334 x2329_h v11_h (by decide)
        refine lv_iload hx hb dX1_tieNext_16 (lv_at hl 0 rfl) ?_
        refine lv_bipush (v := 12) hx hb dX1_tieNext_18 (by decide) ?_
        refine lv_icmp_ge (tgt := 135) hx hb dX1_tieNext_20 (by decide) (fun h2337 => ?_) (fun h2337 => ?_)
        ·
          have qh2337 := le_i h2337
          have j2338 : Iv 12 12 x2329 := r_ler qh2337 ik_12 x2329_h (by decide)
          refine lv_iload_n hx hb dX1_tieNext_135 rfl (lv_at hl 1 rfl) ?_
          rw [hQ]
          exact W.iret (v := x2330) hx hb hr (fun t ht hW => ⟨⟨x2330, (f2332, f2333), rfl, x2330_h, by rw [ht]; exact hP, va_K.moved hW.alike hK, hD⟩, hS.F ht⟩) hS.2.2 dX1_tieNext_136
        ·
          have qh2337 := nle_i h2337
          have j2339 : Iv 0 11 x2329 := r_ltl qh2337 x2329_h ik_12 (by decide)
          refine lv_iconst (v := 0) hx hb dX1_tieNext_23 (by decide) ?_
          refine lv_istore (lv' := [(5, .int 0), (4, .int x2329), (3, .int x2330), (2, .int x2331), (0, .ref o1), (1, .int a1)]) hx hb dX1_tieNext_24 hl (by decide) rfl (fun ls hl => ?_)
          have L10 : ∀ (N : Nat) (x2587 : Int32) (x2588 : Int32) (x2589 : Int32) (f2590 : Nat → Int32) (f2591 : Nat → Int32) (H : Heap) (locs : List Loc) (ls : Array Slot), (12 - x2587.toInt).toNat < N → Iv 0 12 x2587 → Iv 0 11 x2588 → Iv (-1) 80 x2589 → va_P (dC, dI) vwCl ([(o1, .inr (1, [.int v2, .ref o3, .ref o5, .ref o7, .ref o9, .int v11, .int v12, .int v13])), (o5, .inl (cI, 81, .inl fw6)), (o7, .inl (cI, 12, .inl f2590)), (o9, .inl (cI, 12, .inl f2591))]) H → va_D A ([(o1, .inr (1, [.int v2, .ref o3, .ref o5, .ref o7, .ref o9, .int v11, .int v12, .int v13])), (o5, .inl (cI, 81, .inl fw6)), (o7, .inl (cI, 12, .inl f2590)), (o9, .inl (cI, 12, .inl f2591))]) → va_S A s.heap H locs → lv_has ls 7 [(5, .int x2587), (4, .int x2329), (3, .int x2588), (2, .int x2589), (0, .ref o1), (1, .int a1)] → W p l e ({ frames := 1, cells := 0, slots := 0, locals := 21 }) s m ([.ref o1, .int a1] : List Value).toArray below meth c H locs 0 0 Q (F0 m 26 ls []) := by
            intro N
            induction N with
            | zero =>
              intro x2587 x2588 x2589 f2590 f2591 H locs ls hM
              exact absurd hM (Nat.not_lt_zero _)
            | succ N ih10 =>
              intro x2587 x2588 x2589 f2590 f2591 H locs ls hM10 x2587_h x2588_h x2589_h hP hD hS hl
              refine lv_iload hx hb dX1_tieNext_26 (lv_at hl 0 rfl) ?_
              refine lv_aload_n hx hb dX1_tieNext_28 rfl (lv_at hl 4 rfl) ?_
              refine va_get (D := (dC, dI)) (ci := 1) (v := .int v11) (C := RX1) (T := TX1) (N := 8) hx hb hts iw_X1_tieNext_X1 hown hK hP 0 rfl rfl 5 (by decide) (hts (.fieldLink RX1 24 "HolelessHouse$Cliques" "size" "I") hm_X1_tieNext_1) (fun _ h9 => h9) rfl dX1_tieNext_29 ?_
              refine lv_icmp_ge (tgt := 129) hx hb dX1_tieNext_32 (by decide) (fun h2592 => ?_) (fun h2592 => ?_)
              ·
                have qh2592 := le_i h2592
                have j2593 : Iv 1 12 v11 := r_lel qh2592 j2336 x2587_h (by decide)
                have j2594 : Iv 1 12 x2587 := r_ler qh2592 j2336 x2587_h (by decide)
                obtain ⟨x2595, x2595_e⟩ : ∃ z : Int32, z = x2329 + 1 := ⟨_, rfl⟩
                have x2595_h : Iv 1 12 x2595 := iv_e x2595_e (iv_add j2339 ik_1 (by decide))
                refine lv_iinc (v := x2595) (lv' := [(4, .int x2595), (5, .int x2587), (3, .int x2588), (2, .int x2589), (0, .ref o1), (1, .int a1)]) hx hb dX1_tieNext_129 hl (k := 1) rfl (incN (by decide +kernel) x2595_e) (by decide) rfl (fun ls hl => ?_)
                refine lv_goto (tgt := 7) hx hb dX1_tieNext_132 (by decide) ?_
                exact ih9 x2595 x2588 x2589 f2590 f2591 _ _ _ (ms_up x2595_e j2339 (by decide) hM9) (iv_w x2595_h (by decide)) x2588_h x2589_h hP hD hS (lv_sub hl [0, 2, 3, 4, 5] rfl)
              ·
                have qh2592 := nle_i h2592
                refine lv_iload hx hb dX1_tieNext_35 (lv_at hl 0 rfl) ?_
                refine lv_bipush (v := 12) hx hb dX1_tieNext_37 (by decide) ?_
                refine lv_icmp_ge (tgt := 129) hx hb dX1_tieNext_39 (by decide) (fun h2596 => ?_) (fun h2596 => ?_)
                ·
                  have qh2596 := le_i h2596
                  have j2597 : Iv 12 12 x2587 := r_ler qh2596 ik_12 x2587_h (by decide)
                  obtain ⟨x2598, x2598_e⟩ : ∃ z : Int32, z = x2329 + 1 := ⟨_, rfl⟩
                  have x2598_h : Iv 1 12 x2598 := iv_e x2598_e (iv_add j2339 ik_1 (by decide))
                  refine lv_iinc (v := x2598) (lv' := [(4, .int x2598), (5, .int x2587), (3, .int x2588), (2, .int x2589), (0, .ref o1), (1, .int a1)]) hx hb dX1_tieNext_129 hl (k := 1) rfl (incN (by decide +kernel) x2598_e) (by decide) rfl (fun ls hl => ?_)
                  refine lv_goto (tgt := 7) hx hb dX1_tieNext_132 (by decide) ?_
                  exact ih9 x2598 x2588 x2589 f2590 f2591 _ _ _ (ms_up x2598_e j2339 (by decide) hM9) (iv_w x2598_h (by decide)) x2588_h x2589_h hP hD hS (lv_sub hl [0, 2, 3, 4, 5] rfl)
                ·
                  have qh2596 := nle_i h2596
                  have j2599 : Iv 0 11 x2587 := r_ltl qh2596 x2587_h ik_12 (by decide)
                  refine lv_aload_n hx hb dX1_tieNext_42 rfl (lv_at hl 4 rfl) ?_
                  refine va_get (D := (dC, dI)) (ci := 1) (v := .ref o5) (C := RX1) (T := TX1) (N := 8) hx hb hts iw_X1_tieNext_X1 hown hK hP 0 rfl rfl 2 (by decide) (hts (.fieldLink RX1 15 "HolelessHouse$Cliques" "sets" "[I") hm_X1_tieNext_2) (fun _ h9 => h9) rfl dX1_tieNext_43 ?_
                  refine lv_iload hx hb dX1_tieNext_46 (lv_at hl 1 rfl) ?_
                  refine va_iald hx hb hK hP 1 0 rfl rfl (vin_iv j2339 (by decide)) dX1_tieNext_48 (lv_topi (fun x2600 x2600_e => ?_))
                  refine lv_aload_n hx hb dX1_tieNext_49 rfl (lv_at hl 4 rfl) ?_
                  refine va_get (D := (dC, dI)) (ci := 1) (v := .ref o5) (C := RX1) (T := TX1) (N := 8) hx hb hts iw_X1_tieNext_X1 hown hK hP 0 rfl rfl 2 (by decide) (hts (.fieldLink RX1 15 "HolelessHouse$Cliques" "sets" "[I") hm_X1_tieNext_2) (fun _ h9 => h9) rfl dX1_tieNext_50 ?_
                  refine lv_iload hx hb dX1_tieNext_53 (lv_at hl 0 rfl) ?_
                  refine va_iald hx hb hK hP 1 0 rfl rfl (vin_iv j2599 (by decide)) dX1_tieNext_55 (lv_topi (fun x2601 x2601_e => ?_))
                  refine lv_iand hx hb dX1_tieNext_56 (lv_topi (fun x2602 x2602_e => ?_))
                  refine kc_i (D := (dC, dI)) (S := Unit) (wc := []) (wr := [(o1, .inr (1, [.int v2, .ref o3, .ref o5, .ref o7, .ref o9, .int v11, .int v12, .int v13])), (o5, .inl (cI, 81, .inl fw6)), (o7, .inl (cI, 12, .inl f2590)), (o9, .inl (cI, 12, .inl f2591))]) (w1 := fun _ => []) (wn := fun _ => [(o1, .inr (1, [.int v2, .ref o3, .ref o5, .ref o7, .ref o9, .int v11, .int v12, .int v13])), (o5, .inl (cI, 81, .inl fw6)), (o7, .inl (cI, 12, .inl f2590)), (o9, .inl (cI, 12, .inl f2591))]) (fun hPc hDc => va_runS (As := [.int x2602]) (rest := []) ⟨hx, hb, hml, hown, hts⟩ (kJ6_bitCount_0f7a4_1 l dC dI cI c2 cZ x2602 H.size) (va_cwS 1 hts gX1_tieNext_J6_bitCount_0f7a4 rfl rfl rfl (by decide +kernel) ⟨Nat.le_of_ble_eq_true rfl, Nat.le_of_ble_eq_true rfl⟩) (pre_S hPc hK hDc hN) rfl rfl hl.1 rfl (lv_room (Nat.le_of_ble_eq_true rfl)) dX1_tieNext_57 ⟨Nat.le_of_ble_eq_true rfl, Nat.le_of_ble_eq_true rfl⟩) hP hD hS hA [] [0, 1, 2, 3] [0, 1, 2, 3] rfl rfl (by decide +kernel) (by decide +kernel) (by decide +kernel) (by decide +kernel) (fun _ => rfl) (fun x2603 _ H locs hq hP hD hS => ?_)
                  have x2603_h := hq
                  have hP : va_P (dC, dI) vwCl ([(o1, .inr (1, [.int v2, .ref o3, .ref o5, .ref o7, .ref o9, .int v11, .int v12, .int v13])), (o5, .inl (cI, 81, .inl fw6)), (o7, .inl (cI, 12, .inl f2590)), (o9, .inl (cI, 12, .inl f2591))]) H := hP
                  have hD : va_D A ([(o1, .inr (1, [.int v2, .ref o3, .ref o5, .ref o7, .ref o9, .int v11, .int v12, .int v13])), (o5, .inl (cI, 81, .inl fw6)), (o7, .inl (cI, 12, .inl f2590)), (o9, .inl (cI, 12, .inl f2591))]) := hD
                  refine lv_istore (lv' := [(6, .int x2603), (5, .int x2587), (4, .int x2329), (3, .int x2588), (2, .int x2589), (0, .ref o1), (1, .int a1)]) hx hb dX1_tieNext_60 hl (by decide) rfl (fun ls hl => ?_)
                  refine lv_iload_n hx hb dX1_tieNext_62 rfl (lv_at hl 6 rfl) ?_
                  refine lv_iload hx hb dX1_tieNext_63 (lv_at hl 2 rfl) ?_
                  refine kc_i (D := (dC, dI)) (S := Unit) (wc := []) (wr := [(o1, .inr (1, [.int v2, .ref o3, .ref o5, .ref o7, .ref o9, .int v11, .int v12, .int v13])), (o5, .inl (cI, 81, .inl fw6)), (o7, .inl (cI, 12, .inl f2590)), (o9, .inl (cI, 12, .inl f2591))]) (w1 := fun _ => []) (wn := fun _ => [(o1, .inr (1, [.int v2, .ref o3, .ref o5, .ref o7, .ref o9, .int v11, .int v12, .int v13])), (o5, .inl (cI, 81, .inl fw6)), (o7, .inl (cI, 12, .inl f2590)), (o9, .inl (cI, 12, .inl f2591))]) (fun hPc hDc => va_runSN (As := [.int a1, .int x2329]) (rest := []) ⟨hx, hb, hml, hown, hts⟩ (kX11_in_1 l dC dI cI c2 cZ a1 x2329 H.size) ⟨va_cnB 2 hts gX1_tieNext_X11_in_n67 rfl rfl rfl (hN.1 _ ns_107) (hts (.initialized RX11) hm_X1_tieNext_13) (by decide +kernel) ⟨Nat.le_of_ble_eq_true rfl, Nat.le_of_ble_eq_true rfl⟩, (hts (.static yX11_in) hm_X1_tieNext_12), trivial⟩ (pre_S hPc hK hDc hN) rfl rfl hl.1 rfl (lv_room (Nat.le_of_ble_eq_true rfl)) dX1_tieNext_65 ⟨Nat.le_of_ble_eq_true rfl, Nat.le_of_ble_eq_true rfl⟩) hP hD hS hA [] [0, 1, 2, 3] [0, 1, 2, 3] rfl rfl (by decide +kernel) (by decide +kernel) (by decide +kernel) (by decide +kernel) (fun _ => rfl) (fun x2604 _ H locs hq hP hD hS => ?_)
                  have x2604_h := hq
                  have hP : va_P (dC, dI) vwCl ([(o1, .inr (1, [.int v2, .ref o3, .ref o5, .ref o7, .ref o9, .int v11, .int v12, .int v13])), (o5, .inl (cI, 81, .inl fw6)), (o7, .inl (cI, 12, .inl f2590)), (o9, .inl (cI, 12, .inl f2591))]) H := hP
                  have hD : va_D A ([(o1, .inr (1, [.int v2, .ref o3, .ref o5, .ref o7, .ref o9, .int v11, .int v12, .int v13])), (o5, .inl (cI, 81, .inl fw6)), (o7, .inl (cI, 12, .inl f2590)), (o9, .inl (cI, 12, .inl f2591))]) := hD
                  refine lv_if_eq (tgt := 123) hx hb dX1_tieNext_68 (by decide) (fun h2605 => ?_) (fun h2605 => ?_)
                  ·
                    have j2606 : Iv 0 0 x2604 := r_eq h2605 ik_0
                    obtain ⟨x2607, x2607_e⟩ : ∃ z : Int32, z = x2587 + 1 := ⟨_, rfl⟩
                    have x2607_h : Iv 1 12 x2607 := iv_e x2607_e (iv_add j2599 ik_1 (by decide))
                    refine lv_iinc (v := x2607) (lv' := [(5, .int x2607), (6, .int x2603), (4, .int x2329), (3, .int x2588), (2, .int x2589), (0, .ref o1), (1, .int a1)]) hx hb dX1_tieNext_123 hl (k := 1) rfl (incN (by decide +kernel) x2607_e) (by decide) rfl (fun ls hl => ?_)
                    refine lv_goto (tgt := 26) hx hb dX1_tieNext_126 (by decide) ?_
                    exact ih10 x2607 x2588 x2589 f2590 f2591 _ _ _ (ms_up x2607_e j2599 (by decide) hM10) (iv_w x2607_h (by decide)) x2588_h x2589_h hP hD hS (lv_sub hl [0, 2, 3, 4, 5, 6] rfl)
                  ·
                    have j2608 : Iv 1 1 x2604 := r_nelo h2605 x2604_h ik_0 (by decide)
                    refine lv_iload_n hx hb dX1_tieNext_71 rfl (lv_at hl 6 rfl) ?_
                    refine lv_iload hx hb dX1_tieNext_72 (lv_at hl 1 rfl) ?_
                    refine kc_i (D := (dC, dI)) (S := Unit) (wc := []) (wr := [(o1, .inr (1, [.int v2, .ref o3, .ref o5, .ref o7, .ref o9, .int v11, .int v12, .int v13])), (o5, .inl (cI, 81, .inl fw6)), (o7, .inl (cI, 12, .inl f2590)), (o9, .inl (cI, 12, .inl f2591))]) (w1 := fun _ => []) (wn := fun _ => [(o1, .inr (1, [.int v2, .ref o3, .ref o5, .ref o7, .ref o9, .int v11, .int v12, .int v13])), (o5, .inl (cI, 81, .inl fw6)), (o7, .inl (cI, 12, .inl f2590)), (o9, .inl (cI, 12, .inl f2591))]) (fun hPc hDc => va_runSN (As := [.int a1, .int x2587]) (rest := []) ⟨hx, hb, hml, hown, hts⟩ (kX11_in_1 l dC dI cI c2 cZ a1 x2587 H.size) ⟨va_cnB 2 hts gX1_tieNext_X11_in_n67 rfl rfl rfl (hN.1 _ ns_107) (hts (.initialized RX11) hm_X1_tieNext_13) (by decide +kernel) ⟨Nat.le_of_ble_eq_true rfl, Nat.le_of_ble_eq_true rfl⟩, (hts (.static yX11_in) hm_X1_tieNext_12), trivial⟩ (pre_S hPc hK hDc hN) rfl rfl hl.1 rfl (lv_room (Nat.le_of_ble_eq_true rfl)) dX1_tieNext_74 ⟨Nat.le_of_ble_eq_true rfl, Nat.le_of_ble_eq_true rfl⟩) hP hD hS hA [] [0, 1, 2, 3] [0, 1, 2, 3] rfl rfl (by decide +kernel) (by decide +kernel) (by decide +kernel) (by decide +kernel) (fun _ => rfl) (fun x2609 _ H locs hq hP hD hS => ?_)
                    have x2609_h := hq
                    have hP : va_P (dC, dI) vwCl ([(o1, .inr (1, [.int v2, .ref o3, .ref o5, .ref o7, .ref o9, .int v11, .int v12, .int v13])), (o5, .inl (cI, 81, .inl fw6)), (o7, .inl (cI, 12, .inl f2590)), (o9, .inl (cI, 12, .inl f2591))]) H := hP
                    have hD : va_D A ([(o1, .inr (1, [.int v2, .ref o3, .ref o5, .ref o7, .ref o9, .int v11, .int v12, .int v13])), (o5, .inl (cI, 81, .inl fw6)), (o7, .inl (cI, 12, .inl f2590)), (o9, .inl (cI, 12, .inl f2591))]) := hD
                    refine lv_if_ne (tgt := 123) hx hb dX1_tieNext_77 (by decide) (fun h2610 => ?_) (fun h2610 => ?_)
                    ·
                      have j2611 : Iv 1 1 x2609 := r_nelo h2610 x2609_h ik_0 (by decide)
                      obtain ⟨x2612, x2612_e⟩ : ∃ z : Int32, z = x2587 + 1 := ⟨_, rfl⟩
                      have x2612_h : Iv 1 12 x2612 := iv_e x2612_e (iv_add j2599 ik_1 (by decide))
                      refine lv_iinc (v := x2612) (lv' := [(5, .int x2612), (6, .int x2603), (4, .int x2329), (3, .int x2588), (2, .int x2589), (0, .ref o1), (1, .int a1)]) hx hb dX1_tieNext_123 hl (k := 1) rfl (incN (by decide +kernel) x2612_e) (by decide) rfl (fun ls hl => ?_)
                      refine lv_goto (tgt := 26) hx hb dX1_tieNext_126 (by decide) ?_
                      exact ih10 x2612 x2588 x2589 f2590 f2591 _ _ _ (ms_up x2612_e j2599 (by decide) hM10) (iv_w x2612_h (by decide)) x2588_h x2589_h hP hD hS (lv_sub hl [0, 2, 3, 4, 5, 6] rfl)
                    ·
                      have j2613 : Iv 0 0 x2609 := r_eq h2610 ik_0
                      refine lv_iload hx hb dX1_tieNext_80 (lv_at hl 0 rfl) ?_
                      refine lv_iload_n hx hb dX1_tieNext_82 rfl (lv_at hl 4 rfl) ?_
                      refine lv_icmp_le (tgt := 123) hx hb dX1_tieNext_83 (by decide) (fun h2614 => ?_) (fun h2614 => ?_)
                      ·
                        have qh2614 := le_i h2614
                        have j2615 : Iv 0 80 x2589 := r_ler qh2614 x2603_h x2589_h (by decide)
                        obtain ⟨x2616, x2616_e⟩ : ∃ z : Int32, z = x2587 + 1 := ⟨_, rfl⟩
                        have x2616_h : Iv 1 12 x2616 := iv_e x2616_e (iv_add j2599 ik_1 (by decide))
                        refine lv_iinc (v := x2616) (lv' := [(5, .int x2616), (6, .int x2603), (4, .int x2329), (3, .int x2588), (2, .int x2589), (0, .ref o1), (1, .int a1)]) hx hb dX1_tieNext_123 hl (k := 1) rfl (incN (by decide +kernel) x2616_e) (by decide) rfl (fun ls hl => ?_)
                        refine lv_goto (tgt := 26) hx hb dX1_tieNext_126 (by decide) ?_
                        exact ih10 x2616 x2588 x2589 f2590 f2591 _ _ _ (ms_up x2616_e j2599 (by decide) hM10) (iv_w x2616_h (by decide)) x2588_h (iv_w j2615 (by decide)) hP hD hS (lv_sub hl [0, 2, 3, 4, 5, 6] rfl)
                      ·
                        have qh2614 := nle_i h2614
                        have j2617 : Iv (-1) 62 x2589 := r_ltl qh2614 x2589_h x2603_h (by decide)
                        refine lv_iload hx hb dX1_tieNext_86 (lv_at hl 0 rfl) ?_
                        refine lv_istore_n (lv' := [(2, .int x2603), (6, .int x2603), (5, .int x2587), (4, .int x2329), (3, .int x2588), (0, .ref o1), (1, .int a1)]) hx hb dX1_tieNext_88 rfl hl (by decide) rfl (fun ls hl => ?_)
                        refine lv_iload hx hb dX1_tieNext_89 (lv_at hl 2 rfl) ?_
                        refine lv_istore_n (lv' := [(3, .int x2587), (2, .int x2603), (6, .int x2603), (5, .int x2587), (4, .int x2329), (0, .ref o1), (1, .int a1)]) hx hb dX1_tieNext_91 rfl hl (by decide) rfl (fun ls hl => ?_)
                        refine lv_aload_n hx hb dX1_tieNext_92 rfl (lv_at hl 5 rfl) ?_
                        refine va_get (D := (dC, dI)) (ci := 1) (v := .ref o7) (C := RX1) (T := TX1) (N := 8) hx hb hts iw_X1_tieNext_X1 hown hK hP 0 rfl rfl 3 (by decide) (hts (.fieldLink RX1 18 "HolelessHouse$Cliques" "parents" "[I") hm_X1_tieNext_3) (fun _ h9 => h9) rfl dX1_tieNext_93 ?_
                        refine lv_iload hx hb dX1_tieNext_96 (lv_at hl 3 rfl) ?_
                        refine lv_iload hx hb dX1_tieNext_98 (lv_at hl 4 rfl) ?_
                        refine k_iast hx hb hK hP hD hS 2 0 rfl rfl (vin_iv j2599 (by decide)) dX1_tieNext_100 (fun f2618 H locs f2618_e hP hD hS => ?_)
                        have hP : va_P (dC, dI) vwCl ([(o1, .inr (1, [.int v2, .ref o3, .ref o5, .ref o7, .ref o9, .int v11, .int v12, .int v13])), (o5, .inl (cI, 81, .inl fw6)), (o7, .inl (cI, 12, .inl f2618)), (o9, .inl (cI, 12, .inl f2591))]) H := hP
                        have hD : va_D A ([(o1, .inr (1, [.int v2, .ref o3, .ref o5, .ref o7, .ref o9, .int v11, .int v12, .int v13])), (o5, .inl (cI, 81, .inl fw6)), (o7, .inl (cI, 12, .inl f2618)), (o9, .inl (cI, 12, .inl f2591))]) := hD
                        refine lv_aload_n hx hb dX1_tieNext_101 rfl (lv_at hl 5 rfl) ?_
                        refine va_get (D := (dC, dI)) (ci := 1) (v := .ref o9) (C := RX1) (T := TX1) (N := 8) hx hb hts iw_X1_tieNext_X1 hown hK hP 0 rfl rfl 4 (by decide) (hts (.fieldLink RX1 21 "HolelessHouse$Cliques" "shared" "[I") hm_X1_tieNext_4) (fun _ h9 => h9) rfl dX1_tieNext_102 ?_
                        refine lv_iload hx hb dX1_tieNext_105 (lv_at hl 3 rfl) ?_
                        refine lv_aload_n hx hb dX1_tieNext_107 rfl (lv_at hl 5 rfl) ?_
                        refine va_get (D := (dC, dI)) (ci := 1) (v := .ref o5) (C := RX1) (T := TX1) (N := 8) hx hb hts iw_X1_tieNext_X1 hown hK hP 0 rfl rfl 2 (by decide) (hts (.fieldLink RX1 15 "HolelessHouse$Cliques" "sets" "[I") hm_X1_tieNext_2) (fun _ h9 => h9) rfl dX1_tieNext_108 ?_
                        refine lv_iload hx hb dX1_tieNext_111 (lv_at hl 4 rfl) ?_
                        refine va_iald hx hb hK hP 1 0 rfl rfl (vin_iv j2339 (by decide)) dX1_tieNext_113 (lv_topi (fun x2619 x2619_e => ?_))
                        refine lv_aload_n hx hb dX1_tieNext_114 rfl (lv_at hl 5 rfl) ?_
                        refine va_get (D := (dC, dI)) (ci := 1) (v := .ref o5) (C := RX1) (T := TX1) (N := 8) hx hb hts iw_X1_tieNext_X1 hown hK hP 0 rfl rfl 2 (by decide) (hts (.fieldLink RX1 15 "HolelessHouse$Cliques" "sets" "[I") hm_X1_tieNext_2) (fun _ h9 => h9) rfl dX1_tieNext_115 ?_
                        refine lv_iload hx hb dX1_tieNext_118 (lv_at hl 3 rfl) ?_
                        refine va_iald hx hb hK hP 1 0 rfl rfl (vin_iv j2599 (by decide)) dX1_tieNext_120 (lv_topi (fun x2620 x2620_e => ?_))
                        refine lv_iand hx hb dX1_tieNext_121 (lv_topi (fun x2621 x2621_e => ?_))
                        refine k_iast hx hb hK hP hD hS 3 0 rfl rfl (vin_iv j2599 (by decide)) dX1_tieNext_122 (fun f2622 H locs f2622_e hP hD hS => ?_)
                        have hP : va_P (dC, dI) vwCl ([(o1, .inr (1, [.int v2, .ref o3, .ref o5, .ref o7, .ref o9, .int v11, .int v12, .int v13])), (o5, .inl (cI, 81, .inl fw6)), (o7, .inl (cI, 12, .inl f2618)), (o9, .inl (cI, 12, .inl f2622))]) H := hP
                        have hD : va_D A ([(o1, .inr (1, [.int v2, .ref o3, .ref o5, .ref o7, .ref o9, .int v11, .int v12, .int v13])), (o5, .inl (cI, 81, .inl fw6)), (o7, .inl (cI, 12, .inl f2618)), (o9, .inl (cI, 12, .inl f2622))]) := hD
                        obtain ⟨x2623, x2623_e⟩ : ∃ z : Int32, z = x2587 + 1 := ⟨_, rfl⟩
                        have x2623_h : Iv 1 12 x2623 := iv_e x2623_e (iv_add j2599 ik_1 (by decide))
                        refine lv_iinc (v := x2623) (lv' := [(5, .int x2623), (3, .int x2587), (2, .int x2603), (6, .int x2603), (4, .int x2329), (0, .ref o1), (1, .int a1)]) hx hb dX1_tieNext_123 hl (k := 3) rfl (incN (by decide +kernel) x2623_e) (by decide) rfl (fun ls hl => ?_)
                        refine lv_goto (tgt := 26) hx hb dX1_tieNext_126 (by decide) ?_
                        exact ih10 x2623 x2587 x2603 f2618 f2622 _ _ _ (ms_up x2623_e j2599 (by decide) hM10) (iv_w x2623_h (by decide)) j2599 (iv_w x2603_h (by decide)) hP hD hS (lv_sub hl [0, 4, 1, 2, 5, 6] rfl)
          exact L10 _ 0 x2330 x2331 f2332 f2333 _ _ _ (Nat.lt_succ_self _) (iv_w ik_0 (by decide)) x2330_h x2331_h hP hD hS hl
  exact L9 _ 0 0 (-1) fw8 fw10 _ _ _ (Nat.lt_succ_self _) (iv_w ik_0 (by decide)) (iv_w ik_0 (by decide)) (iv_w ikm_1 (by decide)) hP hD hS hl
theorem iw_X1_bringTree_X1 : ∀ w ∈ wsX10, w ∈ wsX1_bringTree := fun _ h => List.mem_cons.mpr (Or.inr (List.mem_append.mpr (Or.inr h)))
set_option maxHeartbeats 4000000 in
set_option maxRecDepth 100000 in
theorem kX1_bringTree_1 (l : Launch) (dC : Nat → ClassId) (dI : Nat → Nat → Nat) (cI c2 cZ : ClassId) (o1 : Nat) (o3 : Nat) (o5 : Nat) (o7 : Nat) (o9 : Nat) (v2 : Int32) (fw6 : Nat → Int32) (fw8 : Nat → Int32) (fw10 : Nat → Int32) (v11 : Int32) (v12 : Int32) (v13 : Int32) (sz : Nat) (v2_h : Iv 0 1 v2) (v11_h : Iv 0 81 v11) : Met l yX1_bringTree wsX1_bringTree ({ frames := 2, cells := 0, slots := 0, locals := 47 }) (va_Pc [.ref o1] (wPre (dC, dI) [(cI, .int), (c2, .array .int), (cZ, .boolean)] ([(o1, .inr (1, [.int v2, .ref o3, .ref o5, .ref o7, .ref o9, .int v11, .int v12, .int v13])), (o7, .inl (cI, 12, .inl fw8)), (o9, .inl (cI, 12, .inl fw10)), (o5, .inl (cI, 81, .inl fw6))]) sz)) (va_Qv (fun (u : Int32 × (Nat → Int32) × (Nat → Int32)) => True) (fun u t => wPost (dC, dI) [(cI, .int), (c2, .array .int), (cZ, .boolean)] (va_A ([(o1, .inr (1, [.int v2, .ref o3, .ref o5, .ref o7, .ref o9, .int v11, .int v12, .int v13])), (o7, .inl (cI, 12, .inl fw8)), (o9, .inl (cI, 12, .inl fw10)), (o5, .inl (cI, 81, .inl fw6))]) sz) ([(o1, .inr (1, [.int v2, .ref o3, .ref o5, .ref o7, .ref o9, .int v11, .int v12, .int u.1])), (o7, .inl (cI, 12, .inl u.2.1)), (o9, .inl (cI, 12, .inl u.2.2)), (o5, .inl (cI, 81, .inl fw6))]) t) (va_A ([(o1, .inr (1, [.int v2, .ref o3, .ref o5, .ref o7, .ref o9, .int v11, .int v12, .int v13])), (o7, .inl (cI, 12, .inl fw8)), (o9, .inl (cI, 12, .inl fw10)), (o5, .inl (cI, 81, .inl fw6))]) sz)) 0 0 (va_A ([(o1, .inr (1, [.int v2, .ref o3, .ref o5, .ref o7, .ref o9, .int v11, .int v12, .int v13])), (o7, .inl (cI, 12, .inl fw8)), (o9, .inl (cI, 12, .inl fw10)), (o5, .inl (cI, 81, .inl fw6))]) sz) := by
  refine Met.ofW (cc := cX1_bringTree) (maxL := 3) (ret := none) (by decide) rfl ?_
  intro p e s m args below meth c s₁ B hml hv
  obtain ⟨rfl, hsz, hP, hK, hD0, hN⟩ := hv
  have hx := B.exec
  have hb := B.bytes
  have hr := B.returns
  have hts := atoms_spec (ws := wsX1_bringTree) B.pre
  have hown : s.vm.findClass RX1 = some m.cls := findClass_of_methodNamed B.named
  have hlocks := B.notSynchronized
  subst hsz
  have hD := hD0.self (sz := s.heap.size)
  generalize hAe : va_A ([(o1, .inr (1, [.int v2, .ref o3, .ref o5, .ref o7, .ref o9, .int v11, .int v12, .int v13])), (o7, .inl (cI, 12, .inl fw8)), (o9, .inl (cI, 12, .inl fw10)), (o5, .inl (cI, 81, .inl fw6))]) s.heap.size = A at hD ⊢
  have hA : ∀ q : Nat, s.heap.size ≤ q → A q := fun q h => by rw [← hAe]; exact Or.inr h
  have hS : va_S A s.heap s.heap [] := va_S.rf
  have hP : va_P (dC, dI) vwCl ([(o1, .inr (1, [.int v2, .ref o3, .ref o5, .ref o7, .ref o9, .int v11, .int v12, .int v13])), (o7, .inl (cI, 12, .inl fw8)), (o9, .inl (cI, 12, .inl fw10)), (o5, .inl (cI, 81, .inl fw6))]) s.heap := hP
  have hl := lv_entry ([.ref o1]) (n := 3) (Nat.le_of_ble_eq_true rfl)
  rw [lg_entry_eq]
  generalize (lg_sl ([.ref o1]) ++ List.replicate (3 - (lg_sl ([.ref o1])).length) Slot.unset).toArray = ls at hl ⊢
  have hl : lv_has ls 3 [(0, .ref o1)] := hl
  refine gen_Q (fun Q hQ => ?_)
  refine lv_aload_n hx hb dX1_bringTree_0 rfl (lv_at hl 0 rfl) ?_
  refine va_get (D := (dC, dI)) (ci := 1) (v := .int v13) (C := RX1) (T := TX1) (N := 8) hx hb hts iw_X1_bringTree_X1 hown hK hP 0 rfl rfl 7 (by decide) (hts (.fieldLink RX1 31 "HolelessHouse$Cliques" "treeMadeFor" "I") hm_X1_bringTree_1) (fun _ h9 => h9) rfl dX1_bringTree_1 ?_
  refine lv_aload_n hx hb dX1_bringTree_4 rfl (lv_at hl 0 rfl) ?_
  refine va_get (D := (dC, dI)) (ci := 1) (v := .int v12) (C := RX1) (T := TX1) (N := 8) hx hb hts iw_X1_bringTree_X1 hown hK hP 0 rfl rfl 6 (by decide) (hts (.fieldLink RX1 28 "HolelessHouse$Cliques" "madeFor" "I") hm_X1_bringTree_2) (fun _ h9 => h9) rfl dX1_bringTree_5 ?_
  refine lv_icmp_ne (tgt := 12) hx hb dX1_bringTree_8 (by decide) (fun h1 => ?_) (fun h1 => ?_)
  ·
    refine lv_aload_n hx hb dX1_bringTree_12 rfl (lv_at hl 0 rfl) ?_
    refine lv_aload_n hx hb dX1_bringTree_13 rfl (lv_at hl 0 rfl) ?_
    refine va_get (D := (dC, dI)) (ci := 1) (v := .int v12) (C := RX1) (T := TX1) (N := 8) hx hb hts iw_X1_bringTree_X1 hown hK hP 0 rfl rfl 6 (by decide) (hts (.fieldLink RX1 28 "HolelessHouse$Cliques" "madeFor" "I") hm_X1_bringTree_2) (fun _ h9 => h9) rfl dX1_bringTree_14 ?_
    refine va_put (D := (dC, dI)) (ci := 1) (v := .int v12) (ty := .int) (C := RX1) (T := TX1) (N := 8) hx hb hts iw_X1_bringTree_X1 tyX1 tyX1_ok nmX1 hown hK hP hD hS 0 rfl rfl 7 (by decide) (hts (.fieldLink RX1 31 "HolelessHouse$Cliques" "treeMadeFor" "I") hm_X1_bringTree_1) (fun _ h9 => h9) rfl (by decide +kernel) rfl rfl (Nat.le_of_ble_eq_true rfl) dX1_bringTree_17 (fun H locs hP hD hS => ?_)
    have hP : va_P (dC, dI) vwCl ([(o1, .inr (1, [.int v2, .ref o3, .ref o5, .ref o7, .ref o9, .int v11, .int v12, .int v12])), (o7, .inl (cI, 12, .inl fw8)), (o9, .inl (cI, 12, .inl fw10)), (o5, .inl (cI, 81, .inl fw6))]) H := hP
    have hD : va_D A ([(o1, .inr (1, [.int v2, .ref o3, .ref o5, .ref o7, .ref o9, .int v11, .int v12, .int v12])), (o7, .inl (cI, 12, .inl fw8)), (o9, .inl (cI, 12, .inl fw10)), (o5, .inl (cI, 81, .inl fw6))]) := hD
    refine lv_aload_n hx hb dX1_bringTree_20 rfl (lv_at hl 0 rfl) ?_
    refine va_get (D := (dC, dI)) (ci := 1) (v := .ref o7) (C := RX1) (T := TX1) (N := 8) hx hb hts iw_X1_bringTree_X1 hown hK hP 0 rfl rfl 3 (by decide) (hts (.fieldLink RX1 18 "HolelessHouse$Cliques" "parents" "[I") hm_X1_bringTree_3) (fun _ h9 => h9) rfl dX1_bringTree_21 ?_
    refine lv_iconst (v := 0) hx hb dX1_bringTree_24 (by decide) ?_
    refine lv_bipush (v := (-9)) hx hb dX1_bringTree_25 (by decide) ?_
    refine k_iast hx hb hK hP hD hS 1 0 rfl rfl (vin_iv ik_0 (by decide)) dX1_bringTree_27 (fun f2 H locs f2_e hP hD hS => ?_)
    have hP : va_P (dC, dI) vwCl ([(o1, .inr (1, [.int v2, .ref o3, .ref o5, .ref o7, .ref o9, .int v11, .int v12, .int v12])), (o7, .inl (cI, 12, .inl f2)), (o9, .inl (cI, 12, .inl fw10)), (o5, .inl (cI, 81, .inl fw6))]) H := hP
    have hD : va_D A ([(o1, .inr (1, [.int v2, .ref o3, .ref o5, .ref o7, .ref o9, .int v11, .int v12, .int v12])), (o7, .inl (cI, 12, .inl f2)), (o9, .inl (cI, 12, .inl fw10)), (o5, .inl (cI, 81, .inl fw6))]) := hD
    refine lv_aload_n hx hb dX1_bringTree_28 rfl (lv_at hl 0 rfl) ?_
    refine va_get (D := (dC, dI)) (ci := 1) (v := .ref o9) (C := RX1) (T := TX1) (N := 8) hx hb hts iw_X1_bringTree_X1 hown hK hP 0 rfl rfl 4 (by decide) (hts (.fieldLink RX1 21 "HolelessHouse$Cliques" "shared" "[I") hm_X1_bringTree_4) (fun _ h9 => h9) rfl dX1_bringTree_29 ?_
    refine lv_iconst (v := 0) hx hb dX1_bringTree_32 (by decide) ?_
    refine lv_iconst (v := 0) hx hb dX1_bringTree_33 (by decide) ?_
    refine k_iast hx hb hK hP hD hS 2 0 rfl rfl (vin_iv ik_0 (by decide)) dX1_bringTree_34 (fun f3 H locs f3_e hP hD hS => ?_)
    have hP : va_P (dC, dI) vwCl ([(o1, .inr (1, [.int v2, .ref o3, .ref o5, .ref o7, .ref o9, .int v11, .int v12, .int v12])), (o7, .inl (cI, 12, .inl f2)), (o9, .inl (cI, 12, .inl f3)), (o5, .inl (cI, 81, .inl fw6))]) H := hP
    have hD : va_D A ([(o1, .inr (1, [.int v2, .ref o3, .ref o5, .ref o7, .ref o9, .int v11, .int v12, .int v12])), (o7, .inl (cI, 12, .inl f2)), (o9, .inl (cI, 12, .inl f3)), (o5, .inl (cI, 81, .inl fw6))]) := hD
    refine lv_iconst (v := 1) hx hb dX1_bringTree_35 (by decide) ?_
    refine lv_istore_n (lv' := [(1, .int 1), (0, .ref o1)]) hx hb dX1_bringTree_36 rfl hl (by decide) rfl (fun ls hl => ?_)
    refine lv_iconst (v := 1) hx hb dX1_bringTree_37 (by decide) ?_
    refine lv_istore_n (lv' := [(2, .int 1), (1, .int 1), (0, .ref o1)]) hx hb dX1_bringTree_38 rfl hl (by decide) rfl (fun ls hl => ?_)
    have L1 : ∀ (N : Nat) (x93 : Int32) (x94 : Int32) (f95 : Nat → Int32) (f96 : Nat → Int32) (H : Heap) (locs : List Loc) (ls : Array Slot), (12 - x93.toInt).toNat < N → Iv 1 12 x93 → Iv 0 4095 x94 → va_P (dC, dI) vwCl ([(o1, .inr (1, [.int v2, .ref o3, .ref o5, .ref o7, .ref o9, .int v11, .int v12, .int v12])), (o7, .inl (cI, 12, .inl f95)), (o9, .inl (cI, 12, .inl f96)), (o5, .inl (cI, 81, .inl fw6))]) H → va_D A ([(o1, .inr (1, [.int v2, .ref o3, .ref o5, .ref o7, .ref o9, .int v11, .int v12, .int v12])), (o7, .inl (cI, 12, .inl f95)), (o9, .inl (cI, 12, .inl f96)), (o5, .inl (cI, 81, .inl fw6))]) → va_S A s.heap H locs → lv_has ls 3 [(2, .int x93), (1, .int x94), (0, .ref o1)] → W p l e ({ frames := 2, cells := 0, slots := 0, locals := 47 }) s m ([.ref o1] : List Value).toArray below meth c H locs 0 0 Q (F0 m 39 ls []) := by
      intro N
      induction N with
      | zero =>
        intro x93 x94 f95 f96 H locs ls hM
        exact absurd hM (Nat.not_lt_zero _)
      | succ N ih1 =>
        intro x93 x94 f95 f96 H locs ls hM1 x93_h x94_h hP hD hS hl
        refine lv_iload_n hx hb dX1_bringTree_39 rfl (lv_at hl 0 rfl) ?_
        refine lv_aload_n hx hb dX1_bringTree_40 rfl (lv_at hl 2 rfl) ?_
        refine va_get (D := (dC, dI)) (ci := 1) (v := .int v11) (C := RX1) (T := TX1) (N := 8) hx hb hts iw_X1_bringTree_X1 hown hK hP 0 rfl rfl 5 (by decide) (hts (.fieldLink RX1 24 "HolelessHouse$Cliques" "size" "I") hm_X1_bringTree_5) (fun _ h9 => h9) rfl dX1_bringTree_41 ?_
        refine lv_icmp_ge (tgt := 69) hx hb dX1_bringTree_44 (by decide) (fun h97 => ?_) (fun h97 => ?_)
        ·
          have qh97 := le_i h97
          have j98 : Iv 0 12 v11 := r_lel qh97 v11_h x93_h (by decide)
          rw [hQ]
          exact W.vret hx hb hr (fun t ht hW => ⟨⟨(v12, f95, f96), rfl, trivial, by rw [ht]; exact hP, va_K.moved hW.alike hK, hD⟩, hS.F ht⟩) hS.2.2 dX1_bringTree_69
        ·
          have qh97 := nle_i h97
          have j99 : Iv 2 81 v11 := r_ltr qh97 x93_h v11_h (by decide)
          refine lv_iload_n hx hb dX1_bringTree_47 rfl (lv_at hl 0 rfl) ?_
          refine lv_bipush (v := 12) hx hb dX1_bringTree_48 (by decide) ?_
          refine lv_icmp_ge (tgt := 69) hx hb dX1_bringTree_50 (by decide) (fun h100 => ?_) (fun h100 => ?_)
          ·
            have qh100 := le_i h100
            have j101 : Iv 12 12 x93 := r_ler qh100 ik_12 x93_h (by decide)
            rw [hQ]
            exact W.vret hx hb hr (fun t ht hW => ⟨⟨(v12, f95, f96), rfl, trivial, by rw [ht]; exact hP, va_K.moved hW.alike hK, hD⟩, hS.F ht⟩) hS.2.2 dX1_bringTree_69
          ·
            have qh100 := nle_i h100
            have j102 : Iv 1 11 x93 := r_ltl qh100 x93_h ik_12 (by decide)
            refine lv_iload_n hx hb dX1_bringTree_53 rfl (lv_at hl 1 rfl) ?_
            refine lv_iconst (v := 1) hx hb dX1_bringTree_54 (by decide) ?_
            refine lv_aload_n hx hb dX1_bringTree_55 rfl (lv_at hl 2 rfl) ?_
            refine lv_iload_n hx hb dX1_bringTree_56 rfl (lv_at hl 1 rfl) ?_
            refine kc_i (D := (dC, dI)) (S := (Nat → Int32) × (Nat → Int32)) (wc := [(o1, .inr (1, [.int v2, .ref o3, .ref o5, .ref o7, .ref o9, .int v11, .int v12, .int v12])), (o5, .inl (cI, 81, .inl fw6)), (o7, .inl (cI, 12, .inl f95)), (o9, .inl (cI, 12, .inl f96))]) (wr := []) (w1 := fun u => [(o1, .inr (1, [.int v2, .ref o3, .ref o5, .ref o7, .ref o9, .int v11, .int v12, .int v12])), (o5, .inl (cI, 81, .inl fw6)), (o7, .inl (cI, 12, .inl u.1)), (o9, .inl (cI, 12, .inl u.2))]) (wn := fun u => [(o1, .inr (1, [.int v2, .ref o3, .ref o5, .ref o7, .ref o9, .int v11, .int v12, .int v12])), (o7, .inl (cI, 12, .inl u.1)), (o9, .inl (cI, 12, .inl u.2)), (o5, .inl (cI, 81, .inl fw6))]) (fun hPc hDc => va_runV (As := [.int x94]) (rest := [.int 1, .int x94]) ⟨hx, hb, hml, hown, hts⟩ (kX1_tieNext_1 l dC dI cI c2 cZ o1 o3 o5 o7 o9 v2 fw6 f95 f96 v11 v12 v12 x94 H.size v2_h (iv_w j99 (by decide))) (cwV 1 hts gX1_bringTree_X1_tieNext rfl rfl rfl (by decide +kernel) ⟨Nat.le_of_ble_eq_true rfl, Nat.le_of_ble_eq_true rfl⟩) (pre_V hPc hK hDc hN (ci := 1) (q0 := 0) rfl rfl) rfl rfl hl.1 rfl (lv_room (Nat.le_of_ble_eq_true rfl)) dX1_bringTree_57 ⟨Nat.le_of_ble_eq_true rfl, Nat.le_of_ble_eq_true rfl⟩) hP hD hS hA [0, 3, 1, 2] [] [0, 2, 3, 1] rfl rfl (by decide +kernel) (by decide +kernel) (by decide +kernel) (by decide +kernel) (fun _ => rfl) (fun x105 u H locs hq hP hD hS => ?_)
            obtain ⟨f103, f104⟩ := u
            have x105_h := hq
            have hP : va_P (dC, dI) vwCl ([(o1, .inr (1, [.int v2, .ref o3, .ref o5, .ref o7, .ref o9, .int v11, .int v12, .int v12])), (o7, .inl (cI, 12, .inl f103)), (o9, .inl (cI, 12, .inl f104)), (o5, .inl (cI, 81, .inl fw6))]) H := hP
            have hD : va_D A ([(o1, .inr (1, [.int v2, .ref o3, .ref o5, .ref o7, .ref o9, .int v11, .int v12, .int v12])), (o7, .inl (cI, 12, .inl f103)), (o9, .inl (cI, 12, .inl f104)), (o5, .inl (cI, 81, .inl fw6))]) := hD
            refine lv_ishl hx hb dX1_bringTree_60 (lv_topi (fun x106 x106_e => ?_))
            have x106_h : Iv 1 2048 x106 := iv_e x106_e (iv_shl1 x105_h (by decide))
            refine lv_ior hx hb dX1_bringTree_61 (lv_topi (fun x107 x107_e => ?_))
            have x107_h : Iv 0 4095 x107 := iv_e x107_e (iv_or 12 x94_h x106_h (by decide))
            refine lv_istore_n (lv' := [(1, .int x107), (2, .int x93), (0, .ref o1)]) hx hb dX1_bringTree_62 rfl hl (by decide) rfl (fun ls hl => ?_)
            obtain ⟨x108, x108_e⟩ : ∃ z : Int32, z = x93 + 1 := ⟨_, rfl⟩
            have x108_h : Iv 2 12 x108 := iv_e x108_e (iv_add j102 ik_1 (by decide))
            refine lv_iinc (v := x108) (lv' := [(2, .int x108), (1, .int x107), (0, .ref o1)]) hx hb dX1_bringTree_63 hl (k := 1) rfl (incN (by decide +kernel) x108_e) (by decide) rfl (fun ls hl => ?_)
            refine lv_goto (tgt := 39) hx hb dX1_bringTree_66 (by decide) ?_
            exact ih1 x108 x107 f103 f104 _ _ _ (ms_up x108_e j102 (by decide) hM1) (iv_w x108_h (by decide)) x107_h hP hD hS hl
    exact L1 _ 1 1 f2 f3 _ _ _ (Nat.lt_succ_self _) (iv_w ik_1 (by decide)) (iv_w ik_1 (by decide)) hP hD hS hl
  ·
    rw [hQ]
    exact W.vret hx hb hr (fun t ht hW => ⟨⟨(v13, fw8, fw10), rfl, trivial, by rw [ht]; exact hP, va_K.moved hW.alike hK, hD⟩, hS.F ht⟩) hS.2.2 dX1_bringTree_11
theorem iw_X11_tree_X1 : ∀ w ∈ wsX10, w ∈ wsX11_tree := fun _ h => List.mem_cons.mpr (Or.inr (List.mem_append.mpr (Or.inl (List.mem_append.mpr (Or.inl (List.mem_append.mpr (Or.inr h)))))))
theorem iw_X11_tree_X11 : ∀ w ∈ wsX110, w ∈ wsX11_tree := fun _ h => List.mem_cons.mpr (Or.inr (List.mem_append.mpr (Or.inl (List.mem_append.mpr (Or.inl (List.mem_append.mpr (Or.inl (List.mem_append.mpr (Or.inl (List.mem_append.mpr (Or.inr h)))))))))))
theorem iw_X11_tree_X9 : ∀ w ∈ wsX90, w ∈ wsX11_tree := fun _ h => List.mem_cons.mpr (Or.inr (List.mem_append.mpr (Or.inl (List.mem_append.mpr (Or.inl (List.mem_append.mpr (Or.inl (List.mem_append.mpr (Or.inr h)))))))))
set_option maxHeartbeats 4000000 in
set_option maxRecDepth 100000 in
theorem kX11_tree_1 (l : Launch) (dC : Nat → ClassId) (dI : Nat → Nat → Nat) (cI c2 cZ : ClassId) (o1 : Nat) (o2 : Nat) (o7 : Nat) (o12 : Nat) (o41 : Nat) (o51 : Nat) (o64 : Nat) (o77 : Nat) (o84 : Nat) (o91 : Nat) (o99 : Nat) (o111 : Nat) (o123 : Nat) (o53 : Nat) (o55 : Nat) (o57 : Nat) (o59 : Nat) (o3 : Nat) (o42 : Nat) (o47 : Nat) (o43 : Nat) (fw4 : Nat → Int32) (v5 : Int32) (v6 : Int32) (rw44 : Nat → Nat) (Gw45 : Nat → Nat → Int32) (v46 : Int32) (fw48 : Nat → Int32) (v49 : Int32) (v50 : Int32) (v52 : Int32) (fw54 : Nat → Int32) (fw56 : Nat → Int32) (fw58 : Nat → Int32) (fw60 : Nat → Int32) (v61 : Int32) (v62 : Int32) (v63 : Int32) (v125 : Int32) (a1 : Int32) (a2 : Int32) (sz : Nat) (fw4_b : Bd 12 0 4095 fw4) (v5_h : Iv 0 12 v5) (Gw45_b : Bg 13 12 0 4095 Gw45) (v46_h : Iv 0 12 v46) (fw48_b : Bd 12 0 11 fw48) (v49_h : Iv 0 12 v49) (v52_h : Iv 0 1 v52) (fw54_b : Bd 12 0 4095 fw54) (v61_h : Iv 0 81 v61) : Met l yX11_tree wsX11_tree ({ frames := 16, cells := 0, slots := 0, locals := 404 }) (va_Pc [.ref o1, .int a1, .int a2] (wPre (dC, dI) [(cI, .int), (c2, .array .int), (cZ, .boolean)] (([(o1, .inr (11, [.ref o2, .ref o7, .ref o12, .ref o41, .ref o51, .ref o64, .ref o77, .ref o84, .ref o91, .ref o99, .ref o111, .ref o123, .int v125])), (o51, .inr (1, [.int v52, .ref o53, .ref o55, .ref o57, .ref o59, .int v61, .int v62, .int v63])), (o2, .inr (4, [.ref o3, .int v5, .int v6])), (o3, .inl (cI, 12, .inl fw4)), (o53, .inl (cI, 12, .inl fw54)), (o55, .inl (cI, 81, .inl fw56)), (o41, .inr (9, [.ref o42, .ref o47, .int v49, .int v50])), (o42, .inr (3, [.ref o43, .int v46])), (o43, .inl (c2, 13, .inr (.inr (.inr (.inr (fun i => if i < 13 then some (rw44 i) else none)))))), (o47, .inl (cI, 12, .inl fw48)), (o57, .inl (cI, 12, .inl fw58)), (o59, .inl (cI, 12, .inl fw60))] : va_W) ++ (gr13 rw44 cI 12 Gw45 ++ ([] : va_W))) sz)) (va_Qi (fun (r : Int32) (u : Int32 × Int32 × Int32 × (Nat → Int32) × (Nat → Int32) × Int32 × Int32 × Int32 × (Nat → Nat → Int32) × (Nat → Int32) × (Nat → Int32) × (Nat → Int32)) => Iv 0 81 u.1 ∧ Bd 12 0 4095 u.2.2.2.1 ∧ Iv 0 12 u.2.2.2.2.2.1 ∧ Iv 0 12 u.2.2.2.2.2.2.2.1 ∧ Bg 13 12 0 4095 u.2.2.2.2.2.2.2.2.1 ∧ Bd 12 0 11 u.2.2.2.2.2.2.2.2.2.1) (fun u t => wPost (dC, dI) [(cI, .int), (c2, .array .int), (cZ, .boolean)] (va_A (([(o1, .inr (11, [.ref o2, .ref o7, .ref o12, .ref o41, .ref o51, .ref o64, .ref o77, .ref o84, .ref o91, .ref o99, .ref o111, .ref o123, .int v125])), (o51, .inr (1, [.int v52, .ref o53, .ref o55, .ref o57, .ref o59, .int v61, .int v62, .int v63])), (o2, .inr (4, [.ref o3, .int v5, .int v6])), (o3, .inl (cI, 12, .inl fw4)), (o53, .inl (cI, 12, .inl fw54)), (o55, .inl (cI, 81, .inl fw56)), (o41, .inr (9, [.ref o42, .ref o47, .int v49, .int v50])), (o42, .inr (3, [.ref o43, .int v46])), (o43, .inl (c2, 13, .inr (.inr (.inr (.inr (fun i => if i < 13 then some (rw44 i) else none)))))), (o47, .inl (cI, 12, .inl fw48)), (o57, .inl (cI, 12, .inl fw58)), (o59, .inl (cI, 12, .inl fw60))] : va_W) ++ (gr13 rw44 cI 12 Gw45 ++ ([] : va_W))) sz) (([(o1, .inr (11, [.ref o2, .ref o7, .ref o12, .ref o41, .ref o51, .ref o64, .ref o77, .ref o84, .ref o91, .ref o99, .ref o111, .ref o123, .int v125])), (o51, .inr (1, [.int v52, .ref o53, .ref o55, .ref o57, .ref o59, .int u.1, .int u.2.1, .int u.2.2.1])), (o2, .inr (4, [.ref o3, .int v5, .int v6])), (o3, .inl (cI, 12, .inl fw4)), (o53, .inl (cI, 12, .inl u.2.2.2.1)), (o55, .inl (cI, 81, .inl u.2.2.2.2.1)), (o41, .inr (9, [.ref o42, .ref o47, .int u.2.2.2.2.2.1, .int u.2.2.2.2.2.2.1])), (o42, .inr (3, [.ref o43, .int u.2.2.2.2.2.2.2.1])), (o43, .inl (c2, 13, .inr (.inr (.inr (.inr (fun i => if i < 13 then some (rw44 i) else none)))))), (o47, .inl (cI, 12, .inl u.2.2.2.2.2.2.2.2.2.1)), (o57, .inl (cI, 12, .inl u.2.2.2.2.2.2.2.2.2.2.1)), (o59, .inl (cI, 12, .inl u.2.2.2.2.2.2.2.2.2.2.2))] : va_W) ++ (gr13 rw44 cI 12 u.2.2.2.2.2.2.2.2.1 ++ ([] : va_W))) t) (va_A (([(o1, .inr (11, [.ref o2, .ref o7, .ref o12, .ref o41, .ref o51, .ref o64, .ref o77, .ref o84, .ref o91, .ref o99, .ref o111, .ref o123, .int v125])), (o51, .inr (1, [.int v52, .ref o53, .ref o55, .ref o57, .ref o59, .int v61, .int v62, .int v63])), (o2, .inr (4, [.ref o3, .int v5, .int v6])), (o3, .inl (cI, 12, .inl fw4)), (o53, .inl (cI, 12, .inl fw54)), (o55, .inl (cI, 81, .inl fw56)), (o41, .inr (9, [.ref o42, .ref o47, .int v49, .int v50])), (o42, .inr (3, [.ref o43, .int v46])), (o43, .inl (c2, 13, .inr (.inr (.inr (.inr (fun i => if i < 13 then some (rw44 i) else none)))))), (o47, .inl (cI, 12, .inl fw48)), (o57, .inl (cI, 12, .inl fw58)), (o59, .inl (cI, 12, .inl fw60))] : va_W) ++ (gr13 rw44 cI 12 Gw45 ++ ([] : va_W))) sz)) 0 0 (va_A (([(o1, .inr (11, [.ref o2, .ref o7, .ref o12, .ref o41, .ref o51, .ref o64, .ref o77, .ref o84, .ref o91, .ref o99, .ref o111, .ref o123, .int v125])), (o51, .inr (1, [.int v52, .ref o53, .ref o55, .ref o57, .ref o59, .int v61, .int v62, .int v63])), (o2, .inr (4, [.ref o3, .int v5, .int v6])), (o3, .inl (cI, 12, .inl fw4)), (o53, .inl (cI, 12, .inl fw54)), (o55, .inl (cI, 81, .inl fw56)), (o41, .inr (9, [.ref o42, .ref o47, .int v49, .int v50])), (o42, .inr (3, [.ref o43, .int v46])), (o43, .inl (c2, 13, .inr (.inr (.inr (.inr (fun i => if i < 13 then some (rw44 i) else none)))))), (o47, .inl (cI, 12, .inl fw48)), (o57, .inl (cI, 12, .inl fw58)), (o59, .inl (cI, 12, .inl fw60))] : va_W) ++ (gr13 rw44 cI 12 Gw45 ++ ([] : va_W))) sz) := by
  refine Met.ofW (cc := cX11_tree) (maxL := 3) (ret := (some .int)) (by decide) rfl ?_
  intro p e s m args below meth c s₁ B hml hv
  obtain ⟨rfl, hsz, hP, hK, hD0, hN⟩ := hv
  have hx := B.exec
  have hb := B.bytes
  have hr := B.returns
  have hts := atoms_spec (ws := wsX11_tree) B.pre
  have hown : s.vm.findClass RX11 = some m.cls := findClass_of_methodNamed B.named
  have hlocks := B.notSynchronized
  subst hsz
  have hD := hD0.self (sz := s.heap.size)
  generalize hAe : va_A (([(o1, .inr (11, [.ref o2, .ref o7, .ref o12, .ref o41, .ref o51, .ref o64, .ref o77, .ref o84, .ref o91, .ref o99, .ref o111, .ref o123, .int v125])), (o51, .inr (1, [.int v52, .ref o53, .ref o55, .ref o57, .ref o59, .int v61, .int v62, .int v63])), (o2, .inr (4, [.ref o3, .int v5, .int v6])), (o3, .inl (cI, 12, .inl fw4)), (o53, .inl (cI, 12, .inl fw54)), (o55, .inl (cI, 81, .inl fw56)), (o41, .inr (9, [.ref o42, .ref o47, .int v49, .int v50])), (o42, .inr (3, [.ref o43, .int v46])), (o43, .inl (c2, 13, .inr (.inr (.inr (.inr (fun i => if i < 13 then some (rw44 i) else none)))))), (o47, .inl (cI, 12, .inl fw48)), (o57, .inl (cI, 12, .inl fw58)), (o59, .inl (cI, 12, .inl fw60))] : va_W) ++ (gr13 rw44 cI 12 Gw45 ++ ([] : va_W))) s.heap.size = A at hD ⊢
  have hA : ∀ q : Nat, s.heap.size ≤ q → A q := fun q h => by rw [← hAe]; exact Or.inr h
  have hS : va_S A s.heap s.heap [] := va_S.rf
  have hP : va_P (dC, dI) vwCl (([(o1, .inr (11, [.ref o2, .ref o7, .ref o12, .ref o41, .ref o51, .ref o64, .ref o77, .ref o84, .ref o91, .ref o99, .ref o111, .ref o123, .int v125])), (o51, .inr (1, [.int v52, .ref o53, .ref o55, .ref o57, .ref o59, .int v61, .int v62, .int v63])), (o2, .inr (4, [.ref o3, .int v5, .int v6])), (o3, .inl (cI, 12, .inl fw4)), (o53, .inl (cI, 12, .inl fw54)), (o55, .inl (cI, 81, .inl fw56)), (o41, .inr (9, [.ref o42, .ref o47, .int v49, .int v50])), (o42, .inr (3, [.ref o43, .int v46])), (o43, .inl (c2, 13, .inr (.inr (.inr (.inr (fun i => if i < 13 then some (rw44 i) else none)))))), (o47, .inl (cI, 12, .inl fw48)), (o57, .inl (cI, 12, .inl fw58)), (o59, .inl (cI, 12, .inl fw60))] : va_W) ++ (gr13 rw44 cI 12 Gw45 ++ ([] : va_W))) s.heap := hP
  have hl := lv_entry ([.ref o1, .int a1, .int a2]) (n := 3) (Nat.le_of_ble_eq_true rfl)
  rw [lg_entry_eq]
  generalize (lg_sl ([.ref o1, .int a1, .int a2]) ++ List.replicate (3 - (lg_sl ([.ref o1, .int a1, .int a2])).length) Slot.unset).toArray = ls at hl ⊢
  have hl : lv_has ls 3 [(0, .ref o1), (1, .int a1), (2, .int a2)] := hl
  refine gen_Q (fun Q hQ => ?_)
  refine lv_aload_n hx hb dX11_tree_0 rfl (lv_at hl 0 rfl) ?_
  refine va_get (D := (dC, dI)) (ci := 11) (v := .ref o51) (C := RX11) (T := TX11) (N := 13) hx hb hts iw_X11_tree_X11 hown hK hP 0 rfl rfl 4 (by decide) (hts (.fieldLink RX11 42 "HolelessHouse" "cliques" "LHolelessHouse$Cliques;") hm_X11_tree_1) (fun _ h9 => h9) rfl dX11_tree_1 ?_
  refine lv_aload_n hx hb dX11_tree_4 rfl (lv_at hl 0 rfl) ?_
  refine va_get (D := (dC, dI)) (ci := 11) (v := .ref o2) (C := RX11) (T := TX11) (N := 13) hx hb hts iw_X11_tree_X11 hown hK hP 0 rfl rfl 0 (by decide) (hts (.fieldLink RX11 10 "HolelessHouse" "graph" "LHolelessHouse$Graph;") hm_X11_tree_2) (fun _ h9 => h9) rfl dX11_tree_5 ?_
  refine kc_v (D := (dC, dI)) (S := Int32 × Int32 × (Nat → Int32) × (Nat → Int32)) (wc := [(o51, .inr (1, [.int v52, .ref o53, .ref o55, .ref o57, .ref o59, .int v61, .int v62, .int v63])), (o2, .inr (4, [.ref o3, .int v5, .int v6])), (o3, .inl (cI, 12, .inl fw4)), (o53, .inl (cI, 12, .inl fw54)), (o55, .inl (cI, 81, .inl fw56))]) (wr := ([(o1, .inr (11, [.ref o2, .ref o7, .ref o12, .ref o41, .ref o51, .ref o64, .ref o77, .ref o84, .ref o91, .ref o99, .ref o111, .ref o123, .int v125])), (o41, .inr (9, [.ref o42, .ref o47, .int v49, .int v50])), (o42, .inr (3, [.ref o43, .int v46])), (o43, .inl (c2, 13, .inr (.inr (.inr (.inr (fun i => if i < 13 then some (rw44 i) else none)))))), (o47, .inl (cI, 12, .inl fw48)), (o57, .inl (cI, 12, .inl fw58)), (o59, .inl (cI, 12, .inl fw60))] : va_W) ++ (gr13 rw44 cI 12 Gw45 ++ ([] : va_W))) (w1 := fun u => [(o51, .inr (1, [.int v52, .ref o53, .ref o55, .ref o57, .ref o59, .int u.1, .int u.2.1, .int v63])), (o2, .inr (4, [.ref o3, .int v5, .int v6])), (o3, .inl (cI, 12, .inl fw4)), (o53, .inl (cI, 12, .inl u.2.2.1)), (o55, .inl (cI, 81, .inl u.2.2.2))]) (wn := fun u => ([(o1, .inr (11, [.ref o2, .ref o7, .ref o12, .ref o41, .ref o51, .ref o64, .ref o77, .ref o84, .ref o91, .ref o99, .ref o111, .ref o123, .int v125])), (o51, .inr (1, [.int v52, .ref o53, .ref o55, .ref o57, .ref o59, .int u.1, .int u.2.1, .int v63])), (o2, .inr (4, [.ref o3, .int v5, .int v6])), (o3, .inl (cI, 12, .inl fw4)), (o53, .inl (cI, 12, .inl u.2.2.1)), (o55, .inl (cI, 81, .inl u.2.2.2)), (o41, .inr (9, [.ref o42, .ref o47, .int v49, .int v50])), (o42, .inr (3, [.ref o43, .int v46])), (o43, .inl (c2, 13, .inr (.inr (.inr (.inr (fun i => if i < 13 then some (rw44 i) else none)))))), (o47, .inl (cI, 12, .inl fw48)), (o57, .inl (cI, 12, .inl fw58)), (o59, .inl (cI, 12, .inl fw60))] : va_W) ++ (gr13 rw44 cI 12 Gw45 ++ ([] : va_W))) (fun hPc hDc => va_runVN (As := [.ref o2]) (rest := []) ⟨hx, hb, hml, hown, hts⟩ (kX1_bring_1 l dC dI cI c2 cZ o51 o2 o53 o55 o57 o59 o3 v52 fw54 fw56 v61 v62 v63 fw4 v5 v6 s.heap.size v52_h fw54_b v61_h fw4_b v5_h) ⟨va_cnB 1 hts gX11_tree_X1_bring_n193 rfl rfl rfl (hN.1 _ ns_105) (hts (.initialized RX1) hm_X11_tree_5) (by decide +kernel) ⟨Nat.le_of_ble_eq_true rfl, Nat.le_of_ble_eq_true rfl⟩, (hts (.instanceMethod yX1_bring) hm_X11_tree_4), (hts (.selects RX1 yX1_bring yX1_bring) hm_X11_tree_6)⟩ (pre_V hPc hK hDc hN (ci := 1) (q0 := 0) rfl rfl) rfl rfl hl.1 rfl (lv_room (Nat.le_of_ble_eq_true rfl)) dX11_tree_8 ⟨Nat.le_of_ble_eq_true rfl, Nat.le_of_ble_eq_true rfl⟩) hP hD hS hA [1, 2, 3, 4, 5] [0, 6, 7, 8, 9, 10, 11, 12, 13, 14, 15, 16, 17, 18, 19, 20, 21, 22, 23, 24] [0, 20, 21, 22, 23, 24, 1, 2, 3, 4, 5, 6, 7, 8, 9, 10, 11, 12, 13, 14, 15, 16, 17, 18, 19] rfl (sp_R [true, false, false, false, false, false, true, true, true, true, true, true, true, true, true, true, true, true, true, true, true, true, true, true, true] rfl rfl (by decide +kernel)) (by decide +kernel) (by decide +kernel) (by decide +kernel) (by decide +kernel) (fun u => sp_N [true, false, false, false, false, false, true, true, true, true, true, true, true, true, true, true, true, true, true, true, true, true, true, true, true] [0, 1, 2, 3, 4] [20, 21, 22, 23, 24] ([(o51, .inr (1, [.int v52, .ref o53, .ref o55, .ref o57, .ref o59, .int u.1, .int u.2.1, .int v63])), (o2, .inr (4, [.ref o3, .int v5, .int v6])), (o3, .inl (cI, 12, .inl fw4)), (o53, .inl (cI, 12, .inl u.2.2.1)), (o55, .inl (cI, 81, .inl u.2.2.2))] : va_W) 20 rfl rfl (by decide +kernel) (by decide +kernel) rfl rfl (by decide +kernel)) (fun u H locs hq hP hD hS => ?_)
  obtain ⟨y1, y2, f3, f4⟩ := u
  obtain ⟨y1_h, f3_b⟩ := hq
  have hP : va_P (dC, dI) vwCl (([(o1, .inr (11, [.ref o2, .ref o7, .ref o12, .ref o41, .ref o51, .ref o64, .ref o77, .ref o84, .ref o91, .ref o99, .ref o111, .ref o123, .int v125])), (o51, .inr (1, [.int v52, .ref o53, .ref o55, .ref o57, .ref o59, .int y1, .int y2, .int v63])), (o2, .inr (4, [.ref o3, .int v5, .int v6])), (o3, .inl (cI, 12, .inl fw4)), (o53, .inl (cI, 12, .inl f3)), (o55, .inl (cI, 81, .inl f4)), (o41, .inr (9, [.ref o42, .ref o47, .int v49, .int v50])), (o42, .inr (3, [.ref o43, .int v46])), (o43, .inl (c2, 13, .inr (.inr (.inr (.inr (fun i => if i < 13 then some (rw44 i) else none)))))), (o47, .inl (cI, 12, .inl fw48)), (o57, .inl (cI, 12, .inl fw58)), (o59, .inl (cI, 12, .inl fw60))] : va_W) ++ (gr13 rw44 cI 12 Gw45 ++ ([] : va_W))) H := hP
  have hD : va_D A (([(o1, .inr (11, [.ref o2, .ref o7, .ref o12, .ref o41, .ref o51, .ref o64, .ref o77, .ref o84, .ref o91, .ref o99, .ref o111, .ref o123, .int v125])), (o51, .inr (1, [.int v52, .ref o53, .ref o55, .ref o57, .ref o59, .int y1, .int y2, .int v63])), (o2, .inr (4, [.ref o3, .int v5, .int v6])), (o3, .inl (cI, 12, .inl fw4)), (o53, .inl (cI, 12, .inl f3)), (o55, .inl (cI, 81, .inl f4)), (o41, .inr (9, [.ref o42, .ref o47, .int v49, .int v50])), (o42, .inr (3, [.ref o43, .int v46])), (o43, .inl (c2, 13, .inr (.inr (.inr (.inr (fun i => if i < 13 then some (rw44 i) else none)))))), (o47, .inl (cI, 12, .inl fw48)), (o57, .inl (cI, 12, .inl fw58)), (o59, .inl (cI, 12, .inl fw60))] : va_W) ++ (gr13 rw44 cI 12 Gw45 ++ ([] : va_W))) := hD
  refine lv_aload_n hx hb dX11_tree_11 rfl (lv_at hl 0 rfl) ?_
  refine va_get (D := (dC, dI)) (ci := 11) (v := .ref o51) (C := RX11) (T := TX11) (N := 13) hx hb hts iw_X11_tree_X11 hown hK hP 0 rfl rfl 4 (by decide) (hts (.fieldLink RX11 42 "HolelessHouse" "cliques" "LHolelessHouse$Cliques;") hm_X11_tree_1) (fun _ h9 => h9) rfl dX11_tree_12 ?_
  refine lv_iload_n hx hb dX11_tree_15 rfl (lv_at hl 1 rfl) ?_
  refine kc_i (D := (dC, dI)) (S := Unit) (wc := [(o51, .inr (1, [.int v52, .ref o53, .ref o55, .ref o57, .ref o59, .int y1, .int y2, .int v63]))]) (wr := ([(o1, .inr (11, [.ref o2, .ref o7, .ref o12, .ref o41, .ref o51, .ref o64, .ref o77, .ref o84, .ref o91, .ref o99, .ref o111, .ref o123, .int v125])), (o2, .inr (4, [.ref o3, .int v5, .int v6])), (o3, .inl (cI, 12, .inl fw4)), (o53, .inl (cI, 12, .inl f3)), (o55, .inl (cI, 81, .inl f4)), (o41, .inr (9, [.ref o42, .ref o47, .int v49, .int v50])), (o42, .inr (3, [.ref o43, .int v46])), (o43, .inl (c2, 13, .inr (.inr (.inr (.inr (fun i => if i < 13 then some (rw44 i) else none)))))), (o47, .inl (cI, 12, .inl fw48)), (o57, .inl (cI, 12, .inl fw58)), (o59, .inl (cI, 12, .inl fw60))] : va_W) ++ (gr13 rw44 cI 12 Gw45 ++ ([] : va_W))) (w1 := fun _ => [(o51, .inr (1, [.int v52, .ref o53, .ref o55, .ref o57, .ref o59, .int y1, .int y2, .int v63]))]) (wn := fun _ => ([(o1, .inr (11, [.ref o2, .ref o7, .ref o12, .ref o41, .ref o51, .ref o64, .ref o77, .ref o84, .ref o91, .ref o99, .ref o111, .ref o123, .int v125])), (o51, .inr (1, [.int v52, .ref o53, .ref o55, .ref o57, .ref o59, .int y1, .int y2, .int v63])), (o2, .inr (4, [.ref o3, .int v5, .int v6])), (o3, .inl (cI, 12, .inl fw4)), (o53, .inl (cI, 12, .inl f3)), (o55, .inl (cI, 81, .inl f4)), (o41, .inr (9, [.ref o42, .ref o47, .int v49, .int v50])), (o42, .inr (3, [.ref o43, .int v46])), (o43, .inl (c2, 13, .inr (.inr (.inr (.inr (fun i => if i < 13 then some (rw44 i) else none)))))), (o47, .inl (cI, 12, .inl fw48)), (o57, .inl (cI, 12, .inl fw58)), (o59, .inl (cI, 12, .inl fw60))] : va_W) ++ (gr13 rw44 cI 12 Gw45 ++ ([] : va_W))) (fun hPc hDc => va_runVN (As := [.int a1]) (rest := []) ⟨hx, hb, hml, hown, hts⟩ (kX1_has_1 l dC dI cI c2 cZ o51 o53 o55 o57 o59 v52 y1 y2 v63 a1 H.size v52_h y1_h) ⟨va_cnB 1 hts gX11_tree_X1_has_n195 rfl rfl rfl (hN.1 _ ns_108) (hts (.initialized RX1) hm_X11_tree_5) (by decide +kernel) ⟨Nat.le_of_ble_eq_true rfl, Nat.le_of_ble_eq_true rfl⟩, (hts (.instanceMethod yX1_has) hm_X11_tree_37), (hts (.selects RX1 yX1_has yX1_has) hm_X11_tree_38)⟩ (pre_V hPc hK hDc hN (ci := 1) (q0 := 0) rfl rfl) rfl rfl hl.1 rfl (lv_room (Nat.le_of_ble_eq_true rfl)) dX11_tree_16 ⟨Nat.le_of_ble_eq_true rfl, Nat.le_of_ble_eq_true rfl⟩) hP hD hS hA [1] [0, 2, 3, 4, 5, 6, 7, 8, 9, 10, 11, 12, 13, 14, 15, 16, 17, 18, 19, 20, 21, 22, 23, 24] [0, 24, 1, 2, 3, 4, 5, 6, 7, 8, 9, 10, 11, 12, 13, 14, 15, 16, 17, 18, 19, 20, 21, 22, 23] rfl (sp_R [true, false, true, true, true, true, true, true, true, true, true, true, true, true, true, true, true, true, true, true, true, true, true, true, true] rfl rfl (by decide +kernel)) (by decide +kernel) (by decide +kernel) (by decide +kernel) (by decide +kernel) (fun u => sp_N [true, false, true, true, true, true, true, true, true, true, true, true, true, true, true, true, true, true, true, true, true, true, true, true, true] [0] [24] ([(o51, .inr (1, [.int v52, .ref o53, .ref o55, .ref o57, .ref o59, .int y1, .int y2, .int v63]))] : va_W) 24 rfl rfl (by decide +kernel) (by decide +kernel) rfl rfl (by decide +kernel)) (fun x5 _ H locs hq hP hD hS => ?_)
  obtain ⟨x5_h, i6⟩ := hq
  have hP : va_P (dC, dI) vwCl (([(o1, .inr (11, [.ref o2, .ref o7, .ref o12, .ref o41, .ref o51, .ref o64, .ref o77, .ref o84, .ref o91, .ref o99, .ref o111, .ref o123, .int v125])), (o51, .inr (1, [.int v52, .ref o53, .ref o55, .ref o57, .ref o59, .int y1, .int y2, .int v63])), (o2, .inr (4, [.ref o3, .int v5, .int v6])), (o3, .inl (cI, 12, .inl fw4)), (o53, .inl (cI, 12, .inl f3)), (o55, .inl (cI, 81, .inl f4)), (o41, .inr (9, [.ref o42, .ref o47, .int v49, .int v50])), (o42, .inr (3, [.ref o43, .int v46])), (o43, .inl (c2, 13, .inr (.inr (.inr (.inr (fun i => if i < 13 then some (rw44 i) else none)))))), (o47, .inl (cI, 12, .inl fw48)), (o57, .inl (cI, 12, .inl fw58)), (o59, .inl (cI, 12, .inl fw60))] : va_W) ++ (gr13 rw44 cI 12 Gw45 ++ ([] : va_W))) H := hP
  have hD : va_D A (([(o1, .inr (11, [.ref o2, .ref o7, .ref o12, .ref o41, .ref o51, .ref o64, .ref o77, .ref o84, .ref o91, .ref o99, .ref o111, .ref o123, .int v125])), (o51, .inr (1, [.int v52, .ref o53, .ref o55, .ref o57, .ref o59, .int y1, .int y2, .int v63])), (o2, .inr (4, [.ref o3, .int v5, .int v6])), (o3, .inl (cI, 12, .inl fw4)), (o53, .inl (cI, 12, .inl f3)), (o55, .inl (cI, 81, .inl f4)), (o41, .inr (9, [.ref o42, .ref o47, .int v49, .int v50])), (o42, .inr (3, [.ref o43, .int v46])), (o43, .inl (c2, 13, .inr (.inr (.inr (.inr (fun i => if i < 13 then some (rw44 i) else none)))))), (o47, .inl (cI, 12, .inl fw48)), (o57, .inl (cI, 12, .inl fw58)), (o59, .inl (cI, 12, .inl fw60))] : va_W) ++ (gr13 rw44 cI 12 Gw45 ++ ([] : va_W))) := hD
  refine lv_if_eq (tgt := 31) hx hb dX11_tree_19 (by decide) (fun h7 => ?_) (fun h7 => ?_)
  ·
    have j8 : Iv 0 0 x5 := r_eq h7 ik_0
    refine lv_iconst (v := (-1)) hx hb dX11_tree_31 (by decide) ?_
    rw [hQ]
    exact W.iret (v := (-1)) hx hb hr (fun t ht hW => ⟨⟨(-1), (y1, y2, v63, f3, f4, v49, v50, v46, Gw45, fw48, fw58, fw60), rfl, ⟨y1_h, f3_b, v49_h, v46_h, Gw45_b, fw48_b⟩, by rw [ht]; exact hP, va_K.moved hW.alike hK, hD⟩, hS.F ht⟩) hS.2.2 dX11_tree_32
  ·
    have j9 : Iv 1 1 x5 := r_nelo h7 x5_h ik_0 (by decide)
    have j10 : Iv 0 80 a1 := i6 h7
    refine lv_iload_n hx hb dX11_tree_22 rfl (lv_at hl 2 rfl) ?_
    refine lv_if_lt (tgt := 31) hx hb dX11_tree_23 (by decide) (fun h11 => ?_) (fun h11 => ?_)
    ·
      have qh11 := lt_i h11
      have j12 : Iv (-2147483648) (-1) a2 := r_ltl qh11 (iv_full a2) ik_0 (by decide)
      refine lv_iconst (v := (-1)) hx hb dX11_tree_31 (by decide) ?_
      rw [hQ]
      exact W.iret (v := (-1)) hx hb hr (fun t ht hW => ⟨⟨(-1), (y1, y2, v63, f3, f4, v49, v50, v46, Gw45, fw48, fw58, fw60), rfl, ⟨y1_h, f3_b, v49_h, v46_h, Gw45_b, fw48_b⟩, by rw [ht]; exact hP, va_K.moved hW.alike hK, hD⟩, hS.F ht⟩) hS.2.2 dX11_tree_32
    ·
      have qh11 := nlt_i h11
      have j13 : Iv 0 2147483647 a2 := r_ler qh11 ik_0 (iv_full a2) (by decide)
      refine lv_iload_n hx hb dX11_tree_26 rfl (lv_at hl 2 rfl) ?_
      refine lv_iconst (v := 1) hx hb dX11_tree_27 (by decide) ?_
      refine lv_icmp_le (tgt := 33) hx hb dX11_tree_28 (by decide) (fun h14 => ?_) (fun h14 => ?_)
      ·
        have qh14 := le_i h14
        have j15 : Iv 0 1 a2 := r_lel qh14 j13 ik_1 (by decide)
        refine lv_aload_n hx hb dX11_tree_33 rfl (lv_at hl 0 rfl) ?_
        refine va_get (D := (dC, dI)) (ci := 11) (v := .ref o41) (C := RX11) (T := TX11) (N := 13) hx hb hts iw_X11_tree_X11 hown hK hP 0 rfl rfl 3 (by decide) (hts (.fieldLink RX11 33 "HolelessHouse" "ring" "LHolelessHouse$Ring;") hm_X11_tree_3) (fun _ h9 => h9) rfl dX11_tree_34 ?_
        refine lv_aload_n hx hb dX11_tree_37 rfl (lv_at hl 0 rfl) ?_
        refine va_get (D := (dC, dI)) (ci := 11) (v := .ref o2) (C := RX11) (T := TX11) (N := 13) hx hb hts iw_X11_tree_X11 hown hK hP 0 rfl rfl 0 (by decide) (hts (.fieldLink RX11 10 "HolelessHouse" "graph" "LHolelessHouse$Graph;") hm_X11_tree_2) (fun _ h9 => h9) rfl dX11_tree_38 ?_
        refine kc_v (D := (dC, dI)) (S := Int32 × Int32 × Int32 × (Nat → Nat → Int32) × (Nat → Int32)) (wc := ([(o41, .inr (9, [.ref o42, .ref o47, .int v49, .int v50])), (o2, .inr (4, [.ref o3, .int v5, .int v6])), (o42, .inr (3, [.ref o43, .int v46])), (o43, .inl (c2, 13, .inr (.inr (.inr (.inr (fun i => if i < 13 then some (rw44 i) else none)))))), (o3, .inl (cI, 12, .inl fw4)), (o47, .inl (cI, 12, .inl fw48))] : va_W) ++ (gr13 rw44 cI 12 Gw45 ++ ([] : va_W))) (wr := [(o1, .inr (11, [.ref o2, .ref o7, .ref o12, .ref o41, .ref o51, .ref o64, .ref o77, .ref o84, .ref o91, .ref o99, .ref o111, .ref o123, .int v125])), (o51, .inr (1, [.int v52, .ref o53, .ref o55, .ref o57, .ref o59, .int y1, .int y2, .int v63])), (o53, .inl (cI, 12, .inl f3)), (o55, .inl (cI, 81, .inl f4)), (o57, .inl (cI, 12, .inl fw58)), (o59, .inl (cI, 12, .inl fw60))]) (w1 := fun u => ([(o41, .inr (9, [.ref o42, .ref o47, .int u.1, .int u.2.1])), (o2, .inr (4, [.ref o3, .int v5, .int v6])), (o42, .inr (3, [.ref o43, .int u.2.2.1])), (o43, .inl (c2, 13, .inr (.inr (.inr (.inr (fun i => if i < 13 then some (rw44 i) else none)))))), (o3, .inl (cI, 12, .inl fw4)), (o47, .inl (cI, 12, .inl u.2.2.2.2))] : va_W) ++ (gr13 rw44 cI 12 u.2.2.2.1 ++ ([] : va_W))) (wn := fun u => ([(o1, .inr (11, [.ref o2, .ref o7, .ref o12, .ref o41, .ref o51, .ref o64, .ref o77, .ref o84, .ref o91, .ref o99, .ref o111, .ref o123, .int v125])), (o51, .inr (1, [.int v52, .ref o53, .ref o55, .ref o57, .ref o59, .int y1, .int y2, .int v63])), (o2, .inr (4, [.ref o3, .int v5, .int v6])), (o3, .inl (cI, 12, .inl fw4)), (o53, .inl (cI, 12, .inl f3)), (o55, .inl (cI, 81, .inl f4)), (o41, .inr (9, [.ref o42, .ref o47, .int u.1, .int u.2.1])), (o42, .inr (3, [.ref o43, .int u.2.2.1])), (o43, .inl (c2, 13, .inr (.inr (.inr (.inr (fun i => if i < 13 then some (rw44 i) else none)))))), (o47, .inl (cI, 12, .inl u.2.2.2.2)), (o57, .inl (cI, 12, .inl fw58)), (o59, .inl (cI, 12, .inl fw60))] : va_W) ++ (gr13 rw44 cI 12 u.2.2.2.1 ++ ([] : va_W))) (fun hPc hDc => va_runVN (As := [.ref o2]) (rest := []) ⟨hx, hb, hml, hown, hts⟩ (kX9_bring_1 l dC dI cI c2 cZ o41 o2 o42 o47 o3 o43 rw44 Gw45 v46 fw48 v49 v50 fw4 v5 v6 H.size Gw45_b v46_h fw48_b v49_h fw4_b v5_h) ⟨va_cnB 1 hts gX11_tree_X9_bring_n123 rfl rfl rfl (hN.1 _ ns_71) (hts (.initialized RX9) hm_X11_tree_41) (by decide +kernel) ⟨Nat.le_of_ble_eq_true rfl, Nat.le_of_ble_eq_true rfl⟩, (hts (.instanceMethod yX9_bring) hm_X11_tree_40), (hts (.selects RX9 yX9_bring yX9_bring) hm_X11_tree_42)⟩ (pre_V hPc hK hDc hN (ci := 9) (q0 := 0) rfl rfl) rfl rfl hl.1 rfl (lv_room (Nat.le_of_ble_eq_true rfl)) dX11_tree_41 ⟨Nat.le_of_ble_eq_true rfl, Nat.le_of_ble_eq_true rfl⟩) hP hD hS hA [6, 2, 7, 8, 3, 9, 12, 13, 14, 15, 16, 17, 18, 19, 20, 21, 22, 23, 24] [0, 1, 4, 5, 10, 11] [0, 1, 7, 10, 2, 3, 6, 8, 9, 11, 4, 5, 12, 13, 14, 15, 16, 17, 18, 19, 20, 21, 22, 23, 24] rfl rfl (by decide +kernel) (by decide +kernel) (by decide +kernel) (by decide +kernel) (fun _ => rfl) (fun u H locs hq hP hD hS => ?_)
        obtain ⟨y16, y17, y18, G19, f20⟩ := u
        obtain ⟨y16_h, y18_h, G19_b, f20_b⟩ := hq
        have hP : va_P (dC, dI) vwCl (([(o1, .inr (11, [.ref o2, .ref o7, .ref o12, .ref o41, .ref o51, .ref o64, .ref o77, .ref o84, .ref o91, .ref o99, .ref o111, .ref o123, .int v125])), (o51, .inr (1, [.int v52, .ref o53, .ref o55, .ref o57, .ref o59, .int y1, .int y2, .int v63])), (o2, .inr (4, [.ref o3, .int v5, .int v6])), (o3, .inl (cI, 12, .inl fw4)), (o53, .inl (cI, 12, .inl f3)), (o55, .inl (cI, 81, .inl f4)), (o41, .inr (9, [.ref o42, .ref o47, .int y16, .int y17])), (o42, .inr (3, [.ref o43, .int y18])), (o43, .inl (c2, 13, .inr (.inr (.inr (.inr (fun i => if i < 13 then some (rw44 i) else none)))))), (o47, .inl (cI, 12, .inl f20)), (o57, .inl (cI, 12, .inl fw58)), (o59, .inl (cI, 12, .inl fw60))] : va_W) ++ (gr13 rw44 cI 12 G19 ++ ([] : va_W))) H := hP
        have hD : va_D A (([(o1, .inr (11, [.ref o2, .ref o7, .ref o12, .ref o41, .ref o51, .ref o64, .ref o77, .ref o84, .ref o91, .ref o99, .ref o111, .ref o123, .int v125])), (o51, .inr (1, [.int v52, .ref o53, .ref o55, .ref o57, .ref o59, .int y1, .int y2, .int v63])), (o2, .inr (4, [.ref o3, .int v5, .int v6])), (o3, .inl (cI, 12, .inl fw4)), (o53, .inl (cI, 12, .inl f3)), (o55, .inl (cI, 81, .inl f4)), (o41, .inr (9, [.ref o42, .ref o47, .int y16, .int y17])), (o42, .inr (3, [.ref o43, .int y18])), (o43, .inl (c2, 13, .inr (.inr (.inr (.inr (fun i => if i < 13 then some (rw44 i) else none)))))), (o47, .inl (cI, 12, .inl f20)), (o57, .inl (cI, 12, .inl fw58)), (o59, .inl (cI, 12, .inl fw60))] : va_W) ++ (gr13 rw44 cI 12 G19 ++ ([] : va_W))) := hD
        refine lv_aload_n hx hb dX11_tree_44 rfl (lv_at hl 0 rfl) ?_
        refine va_get (D := (dC, dI)) (ci := 11) (v := .ref o41) (C := RX11) (T := TX11) (N := 13) hx hb hts iw_X11_tree_X11 hown hK hP 0 rfl rfl 3 (by decide) (hts (.fieldLink RX11 33 "HolelessHouse" "ring" "LHolelessHouse$Ring;") hm_X11_tree_3) (fun _ h9 => h9) rfl dX11_tree_45 ?_
        refine va_getN (D := (dC, dI)) (ci := 9) (v := .int y16) (C := RX9) (T := TX9) (N := 4) hx hb hts iw_X11_tree_X9 hown hK hP 6 rfl rfl 2 (by decide) (hN.use ns_32) (fun _ h9 => h9) rfl dX11_tree_48 ?_
        refine lv_if_ne (tgt := 60) hx hb dX11_tree_51 (by decide) (fun h21 => ?_) (fun h21 => ?_)
        ·
          have j22 : Iv 1 12 y16 := r_nelo h21 y16_h ik_0 (by decide)
          refine lv_bipush (v := (-4)) hx hb dX11_tree_60 (by decide) ?_
          rw [hQ]
          exact W.iret (v := (-4)) hx hb hr (fun t ht hW => ⟨⟨(-4), (y1, y2, v63, f3, f4, y16, y17, y18, G19, f20, fw58, fw60), rfl, ⟨y1_h, f3_b, (iv_w j22 (by decide)), y18_h, G19_b, f20_b⟩, by rw [ht]; exact hP, va_K.moved hW.alike hK, hD⟩, hS.F ht⟩) hS.2.2 dX11_tree_62
        ·
          have j23 : Iv 0 0 y16 := r_eq h21 ik_0
          refine lv_iload_n hx hb dX11_tree_54 rfl (lv_at hl 1 rfl) ?_
          refine lv_bipush (v := 12) hx hb dX11_tree_55 (by decide) ?_
          refine lv_icmp_lt (tgt := 63) hx hb dX11_tree_57 (by decide) (fun h24 => ?_) (fun h24 => ?_)
          ·
            have qh24 := lt_i h24
            have j25 : Iv 0 11 a1 := r_ltl qh24 j10 ik_12 (by decide)
            refine lv_aload_n hx hb dX11_tree_63 rfl (lv_at hl 0 rfl) ?_
            refine va_get (D := (dC, dI)) (ci := 11) (v := .ref o51) (C := RX11) (T := TX11) (N := 13) hx hb hts iw_X11_tree_X11 hown hK hP 0 rfl rfl 4 (by decide) (hts (.fieldLink RX11 42 "HolelessHouse" "cliques" "LHolelessHouse$Cliques;") hm_X11_tree_1) (fun _ h9 => h9) rfl dX11_tree_64 ?_
            refine kc_v (D := (dC, dI)) (S := Int32 × (Nat → Int32) × (Nat → Int32)) (wc := [(o51, .inr (1, [.int v52, .ref o53, .ref o55, .ref o57, .ref o59, .int y1, .int y2, .int v63])), (o57, .inl (cI, 12, .inl fw58)), (o59, .inl (cI, 12, .inl fw60)), (o55, .inl (cI, 81, .inl f4))]) (wr := ([(o1, .inr (11, [.ref o2, .ref o7, .ref o12, .ref o41, .ref o51, .ref o64, .ref o77, .ref o84, .ref o91, .ref o99, .ref o111, .ref o123, .int v125])), (o2, .inr (4, [.ref o3, .int v5, .int v6])), (o3, .inl (cI, 12, .inl fw4)), (o53, .inl (cI, 12, .inl f3)), (o41, .inr (9, [.ref o42, .ref o47, .int y16, .int y17])), (o42, .inr (3, [.ref o43, .int y18])), (o43, .inl (c2, 13, .inr (.inr (.inr (.inr (fun i => if i < 13 then some (rw44 i) else none)))))), (o47, .inl (cI, 12, .inl f20))] : va_W) ++ (gr13 rw44 cI 12 G19 ++ ([] : va_W))) (w1 := fun u => [(o51, .inr (1, [.int v52, .ref o53, .ref o55, .ref o57, .ref o59, .int y1, .int y2, .int u.1])), (o57, .inl (cI, 12, .inl u.2.1)), (o59, .inl (cI, 12, .inl u.2.2)), (o55, .inl (cI, 81, .inl f4))]) (wn := fun u => ([(o1, .inr (11, [.ref o2, .ref o7, .ref o12, .ref o41, .ref o51, .ref o64, .ref o77, .ref o84, .ref o91, .ref o99, .ref o111, .ref o123, .int v125])), (o51, .inr (1, [.int v52, .ref o53, .ref o55, .ref o57, .ref o59, .int y1, .int y2, .int u.1])), (o2, .inr (4, [.ref o3, .int v5, .int v6])), (o3, .inl (cI, 12, .inl fw4)), (o53, .inl (cI, 12, .inl f3)), (o55, .inl (cI, 81, .inl f4)), (o41, .inr (9, [.ref o42, .ref o47, .int y16, .int y17])), (o42, .inr (3, [.ref o43, .int y18])), (o43, .inl (c2, 13, .inr (.inr (.inr (.inr (fun i => if i < 13 then some (rw44 i) else none)))))), (o47, .inl (cI, 12, .inl f20)), (o57, .inl (cI, 12, .inl u.2.1)), (o59, .inl (cI, 12, .inl u.2.2))] : va_W) ++ (gr13 rw44 cI 12 G19 ++ ([] : va_W))) (fun hPc hDc => va_runVN (As := []) (rest := []) ⟨hx, hb, hml, hown, hts⟩ (kX1_bringTree_1 l dC dI cI c2 cZ o51 o53 o55 o57 o59 v52 f4 fw58 fw60 y1 y2 v63 H.size v52_h y1_h) ⟨va_cnB 0 hts gX11_tree_X1_bringTree_n216 rfl rfl rfl (hN.1 _ ns_112) (hts (.initialized RX1) hm_X11_tree_5) (by decide +kernel) ⟨Nat.le_of_ble_eq_true rfl, Nat.le_of_ble_eq_true rfl⟩, (hts (.instanceMethod yX1_bringTree) hm_X11_tree_93), (hts (.selects RX1 yX1_bringTree yX1_bringTree) hm_X11_tree_94)⟩ (pre_V hPc hK hDc hN (ci := 1) (q0 := 0) rfl rfl) rfl rfl hl.1 rfl (lv_room (Nat.le_of_ble_eq_true rfl)) dX11_tree_67 ⟨Nat.le_of_ble_eq_true rfl, Nat.le_of_ble_eq_true rfl⟩) hP hD hS hA [1, 10, 11, 5] [0, 2, 3, 4, 6, 7, 8, 9, 12, 13, 14, 15, 16, 17, 18, 19, 20, 21, 22, 23, 24] [0, 21, 1, 2, 3, 24, 4, 5, 6, 7, 22, 23, 8, 9, 10, 11, 12, 13, 14, 15, 16, 17, 18, 19, 20] rfl (sp_R [true, false, true, true, true, false, true, true, true, true, false, false, true, true, true, true, true, true, true, true, true, true, true, true, true] rfl rfl (by decide +kernel)) (by decide +kernel) (by decide +kernel) (by decide +kernel) (by decide +kernel) (fun u => sp_N [true, false, true, true, true, false, true, true, true, true, false, false, true, true, true, true, true, true, true, true, true, true, true, true, true] [0, 3, 1, 2] [21, 24, 22, 23] ([(o51, .inr (1, [.int v52, .ref o53, .ref o55, .ref o57, .ref o59, .int y1, .int y2, .int u.1])), (o55, .inl (cI, 81, .inl f4)), (o57, .inl (cI, 12, .inl u.2.1)), (o59, .inl (cI, 12, .inl u.2.2))] : va_W) 21 rfl rfl (by decide +kernel) (by decide +kernel) rfl rfl (by decide +kernel)) (fun u H locs hq hP hD hS => ?_)
            obtain ⟨y26, f27, f28⟩ := u
            have hP : va_P (dC, dI) vwCl (([(o1, .inr (11, [.ref o2, .ref o7, .ref o12, .ref o41, .ref o51, .ref o64, .ref o77, .ref o84, .ref o91, .ref o99, .ref o111, .ref o123, .int v125])), (o51, .inr (1, [.int v52, .ref o53, .ref o55, .ref o57, .ref o59, .int y1, .int y2, .int y26])), (o2, .inr (4, [.ref o3, .int v5, .int v6])), (o3, .inl (cI, 12, .inl fw4)), (o53, .inl (cI, 12, .inl f3)), (o55, .inl (cI, 81, .inl f4)), (o41, .inr (9, [.ref o42, .ref o47, .int y16, .int y17])), (o42, .inr (3, [.ref o43, .int y18])), (o43, .inl (c2, 13, .inr (.inr (.inr (.inr (fun i => if i < 13 then some (rw44 i) else none)))))), (o47, .inl (cI, 12, .inl f20)), (o57, .inl (cI, 12, .inl f27)), (o59, .inl (cI, 12, .inl f28))] : va_W) ++ (gr13 rw44 cI 12 G19 ++ ([] : va_W))) H := hP
            have hD : va_D A (([(o1, .inr (11, [.ref o2, .ref o7, .ref o12, .ref o41, .ref o51, .ref o64, .ref o77, .ref o84, .ref o91, .ref o99, .ref o111, .ref o123, .int v125])), (o51, .inr (1, [.int v52, .ref o53, .ref o55, .ref o57, .ref o59, .int y1, .int y2, .int y26])), (o2, .inr (4, [.ref o3, .int v5, .int v6])), (o3, .inl (cI, 12, .inl fw4)), (o53, .inl (cI, 12, .inl f3)), (o55, .inl (cI, 81, .inl f4)), (o41, .inr (9, [.ref o42, .ref o47, .int y16, .int y17])), (o42, .inr (3, [.ref o43, .int y18])), (o43, .inl (c2, 13, .inr (.inr (.inr (.inr (fun i => if i < 13 then some (rw44 i) else none)))))), (o47, .inl (cI, 12, .inl f20)), (o57, .inl (cI, 12, .inl f27)), (o59, .inl (cI, 12, .inl f28))] : va_W) ++ (gr13 rw44 cI 12 G19 ++ ([] : va_W))) := hD
            refine lv_iload_n hx hb dX11_tree_70 rfl (lv_at hl 2 rfl) ?_
            refine lv_if_ne (tgt := 86) hx hb dX11_tree_71 (by decide) (fun h29 => ?_) (fun h29 => ?_)
            ·
              have j30 : Iv 1 1 a2 := r_nelo h29 j15 ik_0 (by decide)
              refine lv_aload_n hx hb dX11_tree_86 rfl (lv_at hl 0 rfl) ?_
              refine va_get (D := (dC, dI)) (ci := 11) (v := .ref o51) (C := RX11) (T := TX11) (N := 13) hx hb hts iw_X11_tree_X11 hown hK hP 0 rfl rfl 4 (by decide) (hts (.fieldLink RX11 42 "HolelessHouse" "cliques" "LHolelessHouse$Cliques;") hm_X11_tree_1) (fun _ h9 => h9) rfl dX11_tree_87 ?_
              refine va_getN (D := (dC, dI)) (ci := 1) (v := .ref o59) (C := RX1) (T := TX1) (N := 8) hx hb hts iw_X11_tree_X1 hown hK hP 1 rfl rfl 4 (by decide) (hN.use ns_35) (fun _ h9 => h9) rfl dX11_tree_90 ?_
              refine lv_iload_n hx hb dX11_tree_93 rfl (lv_at hl 1 rfl) ?_
              refine va_iald hx hb hK hP 11 0 rfl rfl (vin_iv j25 (by decide)) dX11_tree_94 (lv_topi (fun x31 x31_e => ?_))
              rw [hQ]
              exact W.iret (v := x31) hx hb hr (fun t ht hW => ⟨⟨x31, (y1, y2, y26, f3, f4, y16, y17, y18, G19, f20, f27, f28), rfl, ⟨y1_h, f3_b, (iv_w j23 (by decide)), y18_h, G19_b, f20_b⟩, by rw [ht]; exact hP, va_K.moved hW.alike hK, hD⟩, hS.F ht⟩) hS.2.2 dX11_tree_95
            ·
              have j32 : Iv 0 0 a2 := r_eq h29 ik_0
              refine lv_aload_n hx hb dX11_tree_74 rfl (lv_at hl 0 rfl) ?_
              refine va_get (D := (dC, dI)) (ci := 11) (v := .ref o51) (C := RX11) (T := TX11) (N := 13) hx hb hts iw_X11_tree_X11 hown hK hP 0 rfl rfl 4 (by decide) (hts (.fieldLink RX11 42 "HolelessHouse" "cliques" "LHolelessHouse$Cliques;") hm_X11_tree_1) (fun _ h9 => h9) rfl dX11_tree_75 ?_
              refine va_getN (D := (dC, dI)) (ci := 1) (v := .ref o57) (C := RX1) (T := TX1) (N := 8) hx hb hts iw_X11_tree_X1 hown hK hP 1 rfl rfl 3 (by decide) (hN.use ns_34) (fun _ h9 => h9) rfl dX11_tree_78 ?_
              refine lv_iload_n hx hb dX11_tree_81 rfl (lv_at hl 1 rfl) ?_
              refine va_iald hx hb hK hP 10 0 rfl rfl (vin_iv j25 (by decide)) dX11_tree_82 (lv_topi (fun x33 x33_e => ?_))
              refine lv_goto (tgt := 95) hx hb dX11_tree_83 (by decide) ?_
              rw [hQ]
              exact W.iret (v := x33) hx hb hr (fun t ht hW => ⟨⟨x33, (y1, y2, y26, f3, f4, y16, y17, y18, G19, f20, f27, f28), rfl, ⟨y1_h, f3_b, (iv_w j23 (by decide)), y18_h, G19_b, f20_b⟩, by rw [ht]; exact hP, va_K.moved hW.alike hK, hD⟩, hS.F ht⟩) hS.2.2 dX11_tree_95
          ·
            have qh24 := nlt_i h24
            have j34 : Iv 12 80 a1 := r_ler qh24 ik_12 j10 (by decide)
            refine lv_bipush (v := (-4)) hx hb dX11_tree_60 (by decide) ?_
            rw [hQ]
            exact W.iret (v := (-4)) hx hb hr (fun t ht hW => ⟨⟨(-4), (y1, y2, v63, f3, f4, y16, y17, y18, G19, f20, fw58, fw60), rfl, ⟨y1_h, f3_b, (iv_w j23 (by decide)), y18_h, G19_b, f20_b⟩, by rw [ht]; exact hP, va_K.moved hW.alike hK, hD⟩, hS.F ht⟩) hS.2.2 dX11_tree_62
      ·
        have qh14 := nle_i h14
        have j35 : Iv 2 2147483647 a2 := r_ltr qh14 ik_1 j13 (by decide)
        refine lv_iconst (v := (-1)) hx hb dX11_tree_31 (by decide) ?_
        rw [hQ]
        exact W.iret (v := (-1)) hx hb hr (fun t ht hW => ⟨⟨(-1), (y1, y2, v63, f3, f4, v49, v50, v46, Gw45, fw48, fw58, fw60), rfl, ⟨y1_h, f3_b, v49_h, v46_h, Gw45_b, fw48_b⟩, by rw [ht]; exact hP, va_K.moved hW.alike hK, hD⟩, hS.F ht⟩) hS.2.2 dX11_tree_32
